/-! p51: what a command does to the state between calls -/
theorem Ti_cong {n t p : Nat} {B : StB} {R R' : Nat → Int32} (h : Ti 0 n 0 0 t B p R) (hR : ∀ k, k < 124 → R' k = R k) : Ti 0 n 0 0 t B p R' := by
  obtain ⟨⟨a1, a2, a3, a4, a5, a6, a7⟩, ⟨t0, t1, t2, t3, t4, t5, t6, t7, t8⟩, ⟨L, w, j0, j1, j2, j3, j4, j8, j5, j6, j7⟩, ⟨s1, s2, s3, s4, s5, s6, s7, s8⟩⟩ := h
  refine ⟨⟨a1, by rw [hR _ (by omega)]; exact a2, a3, fun i hi => ?_, fun i hi => ?_, fun i hi => ?_, fun i hi => ?_⟩, ⟨t0, by rw [hR _ (by omega)]; exact t1, t2, t3, t4, t5, by rw [hR _ (by omega)]; exact t6, fun k hk => by omega, fun k hk => ?_⟩, ⟨L, w, j0, by rw [hR _ (by omega)]; exact j1, j2, j3, j4, fun r hr => ?_, fun r hr => ?_, fun r hr => ?_, fun r hr => ?_⟩, ?_⟩
  · rw [hR _ (by omega)]
    exact a4 i hi
  · rw [hR _ (by omega)]
    exact a5 i hi
  · rw [hR _ (by omega)]
    exact a6 i hi
  · rw [hR _ (by omega)]
    exact a7 i hi
  · rw [hR (44 + _) (by omega), hR (45 + _) (by omega), hR (46 + _) (by omega), hR (47 + _) (by omega), hR (48 + _) (by omega)]
    exact t8 k hk
  · rw [hR _ (by omega)]
    exact j8 r hr
  · rw [hR _ (by omega)]
    exact j5 r hr
  · rw [hR _ (by omega)]
    exact j6 r hr
  · rw [hR _ (by omega)]
    exact j7 r hr
  · unfold TiS
    rw [hR 0 (by omega), hR 4 (by omega), hR 10 (by omega), hR 5 (by omega), hR 6 (by omega), hR 7 (by omega), hR 8 (by omega), hR 9 (by omega)]
    exact ⟨s1, s2, s3, s4, s5, s6, s7, s8⟩
theorem RB_cong {e D n t m a : Nat} {R R' : Nat → Int32} (h : RB e D n t m a R) (hR : ∀ k, k < 124 → R' k = R k) : RB e D n t m a R' := by
  obtain ⟨⟨hn, hA1, hA⟩, ⟨t1, t2, t3, t4, t5⟩, hS⟩ := h
  refine ⟨⟨hn, by rw [hR _ (by omega)]; exact hA1, fun i hi => ?_⟩, ⟨t1, by rw [hR _ (by omega)]; exact t2, fun k hk => ?_, fun k hk hk2 => ?_, fun j k hj hk => ?_⟩, ?_⟩
  · rw [hR (12 + _) (by omega), hR (13 + _) (by omega), hR (14 + _) (by omega), hR (15 + _) (by omega), hR 0 (by omega), hR 2 (by omega)]
    exact hA i hi
  · rw [hR (44 + _) (by omega), hR (45 + _) (by omega), hR (46 + _) (by omega), hR (47 + _) (by omega), hR (48 + _) (by omega), hR 0 (by omega), hR 2 (by omega)]
    exact t3 k hk
  · rw [hR (48 + _) (by omega), hR 0 (by omega)]
    exact t4 k hk hk2
  · rw [hR (44 + 5 * j) (by omega), hR (44 + 5 * k) (by omega)]
    exact t5 j k hj hk
  · unfold bS at hS ⊢
    rw [hR 0 (by omega), hR 2 (by omega), hR 5 (by omega), hR 6 (by omega), hR 7 (by omega), hR 8 (by omega), hR 9 (by omega)]
    exact hS
theorem LR_cong {e p : Nat} {B : StB} {R R' : Nat → Int32} (h : LR e B p R) (hR : ∀ k, k < 124 → R' k = R k) : LR e B p R' := by
  obtain ⟨n, t, h1, h2⟩ := h
  exact ⟨n, t, Ti_cong h1 hR, RB_cong h2 hR⟩
theorem LR_mono {e e' p : Nat} {B : StB} {R : Nat → Int32} (h : LR e B p R) (he : e ≤ e') (h6 : e' ≤ 600) : LR e' B p R := by
  obtain ⟨n, t, h1, h2⟩ := h
  exact ⟨n, t, h1, RB_mono h2 he (by omega) h6 (by omega)⟩
theorem Ti_Fg {n t q lo hi : Nat} {B C : StB} {R : Nat → Int32} (h : Ti 0 n 0 0 t B q R) (g : Fg lo hi B C) (hq : q + 16 ≤ lo ∨ hi ≤ q) : Ti 0 n 0 0 t C q R := ⟨TiA_Fg h.1 g (by omega), TiT_Fg h.2.1 g (by omega), TiJ_Fg h.2.2.1 g (by omega), TiS_Fg h.2.2.2 g (by omega)⟩
theorem LR_Fg {e q lo hi : Nat} {B C : StB} {R : Nat → Int32} (h : LR e B q R) (g : Fg lo hi B C) (hq : q + 16 ≤ lo ∨ hi ≤ q) : LR e C q R := by
  obtain ⟨n, t, h1, h2⟩ := h
  exact ⟨n, t, Ti_Fg h1 g hq, h2⟩
theorem LR_copy {e p q : Nat} {B : StB} {R : Nat → Int32} (h : LR e B q R) (hpq : q + 16 ≤ p ∨ p + 16 ≤ q) : ok_X3_copyFrom p q B ∧ Fg p (p + 16) B (f_X3_copyFrom p q B) ∧ LR e (f_X3_copyFrom p q B) p R ∧ LR e (f_X3_copyFrom p q B) q R := by
  obtain ⟨n, t, h1, h2⟩ := h
  obtain ⟨c1, c2, c3⟩ := copy_C h1 h2.1 hpq
  exact ⟨c1, c2, ⟨n, t, c3, h2⟩, LR_Fg ⟨n, t, h1, h2⟩ c2 (by omega)⟩
theorem fmod8 {w : Nat} (h : w < 8) : f_J9_floorMod_7cf53 (Int32.ofNat w + 1) 8 = Int32.ofNat ((w + 1) % 8) ∧ f_J9_floorMod_7cf53 (Int32.ofNat w - 1) 8 = Int32.ofNat ((w + 7) % 8) := by
  have : ∀ w : Nat, w < 8 → f_J9_floorMod_7cf53 (Int32.ofNat w + 1) 8 = Int32.ofNat ((w + 1) % 8) ∧ f_J9_floorMod_7cf53 (Int32.ofNat w - 1) 8 = Int32.ofNat ((w + 7) % 8) := by decide +kernel
  exact this w h
theorem mn8 {L : Nat} (h : L ≤ 8) : mn (Int32.ofNat L + 1) 8 = Int32.ofNat (min (L + 1) 8) := by
  have : ∀ L : Nat, L < 9 → mn (Int32.ofNat L + 1) 8 = Int32.ofNat (min (L + 1) 8) := by decide +kernel
  exact this L (by omega)
theorem rem_C {e hl hn : Nat} {B : StB} {R : Nat → Int32} (h : LR e B 0 R) (a1 : hl ≤ 8) (a2 : hn < 8) (a3 : bi B 177 0 = Int32.ofNat hl) (a5 : bi B 177 1 = Int32.ofNat hn) : ok_X1_remember 0 B ∧ LR e (f_X1_remember 0 B) (48 + 16 * ((hn + 1) % 8)) R ∧ (∀ n t, Ti 0 n 0 0 t B 0 R → Ti 0 n 0 0 t (f_X1_remember 0 B) 0 R) ∧ (∀ q Q, q + 16 ≤ 48 + 16 * ((hn + 1) % 8) ∨ 48 + 16 * ((hn + 1) % 8) + 16 ≤ q → q + 16 ≤ 177 → LR e B q Q → LR e (f_X1_remember 0 B) q Q) ∧ bi (f_X1_remember 0 B) 177 0 = Int32.ofNat (min (hl + 1) 8) ∧ bi (f_X1_remember 0 B) 177 1 = Int32.ofNat ((hn + 1) % 8) ∧ (∀ q k, (q = 176 ∨ 178 ≤ q) → bi (f_X1_remember 0 B) q k = bi B q k ∧ bl (f_X1_remember 0 B) q k = bl B q k ∧ ba (f_X1_remember 0 B) q k = ba B q k) ∧ bz (f_X1_remember 0 B) = bz B := by
  have hlt : (hn + 1) % 8 < 8 := Nat.mod_lt _ (by decide)
  generalize hw : (hn + 1) % 8 = w at hlt
  have hx : ix (Int32.ofNat w) = w := ix_o (by omega)
  have hv : vp_in (Int32.ofNat w) 8 := in_o hlt (by omega)
  have fm := (fmod8 a2).1
  rw [hw] at fm
  have b1 : bi (sbi B 177 1 (Int32.ofNat w)) 177 1 = Int32.ofNat w := by rw [bi_sbi, if_pos ⟨rfl, rfl⟩]
  have g1 : Fg 177 178 B (sbi B 177 1 (Int32.ofNat w)) := Fg_i (Fg_r _ _ B) _ _ (by omega) (by omega)
  have h1 : LR e (sbi B 177 1 (Int32.ofNat w)) 0 R := LR_Fg h g1 (by omega)
  obtain ⟨c1, c2, c3, c4⟩ := LR_copy h1 (p := 48 + 16 * w) (by omega)
  have ef : f_X1_remember 0 B = sbi (f_X3_copyFrom (48 + 16 * w) 0 (sbi B 177 1 (Int32.ofNat w))) 177 0 (Int32.ofNat (min (hl + 1) 8)) := by
    unfold f_X1_remember
    rw [nm_eq, a5, fm, nm_eq, nm_eq, b1, hx, nm_eq]
    have : bi (f_X3_copyFrom (48 + 16 * w) 0 (sbi B 177 1 (Int32.ofNat w))) 177 0 = Int32.ofNat hl := by
      rw [(c2.2 177 0 (by omega)).1, bi_sbi, if_neg (by omega)]
      exact a3
    rw [this, mn8 a1]
  have g3 : Fg 177 178 (f_X3_copyFrom (48 + 16 * w) 0 (sbi B 177 1 (Int32.ofNat w))) (f_X1_remember 0 B) := by
    rw [ef]
    exact Fg_i (Fg_r _ _ _) _ _ (by omega) (by omega)
  have far : ∀ q k, (q + 1 ≤ 48 + 16 * w ∨ 48 + 16 * w + 16 ≤ q) → q ≠ 177 → bi (f_X1_remember 0 B) q k = bi B q k ∧ bl (f_X1_remember 0 B) q k = bl B q k ∧ ba (f_X1_remember 0 B) q k = ba B q k := by
    intro q k h1 h2
    have z1 := g3.2 q k (by omega)
    have z2 := c2.2 q k (by omega)
    have z3 := g1.2 q k (by omega)
    exact ⟨z1.1.trans (z2.1.trans z3.1), z1.2.1.trans (z2.2.1.trans z3.2.1), z1.2.2.trans (z2.2.2.trans z3.2.2)⟩
  refine ⟨?_, LR_Fg c3 g3 (by omega), fun n t hh => Ti_Fg (Ti_Fg (Ti_Fg hh g1 (by omega)) c2 (by omega)) g3 (by omega), fun q Q h1 h2 hh => LR_Fg (LR_Fg (LR_Fg hh g1 (by omega)) c2 (by omega)) g3 (by omega), ?_, ?_, fun q k hq => far q k (by omega) (by omega), ?_⟩
  · refine ⟨by unfold ok_J9_floorMod_7cf53; decide, ?_⟩
    rintro _ rfl
    rintro _ rfl
    rw [a5, fm, b1, hx]
    exact ⟨hv, c1⟩
  · rw [ef, bi_sbi, if_pos ⟨rfl, rfl⟩]
  · rw [ef, bi_sbi, if_neg (by omega), (c2.2 177 1 (by omega)).1]
    exact b1
  · exact g3.1.trans (c2.1.trans g1.1)
theorem reqA {B : StB} {n : Nat} {x : Int32} (h : bi B 1 0 = Int32.ofNat n) (hn : n ≤ 8) : (acc n x → f_X6_requireAccount B x = (0, 0, B)) ∧ (¬ acc n x → f_X6_requireAccount B x = (1, 0, B)) := by
  refine ⟨fun hx => ?_, fun hx => ?_⟩
  · unfold f_X6_requireAccount
    rw [nm_eq, has_1 h (by omega) hx, if_neg (by decide)]
  · unfold f_X6_requireAccount
    rw [nm_eq, has_0 h (by omega) hx, if_pos rfl]
theorem ne_m1 {m : Nat} (h : m < 100) : ¬ (Int32.ofNat m = -1) := by
  intro h9
  have := congrArg Int32.toInt h9
  rw [ofN_toInt (by omega)] at this
  have h1 : (-1 : Int32).toInt = -1 := by decide
  omega
theorem ge_0 {m : Nat} (h : m < 100) : (0 : Int32) ≤ Int32.ofNat m := by
  rw [show (0 : Int32) = Int32.ofNat 0 from rfl, le_ofN (by omega) (by omega)]
  omega
theorem reqT {n t : Nat} {B : StB} {R : Nat → Int32} (x : Int32) (hT : Ti 0 n 0 0 t B 0 R) (hu : uq t R) : ok_X6_requireTransfer B x ∧ ((∀ j, j < t → R (44 + 5 * j) ≠ x) → f_X6_requireTransfer B x = (5, 0, B)) ∧ (∀ m, m < t → R (44 + 5 * m) = x → f_X6_requireTransfer B x = (0, Int32.ofNat m, B)) := by
  obtain ⟨o1, c1, c2⟩ := find_C x hT hu
  have ht := (Ti_c hT).2.2.1
  refine ⟨o1, fun h => ?_, fun m hm hx => ?_⟩
  · unfold f_X6_requireTransfer
    have := c1 h
    rw [nm_eq]
    rw [show f_X5_find 6 B x = -1 from this, if_neg (by decide)]
  · unfold f_X6_requireTransfer
    have := c2 m hm hx
    rw [nm_eq]
    rw [show f_X5_find 6 B x = Int32.ofNat m from this, if_pos (ge_0 (by omega))]
theorem Fr_Fg {p : Nat} {B C : StB} (h : Fr p B C) : Fg p (p + 16) B C := h
theorem raise_k (B : StB) : f_X6_raise B 0 = (0, 0, B) ∧ f_X6_raise B 1 = (1, 0, B) ∧ f_X6_raise B 2 = (2, 0, B) ∧ f_X6_raise B 3 = (3, 0, B) ∧ f_X6_raise B 4 = (4, 0, B) ∧ f_X6_raise B 5 = (5, 0, B) := ⟨rfl, rfl, rfl, rfl, rfl, rfl⟩
/-- a command: refused with a fault of 1 to 5, or done -/
def CT (e n t p : Nat) (B : StB) (R : Nat → Int32) (flt : Int32) (okf : Prop) (op : StB → Int32 × StB) (okop : StB → Prop) : Prop := okf ∧ ((flt = 1 ∨ flt = 2 ∨ flt = 3 ∨ flt = 4 ∨ flt = 5) ∨ (flt = 0 ∧ ∃ n' t' R', RB (e + 1) (60 * (e + 1)) n' t' 0 0 R' ∧ XX n' R' ∧ ∀ C, Ti 0 n 0 0 t C p R → okop C ∧ Fr p C (op C).2 ∧ Ti 0 n' 0 0 t' (op C).2 p R'))
def CU (e n t p : Nat) (B : StB) (R : Nat → Int32) (M : StM) (flt : Int32) (okf : Prop) (op : StB → Int32 × StB) (okop : StB → Prop) (mr : Int32 × StM) (okm : Prop) (codes : List Int32) : Prop := okf ∧ okm ∧ ((∃ j, codes[j]? = some flt ∧ mr.2 = rs (smi M 15 (Int32.ofNat (j + 1))) R) ∨ (flt = 0 ∧ ∃ n' t' R' v, mr.2 = rs (smi (smi M 15 0) 10 v) R' ∧ RB (e + 1) (60 * (e + 1)) n' t' 0 0 R' ∧ XX n' R' ∧ ∀ C, Ti 0 n 0 0 t C p R → okop C ∧ Fr p C (op C).2 ∧ Ti 0 n' 0 0 t' (op C).2 p R' ∧ (op C).1 = mr.1))
theorem CT_of {e n t p : Nat} {B : StB} {R : Nat → Int32} {M : StM} {flt : Int32} {okf : Prop} {op : StB → Int32 × StB} {okop : StB → Prop} {mr : Int32 × StM} {okm : Prop} {codes : List Int32} (hc : ∀ x, x ∈ codes → x = 1 ∨ x = 2 ∨ x = 3 ∨ x = 4 ∨ x = 5) (h : CU e n t p B R M flt okf op okop mr okm codes) : CT e n t p B R flt okf op okop := by
  obtain ⟨h1, -, h3⟩ := h
  refine ⟨h1, ?_⟩
  rcases h3 with ⟨j, j1, -⟩ | ⟨f0, n', t', R', v, -, a2, a3, a4⟩
  · exact Or.inl (hc _ (List.mem_of_getElem? j1))
  · exact Or.inr ⟨f0, n', t', R', a2, a3, fun C hC => ⟨(a4 C hC).1, (a4 C hC).2.1, (a4 C hC).2.2.1⟩⟩
theorem CU_pay {e n t p : Nat} {B : StB} {R : Nat → Int32} (M : StM) (x y : Int32) (hT : Ti 0 n 0 0 t B p R) (hR : RB e (60 * e) n t 0 0 R) (he : e < 600) (hX : XX n R) : CU e n t p B R M (f_X3_payInFault p B x y) (ok_X3_payInFault p B x y) (fun C => f_X3_payIn p C x y) (fun C => ok_X3_payIn p C x y) (f_X7_pays (rs M R) x y) (ok_X7_pays (rs M R) x y) [1, 2, 4] := by
  obtain ⟨b1, b2, b3⟩ := Ti_n hT
  obtain ⟨okm, m1, m2, m3⟩ := pay_m (M := M) (x := x) (y := y) b2 b3
  have l := lit
  by_cases hx : acc n x
  · obtain ⟨i, hi, rfl⟩ := acc_o hx
    have hv : vp_in (Int32.ofNat i) 8 := in_o (by omega) (by omega)
    have hxx : ix (Int32.ofNat i) = i := ix_o (by omega)
    have bb := bA_at hR.1 hi
    have hS := hR.2.2
    unfold bS at hS
    rcases isIn_c y 1 999 with ⟨hy, y1, y2⟩ | ⟨hy, _⟩
    · have a0 := argf_0 (p := p) (B := B) (lo := 1) (hi := 999) b1 (by omega) hx hy
      obtain ⟨m3, m4⟩ := m3 i hi rfl hy
      have v1 : (R (13 + 4 * i) + y).toInt = (R (13 + 4 * i)).toInt + y.toInt := i32_add (by omega) (by simp only [Nat.not_lt_zero, if_false] at bb; omega)
      have v2 : (9999 - y).toInt = 9999 - y.toInt := by
        rw [i32_sub (by omega) (by omega)]
        omega
      refine ⟨?_, okm, ?_⟩
      · rintro _ rfl
        exact ⟨fun _ => hv, fun _ => trivial⟩
      · by_cases hb : R (13 + 4 * i) + y ≤ 9999
        · right
          rw [i32_le] at hb
          have hb2 : ¬ 9999 - y < R (13 + 4 * i) := by
            rw [i32_lt]
            omega
          refine ⟨?_, n, t, payR R i y, mi M 10, ?_, pay_RB hR he hi (by omega) (by omega) (by omega), XX_pay hX b3 hi (by omega), ?_⟩
          · simp only [f_X3_payInFault, nm_eq, a0, if_true, hxx, Ti_b hT hi]
            rw [if_pos (i32_le.mpr hb)]
          · rw [m4 hb2, ← smi10]
          · intro C hC
            obtain ⟨d1, d2, d3, d4⟩ := pay_d hC hR hi (y := y) (by omega) (by omega)
            exact ⟨d1, d2, d3, by rw [m4 hb2]; exact d4⟩
        · left
          refine ⟨2, ?_, ?_⟩
          · simp only [f_X3_payInFault, nm_eq, a0, if_true, hxx, Ti_b hT hi, if_neg hb]
            rfl
          · rw [i32_le] at hb
            rw [m3 (by rw [i32_lt]; omega)]
            rfl
    · have a0 := argf_2 (p := p) (B := B) (lo := 1) (hi := 999) b1 (by omega) hx hy
      refine ⟨?_, okm, Or.inl ⟨1, ?_, ?_⟩⟩
      · rintro _ rfl
        exact ⟨fun _ => hv, fun _ => trivial⟩
      · simp only [f_X3_payInFault, nm_eq, a0]
        rw [if_neg (by decide)]
        rfl
      · rw [m2 hx hy]
        rfl
  · have a0 := argf_1 (p := p) (B := B) (y := y) (lo := 1) (hi := 999) b1 (by omega) hx
    refine ⟨?_, okm, Or.inl ⟨0, ?_, ?_⟩⟩
    · rintro _ rfl
      rw [a0]
      exact ⟨fun h => absurd h (by decide), fun _ => trivial⟩
    · simp only [f_X3_payInFault, nm_eq, a0]
      rw [if_neg (by decide)]
      rfl
    · rw [m1 hx]
      rfl
theorem CU_drw {e n t p : Nat} {B : StB} {R : Nat → Int32} (M : StM) (x y : Int32) (hT : Ti 0 n 0 0 t B p R) (hR : RB e (60 * e) n t 0 0 R) (he : e < 600) (hX : XX n R) : CU e n t p B R M (f_X3_payOutFault p B x y) (ok_X3_payOutFault p B x y) (fun C => f_X3_payOut p C x y) (fun C => ok_X3_payOut p C x y) (f_X7_draws (rs M R) x y) (ok_X7_draws (rs M R) x y) [1, 2, 4] := by
  obtain ⟨b1, b2, b3⟩ := Ti_n hT
  obtain ⟨okm, m1, m2, m3⟩ := drw_m (M := M) (x := x) (y := y) b2 b3
  have l := lit
  by_cases hx : acc n x
  · obtain ⟨i, hi, rfl⟩ := acc_o hx
    obtain ⟨av, oav⟩ := av_C hT hi
    have bb := bA_at hR.1 hi
    have hS := hR.2.2
    unfold bS at hS
    simp only [Nat.not_lt_zero, if_false] at bb
    rcases isIn_c y 1 999 with ⟨hy, y1, y2⟩ | ⟨hy, _⟩
    · have a0 := argf_0 (p := p) (B := B) (lo := 1) (hi := 999) b1 (by omega) hx hy
      obtain ⟨m3, m4⟩ := m3 i hi rfl hy
      have v1 : (R (13 + 4 * i) + R (14 + 4 * i)).toInt = (R (13 + 4 * i)).toInt + (R (14 + 4 * i)).toInt := i32_add (by omega) (by omega)
      refine ⟨?_, okm, ?_⟩
      · rintro _ rfl
        exact ⟨fun _ => oav, fun _ => trivial⟩
      · by_cases hb : R (13 + 4 * i) + R (14 + 4 * i) < y
        · left
          refine ⟨2, ?_, ?_⟩
          · simp only [f_X3_payOutFault, nm_eq, a0, if_true, av]
            rw [if_neg (by rw [i32_le]; rw [i32_lt] at hb; omega)]
            rfl
          · rw [m3 hb]
            rfl
        · right
          have hb' := hb
          rw [i32_lt] at hb
          refine ⟨?_, n, t, drwR R i y, mi M 10, ?_, drw_RB hR he hi (by omega) (by omega) (by omega), XX_drw hX b3 hi (by omega), ?_⟩
          · simp only [f_X3_payOutFault, nm_eq, a0, if_true, av]
            rw [if_pos (by rw [i32_le]; omega)]
          · rw [m4 hb', ← smi10]
          · intro C hC
            obtain ⟨d1, d2, d3, d4⟩ := drw_d hC hR hi (y := y) (by omega) (by omega)
            exact ⟨d1, d2, d3, by rw [m4 hb']; exact d4⟩
    · have a0 := argf_2 (p := p) (B := B) (lo := 1) (hi := 999) b1 (by omega) hx hy
      refine ⟨?_, okm, Or.inl ⟨1, ?_, ?_⟩⟩
      · rintro _ rfl
        exact ⟨fun _ => oav, fun _ => trivial⟩
      · simp only [f_X3_payOutFault, nm_eq, a0]
        rw [if_neg (by decide)]
        rfl
      · rw [m2 hx hy]
        rfl
  · have a0 := argf_1 (p := p) (B := B) (y := y) (lo := 1) (hi := 999) b1 (by omega) hx
    refine ⟨?_, okm, Or.inl ⟨0, ?_, ?_⟩⟩
    · rintro _ rfl
      rw [a0]
      exact ⟨fun h => absurd h (by decide), fun _ => trivial⟩
    · simp only [f_X3_payOutFault, nm_eq, a0]
      rw [if_neg (by decide)]
      rfl
    · rw [m1 hx]
      rfl
theorem CU_lim {e n t p : Nat} {B : StB} {R : Nat → Int32} (M : StM) (x y : Int32) (hT : Ti 0 n 0 0 t B p R) (hR : RB e (60 * e) n t 0 0 R) (he : e < 600) (hX : XX n R) : CU e n t p B R M (f_X3_limitFault p B x y) (ok_X3_limitFault p B x y) (fun C => f_X0_changeLimit (p + 1) C x y) (fun C => ok_X0_changeLimit (p + 1) C x y) (f_X7_limits (rs M R) x y) (ok_X7_limits (rs M R) x y) [1, 2, 3, 4] := by
  obtain ⟨b1, b2, b3⟩ := Ti_n hT
  have l := lit
  have e14 : ∀ i, 12 + 4 * i + 2 = 14 + 4 * i := fun i => by omega
  have okJ : ∀ a5 s0 s1 s2 s3, (s3 = 1 → acc n x) → (s0 = 0 ∨ s0 = 1) → (s1 = 0 ∨ s1 = 1) → (s2 = 0 ∨ s2 = 1) → (s3 = 0 ∨ s3 = 1) → ok_X7_limits_J64 (rs M R) x y a5 s0 s1 s2 s3 := by
    intro a5 s0 s1 s2 s3 hx a0 a1 a2 a3
    rintro _ rfl
    rcases a3 with rfl | rfl
    · simp only [holds_1, true_implies, not_true_eq_false, false_implies, and_self]
    · rcases a2 with rfl | rfl
      · simp only [holds_2, true_implies, not_true_eq_false, false_implies, and_self]
      · rcases a1 with rfl | rfl
        · simp only [holds_3, true_implies, not_true_eq_false, false_implies, and_self]
        · rcases a0 with rfl | rfl
          · simp only [holds_4, true_implies, not_true_eq_false, false_implies, and_self]
          · obtain ⟨i, hi, rfl⟩ := acc_o (hx rfl)
            refine ⟨fun _ => trivial, fun _ => ?_⟩
            rintro _ rfl
            simp only [f_X7_accountAt, oacc, oad2, e14]
            exact in_o (by omega) (by omega)
  have hx1 : f_X7_isAccount (rs M R) x = 1 → acc n x := by
    intro e
    by_cases hx : acc n x
    · exact hx
    · rw [isAcc_0 b2 b3 hx] at e
      exact absurd e (by decide)
  have hx2 : f_X7_isAccount (rs M R) x = 0 ∨ f_X7_isAccount (rs M R) x = 1 := isIn01 _ _ _
  have okm : ok_X7_limits (rs M R) x y := by
    rintro _ rfl
    refine ⟨ok_of0 b2 b3, ?_⟩
    rintro _ rfl
    have ok25 : ∀ s0, (s0 = 0 ∨ s0 = 1) → ok_X7_limits_J25 (rs M R) x y (f_X7_isIn y 0 500) s0 := by
      intro s0 h0
      refine ⟨ok_of2 b2 b3, ?_⟩
      rintro _ rfl
      refine ⟨okisAcc _ _, ?_⟩
      rintro _ rfl
      refine ⟨fun _ => okJ _ _ _ _ _ hx1 (Or.inl rfl) h0 (isIn01 _ _ _) hx2, fun _ => ⟨ok_of1 b2 b3, ?_⟩⟩
      rintro _ rfl
      exact ⟨fun _ => okJ _ _ _ _ _ hx1 (Or.inl rfl) h0 (isIn01 _ _ _) hx2, fun _ => okJ _ _ _ _ _ hx1 (Or.inr rfl) h0 (isIn01 _ _ _) hx2⟩
    exact ⟨fun _ => ok25 1 (Or.inr rfl), fun _ => ok25 0 (Or.inl rfl)⟩
  by_cases hx : acc n x
  · obtain ⟨i, hi, rfl⟩ := acc_o hx
    have hv : vp_in (Int32.ofNat i) 8 := in_o (by omega) (by omega)
    have hxx : ix (Int32.ofNat i) = i := ix_o (by omega)
    have x14 : ix (Int32.ofNat (14 + 4 * i)) = 14 + 4 * i := ix_o (by omega)
    have bb := bA_at hR.1 hi
    have hS := hR.2.2
    unfold bS at hS
    simp only [Nat.not_lt_zero, if_false] at bb
    rcases isIn_c y 0 500 with ⟨hy, y1, y2⟩ | ⟨hy, _⟩
    · have a0 := argf_0 (p := p) (B := B) (lo := 0) (hi := 500) b1 (by omega) hx hy
      have okf : ok_X3_limitFault p B (Int32.ofNat i) y := by
        rintro _ rfl
        refine ⟨fun _ => ⟨hv, ?_⟩, fun _ => trivial⟩
        rintro _ rfl
        exact ⟨fun _ => trivial, fun _ => ⟨fun _ => trivial, fun _ => hv⟩⟩
      refine ⟨okf, okm, ?_⟩
      have v1 : (R (13 + 4 * i) + y).toInt = (R (13 + 4 * i)).toInt + y.toInt := i32_add (by omega) (by omega)
      have vn : (-y).toInt = -y.toInt := i32_neg (by omega)
      rcases even_k bb.1 bb.2.1 with ⟨k1, k2, k3, k4⟩ | ⟨k1, k2⟩
      · have ef : f_X3_limitFault p B (Int32.ofNat i) y = if -y ≤ R (13 + 4 * i) then 0 else 4 := by
          simp only [f_X3_limitFault, nm_eq, a0, if_true, hxx, Ti_k hT hi, Ti_b hT hi, if_neg k2, if_neg k3]
        by_cases hb : R (13 + 4 * i) + y < 0
        · left
          rw [i32_lt] at hb
          refine ⟨3, ?_, ?_⟩
          · rw [ef, if_neg (by rw [i32_le]; omega)]
            rfl
          · simp only [f_X7_limits, f_X7_limits_J25, f_X7_limits_J63, f_X7_limits_J64, nm_eq, of_0 b2 b3 hi, of_1 b2 b3 hi, of_2 b2 b3 hi, if_pos k1, hy, isAcc_1 b2 b3 hx, i10, if_false, if_pos (i32_lt.mpr hb), holds_4, if_true]
            rfl
        · right
          have hb' := hb
          rw [i32_lt] at hb
          have em : f_X7_limits (rs M R) (Int32.ofNat i) y = (R (14 + 4 * i), rs (smi M 15 0) (ur R (14 + 4 * i) y)) := by
            simp only [f_X7_limits, f_X7_limits_J25, f_X7_limits_J63, f_X7_limits_J64, nm_eq, of_0 b2 b3 hi, of_1 b2 b3 hi, of_2 b2 b3 hi, if_pos k1, hy, isAcc_1 b2 b3 hx, i10, if_false, if_neg hb', holds_0, f_X7_accountAt, oacc, oad2, e14, x14, smi_rs, sma_rs]
          rw [em]
          refine ⟨?_, n, t, ur R (14 + 4 * i) y, mi M 10, ?_, lim_RB hR he hi (by omega) (by omega) (by omega) k4, XX_ur hX _ (by omega) (by omega) (by omega) (fun j hj => by omega), ?_⟩
          · rw [ef, if_pos (by rw [i32_le]; omega)]
          · rw [← smi10]
          · intro C hC
            have p4 : p + 1 + 3 = p + 4 := by omega
            have ec : f_X0_changeLimit (p + 1) C (Int32.ofNat i) y = (R (14 + 4 * i), sba C (p + 4) i y) := by
              simp only [f_X0_changeLimit, nm_eq, hxx, p4, Ti_l hC hi]
            refine ⟨⟨hv, fun _ _ => hv⟩, ?_⟩
            show Fr p C (f_X0_changeLimit (p + 1) C (Int32.ofNat i) y).2 ∧ Ti 0 n 0 0 t (f_X0_changeLimit (p + 1) C (Int32.ofNat i) y).2 p _ ∧ (f_X0_changeLimit (p + 1) C (Int32.ofNat i) y).1 = _
            rw [ec]
            exact ⟨Fr_a (Fr_r p C) 4 _ _ (by decide), Ti_lim0 y hC (by omega), rfl⟩
      · left
        refine ⟨2, ?_, ?_⟩
        · have ef : f_X3_limitFault p B (Int32.ofNat i) y = 3 := by
            simp only [f_X3_limitFault, nm_eq, a0, if_true, hxx, Ti_k hT hi]
            rcases k2 with k2 | k2
            · rw [if_pos k2]
            · rw [k2, if_neg (by decide), if_pos rfl]
          rw [ef]
          rfl
        · by_cases hb : R (13 + 4 * i) + y < 0
          · simp only [f_X7_limits, f_X7_limits_J25, f_X7_limits_J63, f_X7_limits_J64, nm_eq, of_0 b2 b3 hi, of_1 b2 b3 hi, of_2 b2 b3 hi, if_neg k1, hy, isAcc_1 b2 b3 hx, i10, if_false, if_pos hb, holds_3, if_true]
            rfl
          · simp only [f_X7_limits, f_X7_limits_J25, f_X7_limits_J63, f_X7_limits_J64, nm_eq, of_0 b2 b3 hi, of_1 b2 b3 hi, of_2 b2 b3 hi, if_neg k1, hy, isAcc_1 b2 b3 hx, i10, if_false, if_neg hb, holds_3, if_true]
            rfl
    · have a0 := argf_2 (p := p) (B := B) (lo := 0) (hi := 500) b1 (by omega) hx hy
      refine ⟨?_, okm, Or.inl ⟨1, ?_, ?_⟩⟩
      · rintro _ rfl
        rw [a0]
        exact ⟨fun h => absurd h (by decide), fun _ => trivial⟩
      · simp only [f_X3_limitFault, nm_eq, a0]
        rw [if_neg (by decide)]
        rfl
      · simp only [f_X7_limits, f_X7_limits_J25, f_X7_limits_J63, f_X7_limits_J64, nm_eq, hy, isAcc_1 b2 b3 hx, if_true, holds_2]
        split <;> rfl
  · have a0 := argf_1 (p := p) (B := B) (y := y) (lo := 0) (hi := 500) b1 (by omega) hx
    refine ⟨?_, okm, Or.inl ⟨0, ?_, ?_⟩⟩
    · rintro _ rfl
      rw [a0]
      exact ⟨fun h => absurd h (by decide), fun _ => trivial⟩
    · simp only [f_X3_limitFault, nm_eq, a0]
      rw [if_neg (by decide)]
      rfl
    · simp only [f_X7_limits, f_X7_limits_J25, f_X7_limits_J63, f_X7_limits_J64, nm_eq, isAcc_0 b2 b3 hx, if_true, holds_1, ite_self]
      rfl
theorem CU_opn {e n t p : Nat} {B : StB} {R : Nat → Int32} (M : StM) (x : Int32) (hT : Ti 0 n 0 0 t B p R) (hR : RB e (60 * e) n t 0 0 R) (he : e < 600) (hX : XX n R) : CU e n t p B R M (f_X3_openFault p B x) True (fun C => f_X0_add (p + 1) C x) (fun C => ok_X0_add (p + 1) C x) (f_X7_opens (rs M R) x) (ok_X7_opens (rs M R) x) [2, 4] := by
  obtain ⟨b1, b2, b3⟩ := Ti_n hT
  have l := lit
  have w8 : ((8 : Int32) ≤ R 1) ↔ 8 ≤ n := by
    rw [b2]
    exact le_ofN (a := 8) (by decide) (by omega)
  have w8b : (bi B (p + 1) 0 < 8) ↔ n < 8 := by
    rw [b1]
    exact lt_ofN (b := 8) (by omega) (by decide)
  have ok23 : ∀ s0 s1, (s0 = 1 → n < 8) → (s0 = 0 ∨ s0 = 1) → (s1 = 0 ∨ s1 = 1) → ok_X7_opens_J23 (rs M R) x s0 s1 := by
    intro s0 s1 h8 a0 a1
    rintro _ rfl
    rcases a1 with rfl | rfl
    · simp only [holds_1, true_implies, not_true_eq_false, false_implies, and_self]
    · rcases a0 with rfl | rfl
      · simp only [holds_2, true_implies, not_true_eq_false, false_implies, and_self]
      · have h8 := h8 rfl
        rw [holds_0]
        refine ⟨fun _ => trivial, fun _ => ?_⟩
        rintro _ rfl
        simp only [smi_rs, f_X7_accountAt, ma_rs0, ixl, b2, oacc, oad0]
        refine ⟨in_o (by omega) (by omega), ?_⟩
        rintro _ rfl
        rw [ix_o (by omega), sma_rs]
        refine (opn_L _ _ n h8 ?_).2
        rw [ur_ne _ _ (by omega), b2]
  have okm : ok_X7_opens (rs M R) x := by
    rintro _ rfl
    simp only [ma_rs0, ixl]
    exact ⟨fun _ => ok23 0 _ (fun h => absurd h (by decide)) (Or.inl rfl) (isIn01 _ _ _), fun h => ok23 1 _ (fun _ => by have := mt w8.mpr h; omega) (Or.inr rfl) (isIn01 _ _ _)⟩
  refine ⟨trivial, okm, ?_⟩
  rcases isIn_c x 0 3 with ⟨hy, y1, y2⟩ | ⟨hy, _⟩
  · by_cases h8 : n < 8
    · right
      have em : f_X7_opens (rs M R) x = (Int32.ofNat n, rs (smi M 15 0) (opnR R n x)) := by
        have hw : ¬ (8 : Int32) ≤ Int32.ofNat n := by
          rw [← b2, w8]
          omega
        have o1 : Int32.ofNat (n + 1) - 1 = Int32.ofNat n := osu1 (by omega)
        have hu : ur R (12 + 4 * n) x 1 = Int32.ofNat n := by rw [ur_ne _ _ (by omega), b2]
        have eL := (opn_L (smi M 15 0) (ur R (12 + 4 * n) x) n h8 hu).1
        have u1 : ur (ur (ur (ur R (12 + 4 * n) x) (13 + 4 * n) 0) (14 + 4 * n) 0) (15 + 4 * n) 0 1 = Int32.ofNat n := by
          rw [ur_ne _ _ (by omega), ur_ne _ _ (by omega), ur_ne _ _ (by omega), hu]
        have xx : ix (Int32.ofNat (12 + 4 * n)) = 12 + 4 * n := ix_o (by omega)
        simp only [f_X7_opens, f_X7_opens_J23, nm_eq, hy, ma_rs0, ixl, if_neg hw, holds_0, i10, if_false, smi_rs, f_X7_accountAt, b2, oacc, oad0, xx, sma_rs, eL, u1, ur_eq, oad1, o1]
        rfl
      rw [em]
      refine ⟨?_, n + 1, t, opnR R n x, mi M 10, by rw [← smi10], opn_RB hR he h8 (by omega) (by omega), XX_opn hX h8, fun C hC => ?_⟩
      · simp only [f_X3_openFault, nm_eq, isIn_6, hy, i10, if_false, if_pos (w8b.mpr h8)]
      · obtain ⟨d1, d2, d3, d4⟩ := opn_d x hC h8
        exact ⟨d1, d2, d3, d4⟩
    · left
      refine ⟨1, ?_, ?_⟩
      · simp only [f_X3_openFault, nm_eq, isIn_6, hy, i10, if_false, if_neg (mt w8b.mp h8)]
        rfl
      · simp only [f_X7_opens, f_X7_opens_J23, nm_eq, hy, ma_rs0, ixl, if_pos (w8.mpr (by omega)), holds_2, if_true]
        rfl
  · left
    refine ⟨0, ?_, ?_⟩
    · simp only [f_X3_openFault, nm_eq, isIn_6, hy, if_true]
      rfl
    · simp only [f_X7_opens, f_X7_opens_J23, nm_eq, hy, holds_1, if_true, ite_self]
      rfl
theorem CU_sel {e n t p : Nat} {B : StB} {R : Nat → Int32} (M : StM) (x0 x1 x2 x3 : Int32) (hT : Ti 0 n 0 0 t B p R) (hR : RB e (60 * e) n t 0 0 R) (he : e < 600) (hX : XX n R) : CU e n t p B R M (f_X3_sealFault p B x0 x1 x2 x3) True (fun C => f_X5_add (p + 6) C x0 x1 x2 (bi C p 3 + x3)) (fun C => ok_X5_add (p + 6) C x0 x1 x2 (bi C p 3 + x3)) (f_X7_seals (rs M R) x0 x1 x2 x3) (ok_X7_seals (rs M R) x0 x1 x2 x3) [1, 2, 4] := by
  obtain ⟨b1, b2, b3⟩ := Ti_n hT
  have h3 : R 3 = Int32.ofNat t := hR.2.1.2.1
  have ht : t ≤ 10 := hR.2.1.1
  have c6 : bi B (p + 6) 0 = Int32.ofNat t := (Ti_c hT).1
  have w10 : (bi B (p + 6) 0 < 10) ↔ t < 10 := by
    rw [c6]
    exact lt_ofN (b := 10) (by omega) (by decide)
  have l := lit
  obtain ⟨ok28, j1, j2, j3, j4⟩ := sel_J (M := M) (x0 := x0) (x1 := x1) (x2 := x2) (x3 := x3) b2 b3 h3 ht
  have okm : ok_X7_seals (rs M R) x0 x1 x2 x3 := by
    unfold ok_X7_seals ok_X7_seals_J27
    refine ⟨fun _ => ok28 0 (Or.inl rfl), fun _ => ⟨okAmt _, ?_⟩⟩
    rintro _ rfl
    refine ⟨fun _ => ok28 0 (Or.inl rfl), fun _ => ?_⟩
    rintro _ rfl
    exact ⟨fun _ => ok28 0 (Or.inl rfl), fun _ => ok28 1 (Or.inr rfl)⟩
  refine ⟨trivial, okm, ?_⟩
  by_cases hacc : acc n x0 ∧ acc n x1
  · obtain ⟨hx0, hx1⟩ := hacc
    have g0 := has_1 (q := p + 1) b1 (by omega) hx0
    have g1 := has_1 (q := p + 1) b1 (by omega) hx1
    by_cases heq : x0 = x1
    · left
      refine ⟨1, ?_, ?_⟩
      · simp only [f_X3_sealFault, nm_eq, g0, g1, i10, if_false, if_pos heq]
        rfl
      · rw [sel_S.1 heq, j2 hx0 hx1]
        rfl
    · rcases isIn_c x2 1 999 with ⟨hy, y1, y2⟩ | ⟨hy, _⟩
      · rcases isIn_c x3 0 60 with ⟨hz, z1, z2⟩ | ⟨hz, _⟩
        · by_cases h9 : t < 10
          · right
            have em : f_X7_seals (rs M R) x0 x1 x2 x3 = (R 2, rs (smi M 15 0) (selR R t x0 x1 x2 x3)) := by
              rw [sel_S.2.2.2 heq hy hz]
              exact j4 hx0 hx1 h9
            rw [em]
            obtain ⟨i, hi, ei⟩ := acc_o hx0
            obtain ⟨j, hj, ej⟩ := acc_o hx1
            refine ⟨?_, n, t + 1, selR R t x0 x1 x2 x3, mi M 10, by rw [← smi10], ?_, XX_sel hX b3 h9, fun C hC => ?_⟩
            · simp only [f_X3_sealFault, nm_eq, g0, g1, isIn_6, hy, hz, i10, if_false, if_neg heq, if_pos (w10.mpr h9)]
            · rw [ei, ej]
              exact sel_RB hR he h9 hi hj (by omega) (by omega) (by omega) (by omega)
            · obtain ⟨d1, d2, d3, d4⟩ := sel_d x0 x1 x2 x3 hC h9
              exact ⟨d1, d2, d3, d4⟩
          · left
            refine ⟨2, ?_, ?_⟩
            · simp only [f_X3_sealFault, nm_eq, g0, g1, isIn_6, hy, hz, i10, if_false, if_neg heq, if_neg (mt w10.mp h9)]
              rfl
            · rw [sel_S.2.2.2 heq hy hz, j3 hx0 hx1 h9]
              rfl
        · left
          refine ⟨1, ?_, ?_⟩
          · simp only [f_X3_sealFault, nm_eq, g0, g1, isIn_6, hy, hz, i10, if_false, if_neg heq, if_true]
            rfl
          · rw [sel_S.2.2.1 heq hy hz, j2 hx0 hx1]
            rfl
      · left
        refine ⟨1, ?_, ?_⟩
        · simp only [f_X3_sealFault, nm_eq, g0, g1, isIn_6, hy, i10, if_false, if_neg heq, if_true]
          rfl
        · rw [sel_S.2.1 heq hy, j2 hx0 hx1]
          rfl
  · left
    have j1 := fun s => j1 s hacc
    refine ⟨0, ?_, ?_⟩
    · by_cases hx0 : acc n x0
      · have hx1 : ¬ acc n x1 := fun h => hacc ⟨hx0, h⟩
        simp only [f_X3_sealFault, nm_eq, has_1 (q := p + 1) b1 (by omega) hx0, has_0 (q := p + 1) b1 (by omega) hx1, i10, if_false, if_true]
        rfl
      · simp only [f_X3_sealFault, nm_eq, has_0 (q := p + 1) b1 (by omega) hx0, if_true]
        rfl
    · simp only [f_X7_seals, f_X7_seals_J27, j1, nm_eq, ite_self]
      rfl
theorem CU_voi {e n t p : Nat} {B : StB} {R : Nat → Int32} (M : StM) (x : Int32) (hT : Ti 0 n 0 0 t B p R) (hR : RB e (60 * e) n t 0 0 R) (he : e < 600) (hX : XX n R) : CU e n t p B R M (f_X3_cancelFault p B x) (ok_X3_cancelFault p B x) (fun C => f_X5_remove (p + 6) C x) (fun C => ok_X5_remove (p + 6) C x) (f_X7_voids (rs M R) x) (ok_X7_voids (rs M R) x) [5] := by
  have h3 : R 3 = Int32.ofNat t := hR.2.1.2.1
  have ht : t ≤ 10 := hR.2.1.1
  have hu := bT_uq hR.2.1
  obtain ⟨oc, c1, c2⟩ := find_C x hT hu
  obtain ⟨om, m1, m2⟩ := find_M (M := M) x h3 ht hu
  have okf : ok_X3_cancelFault p B x := oc
  by_cases hex : ∃ m, m < t ∧ R (44 + 5 * m) = x
  · obtain ⟨m, hm, hx⟩ := hex
    have cc := c2 m hm hx
    have mm := m2 m hm hx
    have hne : ¬ (Int32.ofNat m = -1) := by
      intro h
      have := congrArg Int32.toInt h
      rw [ofN_toInt (by omega)] at this
      have h1 : (-1 : Int32).toInt = -1 := by decide
      omega
    have hge : (0 : Int32) ≤ Int32.ofNat m := by
      rw [show (0 : Int32) = Int32.ofNat 0 from rfl, le_ofN (by omega) (by omega)]
      omega
    have d := drp_R (smi M 15 0) R (k := m) (by omega)
    have okm : ok_X7_voids (rs M R) x := by
      refine ⟨om, ?_⟩
      rintro _ rfl
      rw [mm]
      refine ⟨fun h9 => absurd h9 hne, fun _ => ⟨okgoes (Or.inr rfl), ?_⟩⟩
      rintro _ rfl
      rw [goes_1]
      refine ⟨fun h9 => absurd (show (1 : Int32) = 0 from h9) (by decide), fun _ => ⟨ok_pl3 (M := smi M 15 0) (by omega), fun _ _ => d.2⟩⟩
    have em : f_X7_voids (rs M R) x = (R (47 + 5 * m), rs (smi M 15 0) (dw R m)) := by
      simp only [f_X7_voids, f_X7_voids_J17, nm_eq, mm, if_neg hne, goes_1, i10, if_false, smi_rs, pl_3 (M := smi M 15 0) (R := R) (k := m) (by omega), d.1]
    refine ⟨okf, okm, Or.inr ⟨?_, n, t - 1, dw R m, mi M 10, ?_, ?_, XX_dw hX (Ti_n hT).2.2 m, fun C hC => ?_⟩⟩
    · simp only [f_X3_cancelFault, nm_eq, cc, if_pos hge]
    · rw [em, ← smi10]
    · exact RB_mono (RB_drop hR hm (Nat.zero_le m)) (by omega) (by omega) (by omega) (by omega)
    · obtain ⟨d1, d2, d3, d4⟩ := rem_d x hC hu hm hx
      rw [em]
      exact ⟨d1, d2, d3, d4⟩
  · have hno : ∀ j, j < t → R (44 + 5 * j) ≠ x := fun j hj h => hex ⟨j, hj, h⟩
    have cc := c1 hno
    have mm := m1 hno
    refine ⟨okf, ?_, Or.inl ⟨0, ?_, ?_⟩⟩
    · refine ⟨om, ?_⟩
      rintro _ rfl
      rw [mm]
      refine ⟨fun _ => ⟨okgoes (Or.inl rfl), ?_⟩, fun h9 => absurd rfl h9⟩
      rintro _ rfl
      rw [goes_0]
      exact ⟨fun _ => trivial, fun h9 => absurd rfl h9⟩
    · simp only [f_X3_cancelFault, nm_eq, cc]
      rw [if_neg (by decide)]
      rfl
    · simp only [f_X7_voids, f_X7_voids_J17, nm_eq, mm, if_true, goes_0]
      rfl
theorem CT_pay {e n t : Nat} {B : StB} {R : Nat → Int32} (x y : Int32) (hT : Ti 0 n 0 0 t B 0 R) (hR : RB e (60 * e) n t 0 0 R) (he : e < 600) (hX : XX n R) : CT e n t 0 B R (f_X3_payInFault 0 B x y) (ok_X3_payInFault 0 B x y) (fun C => f_X3_payIn 0 C x y) (fun C => ok_X3_payIn 0 C x y) := CT_of (by simp) (CU_pay M0 x y hT hR he hX)
theorem CT_drw {e n t : Nat} {B : StB} {R : Nat → Int32} (x y : Int32) (hT : Ti 0 n 0 0 t B 0 R) (hR : RB e (60 * e) n t 0 0 R) (he : e < 600) (hX : XX n R) : CT e n t 0 B R (f_X3_payOutFault 0 B x y) (ok_X3_payOutFault 0 B x y) (fun C => f_X3_payOut 0 C x y) (fun C => ok_X3_payOut 0 C x y) := CT_of (by simp) (CU_drw M0 x y hT hR he hX)
theorem CT_lim {e n t : Nat} {B : StB} {R : Nat → Int32} (x y : Int32) (hT : Ti 0 n 0 0 t B 0 R) (hR : RB e (60 * e) n t 0 0 R) (he : e < 600) (hX : XX n R) : CT e n t 0 B R (f_X3_limitFault 0 B x y) (ok_X3_limitFault 0 B x y) (fun C => f_X0_changeLimit 1 C x y) (fun C => ok_X0_changeLimit 1 C x y) := CT_of (by simp) (CU_lim M0 x y hT hR he hX)
theorem CT_opn {e n t : Nat} {B : StB} {R : Nat → Int32} (x : Int32) (hT : Ti 0 n 0 0 t B 0 R) (hR : RB e (60 * e) n t 0 0 R) (he : e < 600) (hX : XX n R) : CT e n t 0 B R (f_X3_openFault 0 B x) True (fun C => f_X0_add 1 C x) (fun C => ok_X0_add 1 C x) := CT_of (by simp) (CU_opn M0 x hT hR he hX)
theorem CT_sel {e n t : Nat} {B : StB} {R : Nat → Int32} (x0 x1 x2 x3 : Int32) (hT : Ti 0 n 0 0 t B 0 R) (hR : RB e (60 * e) n t 0 0 R) (he : e < 600) (hX : XX n R) : CT e n t 0 B R (f_X3_sealFault 0 B x0 x1 x2 x3) True (fun C => f_X5_add 6 C x0 x1 x2 (bi C 0 3 + x3)) (fun C => ok_X5_add 6 C x0 x1 x2 (bi C 0 3 + x3)) := CT_of (by simp) (CU_sel M0 x0 x1 x2 x3 hT hR he hX)
theorem CT_voi {e n t : Nat} {B : StB} {R : Nat → Int32} (x : Int32) (hT : Ti 0 n 0 0 t B 0 R) (hR : RB e (60 * e) n t 0 0 R) (he : e < 600) (hX : XX n R) : CT e n t 0 B R (f_X3_cancelFault 0 B x) (ok_X3_cancelFault 0 B x) (fun C => f_X5_remove 6 C x) (fun C => ok_X5_remove 6 C x) := CT_of (by simp) (CU_voi M0 x hT hR he hX)
/-- days, with what they do -/
theorem S_days {e n p : Nat} {R : Nat → Int32} {D d t : Nat} {C : StB} (hd : d ≤ 1000) (hD : D + d ≤ 37000) (hC : Ti 0 n 0 0 t C p R) (hR : RB e D n t 0 0 R) : ok_X3_passDays p C (Int32.ofNat d) ∧ (f_X3_passDays p C (Int32.ofNat d)).1 = Int32.ofNat (cT (run d n t R).1) ∧ Ti 0 n 0 0 (run d n t R).2.1 (f_X3_passDays p C (Int32.ofNat d)).2 p (run d n t R).2.2 ∧ RB e (D + d) n (run d n t R).2.1 0 0 (run d n t R).2.2 ∧ Fr p C (f_X3_passDays p C (Int32.ofNat d)).2 := by
  have z0 : Int32.ofNat 0 = 0 := rfl
  have hfu : 1000 < fu := by unfold fu; omega
  obtain ⟨r1, r2, r3, r4, r5⟩ := S_pass (e := e) (n := n) (p := p) d hd d fu 0 D t C R 0 (by omega) (by omega) hD hC hR
  clear hfu
  rw [z0] at r1 r2 r3 r5
  have ec : f_X3_passDays p C (Int32.ofNat d) = ((f_X3_passDays_L4 fu p C (Int32.ofNat d) 0 0).1, (f_X3_passDays_L4 fu p C (Int32.ofNat d) 0 0).2) := by
    unfold f_X3_passDays
    simp only [nm_eq]
  rw [ec]
  refine ⟨r1, ?_, r3, r4, r5⟩
  rw [r2, Int32.zero_add]
theorem CT_day {e n t : Nat} {B : StB} {R : Nat → Int32} (x : Int32) (hT : Ti 0 n 0 0 t B 0 R) (hR : RB e (60 * e) n t 0 0 R) (he : e < 600) (hX : XX n R) : CT e n t 0 B R (f_X3_endDaysFault 0 B x) True (fun C => f_X3_passDays 0 C x) (fun C => ok_X3_passDays 0 C x) := by
  have l := lit
  rcases isIn_c x 1 60 with ⟨hy, y1, y2⟩ | ⟨hy, _⟩
  · obtain ⟨d, hd, rfl⟩ := of_rng (x := x) (n := 61) (by omega) (by omega)
    refine ⟨trivial, Or.inr ⟨?_, n, (run d n t R).2.1, (run d n t R).2.2, RB_mono (S_days (by omega) (by omega) hT hR).2.2.2.1 (by omega) (by omega) (by omega) (by omega), (P_run d (60 * e) t B R hT hR hX (by omega)).1, fun C hC => ?_⟩⟩
    · simp only [f_X3_endDaysFault, nm_eq, isIn_6, hy, i10, if_false]
    · obtain ⟨a1, -, a3, -, a5⟩ := S_days (d := d) (by omega) (by omega) hC hR
      exact ⟨a1, a5, a3⟩
  · refine ⟨trivial, Or.inl (Or.inr (Or.inl ?_))⟩
    simp only [f_X3_endDaysFault, nm_eq, isIn_6, hy, if_true]
/-- the state between calls -/
def SS (e n t : Nat) (B : StB) (R : Nat → Int32) : Prop := Ti 0 n 0 0 t B 0 R ∧ RB e (60 * e) n t 0 0 R ∧ XX n R ∧ bz B = 16 ∧ (∃ hl hn, hl ≤ 8 ∧ hn < 8 ∧ bi B 177 0 = Int32.ofNat hl ∧ bi B 177 1 = Int32.ofNat hn) ∧ ∃ sl, sl ≤ 16 ∧ bi B 191 3 = Int32.ofNat sl
theorem modC {e n t : Nat} {B : StB} {R : Nat → Int32} {flt : Int32} {okf : Prop} {op : StB → Int32 × StB} {okop : StB → Prop} (h : SS e n t B R) (c : CT e n t 0 B R flt okf op okop) : okf ∧ ((flt = 1 ∨ flt = 2 ∨ flt = 3 ∨ flt = 4 ∨ flt = 5) ∨ (flt = 0 ∧ ok_X1_remember 0 B ∧ okop (f_X1_remember 0 B) ∧ ∃ n' t' R', SS (e + 1) n' t' (op (f_X1_remember 0 B)).2 R')) := by
  obtain ⟨hT, hR, hX, hz, ⟨hl, hn, a1, a2, a3, a5⟩, sl, s1, s2⟩ := h
  obtain ⟨k1, k2⟩ := c
  refine ⟨k1, ?_⟩
  rcases k2 with k2 | ⟨f0, n', t', R', nR, nX, hop⟩
  · exact Or.inl k2
  · obtain ⟨c1, c2, c3, c4, c5, c6, c7, c8⟩ := rem_C ⟨n, t, hT, hR⟩ a1 a2 a3 a5
    obtain ⟨o1, o2, o3⟩ := hop _ (c3 n t hT)
    refine Or.inr ⟨f0, c1, o1, n', t', R', o3, nR, nX, o2.1.trans (c8.trans hz), ⟨min (hl + 1) 8, (hn + 1) % 8, by omega, Nat.mod_lt _ (by decide), (o2.2 177 0 (by omega)).1.trans c5, (o2.2 177 1 (by omega)).1.trans c6⟩, sl, s1, ?_⟩
    exact (o2.2 191 3 (by omega)).1.trans ((c7 191 3 (by omega)).1.trans s2)
def dd (flt : Int32) (op : StB → Int32 × StB) (B : StB) : Nat × Int32 × StB := nm flt (fun r1 => nm (f_X6_raise B r1) (fun z2 => if z2.1 = 0 then nm (f_X1_remember 0 z2.2.2) (fun B4 => nm (op B4) (fun z6 => (0, z6.1, z6.2))) else (z2.1, 0, z2.2.2)))
def okdd (flt : Int32) (okop : StB → Prop) (B : StB) : Prop := ∀ r1 : Int32, r1 = flt → (∀ z2 : Nat × Int32 × StB, z2 = (f_X6_raise B r1) → z2.1 = 0 → ((ok_X1_remember 0 z2.2.2) ∧ (∀ B4 : StB, B4 = (f_X1_remember 0 z2.2.2) → okop B4)))
/-- what a call leaves: an answer or a fault, and a state -/
def DD (e : Nat) (z : Nat × Int32 × StB) : Prop := (z.1 = 0 ∨ z.1 = 1 ∨ z.1 = 2 ∨ z.1 = 3 ∨ z.1 = 4 ∨ z.1 = 5) ∧ ∃ e' n' t' R', e' ≤ e + 1 ∧ SS e' n' t' z.2.2 R'
theorem dd_C {e n t : Nat} {B : StB} {R : Nat → Int32} {flt : Int32} {okf : Prop} {op : StB → Int32 × StB} {okop : StB → Prop} (h : SS e n t B R) (c : CT e n t 0 B R flt okf op okop) : okf ∧ okdd flt okop B ∧ DD e (dd flt op B) := by
  obtain ⟨k1, k2⟩ := modC h c
  have key : ∀ (k : Nat) (kI : Int32), flt = kI → f_X6_raise B kI = (k, 0, B) → (k = 1 ∨ k = 2 ∨ k = 3 ∨ k = 4 ∨ k = 5) → okf ∧ okdd flt okop B ∧ DD e (dd flt op B) := by
    intro k kI e1 e2 e3
    have e0 : ¬ k = 0 := by omega
    refine ⟨k1, ?_, ?_⟩
    · intro r hr z hz h0
      rw [hz, hr, e1, e2] at h0
      exact absurd h0 e0
    · have : dd flt op B = (k, 0, B) := by
        unfold dd
        simp only [nm_eq, e1, e2]
        rw [if_neg e0]
      rw [this]
      exact ⟨Or.inr e3, e, n, t, R, by omega, h⟩
  obtain ⟨r0, r1, r2, r3, r4, r5⟩ := raise_k B
  rcases k2 with (f | f | f | f | f) | ⟨f0, h1, h2, n', t', R', h3⟩
  · exact key 1 1 f r1 (by omega)
  · exact key 2 2 f r2 (by omega)
  · exact key 3 3 f r3 (by omega)
  · exact key 4 4 f r4 (by omega)
  · exact key 5 5 f r5 (by omega)
  · refine ⟨k1, ?_, ?_⟩
    · intro r hr z hz h0
      rw [hz, hr, f0, r0]
      refine ⟨h1, ?_⟩
      intro z hz
      rw [hz]
      exact h2
    · have : dd flt op B = (0, (op (f_X1_remember 0 B)).1, (op (f_X1_remember 0 B)).2) := by
        unfold dd
        simp only [nm_eq, f0, r0]
        rfl
      rw [this]
      exact ⟨Or.inl rfl, e + 1, n', t', R', by omega, h3⟩
/-- the law's deeds -/
theorem deed_C {e n t : Nat} {B : StB} {R : Nat → Int32} (h : SS e n t B R) (he : e < 600) (x1 x2 x3 x4 x5 : Int32) (hx : 0 ≤ x1.toInt ∧ x1.toInt ≤ 6) : ok_L_deed B x1 x2 x3 x4 x5 ∧ ∃ e' n' t' R', e' ≤ e + 1 ∧ SS e' n' t' (f_L_deed B x1 x2 x3 x4 x5).2 R' := by
  have hh := h
  obtain ⟨hT, hR, hX, -⟩ := h
  have z0 := dd_C hh (CT_opn x2 hT hR he hX)
  have z1 := dd_C hh (CT_pay x2 x3 hT hR he hX)
  have z2 := dd_C hh (CT_drw x2 x3 hT hR he hX)
  have z3 := dd_C hh (CT_lim x2 x3 hT hR he hX)
  have z4 := dd_C hh (CT_sel x2 x3 x4 x5 hT hR he hX)
  have z5 := dd_C hh (CT_voi x2 hT hR he hX)
  have z6 := dd_C hh (CT_day x2 hT hR he hX)
  have wrap : ∀ z : Nat × Int32 × StB, (if z.1 = 0 then ((0 : Nat), z.2.1, z.2.2) else (z.1, 0, z.2.2)).2.2 = z.2.2 ∧ (if z.1 = 0 then ((0 : Nat), z.2.1, z.2.2) else (z.1, 0, z.2.2)).1 = z.1 := by
    intro z
    by_cases hz : z.1 = 0
    · rw [if_pos hz]
      exact ⟨rfl, hz.symm⟩
    · rw [if_neg hz]
      exact ⟨rfl, rfl⟩
  have fin : ∀ (z : Nat × Int32 × StB), DD e z → ok_L_plain B x1 x2 x3 x4 x5 → f_L_plain B x1 x2 x3 x4 x5 = (if z.1 = 0 then ((0 : Nat), z.2.1, z.2.2) else (z.1, 0, z.2.2)) → ok_L_deed B x1 x2 x3 x4 x5 ∧ ∃ e' n' t' R', e' ≤ e + 1 ∧ SS e' n' t' (f_L_deed B x1 x2 x3 x4 x5).2 R' := by
    intro z hz ho hf
    obtain ⟨w1, w2⟩ := wrap z
    rw [← hf] at w1 w2
    refine ⟨⟨ho, ?_⟩, ?_⟩
    · intro y hy
      rw [hy, w2]
      exact hz.1
    · have : (f_L_deed B x1 x2 x3 x4 x5).2 = (f_L_plain B x1 x2 x3 x4 x5).2.2 := rfl
      rw [this, w1]
      exact hz.2
  obtain ⟨k, hk, rfl⟩ := of_rng (x := x1) (n := 7) hx.1 (by omega)
  have hk : k = 0 ∨ k = 1 ∨ k = 2 ∨ k = 3 ∨ k = 4 ∨ k = 5 ∨ k = 6 := by omega
  rcases hk with rfl | rfl | rfl | rfl | rfl | rfl | rfl
  · have eD : f_X6_open B x2 = dd (f_X3_openFault 0 B x2) (fun C => f_X0_add 1 C x2) B := rfl
    refine fin _ z0.2.2 ?_ ?_
    · exact ⟨fun _ => z0.2.1, fun h9 => absurd rfl h9⟩
    · unfold f_L_plain
      rw [if_pos (by rfl), nm_eq, eD]
  · have eD : f_X6_deposit B x2 x3 = dd (f_X3_payInFault 0 B x2 x3) (fun C => f_X3_payIn 0 C x2 x3) B := rfl
    refine fin _ z1.2.2 ?_ ?_
    · exact ⟨fun h9 => absurd h9 (by decide), fun _ => ⟨fun _ => ⟨z1.1, z1.2.1⟩, fun h9 => absurd rfl h9⟩⟩
    · unfold f_L_plain
      rw [if_neg (by decide), if_pos (by rfl), nm_eq, eD]
  · have eD : f_X6_withdraw B x2 x3 = dd (f_X3_payOutFault 0 B x2 x3) (fun C => f_X3_payOut 0 C x2 x3) B := rfl
    refine fin _ z2.2.2 ?_ ?_
    · exact ⟨fun h9 => absurd h9 (by decide), fun _ => ⟨fun h9 => absurd h9 (by decide), fun _ => ⟨fun _ => ⟨z2.1, z2.2.1⟩, fun h9 => absurd rfl h9⟩⟩⟩
    · unfold f_L_plain
      rw [if_neg (by decide), if_neg (by decide), if_pos (by rfl), nm_eq, eD]
  · have eD : f_X6_setLimit B x2 x3 = dd (f_X3_limitFault 0 B x2 x3) (fun C => f_X0_changeLimit 1 C x2 x3) B := rfl
    refine fin _ z3.2.2 ?_ ?_
    · exact ⟨fun h9 => absurd h9 (by decide), fun _ => ⟨fun h9 => absurd h9 (by decide), fun _ => ⟨fun h9 => absurd h9 (by decide), fun _ => ⟨fun _ => ⟨z3.1, z3.2.1⟩, fun h9 => absurd rfl h9⟩⟩⟩⟩
    · unfold f_L_plain
      rw [if_neg (by decide), if_neg (by decide), if_neg (by decide), if_pos (by rfl), nm_eq, eD]
  · have eD : f_X6_seal B x2 x3 x4 x5 = dd (f_X3_sealFault 0 B x2 x3 x4 x5) (fun C => f_X5_add 6 C x2 x3 x4 (bi C 0 3 + x5)) B := rfl
    refine fin _ z4.2.2 ?_ ?_
    · exact ⟨fun h9 => absurd h9 (by decide), fun _ => ⟨fun h9 => absurd h9 (by decide), fun _ => ⟨fun h9 => absurd h9 (by decide), fun _ => ⟨fun h9 => absurd h9 (by decide), fun _ => ⟨fun _ => z4.2.1, fun h9 => absurd rfl h9⟩⟩⟩⟩⟩
    · unfold f_L_plain
      rw [if_neg (by decide), if_neg (by decide), if_neg (by decide), if_neg (by decide), if_pos (by rfl), nm_eq, eD]
  · have eD : f_X6_cancel B x2 = dd (f_X3_cancelFault 0 B x2) (fun C => f_X5_remove 6 C x2) B := rfl
    refine fin _ z5.2.2 ?_ ?_
    · exact ⟨fun h9 => absurd h9 (by decide), fun _ => ⟨fun h9 => absurd h9 (by decide), fun _ => ⟨fun h9 => absurd h9 (by decide), fun _ => ⟨fun h9 => absurd h9 (by decide), fun _ => ⟨fun h9 => absurd h9 (by decide), fun _ => ⟨fun _ => ⟨z5.1, z5.2.1⟩, fun h9 => absurd rfl h9⟩⟩⟩⟩⟩⟩
    · unfold f_L_plain
      rw [if_neg (by decide), if_neg (by decide), if_neg (by decide), if_neg (by decide), if_neg (by decide), if_pos (by rfl), nm_eq, eD]
  · have eD : f_X6_endDays B x2 = dd (f_X3_endDaysFault 0 B x2) (fun C => f_X3_passDays 0 C x2) B := rfl
    refine fin _ z6.2.2 ?_ ?_
    · exact ⟨fun h9 => absurd h9 (by decide), fun _ => ⟨fun h9 => absurd h9 (by decide), fun _ => ⟨fun h9 => absurd h9 (by decide), fun _ => ⟨fun h9 => absurd h9 (by decide), fun _ => ⟨fun h9 => absurd h9 (by decide), fun _ => ⟨fun h9 => absurd h9 (by decide), fun _ => ⟨fun _ => z6.2.1, fun h9 => absurd rfl h9⟩⟩⟩⟩⟩⟩⟩
    · unfold f_L_plain
      rw [if_neg (by decide), if_neg (by decide), if_neg (by decide), if_neg (by decide), if_neg (by decide), if_neg (by decide), if_pos (by rfl), nm_eq, eD]
