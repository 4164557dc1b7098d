/-! the pure part: the invariant, history, modifications -/
theorem Ti_cong {n t p : Nat} {B : StB} {R R' : Nat → Int32} (h : Ti 0 n 0 0 t B p R) (hR : ∀ k, k < 124 → R' k = R k) : Ti 0 n 0 0 t B p R' := by
  obtain ⟨⟨a1, a2, a3, a4, a5, a6, a7⟩, ⟨t0, t1, t2, t3, t4, t5, t6, t7, t8⟩, ⟨L, w, j0, j1, j2, j3, j4, j8, j5, j6, j7⟩, ⟨s1, s2, s3, s4, s5, s6, s7, s8⟩⟩ := h
  refine ⟨⟨a1, by rw [hR _ (by omega)]; exact a2, a3, fun i hi => ?_, fun i hi => ?_, fun i hi => ?_, fun i hi => ?_⟩, ⟨t0, by rw [hR _ (by omega)]; exact t1, t2, t3, t4, t5, by rw [hR _ (by omega)]; exact t6, fun k hk => by omega, fun k hk => ?_⟩, ⟨L, w, j0, by rw [hR _ (by omega)]; exact j1, j2, j3, j4, fun r hr => ?_, fun r hr => ?_, fun r hr => ?_, fun r hr => ?_⟩, ?_⟩
  · rw [hR _ (by omega)]
    exact a4 i hi
  · rw [hR _ (by omega)]
    exact a5 i hi
  · rw [hR _ (by omega)]
    exact a6 i hi
  · rw [hR _ (by omega)]
    exact a7 i hi
  · rw [hR (44 + _) (by omega), hR (45 + _) (by omega), hR (46 + _) (by omega), hR (47 + _) (by omega), hR (48 + _) (by omega)]
    exact t8 k hk
  · rw [hR _ (by omega)]
    exact j8 r hr
  · rw [hR _ (by omega)]
    exact j5 r hr
  · rw [hR _ (by omega)]
    exact j6 r hr
  · rw [hR _ (by omega)]
    exact j7 r hr
  · unfold TiS
    rw [hR 0 (by omega), hR 4 (by omega), hR 10 (by omega), hR 5 (by omega), hR 6 (by omega), hR 7 (by omega), hR 8 (by omega), hR 9 (by omega)]
    exact ⟨s1, s2, s3, s4, s5, s6, s7, s8⟩
theorem RB_cong {e D n t m a : Nat} {R R' : Nat → Int32} (h : RB e D n t m a R) (hR : ∀ k, k < 124 → R' k = R k) : RB e D n t m a R' := by
  obtain ⟨⟨hn, hA1, hA⟩, ⟨t1, t2, t3, t4, t5⟩, hS⟩ := h
  refine ⟨⟨hn, by rw [hR _ (by omega)]; exact hA1, fun i hi => ?_⟩, ⟨t1, by rw [hR _ (by omega)]; exact t2, fun k hk => ?_, fun k hk hk2 => ?_, fun j k hj hk => ?_⟩, ?_⟩
  · rw [hR (12 + _) (by omega), hR (13 + _) (by omega), hR (14 + _) (by omega), hR (15 + _) (by omega), hR 0 (by omega), hR 2 (by omega)]
    exact hA i hi
  · rw [hR (44 + _) (by omega), hR (45 + _) (by omega), hR (46 + _) (by omega), hR (47 + _) (by omega), hR (48 + _) (by omega), hR 0 (by omega), hR 2 (by omega)]
    exact t3 k hk
  · rw [hR (48 + _) (by omega), hR 0 (by omega)]
    exact t4 k hk hk2
  · rw [hR (44 + 5 * j) (by omega), hR (44 + 5 * k) (by omega)]
    exact t5 j k hj hk
  · unfold bS at hS ⊢
    rw [hR 0 (by omega), hR 2 (by omega), hR 5 (by omega), hR 6 (by omega), hR 7 (by omega), hR 8 (by omega), hR 9 (by omega)]
    exact hS
theorem LR_cong {e p : Nat} {B : StB} {R R' : Nat → Int32} (h : LR e B p R) (hR : ∀ k, k < 124 → R' k = R k) : LR e B p R' := by
  obtain ⟨n, t, h1, h2⟩ := h
  exact ⟨n, t, Ti_cong h1 hR, RB_cong h2 hR⟩
theorem LR_mono {e e' p : Nat} {B : StB} {R : Nat → Int32} (h : LR e B p R) (he : e ≤ e') (h6 : e' ≤ 600) : LR e' B p R := by
  obtain ⟨n, t, h1, h2⟩ := h
  exact ⟨n, t, h1, RB_mono h2 he (by omega) h6 (by omega)⟩
theorem Ti_Fg {n t q lo hi : Nat} {B C : StB} {R : Nat → Int32} (h : Ti 0 n 0 0 t B q R) (g : Fg lo hi B C) (hq : q + 16 ≤ lo ∨ hi ≤ q) : Ti 0 n 0 0 t C q R := ⟨TiA_Fg h.1 g (by omega), TiT_Fg h.2.1 g (by omega), TiJ_Fg h.2.2.1 g (by omega), TiS_Fg h.2.2.2 g (by omega)⟩
theorem LR_Fg {e q lo hi : Nat} {B C : StB} {R : Nat → Int32} (h : LR e B q R) (g : Fg lo hi B C) (hq : q + 16 ≤ lo ∨ hi ≤ q) : LR e C q R := by
  obtain ⟨n, t, h1, h2⟩ := h
  exact ⟨n, t, Ti_Fg h1 g hq, h2⟩
theorem LR_copy {e p q : Nat} {B : StB} {R : Nat → Int32} (h : LR e B q R) (hpq : q + 16 ≤ p ∨ p + 16 ≤ q) : ok_X3_copyFrom p q B ∧ Fg p (p + 16) B (f_X3_copyFrom p q B) ∧ LR e (f_X3_copyFrom p q B) p R ∧ LR e (f_X3_copyFrom p q B) q R := by
  obtain ⟨n, t, h1, h2⟩ := h
  obtain ⟨c1, c2, c3⟩ := copy_C h1 h2.1 hpq
  exact ⟨c1, c2, ⟨n, t, c3, h2⟩, LR_Fg ⟨n, t, h1, h2⟩ c2 (by omega)⟩
/-- the saved one -/
def IvS (e : Nat) (B : StB) (M : StM) : Prop := (bi B 176 7 = 0 ∨ bi B 176 7 = 1) ∧ mi M 5 = bi B 176 7 ∧ (bi B 176 7 = 1 → LR e B 32 (ma M 3))
/-- the ones before -/
def IvH (e : Nat) (B : StB) (M : StM) : Prop := ∃ hl hn, hl ≤ 8 ∧ hn < 8 ∧ bi B 177 0 = Int32.ofNat hl ∧ mi M 6 = Int32.ofNat hl ∧ bi B 177 1 = Int32.ofNat hn ∧ ∀ r, r < hl → LR e B (48 + 16 * ((hn + 8 - r) % 8)) (fun k => ma M 4 (124 * (hl - 1 - r) + k))
/-- errors, and nothing watched -/
def IvE (B : StB) (M : StM) : Prop := mi M 7 = bi B 176 8 ∧ mi M 8 = bi B 176 9 ∧ -1 ≤ (bi B 176 8).toInt ∧ -1 ≤ (bi B 176 9).toInt ∧ mi M 9 = -1
/-- what is typed -/
def IvR (ty : Nat) (B : StB) (M : StM) : Prop := ty ≤ 60 ∧ bi B 179 1 = Int32.ofNat ty ∧ mi M 12 = Int32.ofNat ty ∧ ∀ k, k < ty → ba B 180 k = ma M 5 k ∧ 32 ≤ (ma M 5 k).toInt ∧ (ma M 5 k).toInt ≤ 126
/-- the statement -/
def IvT (B : StB) (M : StM) : Prop := ∃ sl, sl ≤ 16 ∧ bz B = 16 ∧ bi B 191 3 = Int32.ofNat sl ∧ mi M 14 = Int32.ofNat sl ∧ ∀ k, k < sl → ba B 192 k = ma M 6 k ∧ 0 ≤ (ma M 6 k).toInt ∧ (ma M 6 k).toInt ≤ 127
def Inv (u : Nat) (B : StB) (M : StM) : Prop := ∃ e ty, e + ty ≤ u ∧ u ≤ 512 ∧ LR e B 0 (ma M 0) ∧ IvS e B M ∧ IvH e B M ∧ IvE B M ∧ IvR ty B M ∧ IvT B M
/-! what a change leaves -/
theorem IvS_k {e e' : Nat} {B C : StB} {M N : StM} (h : IvS e B M) (he : e ≤ e') (h6 : e' ≤ 600) (h1 : bi C 176 7 = bi B 176 7) (h2 : mi N 5 = mi M 5) (h3 : ∀ k, k < 124 → ma N 3 k = ma M 3 k) (h4 : ∀ R, LR e B 32 R → LR e C 32 R) : IvS e' C N := by
  unfold IvS at h ⊢
  rw [h1, h2]
  exact ⟨h.1, h.2.1, fun h9 => LR_mono (LR_cong (h4 _ (h.2.2 h9)) h3) he h6⟩
theorem IvH_k {e e' : Nat} {B C : StB} {M N : StM} (h : IvH e B M) (he : e ≤ e') (h6 : e' ≤ 600) (h0 : bi C 177 0 = bi B 177 0) (h1 : bi C 177 1 = bi B 177 1) (h2 : mi N 6 = mi M 6) (h3 : ∀ k, k < 992 → ma N 4 k = ma M 4 k) (h4 : ∀ q R, 48 ≤ q → q + 16 ≤ 176 → LR e B q R → LR e C q R) : IvH e' C N := by
  obtain ⟨hl, hn, a1, a2, a3, a4, a5, a6⟩ := h
  refine ⟨hl, hn, a1, a2, h0.trans a3, h2.trans a4, h1.trans a5, fun r hr => ?_⟩
  exact LR_mono (LR_cong (h4 _ _ (by omega) (by omega) (a6 r hr)) (fun k hk => h3 _ (by omega))) he h6
theorem IvE_k {B C : StB} {M N : StM} (h : IvE B M) (h1 : bi C 176 8 = bi B 176 8) (h2 : bi C 176 9 = bi B 176 9) (h3 : mi N 7 = mi M 7) (h4 : mi N 8 = mi M 8) (h5 : mi N 9 = mi M 9) : IvE C N := by
  unfold IvE at h ⊢
  rw [h1, h2, h3, h4, h5]
  exact h
theorem IvR_k {ty : Nat} {B C : StB} {M N : StM} (h : IvR ty B M) (h1 : bi C 179 1 = bi B 179 1) (h2 : mi N 12 = mi M 12) (h3 : ∀ k, ba C 180 k = ba B 180 k) (h4 : ∀ k, k < 60 → ma N 5 k = ma M 5 k) : IvR ty C N := by
  obtain ⟨a1, a2, a3, a4⟩ := h
  refine ⟨a1, h1.trans a2, h2.trans a3, fun k hk => ?_⟩
  rw [h3, h4 k (by omega)]
  exact a4 k hk
theorem IvT_k {B C : StB} {M N : StM} (h : IvT B M) (h0 : bz C = bz B) (h1 : bi C 191 3 = bi B 191 3) (h2 : mi N 14 = mi M 14) (h3 : ∀ k, ba C 192 k = ba B 192 k) (h4 : ∀ k, k < 40 → ma N 6 k = ma M 6 k) : IvT C N := by
  obtain ⟨sl, a1, a2, a3, a4, a5⟩ := h
  refine ⟨sl, a1, h0.trans a2, h1.trans a3, h2.trans a4, fun k hk => ?_⟩
  rw [h3, h4 k (by omega)]
  exact a5 k hk
/-- a model that differs nowhere that it matters -/
theorem Inv_M {u u' : Nat} {B : StB} {M N : StM} (h : Inv u B M) (hu : u ≤ u') (hu2 : u' ≤ 512) (h0 : ∀ k, k < 124 → ma N 0 k = ma M 0 k) (hq : ∀ q k, 3 ≤ q → ma N q k = ma M q k) (hm : ∀ j, j ≠ 15 → j ≠ 10 → mi N j = mi M j) : Inv u' B N := by
  obtain ⟨e, ty, a1, a2, a3, a4, a5, a6, a7, a8⟩ := h
  exact ⟨e, ty, by omega, hu2, LR_cong a3 h0, IvS_k a4 (Nat.le_refl e) (by omega) rfl (hm 5 (by decide) (by decide)) (fun k _ => hq 3 k (by decide)) (fun _ h => h), IvH_k a5 (Nat.le_refl e) (by omega) rfl rfl (hm 6 (by decide) (by decide)) (fun k _ => hq 4 k (by decide)) (fun _ _ _ _ h => h), IvE_k a6 rfl rfl (hm 7 (by decide) (by decide)) (hm 8 (by decide) (by decide)) (hm 9 (by decide) (by decide)), IvR_k a7 rfl (hm 12 (by decide) (by decide)) (fun _ => rfl) (fun k _ => hq 5 k (by decide)), IvT_k a8 rfl rfl (hm 14 (by decide) (by decide)) (fun _ => rfl) (fun k _ => hq 6 k (by decide))⟩
/-- a model of which only the word of the latest call is another -/
theorem Inv_15 {u : Nat} {B : StB} {M : StM} (h : Inv u B M) (hu : u < 512) (v : Int32) : Inv (u + 1) B (smi M 15 v) := Inv_M h (by omega) (by omega) (fun _ _ => rfl) (fun _ _ _ => rfl) (fun j h1 _ => by rw [mi_smi, if_neg h1])
/-! history -/
theorem fmod8 {w : Nat} (h : w < 8) : f_J9_floorMod_7cf53 (Int32.ofNat w + 1) 8 = Int32.ofNat ((w + 1) % 8) ∧ f_J9_floorMod_7cf53 (Int32.ofNat w - 1) 8 = Int32.ofNat ((w + 7) % 8) := by
  have : ∀ w : Nat, w < 8 → f_J9_floorMod_7cf53 (Int32.ofNat w + 1) 8 = Int32.ofNat ((w + 1) % 8) ∧ f_J9_floorMod_7cf53 (Int32.ofNat w - 1) 8 = Int32.ofNat ((w + 7) % 8) := by decide +kernel
  exact this w h
theorem mn8 {L : Nat} (h : L ≤ 8) : mn (Int32.ofNat L + 1) 8 = Int32.ofNat (min (L + 1) 8) := by
  have : ∀ L : Nat, L < 9 → mn (Int32.ofNat L + 1) 8 = Int32.ofNat (min (L + 1) 8) := by decide +kernel
  exact this L (by omega)
/-- the class remembers -/
theorem rem_C {e hl hn : Nat} {B : StB} {R : Nat → Int32} (h : LR e B 0 R) (a1 : hl ≤ 8) (a2 : hn < 8) (a3 : bi B 177 0 = Int32.ofNat hl) (a5 : bi B 177 1 = Int32.ofNat hn) : ok_X1_remember 0 B ∧ LR e (f_X1_remember 0 B) (48 + 16 * ((hn + 1) % 8)) R ∧ (∀ n t, Ti 0 n 0 0 t B 0 R → Ti 0 n 0 0 t (f_X1_remember 0 B) 0 R) ∧ (∀ q Q, q + 16 ≤ 48 + 16 * ((hn + 1) % 8) ∨ 48 + 16 * ((hn + 1) % 8) + 16 ≤ q → q + 16 ≤ 177 → LR e B q Q → LR e (f_X1_remember 0 B) q Q) ∧ bi (f_X1_remember 0 B) 177 0 = Int32.ofNat (min (hl + 1) 8) ∧ bi (f_X1_remember 0 B) 177 1 = Int32.ofNat ((hn + 1) % 8) ∧ (∀ q k, (q = 176 ∨ 178 ≤ q) → bi (f_X1_remember 0 B) q k = bi B q k ∧ bl (f_X1_remember 0 B) q k = bl B q k ∧ ba (f_X1_remember 0 B) q k = ba B q k) ∧ bz (f_X1_remember 0 B) = bz B := by
  have hlt : (hn + 1) % 8 < 8 := Nat.mod_lt _ (by decide)
  generalize hw : (hn + 1) % 8 = w at hlt
  have hx : ix (Int32.ofNat w) = w := ix_o (by omega)
  have hv : vp_in (Int32.ofNat w) 8 := in_o hlt (by omega)
  have fm := (fmod8 a2).1
  rw [hw] at fm
  have b1 : bi (sbi B 177 1 (Int32.ofNat w)) 177 1 = Int32.ofNat w := by rw [bi_sbi, if_pos ⟨rfl, rfl⟩]
  have g1 : Fg 177 178 B (sbi B 177 1 (Int32.ofNat w)) := Fg_i (Fg_r _ _ B) _ _ (by omega) (by omega)
  have h1 : LR e (sbi B 177 1 (Int32.ofNat w)) 0 R := LR_Fg h g1 (by omega)
  obtain ⟨c1, c2, c3, c4⟩ := LR_copy h1 (p := 48 + 16 * w) (by omega)
  have ef : f_X1_remember 0 B = sbi (f_X3_copyFrom (48 + 16 * w) 0 (sbi B 177 1 (Int32.ofNat w))) 177 0 (Int32.ofNat (min (hl + 1) 8)) := by
    unfold f_X1_remember
    rw [nm_eq, a5, fm, nm_eq, nm_eq, b1, hx, nm_eq]
    have : bi (f_X3_copyFrom (48 + 16 * w) 0 (sbi B 177 1 (Int32.ofNat w))) 177 0 = Int32.ofNat hl := by
      rw [(c2.2 177 0 (by omega)).1, bi_sbi, if_neg (by omega)]
      exact a3
    rw [this, mn8 a1]
  have g3 : Fg 177 178 (f_X3_copyFrom (48 + 16 * w) 0 (sbi B 177 1 (Int32.ofNat w))) (f_X1_remember 0 B) := by
    rw [ef]
    exact Fg_i (Fg_r _ _ _) _ _ (by omega) (by omega)
  have far : ∀ q k, (q + 1 ≤ 48 + 16 * w ∨ 48 + 16 * w + 16 ≤ q) → q ≠ 177 → bi (f_X1_remember 0 B) q k = bi B q k ∧ bl (f_X1_remember 0 B) q k = bl B q k ∧ ba (f_X1_remember 0 B) q k = ba B q k := by
    intro q k h1 h2
    have z1 := g3.2 q k (by omega)
    have z2 := c2.2 q k (by omega)
    have z3 := g1.2 q k (by omega)
    exact ⟨z1.1.trans (z2.1.trans z3.1), z1.2.1.trans (z2.2.1.trans z3.2.1), z1.2.2.trans (z2.2.2.trans z3.2.2)⟩
  refine ⟨?_, LR_Fg c3 g3 (by omega), fun n t hh => Ti_Fg (Ti_Fg (Ti_Fg hh g1 (by omega)) c2 (by omega)) g3 (by omega), fun q Q h1 h2 hh => LR_Fg (LR_Fg (LR_Fg hh g1 (by omega)) c2 (by omega)) g3 (by omega), ?_, ?_, fun q k hq => far q k (by omega) (by omega), ?_⟩
  · refine ⟨by unfold ok_J9_floorMod_7cf53; decide, ?_⟩
    rintro _ rfl
    rintro _ rfl
    rw [a5, fm, b1, hx]
    exact ⟨hv, c1⟩
  · rw [ef, bi_sbi, if_pos ⟨rfl, rfl⟩]
  · rw [ef, bi_sbi, if_neg (by omega), (c2.2 177 1 (by omega)).1]
    exact b1
  · exact g3.1.trans (c2.1.trans g1.1)
/-! the model remembers -/
theorem ma_mcp (M : StM) (i a j b t q k : Nat) : ma (mcp M i a j b t) q k = if q = j ∧ b ≤ k ∧ k < b + t then ma M i (a + (k - b)) else ma M q k := rfl
theorem mi_mcp (M : StM) (i a j b t k : Nat) : mi (mcp M i a j b t) k = mi M k := rfl
def msh (M : StM) (t : Nat) : StM := (M.1, fun q k => if q = 4 ∧ k < t then M.2 4 (k + 124) else M.2 q k)
theorem L_sh (M : StM) : ∀ n t, t ≤ 868 → 868 < n + t → f_X7_remembers_L11 n (msh M t) (Int32.ofNat t) = msh M 868 ∧ ok_X7_remembers_L11 n (msh M t) (Int32.ofNat t) := by
  intro n
  induction n with
  | zero => intro t h1 h2; omega
  | succ n ih =>
    intro t h1 h2
    have e1 : ((868 : Int32) ≤ Int32.ofNat t) ↔ 868 ≤ t := le_ofN (a := 868) (by decide) (by omega)
    by_cases h : 868 ≤ t
    · have : t = 868 := by omega
      subst this
      refine ⟨?_, ?_⟩
      · unfold f_X7_remembers_L11
        rw [if_pos (e1.mpr h)]
      · unfold ok_X7_remembers_L11
        exact ⟨fun _ => trivial, fun h9 => absurd (e1.mpr h) h9⟩
    · obtain ⟨g1, g2⟩ := ih (t + 1) (by omega) (by omega)
      have o1 : Int32.ofNat t + 124 = Int32.ofNat (t + 124) := (Int32.ofNat_add t 124).symm
      have e2 : sma (msh M t) 4 (ix (Int32.ofNat t)) (ma (msh M t) 4 (ix (Int32.ofNat t + 124))) = msh M (t + 1) := by
        rw [o1, ix_o (by omega), ix_o (by omega)]
        have : ma (msh M t) 4 (t + 124) = M.2 4 (t + 124) := if_neg (by omega)
        rw [this]
        refine Prod.ext rfl (funext fun q => funext fun k => ?_)
        show (if q = 4 ∧ k = t then M.2 4 (t + 124) else (if q = 4 ∧ k < t then M.2 4 (k + 124) else M.2 q k)) = (if q = 4 ∧ k < t + 1 then M.2 4 (k + 124) else M.2 q k)
        by_cases hk : q = 4 ∧ k = t
        · rw [if_pos hk, if_pos (by omega), hk.2]
        · rw [if_neg hk]
          by_cases hk2 : q = 4 ∧ k < t
          · rw [if_pos hk2, if_pos (by omega)]
          · rw [if_neg hk2, if_neg (by omega)]
      refine ⟨?_, ?_⟩
      · unfold f_X7_remembers_L11
        rw [if_neg (fun h9 => h (e1.mp h9)), nm_eq, e2, oad1]
        exact g1
      · unfold ok_X7_remembers_L11
        refine ⟨fun _ => trivial, fun _ => ?_⟩
        rw [o1]
        refine ⟨in_o (by omega) (by omega), in_o (by omega) (by omega), ?_⟩
        rintro _ rfl
        rw [← o1, e2, oad1]
        exact g2
theorem remJ (M : StM) (hl : Nat) (h : hl < 8) (h6 : mi M 6 = Int32.ofNat hl) : f_X7_remembers_J49 M = smi (mcp M 1 0 4 (hl * 124) 124) 6 (Int32.ofNat (hl + 1)) ∧ ok_X7_remembers_J49 M := by
  have e : mi M 6 * 124 = Int32.ofNat (hl * 124) := by
    rw [h6, Int32.ofNat_mul]
    rfl
  have z0 : (0 : Int32) = Int32.ofNat 0 := rfl
  have F := F_copies_M1_M4 M 0 (hl * 124) (by omega) (by omega)
  refine ⟨?_, ?_⟩
  · unfold f_X7_remembers_J49
    rw [nm_eq, e, z0, F.1, nm_eq, mi_mcp, h6, oad1]
  · unfold ok_X7_remembers_J49
    rw [e, z0]
    exact F.2
theorem remb_M (M : StM) (hl : Nat) (h : hl ≤ 8) (h6 : mi M 6 = Int32.ofNat hl) : ok_X7_remembers M ∧ mi (f_X7_remembers M) 6 = Int32.ofNat (min (hl + 1) 8) ∧ (∀ j, j ≠ 6 → mi (f_X7_remembers M) j = mi M j) ∧ (∀ q k, q ≠ 4 → ma (f_X7_remembers M) q k = ma M q k) ∧ (∀ k, k < 124 → ma (f_X7_remembers M) 4 (124 * (min (hl + 1) 8 - 1) + k) = ma M 1 k) ∧ (∀ j k, j + 1 < min (hl + 1) 8 → k < 124 → ma (f_X7_remembers M) 4 (124 * j + k) = ma M 4 (124 * (j + (if hl = 8 then 1 else 0)) + k)) := by
  have e8 : (mi M 6 = 8) ↔ hl = 8 := by
    rw [h6, show (8 : Int32) = Int32.ofNat 8 from rfl, ofN_inj (by omega) (by omega)]
  by_cases hh : hl = 8
  · have hfu : 868 < fu + 0 := by unfold fu; omega
    have L := L_sh M fu 0 (by omega) hfu
    clear hfu
    have m0 : msh M 0 = M := by
      refine Prod.ext rfl (funext fun q => funext fun k => ?_)
      show (if q = 4 ∧ k < 0 then _ else M.2 q k) = M.2 q k
      rw [if_neg (by omega)]
    rw [m0, show Int32.ofNat 0 = 0 from rfl] at L
    have hs6 : mi (msh M 868) 6 = Int32.ofNat 8 := by
      show mi M 6 = _
      rw [h6, hh]
    have J := remJ (smi (msh M 868) 6 (Int32.ofNat 7)) 7 (by decide) (by rw [mi_smi, if_pos rfl])
    have ef : f_X7_remembers M = smi (mcp (smi (msh M 868) 6 (Int32.ofNat 7)) 1 0 4 (7 * 124) 124) 6 (Int32.ofNat (7 + 1)) := by
      unfold f_X7_remembers
      rw [if_pos (e8.mpr hh), nm_eq, L.1, nm_eq, hs6, osu1 (by omega)]
      exact J.1
    have em : min (hl + 1) 8 = 8 := by omega
    rw [ef, em]
    refine ⟨?_, ?_, fun j hj => ?_, fun q k hq => ?_, fun k hk => ?_, fun j k hj hk => ?_⟩
    · refine ⟨fun _ => ⟨L.2, ?_⟩, fun h9 => absurd (e8.mpr hh) h9⟩
      intro z hz
      rw [hz, L.1]
      intro z2 hz2
      rw [hz2, hs6, osu1 (by omega)]
      exact J.2
    · rw [mi_smi, if_pos rfl]
    · rw [mi_smi, if_neg hj, mi_mcp, mi_smi, if_neg hj]
      rfl
    · rw [ma_smi, ma_mcp, if_neg (fun h => hq h.1), ma_smi]
      show (if q = 4 ∧ k < 868 then _ else M.2 q k) = _
      rw [if_neg (fun h => hq h.1)]
      rfl
    · rw [ma_smi, ma_mcp, if_pos (by omega), ma_smi]
      have e1 : ∀ x, ma (msh M 868) 1 x = ma M 1 x := fun x => by
        show (if (1 : Nat) = 4 ∧ x < 868 then M.2 4 (x + 124) else M.2 1 x) = M.2 1 x
        rw [if_neg (by omega)]
      rw [e1]
      exact congrArg (ma M 1) (by omega)
    · rw [ma_smi, ma_mcp, if_neg (by omega), ma_smi, if_pos hh]
      show (if 4 = 4 ∧ 124 * j + k < 868 then M.2 4 (124 * j + k + 124) else _) = M.2 4 _
      rw [if_pos (by omega)]
      exact congrArg (M.2 4) (by omega)
  · have J := remJ M hl (by omega) h6
    have ef : f_X7_remembers M = smi (mcp M 1 0 4 (hl * 124) 124) 6 (Int32.ofNat (hl + 1)) := by
      unfold f_X7_remembers
      rw [if_neg (mt e8.mp hh)]
      exact J.1
    have em : min (hl + 1) 8 = hl + 1 := by omega
    rw [ef, em]
    refine ⟨?_, ?_, fun j hj => ?_, fun q k hq => ?_, fun k hk => ?_, fun j k hj hk => ?_⟩
    · exact ⟨fun h9 => absurd (e8.mp h9) hh, fun _ => J.2⟩
    · rw [mi_smi, if_pos rfl]
    · rw [mi_smi, if_neg hj, mi_mcp]
    · rw [ma_smi, ma_mcp, if_neg (fun h => hq h.1)]
    · rw [ma_smi, ma_mcp, if_pos (by omega)]
      exact congrArg (ma M 1) (by omega)
    · rw [ma_smi, ma_mcp, if_neg (by omega), if_neg hh]
      exact congrArg (ma M 4) (by omega)
theorem beg_M (M : StM) : f_X7_begins M = mcp M 0 0 1 0 124 ∧ ok_X7_begins M ∧ f_X7_begins M = rs (f_X7_begins M) (ma M 0) := by
  have F := F_copies_M0_M1 M 0 0 (by omega) (by omega)
  have e : f_X7_begins M = mcp M 0 0 1 0 124 := by
    unfold f_X7_begins
    rw [nm_eq]
    exact F.1
  refine ⟨e, F.2, ?_⟩
  have : ma M 0 = ma (f_X7_begins M) 0 := by
    funext k
    rw [e, ma_mcp, if_neg (by omega)]
  rw [this, rs_self]
