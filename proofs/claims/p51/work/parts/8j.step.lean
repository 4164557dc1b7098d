/-! the pure part: a charge, interest, a transfer: one step of the end of a day -/
def gvR (R : Nat → Int32) (i : Nat) (l d : Int32) : Nat → Int32 := jw (ur (ur (ur R (13 + 4 * i) (R (13 + 4 * i) + -d)) 4 (ur R (13 + 4 * i) (R (13 + 4 * i) + -d) 4 + d)) 9 (ur (ur R (13 + 4 * i) (R (13 + 4 * i) + -d)) 4 (ur R (13 + 4 * i) (R (13 + 4 * i) + -d) 4 + d) 9 + d)) l d (Int32.ofNat i)
def gvN (R : Nat → Int32) (i : Nat) (l d : Int32) : Nat → Int32 := if d ≤ 0 then R else gvR R i l d
theorem giv_R {M : StM} {R : Nat → Int32} {i : Nat} (l d : Int32) (hi : i < 8) : f_X7_gives (rs M R) (Int32.ofNat i) l d = rs M (gvN R i l d) ∧ ok_X7_gives (rs M R) (Int32.ofNat i) l d := by
  by_cases h : d ≤ 0
  · refine ⟨?_, fun _ => trivial, fun h9 => absurd h h9⟩
    unfold f_X7_gives gvN
    rw [if_pos h, if_pos h]
  · have e1 := chg_R (R := R) (M := M) (d := -d) hi
    refine ⟨?_, fun h9 => absurd h9 h, fun _ => ⟨e1.2, ?_⟩⟩
    · unfold gvN
      simp only [f_X7_gives, if_neg h, nm_eq, e1.1, ixl, ma_rs0, sma_rs, (wri_R _ _ _ _ _).1]
      rfl
    · rintro _ rfl
      rintro _ rfl
      rintro _ rfl
      rw [e1.1]
      simp only [sma_rs]
      exact (wri_R _ _ _ _ _).2
theorem gvN_at (R : Nat → Int32) (i : Nat) (l d : Int32) (hi : i < 8) (hd : 0 ≤ d.toInt) : (∀ j, j < 94 → j ≠ 13 + 4 * i → j ≠ 4 → j ≠ 9 → j ≠ 11 → gvN R i l d j = R j) ∧ gvN R i l d (13 + 4 * i) = R (13 + 4 * i) + -d ∧ gvN R i l d 9 = R 9 + d := by
  unfold gvN
  by_cases h : d ≤ 0
  · have h0 : d = 0 := by
      rw [i32_le] at h
      rw [i32_inj]
      have := lit.1
      omega
    subst h0
    rw [if_pos h]
    refine ⟨fun _ _ _ _ _ _ => rfl, ?_, ?_⟩
    · rw [show (-(0 : Int32)) = 0 by decide, Int32.add_zero]
    · rw [Int32.add_zero]
  · rw [if_neg h]
    refine ⟨fun j a1 a2 a3 a4 a5 => ?_, ?_, ?_⟩
    · simp only [gvR, jw, ur]
      grind
    · simp only [gvR, jw, ur]
      grind
    · simp only [gvR, jw, ur]
      grind
theorem gv_RB {e D n t m a a' i : Nat} {R : Nat → Int32} {l d : Int32} (h : RB e D n t m a R) (hi : i < n) (haa : a ≤ a') (h8 : a' ≤ 8) (hd : 0 ≤ d.toInt) (hd2 : d.toInt ≤ (R (13 + 4 * i)).toInt + (R (14 + 4 * i)).toInt) (h9 : (R 9).toInt + d.toInt + 3 * (t : Int) ≤ 3 * (R 2).toInt + 160 * (R 0).toInt + 20 * (a' : Int)) : RB e D n t m a' (gvN R i l d) := by
  have hA := h.1
  have hS := h.2.2
  have hn : n ≤ 8 := hA.1
  have b := bA_at hA hi
  unfold bS at hS
  obtain ⟨g1, g2, g3⟩ := gvN_at R i l d (by omega) hd
  have hb : (R (13 + 4 * i)).toInt ≤ 100000000 := by
    have b8 := b.2.2.2.2.2.2.2
    split at b8 <;> omega
  have vd : (-d).toInt = -d.toInt := i32_neg (by omega)
  have v1 : (R (13 + 4 * i) + -d).toInt = (R (13 + 4 * i)).toInt - d.toInt := by
    rw [i32_add (by omega) (by omega), vd]
    omega
  have v9 : (R 9 + d).toInt = (R 9).toInt + d.toInt := i32_add (by omega) (by omega)
  refine RB_acc h hi haa (g1 0 (by omega) (by omega) (by omega) (by omega) (by omega)) (g1 1 (by omega) (by omega) (by omega) (by omega) (by omega)) (g1 2 (by omega) (by omega) (by omega) (by omega) (by omega)) (g1 3 (by omega) (by omega) (by omega) (by omega) (by omega)) (fun j a1 a2 => g1 j a2 (by omega) (by omega) (by omega) (by omega)) (fun j a1 a2 a3 a4 a5 => g1 j (by omega) a3 (by omega) (by omega) (by omega)) ?_ ?_
  · rw [g2, g1 (14 + 4 * i) (by omega) (by omega) (by omega) (by omega) (by omega), g1 (15 + 4 * i) (by omega) (by omega) (by omega) (by omega) (by omega), v1]
    refine ⟨b.2.2.1, b.2.2.2.1, b.2.2.2.2.1, b.2.2.2.2.2.1, by omega, ?_⟩
    have b8 := b.2.2.2.2.2.2.2
    split at b8 <;> split <;> omega
  · unfold bS
    rw [g1 0 (by omega) (by omega) (by omega) (by omega) (by omega), g1 2 (by omega) (by omega) (by omega) (by omega) (by omega), g1 5 (by omega) (by omega) (by omega) (by omega) (by omega), g1 6 (by omega) (by omega) (by omega) (by omega) (by omega), g1 7 (by omega) (by omega) (by omega) (by omega) (by omega), g1 8 (by omega) (by omega) (by omega) (by omega) (by omega), g3, v9]
    omega
/-- the class collects -/
theorem coll {f n s kp c p i : Nat} {B : StB} {R : Nat → Int32} {kd amt d : Int32} (hT : Ti f n s kp c B p R) (hi : i < n) (hk : jk kd) (hd0 : 0 ≤ d.toInt) (hd : mn amt (R (13 + 4 * i) + R (14 + 4 * i)) = d) (h9a : 0 ≤ (R 9).toInt) (h9b : (R 9).toInt + d.toInt < 2147483648) : Ti f n s kp c (f_X3_collect p B kd amt (Int32.ofNat i)) p (gvN R i kd d) ∧ ok_X3_collect p B kd amt (Int32.ofNat i) ∧ Fr p B (f_X3_collect p B kd amt (Int32.ofNat i)) := by
  have hn := (Ti_n hT).2.2
  obtain ⟨av, oav⟩ := av_C hT hi
  have hx : ix (Int32.ofNat i) = i := ix_o (by omega)
  have hv : vp_in (Int32.ofNat i) 8 := in_o (by omega) (by omega)
  have ef : f_X3_collect p B kd amt (Int32.ofNat i) = f_X2_add (p + 12) (sbl (sbi (sba B (p + 3) i (ba B (p + 3) i + -d)) p 4 (bi (sba B (p + 3) i (ba B (p + 3) i + -d)) p 4 + d)) p 10 (bl (sbi (sba B (p + 3) i (ba B (p + 3) i + -d)) p 4 (bi (sba B (p + 3) i (ba B (p + 3) i + -d)) p 4 + d)) p 10 + d.toInt64)) kd d (Int32.ofNat i) := by
    simp only [f_X3_collect, nm_eq, av, hd, hx, Int32.sub_eq_add_neg]
  have eo : ok_X2_add (p + 12) (sbl (sbi (sba B (p + 3) i (ba B (p + 3) i + -d)) p 4 (bi (sba B (p + 3) i (ba B (p + 3) i + -d)) p 4 + d)) p 10 (bl (sbi (sba B (p + 3) i (ba B (p + 3) i + -d)) p 4 (bi (sba B (p + 3) i (ba B (p + 3) i + -d)) p 4 + d)) p 10 + d.toInt64)) kd d (Int32.ofNat i) → ok_X3_collect p B kd amt (Int32.ofNat i) := by
    intro ho
    refine ⟨oav, ?_⟩
    rintro _ rfl
    rintro _ rfl
    refine ⟨hv, hv, ?_⟩
    rintro _ rfl
    rintro _ rfl
    rintro _ rfl
    simp only [av, hd, hx, Int32.sub_eq_add_neg]
    exact ho
  by_cases h0 : d ≤ 0
  · have h0 : d = 0 := by
      rw [i32_le] at h0
      rw [i32_inj]
      have := lit.1
      omega
    subst h0
    have eB : sbl (sbi (sba B (p + 3) i (ba B (p + 3) i + -0)) p 4 (bi (sba B (p + 3) i (ba B (p + 3) i + -0)) p 4 + 0)) p 10 (bl (sbi (sba B (p + 3) i (ba B (p + 3) i + -0)) p 4 (bi (sba B (p + 3) i (ba B (p + 3) i + -0)) p 4 + 0)) p 10 + (0 : Int32).toInt64) = B := by
      rw [show (-(0 : Int32)) = 0 by decide, Int32.add_zero, sba_self, Int32.add_zero, sbi_self, show (0 : Int32).toInt64 = 0 by decide, Int64.add_zero, sbl_self]
    rw [eB] at ef eo
    have en : ¬ (1 : Int32) ≤ 0 := by decide
    have e2 : f_X2_add (p + 12) B kd 0 (Int32.ofNat i) = B := by
      unfold f_X2_add
      rw [if_neg en]
    rw [ef, e2]
    refine ⟨?_, eo ⟨fun h9 => absurd h9 en, fun _ => trivial⟩, Fr_r p B⟩
    unfold gvN
    rw [if_pos (by decide)]
    exact hT
  · have g1 : 1 ≤ d := by
      rw [i32_le] at h0 ⊢
      have := lit
      omega
    have e4 : ur (ur R (13 + 4 * i) (R (13 + 4 * i) + -d)) 4 (ur R (13 + 4 * i) (R (13 + 4 * i) + -d) 4 + d) 9 = R 9 := by
      rw [ur_ne _ _ (by omega), ur_ne _ _ (by omega)]
    have h1 := Ti_bal (-d) hT hi
    have h2 := Ti_bnk d h1
    have h3 := Ti_chg d h2 (by rw [e4]; omega) (by rw [e4]; omega)
    have h4 := Ti_jw (k := kd) (a := d) (u := Int32.ofNat i) h3 hk g1
    rw [ef]
    refine ⟨?_, eo h4.2.1, h4.2.2 B (Fr_l0 (Fr_i0 (Fr_a (Fr_r p B) 3 _ _ (by decide)) _ _) _ _)⟩
    unfold gvN
    rw [if_neg h0]
    exact h4.1
/-! interest -/
def inR (R : Nat → Int32) (i : Nat) (d : Int32) : Nat → Int32 := jw (ur (ur (ur R (13 + 4 * i) (R (13 + 4 * i) + d)) 4 (ur R (13 + 4 * i) (R (13 + 4 * i) + d) 4 - d)) 8 (ur (ur R (13 + 4 * i) (R (13 + 4 * i) + d)) 4 (ur R (13 + 4 * i) (R (13 + 4 * i) + d) 4 - d) 8 + d)) 105 d (Int32.ofNat i)
def gnR (R : Nat → Int32) (i : Nat) : Nat → Int32 := if ern R i ≤ 0 then gvN R i 99 (-ern R i) else inR R i (ern R i)
theorem gain_M {M : StM} {R : Nat → Int32} {n i : Nat} (h1 : R 1 = Int32.ofNat n) (hn : n ≤ 8) (hi : i < n) : f_X7_gains (rs M R) (Int32.ofNat i) = rs M (gnR R i) ∧ ok_X7_gains (rs M R) (Int32.ofNat i) := by
  obtain ⟨e, oe⟩ := ern_M (M := M) h1 hn hi
  have c := chg_R (R := R) (M := M) (i := i) (d := ern R i) (by omega)
  by_cases h : ern R i ≤ 0
  · have g := giv_R (M := M) (R := R) (i := i) 99 (-ern R i) (by omega)
    refine ⟨?_, oe, ?_⟩
    · unfold gnR
      simp only [f_X7_gains, f_X7_gains_J45, nm_eq, e, if_pos h, g.1]
    · rintro _ rfl
      rw [e]
      exact ⟨fun _ => g.2, fun h9 => absurd h h9⟩
  · have hn0 : -ern R i ≤ 0 := by
      rw [i32_le] at h ⊢
      have := lit.1
      have := i32_hi (ern R i)
      rw [i32_neg (by omega)]
      omega
    have gg : ∀ R', f_X7_gives (rs M R') (Int32.ofNat i) 99 (-ern R i) = rs M R' ∧ ok_X7_gives (rs M R') (Int32.ofNat i) 99 (-ern R i) := by
      intro R'
      have g := giv_R (M := M) (R := R') (i := i) 99 (-ern R i) (by omega)
      unfold gvN at g
      rw [if_pos hn0] at g
      exact g
    refine ⟨?_, oe, ?_⟩
    · unfold gnR
      simp only [f_X7_gains, f_X7_gains_J45, nm_eq, e, if_neg h, c.1, ixl, ma_rs0, sma_rs, (wri_R _ _ _ _ _).1, (gg _).1]
      rfl
    · rintro _ rfl
      rw [e]
      refine ⟨fun h9 => absurd h9 h, fun _ => ⟨c.2, ?_⟩⟩
      rintro _ rfl
      rintro _ rfl
      rintro _ rfl
      simp only [c.1, sma_rs]
      refine ⟨(wri_R _ _ _ _ _).2, ?_⟩
      rintro _ rfl
      rw [(wri_R _ _ _ _ _).1]
      exact (gg _).2
/-- the class's step -/
def gnB (p : Nat) (B : StB) (i : Nat) : StB := if 0 ≤ f_X0_interest (p + 1) B (Int32.ofNat i) then f_X2_add (p + 12) (sbl (sbi (sba B (p + 3) i (ba B (p + 3) i + f_X0_interest (p + 1) B (Int32.ofNat i))) p 4 (bi (sba B (p + 3) i (ba B (p + 3) i + f_X0_interest (p + 1) B (Int32.ofNat i))) p 4 - f_X0_interest (p + 1) B (Int32.ofNat i))) p 9 (bl (sbi (sba B (p + 3) i (ba B (p + 3) i + f_X0_interest (p + 1) B (Int32.ofNat i))) p 4 (bi (sba B (p + 3) i (ba B (p + 3) i + f_X0_interest (p + 1) B (Int32.ofNat i))) p 4 - f_X0_interest (p + 1) B (Int32.ofNat i))) p 9 + (f_X0_interest (p + 1) B (Int32.ofNat i)).toInt64)) 105 (f_X0_interest (p + 1) B (Int32.ofNat i)) (Int32.ofNat i) else f_X3_collect p B 99 (-f_X0_interest (p + 1) B (Int32.ofNat i)) (Int32.ofNat i)
theorem gain_C {e D f n s kp c p i t m : Nat} {B : StB} {R : Nat → Int32} (hT : Ti f n s kp c B p R) (hR : RB e D n t m i R) (hi : i < n) : Ti f n s kp c (gnB p B i) p (gnR R i) ∧ Fr p B (gnB p B i) ∧ RB e D n t m (i + 1) (gnR R i) ∧ (0 ≤ ern R i → ok_X2_add (p + 12) (sbl (sbi (sba B (p + 3) i (ba B (p + 3) i + ern R i)) p 4 (bi (sba B (p + 3) i (ba B (p + 3) i + ern R i)) p 4 - ern R i)) p 9 (bl (sbi (sba B (p + 3) i (ba B (p + 3) i + ern R i)) p 4 (bi (sba B (p + 3) i (ba B (p + 3) i + ern R i)) p 4 - ern R i)) p 9 + (ern R i).toInt64)) 105 (ern R i) (Int32.ofNat i)) ∧ (¬ 0 ≤ ern R i → ok_X3_collect p B 99 (-ern R i) (Int32.ofNat i)) := by
  have l := lit
  have hA := hR.1
  have hS := hR.2.2
  have hn : n ≤ 8 := hA.1
  have b := bA_at hA hi
  unfold bS at hS
  have hb : (R (13 + 4 * i)).toInt ≤ 100000000 := by
    have b8 := b.2.2.2.2.2.2.2
    split at b8 <;> omega
  obtain ⟨eE, oE⟩ := ern_C hT hA hi
  have bE := ern_b hA hi hb
  unfold gnB gnR
  rw [eE]
  by_cases hneg : 0 ≤ ern R i
  · rw [if_pos hneg]
    rw [i32_le] at hneg
    by_cases h0 : ern R i ≤ 0
    · have h0e : ern R i = 0 := by
        rw [i32_le] at h0
        rw [i32_inj]
        omega
      rw [h0e]
      have eB : sbl (sbi (sba B (p + 3) i (ba B (p + 3) i + 0)) p 4 (bi (sba B (p + 3) i (ba B (p + 3) i + 0)) p 4 - 0)) p 9 (bl (sbi (sba B (p + 3) i (ba B (p + 3) i + 0)) p 4 (bi (sba B (p + 3) i (ba B (p + 3) i + 0)) p 4 - 0)) p 9 + (0 : Int32).toInt64) = B := by
        rw [Int32.add_zero, sba_self, Int32.sub_zero, sbi_self, show (0 : Int32).toInt64 = 0 by decide, Int64.add_zero, sbl_self]
      have en : ¬ (1 : Int32) ≤ 0 := by decide
      have e2 : f_X2_add (p + 12) B 105 0 (Int32.ofNat i) = B := by
        unfold f_X2_add
        rw [if_neg en]
      rw [eB, e2, if_pos (by decide)]
      have e3 : gvN R i 99 (-0) = R := by
        unfold gvN
        rw [if_pos (by decide)]
      refine ⟨by rw [e3]; exact hT, Fr_r p B, ?_, fun _ => ⟨fun h9 => absurd h9 en, fun _ => trivial⟩, fun h9 => absurd (by decide) h9⟩
      exact gv_RB hR hi (by omega) (by omega) (by decide) (by rw [show (-(0 : Int32)).toInt = 0 by decide]; omega) (by rw [show (-(0 : Int32)).toInt = 0 by decide]; omega)
    · rw [if_neg h0]
      have g1 : 1 ≤ ern R i := by
        rw [i32_le] at h0 ⊢
        omega
      rw [i32_le] at h0
      have e4 : ur (ur R (13 + 4 * i) (R (13 + 4 * i) + ern R i)) 4 (ur R (13 + 4 * i) (R (13 + 4 * i) + ern R i) 4 - ern R i) 8 = R 8 := by
        rw [ur_ne _ _ (by omega), ur_ne _ _ (by omega)]
      have h1 := Ti_bal (ern R i) hT hi
      have h2 := Ti_bnkm (ern R i) h1
      have h3 := Ti_int (ern R i) h2 (by rw [e4]; omega) (by rw [e4]; omega)
      have h4 := Ti_jw (k := 105) (a := ern R i) (u := Int32.ofNat i) h3 (by unfold jk; simp) g1
      refine ⟨h4.1, h4.2.2 B (Fr_l0 (Fr_i0 (Fr_a (Fr_r p B) 3 _ _ (by decide)) _ _) _ _), ?_, fun _ => h4.2.1, fun h9 => absurd (i32_le.mpr (by omega)) h9⟩
      have v1 : (R (13 + 4 * i) + ern R i).toInt = (R (13 + 4 * i)).toInt + (ern R i).toInt := i32_add (by omega) (by omega)
      have v8 : (R 8 + ern R i).toInt = (R 8).toInt + (ern R i).toInt := i32_add (by omega) (by omega)
      have qn : ∀ j, j < 94 → j ≠ 13 + 4 * i → j ≠ 4 → j ≠ 8 → j ≠ 11 → inR R i (ern R i) j = R j := by
        intro j a1 a2 a3 a4 a5
        simp only [inR, jw, ur]
        grind
      have qb : inR R i (ern R i) (13 + 4 * i) = R (13 + 4 * i) + ern R i := by
        simp only [inR, jw, ur]
        grind
      have q8 : inR R i (ern R i) 8 = R 8 + ern R i := by
        simp only [inR, jw, ur]
        grind
      refine RB_acc hR hi (by omega) (qn 0 (by omega) (by omega) (by omega) (by omega) (by omega)) (qn 1 (by omega) (by omega) (by omega) (by omega) (by omega)) (qn 2 (by omega) (by omega) (by omega) (by omega) (by omega)) (qn 3 (by omega) (by omega) (by omega) (by omega) (by omega)) (fun j a1 a2 => qn j a2 (by omega) (by omega) (by omega) (by omega)) (fun j a1 a2 a3 a4 a5 => qn j (by omega) a3 (by omega) (by omega) (by omega)) ?_ ?_
      · rw [qb, qn (14 + 4 * i) (by omega) (by omega) (by omega) (by omega) (by omega), qn (15 + 4 * i) (by omega) (by omega) (by omega) (by omega) (by omega), v1]
        have b8 := b.2.2.2.2.2.2.2
        rw [if_neg (by omega)] at b8
        rw [if_pos (by omega)]
        exact ⟨b.2.2.1, b.2.2.2.1, b.2.2.2.2.1, b.2.2.2.2.2.1, by omega, by omega⟩
      · unfold bS
        rw [qn 0 (by omega) (by omega) (by omega) (by omega) (by omega), qn 2 (by omega) (by omega) (by omega) (by omega) (by omega), qn 5 (by omega) (by omega) (by omega) (by omega) (by omega), qn 6 (by omega) (by omega) (by omega) (by omega) (by omega), qn 7 (by omega) (by omega) (by omega) (by omega) (by omega), q8, qn 9 (by omega) (by omega) (by omega) (by omega) (by omega), v8]
        omega
  · rw [if_neg hneg]
    have hneg' := hneg
    rw [i32_le] at hneg
    rw [if_pos (by rw [i32_le]; omega)]
    have vn : (-ern R i).toInt = -(ern R i).toInt := i32_neg (by omega)
    have va : (R (13 + 4 * i) + R (14 + 4 * i)).toInt = (R (13 + 4 * i)).toInt + (R (14 + 4 * i)).toInt := i32_add (by omega) (by omega)
    have hd : mn (-ern R i) (R (13 + 4 * i) + R (14 + 4 * i)) = -ern R i := by
      unfold mn
      rw [if_neg (by rw [i32_lt, vn, va]; omega)]
    obtain ⟨c1, c2, c3⟩ := coll (kd := 99) hT hi (by unfold jk; simp) (by omega) hd (by omega) (by omega)
    exact ⟨c1, c3, gv_RB hR hi (by omega) (by omega) (by omega) (by omega) (by omega), fun h9 => absurd h9 hneg', fun _ => c2⟩
