/-! the pure part: programs, read by the model -/
def RdM (T : Nat → Int32) (ty : Nat) (M : StM) (s : Nat) : Prop := ty ≤ 60 ∧ s ≤ ty ∧ mi M 16 = Int32.ofNat ty ∧ mi M 17 = Int32.ofNat s ∧ mi M 18 = -1 ∧ ∀ k, k < ty → ma M 5 k = T k
theorem RdM_p {T : Nat → Int32} {ty s s' : Nat} {M : StM} (h : RdM T ty M s) (hs : s' ≤ ty) : RdM T ty (smi M 17 (Int32.ofNat s')) s' := by
  obtain ⟨a1, a2, a3, a4, a5, a6⟩ := h
  refine ⟨a1, hs, ?_, ?_, ?_, fun k hk => a6 k hk⟩
  · rw [mi_smi, if_neg (by decide)]
    exact a3
  · rw [mi_smi, if_pos rfl]
  · rw [mi_smi, if_neg (by decide)]
    exact a5
theorem ne1 {s : Nat} (h : s < 100) : ¬ Int32.ofNat s = -1 := ne_m1 h
/-- behind an error nothing is read -/
theorem rdE {M : StM} (lo hi : Int32) (h : ¬ mi M 18 = -1) : f_X7_reads M lo hi = (0, M) ∧ ok_X7_reads M lo hi := by
  refine ⟨?_, fun h9 => absurd h9 h, fun _ => trivial⟩
  unfold f_X7_reads
  rw [if_neg h]
  unfold f_X7_reads_J44
  rw [if_neg h, nm_eq, smi_self]
theorem rdM {T : Nat → Int32} {ty s : Nat} {M : StM} (lo hi : Int32) (hlo : 0 ≤ lo.toInt) (h : RdM T ty M s) : ok_X7_reads M lo hi ∧ ((s < ty ∧ lo.toInt ≤ (T s).toInt ∧ (T s).toInt ≤ hi.toInt) → f_X7_reads M lo hi = (T s - lo, smi M 17 (Int32.ofNat (s + 1)))) ∧ (¬ (s < ty ∧ lo.toInt ≤ (T s).toInt ∧ (T s).toInt ≤ hi.toInt) → f_X7_reads M lo hi = (0, smi M 18 (Int32.ofNat s))) := by
  obtain ⟨a1, a2, a3, a4, a5, a6⟩ := h
  have hx : ix (Int32.ofNat s) = s := ix_o (by omega)
  have w : (mi M 16 ≤ mi M 17) ↔ ty ≤ s := by
    rw [a3, a4]
    exact le_ofN (by omega) (by omega)
  have m1 : (-1 : Int32).toInt = -1 := by decide
  have el : f_X7_letterHere M = if ty ≤ s then -1 else T s := by
    unfold f_X7_letterHere
    by_cases hs : ty ≤ s
    · rw [if_pos (w.mpr hs), if_pos hs]
    · rw [if_neg (mt w.mp hs), if_neg hs, a4, hx, a6 s (by omega)]
  have ol : ok_X7_letterHere M := by
    refine ⟨fun _ => trivial, fun h => ?_⟩
    rw [w] at h
    rw [a4]
    exact in_o (by omega) (by omega)
  have g17 : mi (smi M 17 (Int32.ofNat (s + 1))) 17 - 1 = Int32.ofNat s := by
    rw [mi_smi, if_pos rfl, osu1 (by omega)]
    rfl
  refine ⟨⟨fun _ => ⟨ol, ?_⟩, fun h9 => absurd a5 h9⟩, fun h => ?_, fun h => ?_⟩
  · intro r hr
    intro r2 hr2
    refine ⟨fun _ => trivial, fun hne => ?_⟩
    intro z hz
    rw [hz, a4, oad1, g17]
    have hs : ¬ ty ≤ s := by
      intro hs
      apply hne
      rw [hr2, hr, el, if_pos hs]
      exact isIn_0 (Or.inl (by rw [i32_lt, m1]; omega))
    exact in_o (by omega) (by omega)
  · have e1 : f_X7_isIn (f_X7_letterHere M) lo hi = 1 := by
      rw [el, if_neg (by omega)]
      exact isIn_1 (by rw [i32_lt]; omega) (by rw [i32_lt]; omega)
    unfold f_X7_reads
    rw [if_pos a5, nm_eq, nm_eq, e1, if_neg (by decide), nm_eq, a4, oad1, g17, hx]
    exact congrArg (fun v => (v - lo, smi M 17 (Int32.ofNat (s + 1)))) (a6 s h.1)
  · have e0 : f_X7_isIn (f_X7_letterHere M) lo hi = 0 := by
      rw [el]
      by_cases hs : ty ≤ s
      · rw [if_pos hs]
        exact isIn_0 (Or.inl (by rw [i32_lt, m1]; omega))
      · rw [if_neg hs]
        refine isIn_0 ?_
        rw [i32_lt, i32_lt]
        by_cases h1 : (T s).toInt < lo.toInt
        · exact Or.inl h1
        · exact Or.inr (by
            apply Int.not_le.mp
            intro h2
            exact h ⟨by omega, by omega, h2⟩)
    unfold f_X7_reads
    rw [if_pos a5, nm_eq, nm_eq, e0, if_pos rfl]
    unfold f_X7_reads_J44
    rw [if_pos a5, nm_eq, a4]
theorem dgE {M : StM} (h : ¬ mi M 18 = -1) : f_X7_digit M = (0, M) ∧ ok_X7_digit M := by
  refine ⟨?_, (rdE 48 57 h).2⟩
  unfold f_X7_digit
  rw [(rdE 48 57 h).1, nm_eq]
theorem mx0 {v : Int32} (h : 0 ≤ v.toInt) : mx v 0 = v := by
  unfold mx
  rw [if_neg (by rw [i32_lt]; have := lit.1; omega)]
theorem mxm (d : Int32) : mx (-1) 0 * 10 + d = d := by
  rw [show mx (-1) 0 = 0 by decide, Int32.zero_mul, Int32.zero_add]
theorem dgM {T : Nat → Int32} {ty s : Nat} {M : StM} (h : RdM T ty M s) : ok_X7_digit M ∧ ((s < ty ∧ 48 ≤ (T s).toInt ∧ (T s).toInt ≤ 57) → f_X7_digit M = (T s - 48, smi M 17 (Int32.ofNat (s + 1)))) ∧ (¬ (s < ty ∧ 48 ≤ (T s).toInt ∧ (T s).toInt ≤ 57) → f_X7_digit M = (0, smi M 18 (Int32.ofNat s))) := by
  have l48 : (48 : Int32).toInt = 48 := by decide
  have l57 : (57 : Int32).toInt = 57 := by decide
  obtain ⟨r1, r2, r3⟩ := rdM 48 57 (by decide) h
  rw [l48, l57] at r2 r3
  refine ⟨r1, fun hd => ?_, fun hd => ?_⟩
  · unfold f_X7_digit
    rw [r2 hd, nm_eq]
  · unfold f_X7_digit
    rw [r3 hd, nm_eq]
theorem L_numM {T : Nat → Int32} {ty : Nat} : ∀ (m n i s : Nat) (M : StM) (v : Int32), 1 ≤ i → i + m = 3 → m < n → RdM T ty M s → 0 ≤ v.toInt → v.toInt ≤ (if i ≤ 1 then 9 else if i = 2 then 99 else 999) → ok_X7_number_L7 n M v (Int32.ofNat i) ∧ f_X7_number_L7 n M v (Int32.ofNat i) = ((rnL T ty m s v).1, smi M 17 (Int32.ofNat (rnL T ty m s v).2)) ∧ 0 ≤ (rnL T ty m s v).1.toInt := by
  intro m
  induction m with
  | zero =>
    intro n i s M v hi1 hi hn h hv hv2
    obtain ⟨n, rfl⟩ : ∃ q, n = q + 1 := ⟨n - 1, by omega⟩
    have hi3 : i = 3 := by omega
    subst hi3
    have w : (3 : Int32) ≤ Int32.ofNat 3 := by decide
    refine ⟨⟨fun _ => trivial, fun h9 => absurd w h9⟩, ?_, hv⟩
    rw [f_X7_number_L7, if_pos w]
    show (v, M) = (v, smi M 17 (Int32.ofNat s))
    rw [← h.2.2.2.1, smi_self]
  | succ m ih =>
    intro n i s M v hi1 hi hn h hv hv2
    obtain ⟨n, rfl⟩ : ∃ q, n = q + 1 := ⟨n - 1, by omega⟩
    have w : ¬ (3 : Int32) ≤ Int32.ofNat i := by
      rw [show (3 : Int32) = Int32.ofNat 3 from rfl, le_ofN (by omega) (by omega)]
      omega
    obtain ⟨d0, d1, d2⟩ := dgM h
    obtain ⟨a1, a2, a3, a4, a5, a6⟩ := h
    have hx : ix (Int32.ofNat s) = s := ix_o (by omega)
    have w2 : (mi M 16 ≤ mi M 17) ↔ ty ≤ s := by
      rw [a3, a4]
      exact le_ofN (by omega) (by omega)
    have m1 : (-1 : Int32).toInt = -1 := by decide
    have l48 : (48 : Int32).toInt = 48 := by decide
    have l57 : (57 : Int32).toInt = 57 := by decide
    have l10 : (10 : Int32).toInt = 10 := by decide
    have el : f_X7_letterHere M = if ty ≤ s then -1 else T s := by
      unfold f_X7_letterHere
      by_cases hs : ty ≤ s
      · rw [if_pos (w2.mpr hs), if_pos hs]
      · rw [if_neg (mt w2.mp hs), if_neg hs, a4, hx, a6 s (by omega)]
    have ol : ok_X7_letterHere M := by
      refine ⟨fun _ => trivial, fun h => ?_⟩
      rw [w2] at h
      rw [a4]
      exact in_o (by omega) (by omega)
    by_cases hd : s < ty ∧ 48 ≤ (T s).toInt ∧ (T s).toInt ≤ 57
    · have e1 : f_X7_isIn (f_X7_letterHere M) 48 57 = 1 := by
        rw [el, if_neg (by omega)]
        exact isIn_1 (by rw [i32_lt]; omega) (by rw [i32_lt]; omega)
      have hR := RdM_p (s' := s + 1) ⟨a1, a2, a3, a4, a5, a6⟩ (by omega)
      have vb1 : v.toInt ≤ 99 := by
        split at hv2
        · omega
        · split at hv2
          · omega
          · omega
      have vt : (T s - 48).toInt = (T s).toInt - 48 := by rw [i32_sub (by omega) (by omega), l48]
      have v10 : (10 * v).toInt = 10 * v.toInt := by rw [i32_mul (by rw [l10]; omega) (by rw [l10]; omega), l10]
      have vn : (10 * v + (T s - 48)).toInt = 10 * v.toInt + ((T s).toInt - 48) := by rw [i32_add (by omega) (by omega), v10, vt]
      have eq : mx v 0 * 10 + (T s - 48) = 10 * v + (T s - 48) := by rw [mx0 hv, Int32.mul_comm]
      obtain ⟨r1, r2, r3⟩ := ih n (i + 1) (s + 1) (smi M 17 (Int32.ofNat (s + 1))) (10 * v + (T s - 48)) (by omega) (by omega) (by omega) hR (by omega) (by
        rw [vn]
        split at hv2
        · split
          · omega
          · split <;> omega
        · split
          · omega
          · split <;> omega)
      rw [rnL_1 hd, eq]
      rw [smi_smi] at r2
      refine ⟨⟨fun h9 => absurd h9 w, fun _ => ⟨fun _ => ⟨ol, ?_⟩, fun h9 => absurd a5 h9⟩⟩, ?_, r3⟩
      · intro r hr
        rw [hr]
        intro r' hr'
        rw [hr', e1]
        refine ⟨fun h9 => absurd h9 (by decide), fun _ => ⟨d0, ?_⟩⟩
        intro z hz
        rw [hz, d1 hd]
        intro z2 hz2
        rw [hz2, oad1]
        exact r1
      · rw [f_X7_number_L7, if_neg w, if_pos a5, nm_eq, nm_eq, e1, if_neg (by decide), nm_eq, d1 hd, nm_eq, oad1]
        exact r2
    · have e0 : f_X7_isIn (f_X7_letterHere M) 48 57 = 0 := by
        rw [el]
        by_cases hs : ty ≤ s
        · rw [if_pos hs]
          decide
        · rw [if_neg hs]
          refine isIn_0 ?_
          rw [i32_lt, i32_lt, l48, l57]
          omega
      rw [rnL_0 hd]
      refine ⟨⟨fun h9 => absurd h9 w, fun _ => ⟨fun _ => ⟨ol, ?_⟩, fun h9 => absurd a5 h9⟩⟩, ?_, hv⟩
      · intro r hr
        rw [hr]
        intro r' hr'
        rw [hr', e0]
        exact ⟨fun _ => trivial, fun h9 => absurd rfl h9⟩
      · rw [f_X7_number_L7, if_neg w, if_pos a5, nm_eq, nm_eq, e0, if_pos rfl]
        show (v, M) = (v, smi M 17 (Int32.ofNat s))
        rw [← a4, smi_self]
theorem L_numE {M : StM} {v : Int32} {n : Nat} (hn : 0 < n) (h : ¬ mi M 18 = -1) : f_X7_number_L7 n M v 1 = (v, M) ∧ ok_X7_number_L7 n M v 1 := by
  obtain ⟨n, rfl⟩ : ∃ q, n = q + 1 := ⟨n - 1, by omega⟩
  refine ⟨?_, fun _ => trivial, fun _ => ⟨fun h9 => absurd h9 h, fun _ => trivial⟩⟩
  rw [f_X7_number_L7, if_neg (by decide), if_neg h]
theorem nuE {M : StM} (h : ¬ mi M 18 = -1) : f_X7_number M = (0, M) ∧ ok_X7_number M := by
  have hfu : 0 < fu := by unfold fu; omega
  have L := L_numE (v := 0) hfu h
  refine ⟨?_, (dgE h).2, ?_⟩
  · unfold f_X7_number
    rw [nm_eq, (dgE h).1]
    show nm (f_X7_number_L7 fu M 0 1) _ = _
    rw [L.1, nm_eq]
  · intro z hz
    rw [hz, (dgE h).1]
    exact L.2
theorem nuM {T : Nat → Int32} {ty s : Nat} {M : StM} (h : RdM T ty M s) : ok_X7_number M ∧ (¬ (rnL T ty 3 s (-1)).1 < 0 → f_X7_number M = ((rnL T ty 3 s (-1)).1, smi M 17 (Int32.ofNat (rnL T ty 3 s (-1)).2))) ∧ ((rnL T ty 3 s (-1)).1 < 0 → f_X7_number M = (0, smi M 18 (Int32.ofNat s)) ∧ (rnL T ty 3 s (-1)).2 = s) := by
  obtain ⟨d0, d1, d2⟩ := dgM h
  have l48 : (48 : Int32).toInt = 48 := by decide
  have l0 := lit.1
  have hfu : 2 < fu := by unfold fu; omega
  by_cases hd : s < ty ∧ 48 ≤ (T s).toInt ∧ (T s).toInt ≤ 57
  · have hR := RdM_p (s' := s + 1) h (by omega)
    have vt : (T s - 48).toInt = (T s).toInt - 48 := by rw [i32_sub (by omega) (by omega), l48]
    obtain ⟨r1, r2, r3⟩ := L_numM 2 fu 1 (s + 1) (smi M 17 (Int32.ofNat (s + 1))) (T s - 48) (by omega) (by omega) hfu hR (by omega) (by rw [if_pos (by omega)]; omega)
    have e : rnL T ty 3 s (-1) = rnL T ty 2 (s + 1) (T s - 48) := by
      rw [rnL_1 hd, mxm]
    rw [e]
    rw [smi_smi] at r2
    have ef : f_X7_number M = ((rnL T ty 2 (s + 1) (T s - 48)).1, smi M 17 (Int32.ofNat (rnL T ty 2 (s + 1) (T s - 48)).2)) := by
      unfold f_X7_number
      rw [nm_eq, d1 hd]
      show nm (f_X7_number_L7 fu (smi M 17 (Int32.ofNat (s + 1))) (T s - 48) (Int32.ofNat 1)) _ = _
      rw [r2, nm_eq]
    refine ⟨⟨d0, ?_⟩, fun _ => ef, fun hneg => ?_⟩
    · intro z hz
      rw [hz, d1 hd]
      exact r1
    · rw [i32_lt] at hneg
      omega
  · have e : rnL T ty 3 s (-1) = (-1, s) := rnL_0 hd
    have h18 : ¬ mi (smi M 18 (Int32.ofNat s)) 18 = -1 := by
      rw [mi_smi, if_pos rfl]
      exact ne1 (by have := h.1; have := h.2.1; omega)
    have L := L_numE (v := 0) (n := fu) (by omega) h18
    rw [e]
    refine ⟨⟨d0, ?_⟩, fun hn => absurd (show (-1 : Int32) < 0 by decide) hn, fun _ => ⟨?_, rfl⟩⟩
    · intro z hz
      rw [hz, d2 hd]
      exact L.2
    · unfold f_X7_number
      rw [nm_eq, d2 hd]
      show nm (f_X7_number_L7 fu (smi M 18 (Int32.ofNat s)) 0 1) _ = _
      rw [L.1, nm_eq]
/-- a blank and a number -/
theorem nbE {M : StM} (h : ¬ mi M 18 = -1) : f_X7_numberBehindBlank M = (0, M) ∧ ok_X7_numberBehindBlank M := by
  refine ⟨?_, (rdE 32 32 h).2, ?_⟩
  · unfold f_X7_numberBehindBlank
    rw [nm_eq, (rdE 32 32 h).1, (nuE h).1, nm_eq]
  · intro z hz
    rw [hz, (rdE 32 32 h).1]
    exact (nuE h).2
/-- what rf says of a blank and a number at the end of what is read -/
theorem nbM {T : Nat → Int32} {ty s f : Nat} {M : StM} (cs : List Int32) (vs : Nat → Int32) (h : RdM T ty M s) : ok_X7_numberBehindBlank M ∧ ((∃ v s', f_X7_numberBehindBlank M = (v, smi M 17 (Int32.ofNat s')) ∧ s' ≤ ty ∧ rf T ty (32 :: 78 :: cs) s f vs = rf T ty cs s' (f + 1) (ur vs f v)) ∨ (∃ q M', q ≤ ty ∧ f_X7_numberBehindBlank M = (0, M') ∧ mi M' 18 = Int32.ofNat q ∧ (∀ j, j ≠ 17 → j ≠ 18 → mi M' j = mi M j) ∧ (∀ a k, ma M' a k = ma M a k) ∧ rf T ty (32 :: 78 :: cs) s f vs = (false, q, vs))) := by
  obtain ⟨r0, r1, r2⟩ := rdM 32 32 (by decide) h
  have l32 : (32 : Int32).toInt = 32 := by decide
  have hT := h.1
  have hs := h.2.1
  by_cases hb : s < ty ∧ T s = 32
  · have hb' : s < ty ∧ (32 : Int32).toInt ≤ (T s).toInt ∧ (T s).toInt ≤ (32 : Int32).toInt := by
      rw [hb.2]
      exact ⟨hb.1, Int.le_refl _, Int.le_refl _⟩
    have hR := RdM_p (s' := s + 1) h (by omega)
    obtain ⟨n0, n1, n2⟩ := nuM hR
    have erf : rf T ty (32 :: 78 :: cs) s f vs = if (rnL T ty 3 (s + 1) (-1)).1 < 0 then (false, (rnL T ty 3 (s + 1) (-1)).2, vs) else rf T ty cs (rnL T ty 3 (s + 1) (-1)).2 (f + 1) (ur vs f (rnL T ty 3 (s + 1) (-1)).1) := by
      rw [rf, if_neg (by decide), if_pos hb, rf, if_pos (Or.inr rfl)]
      rfl
    refine ⟨⟨r0, ?_⟩, ?_⟩
    · intro z hz
      rw [hz, r1 hb']
      exact n0
    · by_cases hneg : (rnL T ty 3 (s + 1) (-1)).1 < 0
      · right
        obtain ⟨e1, e2⟩ := n2 hneg
        refine ⟨s + 1, smi (smi M 17 (Int32.ofNat (s + 1))) 18 (Int32.ofNat (s + 1)), by omega, ?_, ?_, fun j h1 h2 => ?_, fun _ _ => rfl, ?_⟩
        · unfold f_X7_numberBehindBlank
          rw [nm_eq, r1 hb']
          show nm (f_X7_number (smi M 17 (Int32.ofNat (s + 1)))) _ = _
          rw [e1, nm_eq]
        · rw [mi_smi, if_pos rfl]
        · rw [mi_smi, if_neg h2, mi_smi, if_neg h1]
        · rw [erf, if_pos hneg, e2]
      · left
        have e1 := n1 hneg
        rw [smi_smi] at e1
        refine ⟨(rnL T ty 3 (s + 1) (-1)).1, (rnL T ty 3 (s + 1) (-1)).2, ?_, (rnL_le T ty 3 (s + 1) (-1) (by omega)).2, ?_⟩
        · unfold f_X7_numberBehindBlank
          rw [nm_eq, r1 hb']
          show nm (f_X7_number (smi M 17 (Int32.ofNat (s + 1)))) _ = _
          rw [e1, nm_eq]
        · rw [erf, if_neg hneg]
  · have hb' : ¬ (s < ty ∧ (32 : Int32).toInt ≤ (T s).toInt ∧ (T s).toInt ≤ (32 : Int32).toInt) := by
      rintro ⟨h1, h2, h3⟩
      exact hb ⟨h1, by rw [i32_inj]; omega⟩
    have h18 : ¬ mi (smi M 18 (Int32.ofNat s)) 18 = -1 := by
      rw [mi_smi, if_pos rfl]
      exact ne1 (by omega)
    refine ⟨⟨r0, ?_⟩, Or.inr ⟨s, smi M 18 (Int32.ofNat s), hs, ?_, ?_, fun j h1 h2 => ?_, fun _ _ => rfl, ?_⟩⟩
    · intro z hz
      rw [hz, r2 hb']
      exact (nuE h18).2
    · unfold f_X7_numberBehindBlank
      rw [nm_eq, r2 hb']
      show nm (f_X7_number (smi M 18 (Int32.ofNat s))) _ = _
      rw [(nuE h18).1, nm_eq]
    · rw [mi_smi, if_pos rfl]
    · rw [mi_smi, if_neg h2]
    · rw [rf, if_neg (by decide), if_neg hb]
