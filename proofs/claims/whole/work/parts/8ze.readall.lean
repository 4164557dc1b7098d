/-! the pure part: a command, a program, read by the model -/
def FM (c : Nat) (M M' : StM) : Prop := (∀ j, j ≠ 17 → j ≠ 18 → j ≠ 19 → mi M' j = mi M j) ∧ (∀ q k, q ≠ 7 → ma M' q k = ma M q k) ∧ (∀ k, (k < 5 * c ∨ 5 * c + 5 ≤ k) → ma M' 7 k = ma M 7 k)
theorem FM_r (c : Nat) (M : StM) : FM c M M := ⟨fun _ _ _ _ => rfl, fun _ _ _ => rfl, fun _ _ => rfl⟩
theorem FM_i {c : Nat} {M M' : StM} (h : FM c M M') (j : Nat) (v : Int32) (hj : j = 17 ∨ j = 18 ∨ j = 19) : FM c M (smi M' j v) := ⟨fun i h1 h2 h3 => by
  rw [mi_smi, if_neg (by omega)]
  exact h.1 i h1 h2 h3, h.2.1, h.2.2⟩
theorem FM_a {c : Nat} {M M' : StM} (h : FM c M M') (k : Nat) (v : Int32) (hk : 5 * c ≤ k ∧ k < 5 * c + 5) : FM c M (sma M' 7 k v) := ⟨h.1, fun q i hq => by
  rw [ma_sma, if_neg (by omega)]
  exact h.2.1 q i hq, fun i hi => by
  rw [ma_sma, if_neg (by omega)]
  exact h.2.2 i hi⟩
theorem RdM_a {T : Nat → Int32} {ty s : Nat} {M : StM} (h : RdM T ty M s) (k : Nat) (v : Int32) : RdM T ty (sma M 7 k v) s := ⟨h.1, h.2.1, h.2.2.1, h.2.2.2.1, h.2.2.2.2.1, fun i hi => by
  rw [ma_sma, if_neg (by omega)]
  exact h.2.2.2.2.2 i hi⟩
def PS (T : Nat → Int32) (ty c : Nat) (M0 : StM) (v : Nat) (full : Bool × Nat × (Nat → Int32)) (rest : List Int32) (f : Nat) (M : StM) : Prop := FM c M0 M ∧ ((∃ s vs, RdM T ty M s ∧ mi M 19 = Int32.ofNat (c + 1) ∧ ma M 7 (5 * c) = Int32.ofNat v ∧ (∀ j, j < f → ma M 7 (5 * c + 1 + j) = vs j) ∧ full = rf T ty rest s f vs) ∨ (∃ q, q ≤ 60 ∧ mi M 18 = Int32.ofNat q ∧ full.1 = false ∧ full.2.1 = q))
theorem PS_put {T : Nat → Int32} {ty c f s v : Nat} {M : StM} {x : Int32} {vs : Nat → Int32} (h : ∀ j, j < f → ma M 7 (5 * c + 1 + j) = vs j) (hv : ma M 7 (5 * c) = Int32.ofNat v) : (∀ j, j < f + 1 → ma (sma M 7 (5 * c + 1 + f) x) 7 (5 * c + 1 + j) = ur vs f x j) ∧ ma (sma M 7 (5 * c + 1 + f) x) 7 (5 * c) = Int32.ofNat v := by
  refine ⟨fun j hj => ?_, ?_⟩
  · rw [ma_sma, ur_ap]
    by_cases hjf : j = f
    · rw [if_pos ⟨rfl, by omega⟩, if_pos hjf]
    · rw [if_neg (by omega), if_neg hjf]
      exact h j (by omega)
  · rw [ma_sma, if_neg (by omega)]
    exact hv
theorem stepD {T : Nat → Int32} {ty c f v : Nat} {M0 M : StM} {full : Bool × Nat × (Nat → Int32)} {rest : List Int32} (h : PS T ty c M0 v full (68 :: rest) f M) (hf : f < 4) : ok_X7_digit M ∧ PS T ty c M0 v full rest (f + 1) (sma (f_X7_digit M).2 7 (5 * c + 1 + f) (f_X7_digit M).1) := by
  obtain ⟨hF, ⟨s, vs, h1, h2, h3, h4, h5⟩ | ⟨q, h1, h2, h3, h4⟩⟩ := h
  · obtain ⟨d0, d1, d2⟩ := dgM h1
    have hT := h1.1
    have hs := h1.2.1
    refine ⟨d0, ?_⟩
    have erf : rf T ty (68 :: rest) s f vs = if (rnL T ty 1 s (-1)).1 < 0 then (false, (rnL T ty 1 s (-1)).2, vs) else rf T ty rest (rnL T ty 1 s (-1)).2 (f + 1) (ur vs f (rnL T ty 1 s (-1)).1) := by
      rw [rf, if_pos (Or.inl rfl)]
      rfl
    by_cases hd : s < ty ∧ 48 ≤ (T s).toInt ∧ (T s).toInt ≤ 57
    · rw [d1 hd]
      have l48 : (48 : Int32).toInt = 48 := by decide
      have vt : (T s - 48).toInt = (T s).toInt - 48 := by rw [i32_sub (by omega) (by omega), l48]
      have e1 : rnL T ty 1 s (-1) = (T s - 48, s + 1) := by
        rw [rnL_1 hd, mxm]
        rfl
      have hneg : ¬ (T s - 48) < 0 := by
        rw [i32_lt]
        have := lit.1
        omega
      rw [e1] at erf
      have erf2 : rf T ty (68 :: rest) s f vs = rf T ty rest (s + 1) (f + 1) (ur vs f (T s - 48)) := by
        rw [erf]
        exact if_neg hneg
      have hp := PS_put (T := T) (ty := ty) (s := s) (x := T s - 48) (M := smi M 17 (Int32.ofNat (s + 1))) (c := c) (vs := vs) (fun j hj => h4 j hj) h3
      refine ⟨FM_a (FM_i hF 17 _ (Or.inl rfl)) _ _ (by omega), Or.inl ⟨s + 1, ur vs f (T s - 48), RdM_a (RdM_p h1 (by omega)) _ _, ?_, hp.2, hp.1, h5.trans erf2⟩⟩
      show mi (smi M 17 (Int32.ofNat (s + 1))) 19 = _
      rw [mi_smi, if_neg (by decide)]
      exact h2
    · rw [d2 hd]
      have e1 : rnL T ty 1 s (-1) = (-1, s) := rnL_0 hd
      rw [e1] at erf
      have erf2 : rf T ty (68 :: rest) s f vs = (false, s, vs) := by
        rw [erf]
        exact if_pos (show (-1 : Int32) < 0 by decide)
      refine ⟨FM_a (FM_i hF 18 _ (Or.inr (Or.inl rfl))) _ _ (by omega), Or.inr ⟨s, by omega, ?_, ?_, ?_⟩⟩
      · show mi (smi M 18 (Int32.ofNat s)) 18 = _
        rw [mi_smi, if_pos rfl]
      · rw [h5, erf2]
      · rw [h5, erf2]
  · have he := dgE (M := M) (by rw [h2]; exact ne1 (by omega))
    refine ⟨he.2, ?_⟩
    rw [he.1]
    exact ⟨FM_a hF _ _ (by omega), Or.inr ⟨q, h1, h2, h3, h4⟩⟩
theorem stepN {T : Nat → Int32} {ty c f v : Nat} {M0 M : StM} {full : Bool × Nat × (Nat → Int32)} {rest : List Int32} (h : PS T ty c M0 v full (78 :: rest) f M) (hf : f < 4) : ok_X7_number M ∧ PS T ty c M0 v full rest (f + 1) (sma (f_X7_number M).2 7 (5 * c + 1 + f) (f_X7_number M).1) := by
  obtain ⟨hF, ⟨s, vs, h1, h2, h3, h4, h5⟩ | ⟨q, h1, h2, h3, h4⟩⟩ := h
  · obtain ⟨d0, d1, d2⟩ := nuM h1
    have hT := h1.1
    have hs := h1.2.1
    refine ⟨d0, ?_⟩
    have erf : rf T ty (78 :: rest) s f vs = if (rnL T ty 3 s (-1)).1 < 0 then (false, (rnL T ty 3 s (-1)).2, vs) else rf T ty rest (rnL T ty 3 s (-1)).2 (f + 1) (ur vs f (rnL T ty 3 s (-1)).1) := by
      rw [rf, if_pos (Or.inr rfl)]
      rfl
    by_cases hneg : (rnL T ty 3 s (-1)).1 < 0
    · obtain ⟨e1, e2⟩ := d2 hneg
      rw [e1]
      rw [if_pos hneg, e2] at erf
      refine ⟨FM_a (FM_i hF 18 _ (Or.inr (Or.inl rfl))) _ _ (by omega), Or.inr ⟨s, by omega, ?_, ?_, ?_⟩⟩
      · show mi (smi M 18 (Int32.ofNat s)) 18 = _
        rw [mi_smi, if_pos rfl]
      · rw [h5, erf]
      · rw [h5, erf]
    · rw [d1 hneg]
      rw [if_neg hneg] at erf
      have hle := (rnL_le T ty 3 s (-1) hs).2
      generalize rnL T ty 3 s (-1) = D at erf hle
      have hp := PS_put (T := T) (ty := ty) (s := s) (x := D.1) (M := smi M 17 (Int32.ofNat D.2)) (c := c) (vs := vs) (fun j hj => h4 j hj) h3
      refine ⟨FM_a (FM_i hF 17 _ (Or.inl rfl)) _ _ (by omega), Or.inl ⟨D.2, ur vs f D.1, RdM_a (RdM_p h1 hle) _ _, ?_, hp.2, hp.1, h5.trans erf⟩⟩
      show mi (smi M 17 (Int32.ofNat D.2)) 19 = _
      rw [mi_smi, if_neg (by decide)]
      exact h2
  · have he := nuE (M := M) (by rw [h2]; exact ne1 (by omega))
    refine ⟨he.2, ?_⟩
    rw [he.1]
    exact ⟨FM_a hF _ _ (by omega), Or.inr ⟨q, h1, h2, h3, h4⟩⟩
theorem stepB {T : Nat → Int32} {ty c f v : Nat} {M0 M : StM} {full : Bool × Nat × (Nat → Int32)} {rest : List Int32} (h : PS T ty c M0 v full (32 :: 78 :: rest) f M) (hf : f < 4) : ok_X7_numberBehindBlank M ∧ PS T ty c M0 v full rest (f + 1) (sma (f_X7_numberBehindBlank M).2 7 (5 * c + 1 + f) (f_X7_numberBehindBlank M).1) := by
  obtain ⟨hF, ⟨s, vs, h1, h2, h3, h4, h5⟩ | ⟨q, h1, h2, h3, h4⟩⟩ := h
  · obtain ⟨n0, hh⟩ := nbM (f := f) rest vs h1
    have hT := h1.1
    refine ⟨n0, ?_⟩
    rcases hh with ⟨x, s', e1, e2, e3⟩ | ⟨q, M', q1, q2, q3, q4, q5, q6⟩
    · rw [e1]
      have hp := PS_put (T := T) (ty := ty) (s := s) (x := x) (M := smi M 17 (Int32.ofNat s')) (c := c) (vs := vs) (fun j hj => h4 j hj) h3
      refine ⟨FM_a (FM_i hF 17 _ (Or.inl rfl)) _ _ (by omega), Or.inl ⟨s', ur vs f x, RdM_a (RdM_p h1 e2) _ _, ?_, hp.2, hp.1, h5.trans e3⟩⟩
      show mi (smi M 17 (Int32.ofNat s')) 19 = _
      rw [mi_smi, if_neg (by decide)]
      exact h2
    · rw [q2]
      have hF2 : FM c M0 M' := ⟨fun j a1 a2 a3 => (q4 j a1 a2).trans (hF.1 j a1 a2 a3), fun a k ha => (q5 a k).trans (hF.2.1 a k ha), fun k hk => (q5 7 k).trans (hF.2.2 k hk)⟩
      exact ⟨FM_a hF2 _ _ (by omega), Or.inr ⟨q, by omega, q3, by rw [h5, q6], by rw [h5, q6]⟩⟩
  · have he := nbE (M := M) (by rw [h2]; exact ne1 (by omega))
    refine ⟨he.2, ?_⟩
    rw [he.1]
    exact ⟨FM_a hF _ _ (by omega), Or.inr ⟨q, h1, h2, h3, h4⟩⟩
theorem vb_in {c : Int32} {v : Nat} (h : vb c = some v) : (wd v).getD 0 0 = c ∧ v < 6 := by
  unfold vb at h
  by_cases h0 : c = 112
  · rw [if_pos h0] at h; cases h; exact ⟨h0.symm, by decide⟩
  rw [if_neg h0] at h
  by_cases h1 : c = 100
  · rw [if_pos h1] at h; cases h; exact ⟨h1.symm, by decide⟩
  rw [if_neg h1] at h
  by_cases h2 : c = 108
  · rw [if_pos h2] at h; cases h; exact ⟨h2.symm, by decide⟩
  rw [if_neg h2] at h
  by_cases h3 : c = 115
  · rw [if_pos h3] at h; cases h; exact ⟨h3.symm, by decide⟩
  rw [if_neg h3] at h
  by_cases h4 : c = 118
  · rw [if_pos h4] at h; cases h; exact ⟨h4.symm, by decide⟩
  rw [if_neg h4] at h
  by_cases h5 : c = 119
  · rw [if_pos h5] at h; cases h; exact ⟨h5.symm, by decide⟩
  rw [if_neg h5] at h
  cases h
theorem mtc_pos {T : Nat → Int32} {ty s v : Nat} (hs : s < ty) (hv : vb (T s) = some v) : 0 < mtc T ty s (wd v) := by
  obtain ⟨h1, h2⟩ := vb_in hv
  have h4 := (wd_f v h2).2.2.1
  cases hl : wd v with
  | nil => rw [hl] at h4; exact absurd h4 (by decide)
  | cons c cs =>
    rw [hl] at h1
    unfold mtc
    rw [if_pos ⟨hs, h1.symm⟩]
    omega
theorem pc_rf {T : Nat → Int32} {ty s v : Nat} (vs : Nat → Int32) (hs : s < ty) (hv : vb (T s) = some v) : pc T ty s vs = if mtc T ty s (wd v) = (wd v).length then rf T ty (tl v) (s + (wd v).length) 0 vs else (false, s + mtc T ty s (wd v), vs) := by
  have h := wd_f v (vb_in hv).2
  unfold pc
  rw [if_pos hs, hv]
  show rf T ty (kByt.getD (2 + v) []) s 0 vs = _
  rw [h.1, rf_word T ty (tl v) (wd v) s 0 vs h.2.1]
theorem pc_adv {T : Nat → Int32} {ty s : Nat} {vs : Nat → Int32} (h : (pc T ty s vs).1 = true) : s + 4 ≤ (pc T ty s vs).2.1 := by
  obtain ⟨hs, v, hv⟩ := pc_ok h
  have hw := wd_f v (vb_in hv).2
  have hm := mtc_le T ty (wd v) s
  rw [pc_rf vs hs hv] at h ⊢
  by_cases hf : mtc T ty s (wd v) = (wd v).length
  · rw [if_pos hf]
    have := (rf_le T ty (tl v) (s + (wd v).length) 0 vs (by have := hm.2 (by omega); omega)).1
    omega
  · rw [if_neg hf] at h
    exact absurd (show (false : Bool) = true from h) (by decide)
theorem kindM {T : Nat → Int32} {ty s : Nat} {M : StM} (h : RdM T ty M s) : ok_X7_kindHere M ∧ ((∃ v, s < ty ∧ vb (T s) = some v ∧ mtc T ty s (wd v) = (wd v).length ∧ f_X7_kindHere M = (Int32.ofNat v, smi M 17 (Int32.ofNat (s + (wd v).length)))) ∨ (∃ q, q ≤ ty ∧ f_X7_kindHere M = (-1, smi M 18 (Int32.ofNat q)) ∧ ∀ vs, pc T ty s vs = (false, q, vs))) := by
  have h' := h
  obtain ⟨a1, a2, a3, a4, a5, a6⟩ := h
  have hfu : 6 < fu := by unfold fu; omega
  obtain ⟨k0, k1, k2⟩ := L_kind h' 6 fu 0 s (by omega) hfu (Nat.le_refl s) (by omega)
  clear hfu
  have z0 : Int32.ofNat 0 = 0 := rfl
  rw [z0] at k0 k1 k2
  rw [← a4] at k0 k1 k2
  have e18 : smi M 18 (mi M 18) = M := smi_self M 18
  have jN : ∀ q : Int32, f_X7_kindHere_J121 M q (-1) = (-1, smi M 18 q) := by
    intro q
    unfold f_X7_kindHere_J121
    rw [if_pos rfl]
    unfold f_X7_kindHere_J135
    rw [nm_eq, if_pos rfl, nm_eq, Int32.add_zero, smi_self]
  have jV : ∀ (v : Nat) (q : Int32), v < 6 → f_X7_kindHere_J121 M q (Int32.ofNat v) = (Int32.ofNat v, smi M 17 (Int32.ofNat (s + (wd v).length))) := by
    intro v q hv
    obtain ⟨q1, q2, q3, q4, q5, q6, q7, q8, q9, q10⟩ := wd_f v hv
    have hne := ne1 (s := v) (by omega)
    unfold f_X7_kindHere_J121
    rw [if_neg hne]
    unfold f_X7_kindHere_J135
    rw [nm_eq, if_neg hne, nm_eq, nm_eq, nm_eq, e18, q9, q5, osub (by omega), a4, oadd, show s + (stw (v + 1) - stw v) = s + (wd v).length by omega]
  refine ⟨?_, ?_⟩
  · intro z hz
    rw [hz]
    exact k0
  · by_cases hex : ∃ v, v < 6 ∧ 0 < mtc T ty s (wd v)
    · obtain ⟨v, hv, hp⟩ := hex
      obtain ⟨hs, hvb⟩ := mtc_first hv hp
      have e := k2 v (Nat.zero_le v) hv hp rfl
      by_cases hfull : mtc T ty s (wd v) = (wd v).length
      · left
        refine ⟨v, hs, hvb, hfull, ?_⟩
        unfold f_X7_kindHere
        rw [nm_eq, e, nm_eq]
        show f_X7_kindHere_J121 M (Int32.ofNat (s + mtc T ty s (wd v))) (if mtc T ty s (wd v) = (wd v).length then Int32.ofNat v else -1) = _
        rw [if_pos hfull]
        exact jV v _ hv
      · right
        refine ⟨s + mtc T ty s (wd v), (mtc_le T ty (wd v) s).2 a2, ?_, fun vs => ?_⟩
        · unfold f_X7_kindHere
          rw [nm_eq, e, nm_eq]
          show f_X7_kindHere_J121 M (Int32.ofNat (s + mtc T ty s (wd v))) (if mtc T ty s (wd v) = (wd v).length then Int32.ofNat v else -1) = _
          rw [if_neg hfull]
          exact jN _
        · rw [pc_rf vs hs hvb, if_neg hfull]
    · have hz : ∀ v, 0 ≤ v → v < 6 → mtc T ty s (wd v) = 0 := fun v _ hv => Nat.eq_zero_of_not_pos (fun hp => hex ⟨v, hv, hp⟩)
      right
      refine ⟨s, a2, ?_, fun vs => ?_⟩
      · unfold f_X7_kindHere
        rw [nm_eq, k1 hz, nm_eq]
        show f_X7_kindHere_J121 M (mi M 17) (-1) = _
        rw [a4]
        exact jN _
      · unfold pc
        by_cases hs : s < ty
        · rw [if_pos hs]
          cases hv : vb (T s) with
          | none => rfl
          | some v => exact absurd (mtc_pos hs hv) (by rw [hz v (Nat.zero_le v) (vb_in hv).2]; decide)
        · rw [if_neg hs]
theorem cntv : ∀ v, v < 6 → cnt (kByt.getD (2 + v) []) = (if v < 3 then 2 else if v = 3 then 4 else 1) := by decide +kernel
theorem rcM {T : Nat → Int32} {ty s c : Nat} {M : StM} (h : RdM T ty M s) (hc : mi M 19 = Int32.ofNat c) (h5 : 5 * c + 4 < 150) : ok_X7_readsCommand M ∧ FM c M (f_X7_readsCommand M) ∧ ((∃ v s' vs', s < ty ∧ vb (T s) = some v ∧ RdM T ty (f_X7_readsCommand M) s' ∧ mi (f_X7_readsCommand M) 19 = Int32.ofNat (c + 1) ∧ ma (f_X7_readsCommand M) 7 (5 * c) = Int32.ofNat v ∧ (∀ j, j < cnt (kByt.getD (2 + v) []) → ma (f_X7_readsCommand M) 7 (5 * c + 1 + j) = vs' j) ∧ pc T ty s (fun _ => 0) = (true, s', vs')) ∨ (∃ q, q ≤ 60 ∧ mi (f_X7_readsCommand M) 18 = Int32.ofNat q ∧ (pc T ty s (fun _ => 0)).1 = false ∧ (pc T ty s (fun _ => 0)).2.1 = q)) := by
  have hty := h.1
  have hst := h.2.1
  obtain ⟨ko, kk⟩ := kindM h
  have e5 : 5 * mi M 19 = Int32.ofNat (5 * c) := by
    rw [hc, Int32.ofNat_mul]
    rfl
  have x0 : ix (Int32.ofNat (5 * c)) = 5 * c := ix_o (by omega)
  have x1 : ix (Int32.ofNat (5 * c) + 1) = 5 * c + 1 + 0 := by rw [oad1]; exact ix_o (by omega)
  have x2 : ix (Int32.ofNat (5 * c) + 2) = 5 * c + 1 + 1 := by rw [oad2]; exact ix_o (by omega)
  have x3 : ix (Int32.ofNat (5 * c) + 3) = 5 * c + 1 + 2 := by rw [oad3]; exact ix_o (by omega)
  have x4 : ix (Int32.ofNat (5 * c) + 4) = 5 * c + 1 + 3 := by rw [oad4]; exact ix_o (by omega)
  have v0 : vp_in (Int32.ofNat (5 * c)) 150 := in_o (by omega) (by omega)
  have v1 : vp_in (Int32.ofNat (5 * c) + 1) 150 := by rw [oad1]; exact in_o (by omega) (by omega)
  have v2 : vp_in (Int32.ofNat (5 * c) + 2) 150 := by rw [oad2]; exact in_o (by omega) (by omega)
  have v3 : vp_in (Int32.ofNat (5 * c) + 3) 150 := by rw [oad3]; exact in_o (by omega) (by omega)
  have v4 : vp_in (Int32.ofNat (5 * c) + 4) 150 := by rw [oad4]; exact in_o (by omega) (by omega)
  rcases kk with ⟨v, hs, hvb, hfull, ek⟩ | ⟨q, hq, ek, epc⟩
  · have hv6 := (vb_in hvb).2
    obtain ⟨q1, q2, q3, q4, q5, q6, q7, q8, q9, q10⟩ := wd_f v hv6
    have hend : s + (wd v).length ≤ ty := by
      have := (mtc_le T ty (wd v) s).2 hst
      omega
    have R3 := RdM_p h hend
    -- the state behind the word
    have R6 : RdM T ty (smi (sma (smi M 17 (Int32.ofNat (s + (wd v).length))) 7 (5 * c) (Int32.ofNat v)) 19 (Int32.ofNat (c + 1))) (s + (wd v).length) := by
      have := RdM_a R3 (5 * c) (Int32.ofNat v)
      refine ⟨this.1, this.2.1, ?_, ?_, ?_, this.2.2.2.2.2⟩
      · rw [mi_smi, if_neg (by decide)]
        exact this.2.2.1
      · rw [mi_smi, if_neg (by decide)]
        exact this.2.2.2.1
      · rw [mi_smi, if_neg (by decide)]
        exact this.2.2.2.2.1
    have F6 : FM c M (smi (sma (smi M 17 (Int32.ofNat (s + (wd v).length))) 7 (5 * c) (Int32.ofNat v)) 19 (Int32.ofNat (c + 1))) := FM_i (FM_a (FM_i (FM_r c M) 17 _ (Or.inl rfl)) _ _ (by omega)) 19 _ (Or.inr (Or.inr rfl))
    have m19 : mi (smi (sma (smi M 17 (Int32.ofNat (s + (wd v).length))) 7 (5 * c) (Int32.ofNat v)) 19 (Int32.ofNat (c + 1))) 19 = Int32.ofNat (c + 1) := by rw [mi_smi, if_pos rfl]
    have a50 : ma (smi (sma (smi M 17 (Int32.ofNat (s + (wd v).length))) 7 (5 * c) (Int32.ofNat v)) 19 (Int32.ofNat (c + 1))) 7 (5 * c) = Int32.ofNat v := by rw [ma_smi, ma_sma, if_pos ⟨rfl, rfl⟩]
    have g19 : mi (sma (smi M 17 (Int32.ofNat (s + (wd v).length))) 7 (5 * c) (Int32.ofNat v)) 19 + 1 = Int32.ofNat (c + 1) := by
      rw [mi_sma, mi_smi, if_neg (by decide), hc, oad1]
    have epc : pc T ty s (fun _ => 0) = rf T ty (tl v) (s + (wd v).length) 0 (fun _ => 0) := by
      rw [pc_rf _ hs hvb, if_pos hfull]
    have eR : f_X7_readsCommand M = (if 4 ≤ Int32.ofNat v then f_X7_readsCommand_J61 (f_X7_number (smi (sma (smi M 17 (Int32.ofNat (s + (wd v).length))) 7 (5 * c) (Int32.ofNat v)) 19 (Int32.ofNat (c + 1)))).2 (Int32.ofNat (5 * c)) (Int32.ofNat v) (f_X7_number (smi (sma (smi M 17 (Int32.ofNat (s + (wd v).length))) 7 (5 * c) (Int32.ofNat v)) 19 (Int32.ofNat (c + 1)))).1 (Int32.ofNat (5 * c) + 1) else f_X7_readsCommand_J61 (f_X7_digit (smi (sma (smi M 17 (Int32.ofNat (s + (wd v).length))) 7 (5 * c) (Int32.ofNat v)) 19 (Int32.ofNat (c + 1)))).2 (Int32.ofNat (5 * c)) (Int32.ofNat v) (f_X7_digit (smi (sma (smi M 17 (Int32.ofNat (s + (wd v).length))) 7 (5 * c) (Int32.ofNat v)) 19 (Int32.ofNat (c + 1)))).1 (Int32.ofNat (5 * c) + 1)) := by
      unfold f_X7_readsCommand
      rw [nm_eq, e5, nm_eq, ek]
      show nm (sma (smi M 17 (Int32.ofNat (s + (wd v).length))) 7 (ix (Int32.ofNat (5 * c))) (Int32.ofNat v)) _ = _
      rw [x0, nm_eq, nm_eq, g19, if_pos R6.2.2.2.2.1, nm_eq, nm_eq]
    have oR : (4 ≤ Int32.ofNat v → ok_X7_number (smi (sma (smi M 17 (Int32.ofNat (s + (wd v).length))) 7 (5 * c) (Int32.ofNat v)) 19 (Int32.ofNat (c + 1))) ∧ ok_X7_readsCommand_J61 (f_X7_number (smi (sma (smi M 17 (Int32.ofNat (s + (wd v).length))) 7 (5 * c) (Int32.ofNat v)) 19 (Int32.ofNat (c + 1)))).2 (Int32.ofNat (5 * c)) (Int32.ofNat v) (f_X7_number (smi (sma (smi M 17 (Int32.ofNat (s + (wd v).length))) 7 (5 * c) (Int32.ofNat v)) 19 (Int32.ofNat (c + 1)))).1 (Int32.ofNat (5 * c) + 1)) → (¬ 4 ≤ Int32.ofNat v → ok_X7_digit (smi (sma (smi M 17 (Int32.ofNat (s + (wd v).length))) 7 (5 * c) (Int32.ofNat v)) 19 (Int32.ofNat (c + 1))) ∧ ok_X7_readsCommand_J61 (f_X7_digit (smi (sma (smi M 17 (Int32.ofNat (s + (wd v).length))) 7 (5 * c) (Int32.ofNat v)) 19 (Int32.ofNat (c + 1)))).2 (Int32.ofNat (5 * c)) (Int32.ofNat v) (f_X7_digit (smi (sma (smi M 17 (Int32.ofNat (s + (wd v).length))) 7 (5 * c) (Int32.ofNat v)) 19 (Int32.ofNat (c + 1)))).1 (Int32.ofNat (5 * c) + 1)) → ok_X7_readsCommand M := by
      intro o1 o2
      intro z hz
      rw [hz, e5]
      refine ⟨ko, ?_⟩
      intro z3 hz3
      rw [hz3, ek]
      refine ⟨v0, ?_⟩
      intro z5 hz5
      have hz5' : z5 = sma (smi M 17 (Int32.ofNat (s + (wd v).length))) 7 (5 * c) (Int32.ofNat v) := by
        rw [hz5, x0]
      rw [hz5']
      intro z6 hz6
      rw [hz6, g19]
      refine ⟨fun _ => ⟨fun h4 => ⟨(o1 h4).1, ?_⟩, fun h4 => ⟨(o2 h4).1, ?_⟩⟩, fun h9 => absurd R6.2.2.2.2.1 h9⟩
      · intro z7 hz7
        rw [hz7]
        exact (o1 h4).2
      · intro z7 hz7
        rw [hz7]
        exact (o2 h4).2
    generalize smi (sma (smi M 17 (Int32.ofNat (s + (wd v).length))) 7 (5 * c) (Int32.ofNat v)) 19 (Int32.ofNat (c + 1)) = M6 at R6 F6 m19 a50 eR oR
    have P0 : PS T ty c M v (pc T ty s (fun _ => 0)) (tl v) 0 M6 := ⟨F6, Or.inl ⟨s + (wd v).length, fun _ => 0, R6, m19, a50, fun j hj => by omega, epc⟩⟩
    have fin : ∀ N f, f = cnt (kByt.getD (2 + v) []) → PS T ty c M v (pc T ty s (fun _ => 0)) [] f N → FM c M N ∧ ((∃ v s' vs', s < ty ∧ vb (T s) = some v ∧ RdM T ty N s' ∧ mi N 19 = Int32.ofNat (c + 1) ∧ ma N 7 (5 * c) = Int32.ofNat v ∧ (∀ j, j < cnt (kByt.getD (2 + v) []) → ma N 7 (5 * c + 1 + j) = vs' j) ∧ pc T ty s (fun _ => 0) = (true, s', vs')) ∨ (∃ q, q ≤ 60 ∧ mi N 18 = Int32.ofNat q ∧ (pc T ty s (fun _ => 0)).1 = false ∧ (pc T ty s (fun _ => 0)).2.1 = q)) := by
      intro N f hf hP
      obtain ⟨hF, ⟨s', vs, h1, h2, h3, h4, h5⟩ | ⟨q, h1, h2, h3, h4⟩⟩ := hP
      · exact ⟨hF, Or.inl ⟨v, s', vs, hs, hvb, h1, h2, h3, by rw [← hf]; exact h4, h5⟩⟩
      · exact ⟨hF, Or.inr ⟨q, h1, h2, h3, h4⟩⟩
    have hcv := cntv v hv6
    have w4 : ((4 : Int32) ≤ Int32.ofNat v) ↔ 4 ≤ v := le_ofN (a := 4) (by decide) (by omega)
    have w3 : ((3 : Int32) ≤ Int32.ofNat v) ↔ 3 ≤ v := le_ofN (a := 3) (by decide) (by omega)
    have w3e : (Int32.ofNat v = 3) ↔ v = 3 := ofN_inj (b := 3) (by omega) (by decide)
    by_cases hv4 : 4 ≤ v
    · have htl : tl v = [78] := by
        have : v = 4 ∨ v = 5 := by omega
        rcases this with rfl | rfl <;> rfl
      rw [htl] at P0
      obtain ⟨n0, P1⟩ := stepN P0 (by omega)
      have eJ : f_X7_readsCommand_J61 (f_X7_number M6).2 (Int32.ofNat (5 * c)) (Int32.ofNat v) (f_X7_number M6).1 (Int32.ofNat (5 * c) + 1) = sma (f_X7_number M6).2 7 (5 * c + 1 + 0) (f_X7_number M6).1 := by
        unfold f_X7_readsCommand_J61
        rw [x1, nm_eq, if_neg (by rw [w3e]; omega)]
        unfold f_X7_readsCommand_J103
        rw [if_pos (w3.mpr (by omega))]
      have hF := fin _ 1 (by rw [hcv, if_neg (by omega), if_neg (by omega)]) P1
      rw [eR, if_pos (w4.mpr hv4), eJ]
      refine ⟨oR (fun _ => ⟨n0, v1, ?_⟩) (fun h9 => absurd (w4.mpr hv4) h9), hF⟩
      intro z hz
      refine ⟨fun h9 => absurd (w3e.mp h9) (by omega), fun _ => ⟨fun _ => trivial, fun h9 => absurd (w3.mpr (by omega)) h9⟩⟩
    · have hn4 := mt w4.mp hv4
      by_cases hv3 : v = 3
      · subst hv3
        have P0' : PS T ty c M 3 (pc T ty s (fun _ => 0)) [68, 68, 32, 78, 32, 78] 0 M6 := P0
        obtain ⟨n0, P1⟩ := stepD P0' (by omega)
        obtain ⟨n1, P2⟩ := stepD P1 (by omega)
        obtain ⟨n2, P3⟩ := stepB P2 (by omega)
        obtain ⟨n3, P4⟩ := stepB P3 (by omega)
        generalize hA : sma (f_X7_digit M6).2 7 (5 * c + 1 + 0) (f_X7_digit M6).1 = A at P1 n1 P2 n2 P3 n3 P4
        generalize hB : sma (f_X7_digit A).2 7 (5 * c + 1 + (0 + 1)) (f_X7_digit A).1 = B1 at P2 n2 P3 n3 P4
        generalize hC : sma (f_X7_numberBehindBlank B1).2 7 (5 * c + 1 + (0 + 1 + 1)) (f_X7_numberBehindBlank B1).1 = C1 at P3 n3 P4
        have eJ : f_X7_readsCommand_J61 (f_X7_digit M6).2 (Int32.ofNat (5 * c)) (Int32.ofNat 3) (f_X7_digit M6).1 (Int32.ofNat (5 * c) + 1) = sma (f_X7_numberBehindBlank C1).2 7 (5 * c + 1 + (0 + 1 + 1 + 1)) (f_X7_numberBehindBlank C1).1 := by
          unfold f_X7_readsCommand_J61
          rw [x1, nm_eq, if_pos (w3e.mpr rfl), nm_eq, hA, x2, nm_eq, nm_eq]
          show nm (sma (f_X7_numberBehindBlank (sma (f_X7_digit A).2 7 (5 * c + 1 + (0 + 1)) (f_X7_digit A).1)).2 7 (ix (Int32.ofNat (5 * c) + 3)) (f_X7_numberBehindBlank (sma (f_X7_digit A).2 7 (5 * c + 1 + (0 + 1)) (f_X7_digit A).1)).1) _ = _
          rw [hB, x3, nm_eq, nm_eq]
          show nm (sma (f_X7_numberBehindBlank (sma (f_X7_numberBehindBlank B1).2 7 (5 * c + 1 + (0 + 1 + 1)) (f_X7_numberBehindBlank B1).1)).2 7 (ix (Int32.ofNat (5 * c) + 4)) (f_X7_numberBehindBlank (sma (f_X7_numberBehindBlank B1).2 7 (5 * c + 1 + (0 + 1 + 1)) (f_X7_numberBehindBlank B1).1)).1) _ = _
          rw [hC, x4, nm_eq]
          unfold f_X7_readsCommand_J103
          rw [if_pos (by decide)]
        have hF := fin _ (0 + 1 + 1 + 1 + 1) (by rw [hcv]; rfl) P4
        rw [eR, if_neg hn4, eJ]
        refine ⟨oR (fun h9 => absurd h9 hn4) (fun _ => ⟨n0, v1, ?_⟩), hF⟩
        intro z hz
        have hz' : z = A := by rw [hz, x1, hA]
        rw [hz']
        refine ⟨fun _ => ⟨n1, ?_⟩, fun h9 => absurd (w3e.mpr rfl) h9⟩
        intro z2 hz2
        rw [hz2]
        refine ⟨v2, ?_⟩
        intro z3 hz3
        have hz3' : z3 = B1 := by rw [hz3, x2]; exact hB
        rw [hz3']
        refine ⟨n2, ?_⟩
        intro z4 hz4
        rw [hz4]
        refine ⟨v3, ?_⟩
        intro z5 hz5
        have hz5' : z5 = C1 := by rw [hz5, x3]; exact hC
        rw [hz5']
        refine ⟨n3, ?_⟩
        intro z6 hz6
        rw [hz6]
        refine ⟨v4, ?_⟩
        intro z7 hz7
        exact ⟨fun _ => trivial, fun h9 => absurd (by decide) h9⟩
      · have htl : tl v = [68, 32, 78] := by
          have : v = 0 ∨ v = 1 ∨ v = 2 := by omega
          rcases this with rfl | rfl | rfl <;> rfl
        rw [htl] at P0
        obtain ⟨n0, P1⟩ := stepD P0 (by omega)
        obtain ⟨n1, P2⟩ := stepB P1 (by omega)
        generalize hA : sma (f_X7_digit M6).2 7 (5 * c + 1 + 0) (f_X7_digit M6).1 = A at P1 n1 P2
        have hn3 : ¬ (3 : Int32) ≤ Int32.ofNat v := by
          rw [w3]
          omega
        have eJ : f_X7_readsCommand_J61 (f_X7_digit M6).2 (Int32.ofNat (5 * c)) (Int32.ofNat v) (f_X7_digit M6).1 (Int32.ofNat (5 * c) + 1) = sma (f_X7_numberBehindBlank A).2 7 (5 * c + 1 + (0 + 1)) (f_X7_numberBehindBlank A).1 := by
          unfold f_X7_readsCommand_J61
          rw [x1, nm_eq, if_neg (by rw [w3e]; omega), hA]
          unfold f_X7_readsCommand_J103
          rw [if_neg hn3, nm_eq, x2, nm_eq]
        have hF := fin _ (0 + 1 + 1) (by rw [hcv, if_pos (by omega)]) P2
        rw [eR, if_neg hn4, eJ]
        refine ⟨oR (fun h9 => absurd h9 hn4) (fun _ => ⟨n0, v1, ?_⟩), hF⟩
        intro z hz
        have hz' : z = A := by rw [hz, x1, hA]
        rw [hz']
        refine ⟨fun h9 => absurd (w3e.mp h9) hv3, fun _ => ⟨fun h9 => absurd h9 hn3, fun _ => ⟨n1, ?_⟩⟩⟩
        intro z2 hz2
        exact v2
  · have m18 : ¬ mi (smi (sma (smi M 18 (Int32.ofNat q)) 7 (5 * c) (-1)) 19 (Int32.ofNat (c + 1))) 18 = -1 := by
      rw [mi_smi, if_neg (by decide), mi_sma, mi_smi, if_pos rfl]
      exact ne1 (by omega)
    have g19 : mi (sma (smi M 18 (Int32.ofNat q)) 7 (5 * c) (-1)) 19 + 1 = Int32.ofNat (c + 1) := by
      rw [mi_sma, mi_smi, if_neg (by decide), hc, oad1]
    have eR : f_X7_readsCommand M = smi (sma (smi M 18 (Int32.ofNat q)) 7 (5 * c) (-1)) 19 (Int32.ofNat (c + 1)) := by
      unfold f_X7_readsCommand
      rw [nm_eq, e5, nm_eq, ek]
      show nm (sma (smi M 18 (Int32.ofNat q)) 7 (ix (Int32.ofNat (5 * c))) (-1)) _ = _
      rw [x0, nm_eq, nm_eq, g19, if_neg m18]
    rw [eR]
    refine ⟨?_, FM_i (FM_a (FM_i (FM_r c M) 18 _ (Or.inr (Or.inl rfl))) _ _ (by omega)) 19 _ (Or.inr (Or.inr rfl)), Or.inr ⟨q, by omega, ?_, by rw [epc], by rw [epc]⟩⟩
    · intro z hz
      rw [hz, e5]
      refine ⟨ko, ?_⟩
      intro z3 hz3
      rw [hz3, ek]
      refine ⟨v0, ?_⟩
      intro z5 hz5
      have hz5' : z5 = sma (smi M 18 (Int32.ofNat q)) 7 (5 * c) (-1) := by
        rw [hz5, x0]
      rw [hz5']
      intro z6 hz6
      rw [hz6, g19]
      exact ⟨fun h9 => absurd h9 m18, fun _ => trivial⟩
    · rw [mi_smi, if_neg (by decide), mi_sma, mi_smi, if_pos rfl]
