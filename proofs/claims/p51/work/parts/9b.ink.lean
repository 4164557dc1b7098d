/-! all ink, what the bank has, the journal: kept by every step of a row -/
def sB : Nat → (Nat → Int32) → Int32
  | 0, _ => 0
  | n + 1, R => sB n R + R (13 + 4 * n)
theorem sB_eq {R R' : Nat → Int32} : ∀ {n : Nat}, (∀ j, j < n → R' (13 + 4 * j) = R (13 + 4 * j)) → sB n R' = sB n R
  | 0, _ => rfl
  | n + 1, h => by
    show sB n R' + R' (13 + 4 * n) = sB n R + R (13 + 4 * n)
    rw [sB_eq (fun j hj => h j (by omega)), h n (by omega)]
theorem sB_up {R R' : Nat → Int32} {i : Nat} {d : Int32} : ∀ {n : Nat}, i < n → (∀ j, j < n → j ≠ i → R' (13 + 4 * j) = R (13 + 4 * j)) → R' (13 + 4 * i) = R (13 + 4 * i) + d → sB n R' = sB n R + d
  | 0, h, _, _ => by omega
  | n + 1, h, h1, h2 => by
    show sB n R' + R' (13 + 4 * n) = sB n R + R (13 + 4 * n) + d
    by_cases hi : i = n
    · subst hi
      rw [sB_eq (fun j hj => h1 j (by omega) (by omega)), h2]
      grind
    · rw [sB_up (by omega) (fun j hj hji => h1 j (by omega) hji) h2, h1 n (by omega) (fun q => hi q.symm)]
      grind
def XI (n : Nat) (R : Nat → Int32) : Prop := R 5 - R 6 = R 4 + sB n R ∧ R 4 = R 9 - R 8
def XJ (n : Nat) (R : Nat → Int32) : Prop := ∃ L, R 11 = Int32.ofNat L ∧ L ≤ 10 ∧ ∀ r, r < L → 1 ≤ (R (95 + 3 * r)).toInt ∧ ∃ i, i < n ∧ R (96 + 3 * r) = Int32.ofNat i
theorem XI_same {n : Nat} {R R' : Nat → Int32} (h : XI n R) (h4 : R' 4 = R 4) (h5 : R' 5 = R 5) (h6 : R' 6 = R 6) (h8 : R' 8 = R 8) (h9 : R' 9 = R 9) (hb : ∀ j, j < n → R' (13 + 4 * j) = R (13 + 4 * j)) : XI n R' := by
  unfold XI at h ⊢
  rw [h4, h5, h6, h8, h9, sB_eq hb]
  exact h
theorem XJ_same {n m : Nat} {R R' : Nat → Int32} (h : XJ n R) (hm : n ≤ m) (h11 : R' 11 = R 11) (hj : ∀ q, 94 ≤ q → q < 124 → R' q = R q) : XJ m R' := by
  obtain ⟨L, l1, l2, l3⟩ := h
  refine ⟨L, h11.trans l1, l2, fun r hr => ?_⟩
  obtain ⟨a, i, hi, e⟩ := l3 r hr
  rw [hj _ (by omega) (by omega), hj _ (by omega) (by omega)]
  exact ⟨a, i, by omega, e⟩
theorem XI_jw {n : Nat} {R : Nat → Int32} (h : XI n R) (hn : n ≤ 8) (k a w : Int32) : XI n (jw R k a w) :=
  XI_same h (jw_lo R k a w (by omega) (by omega)) (jw_lo R k a w (by omega) (by omega)) (jw_lo R k a w (by omega) (by omega)) (jw_lo R k a w (by omega) (by omega)) (jw_lo R k a w (by omega) (by omega)) (fun j hj => jw_lo R k a w (by omega) (by omega))
theorem XJ_jw {n : Nat} {R : Nat → Int32} (h : XJ n R) {k a : Int32} {i : Nat} (ha : 1 ≤ a.toInt) (hi : i < n) : XJ n (jw R k a (Int32.ofNat i)) := by
  obtain ⟨L, l1, l2, l3⟩ := h
  refine ⟨min (L + 1) 10, ?_, by omega, fun r hr => ?_⟩
  · show (if (11 : Nat) = 94 then k else if (11 : Nat) = 95 then a else if (11 : Nat) = 96 then Int32.ofNat i else if (11 : Nat) = 11 then mn 10 (R 11 + 1) else _) = _
    rw [if_neg (by decide), if_neg (by decide), if_neg (by decide), if_pos rfl, l1, mn10 l2]
  · unfold jw
    by_cases h0 : r = 0
    · subst h0
      exact ⟨ha, i, hi, rfl⟩
    · obtain ⟨a1, i1, a2, a3⟩ := l3 (r - 1) (by omega)
      rw [if_neg (by omega), if_neg (by omega), if_neg (by omega), if_neg (by omega), if_pos (by omega), if_neg (by omega), if_neg (by omega), if_neg (by omega), if_neg (by omega), if_pos (by omega), show 95 + 3 * r - 3 = 95 + 3 * (r - 1) by omega, show 96 + 3 * r - 3 = 96 + 3 * (r - 1) by omega]
      exact ⟨a1, i1, a2, a3⟩
theorem XJ_ur {n : Nat} {R : Nat → Int32} (h : XJ n R) {k : Nat} (v : Int32) (h1 : k < 94) (h2 : k ≠ 11) : XJ n (ur R k v) :=
  XJ_same h (Nat.le_refl n) (ur_ne _ _ (by omega)) (fun q q1 q2 => ur_ne _ _ (by omega))
def XX (n : Nat) (R : Nat → Int32) : Prop := XI n R ∧ XJ n R
theorem XX_ur {n : Nat} {R : Nat → Int32} (h : XX n R) {k : Nat} (v : Int32) (h1 : k < 94) (h2 : k ≠ 11) (h4 : k ≠ 4 ∧ k ≠ 5 ∧ k ≠ 6 ∧ k ≠ 8 ∧ k ≠ 9) (hb : ∀ j, j < n → k ≠ 13 + 4 * j) : XX n (ur R k v) :=
  ⟨XI_same h.1 (ur_ne _ _ (by omega)) (ur_ne _ _ (by omega)) (ur_ne _ _ (by omega)) (ur_ne _ _ (by omega)) (ur_ne _ _ (by omega)) (fun j hj => ur_ne _ _ (fun q => hb j hj q.symm)), XJ_ur h.2 v h1 h2⟩
theorem XX_dw {n : Nat} {R : Nat → Int32} (h : XX n R) (hn : n ≤ 8) (k : Nat) : XX n (dw R k) := by
  refine ⟨XI_same h.1 (dw_lo R k (by omega) (by omega)) (dw_lo R k (by omega) (by omega)) (dw_lo R k (by omega) (by omega)) (dw_lo R k (by omega) (by omega)) (dw_lo R k (by omega) (by omega)) (fun j hj => dw_lo R k (by omega) (by omega)), XJ_same h.2 (Nat.le_refl n) (dw_lo R k (by omega) (by omega)) (fun q q1 q2 => ?_)⟩
  show (if q = 3 then R 3 - 1 else if 44 + 5 * k ≤ q ∧ q < 89 then R (q + 5) else R q) = R q
  rw [if_neg (by omega), if_neg (by omega)]
theorem XX_pay {n i : Nat} {R : Nat → Int32} {y : Int32} (h : XX n R) (hn : n ≤ 8) (hi : i < n) (y1 : 1 ≤ y.toInt) : XX n (payR R i y) := by
  unfold payR
  refine ⟨XI_jw ?_ hn _ _ _, XJ_jw (XJ_ur (XJ_ur h.2 _ (by omega) (by omega)) _ (by omega) (by omega)) y1 hi⟩
  obtain ⟨a, b⟩ := h.1
  have e := sB_up (R := R) (R' := ur (ur R (13 + 4 * i) (R (13 + 4 * i) + y)) 5 (ur R (13 + 4 * i) (R (13 + 4 * i) + y) 5 + y)) (d := y) hi (fun j hj hji => by rw [ur_ne _ _ (by omega), ur_ne _ _ (by omega)]) (by rw [ur_ne _ _ (by omega), ur_eq])
  refine ⟨?_, ?_⟩
  · rw [e, ur_eq, ur_ne (j := 6) _ _ (by omega), ur_ne (j := 4) _ _ (by omega), ur_ne (j := 5) _ _ (by omega), ur_ne (j := 6) _ _ (by omega), ur_ne (j := 4) _ _ (by omega)]
    grind
  · rw [ur_ne (j := 4) _ _ (by omega), ur_ne (j := 9) _ _ (by omega), ur_ne (j := 8) _ _ (by omega), ur_ne (j := 4) _ _ (by omega), ur_ne (j := 9) _ _ (by omega), ur_ne (j := 8) _ _ (by omega)]
    exact b
theorem XX_drw {n i : Nat} {R : Nat → Int32} {y : Int32} (h : XX n R) (hn : n ≤ 8) (hi : i < n) (y1 : 1 ≤ y.toInt) : XX n (drwR R i y) := by
  unfold drwR
  refine ⟨XI_jw ?_ hn _ _ _, XJ_jw (XJ_ur (XJ_ur (XJ_ur h.2 _ (by omega) (by omega)) _ (by omega) (by omega)) _ (by omega) (by omega)) y1 hi⟩
  obtain ⟨a, b⟩ := h.1
  have e := sB_up (R := R) (R' := ur (ur (ur R (13 + 4 * i) (R (13 + 4 * i) + -y)) (15 + 4 * i) 1) 6 (ur (ur R (13 + 4 * i) (R (13 + 4 * i) + -y)) (15 + 4 * i) 1 6 + y)) (d := -y) hi (fun j hj hji => by rw [ur_ne _ _ (by omega), ur_ne _ _ (by omega), ur_ne _ _ (by omega)]) (by rw [ur_ne _ _ (by omega), ur_ne _ _ (by omega), ur_eq])
  refine ⟨?_, ?_⟩
  · rw [e, ur_eq, ur_ne (j := 5) _ _ (by omega), ur_ne (j := 4) _ _ (by omega), ur_ne (j := 5) _ _ (by omega), ur_ne (j := 4) _ _ (by omega), ur_ne (j := 6) _ _ (by omega), ur_ne (j := 5) _ _ (by omega), ur_ne (j := 4) _ _ (by omega), ur_ne (j := 6) _ _ (by omega)]
    grind
  · rw [ur_ne (j := 4) _ _ (by omega), ur_ne (j := 9) _ _ (by omega), ur_ne (j := 8) _ _ (by omega), ur_ne (j := 4) _ _ (by omega), ur_ne (j := 9) _ _ (by omega), ur_ne (j := 8) _ _ (by omega), ur_ne (j := 4) _ _ (by omega), ur_ne (j := 9) _ _ (by omega), ur_ne (j := 8) _ _ (by omega)]
    exact b
theorem XX_gv {n i : Nat} {R : Nat → Int32} {l d : Int32} (h : XX n R) (hn : n ≤ 8) (hi : i < n) : XX n (gvN R i l d) := by
  unfold gvN
  by_cases hd : d ≤ 0
  · rw [if_pos hd]
    exact h
  · rw [if_neg hd]
    have y1 : 1 ≤ d.toInt := by
      rw [i32_le] at hd
      have := lit.1
      omega
    unfold gvR
    refine ⟨XI_jw ?_ hn _ _ _, XJ_jw (XJ_ur (XJ_ur (XJ_ur h.2 _ (by omega) (by omega)) _ (by omega) (by omega)) _ (by omega) (by omega)) y1 hi⟩
    obtain ⟨a, b⟩ := h.1
    have e := sB_up (R := R) (R' := ur (ur (ur R (13 + 4 * i) (R (13 + 4 * i) + -d)) 4 (ur R (13 + 4 * i) (R (13 + 4 * i) + -d) 4 + d)) 9 (ur (ur R (13 + 4 * i) (R (13 + 4 * i) + -d)) 4 (ur R (13 + 4 * i) (R (13 + 4 * i) + -d) 4 + d) 9 + d)) (d := -d) hi (fun j hj hji => by rw [ur_ne _ _ (by omega), ur_ne _ _ (by omega), ur_ne _ _ (by omega)]) (by rw [ur_ne _ _ (by omega), ur_ne _ _ (by omega), ur_eq])
    refine ⟨?_, ?_⟩
    · rw [e]
      simp (disch := omega) only [ur_eq, ur_ne]
      grind
    · simp (disch := omega) only [ur_eq, ur_ne]
      grind
theorem XX_in {n i : Nat} {R : Nat → Int32} {d : Int32} (h : XX n R) (hn : n ≤ 8) (hi : i < n) (y1 : 1 ≤ d.toInt) : XX n (inR R i d) := by
  unfold inR
  refine ⟨XI_jw ?_ hn _ _ _, XJ_jw (XJ_ur (XJ_ur (XJ_ur h.2 _ (by omega) (by omega)) _ (by omega) (by omega)) _ (by omega) (by omega)) y1 hi⟩
  obtain ⟨a, b⟩ := h.1
  have e := sB_up (R := R) (R' := ur (ur (ur R (13 + 4 * i) (R (13 + 4 * i) + d)) 4 (ur R (13 + 4 * i) (R (13 + 4 * i) + d) 4 - d)) 8 (ur (ur R (13 + 4 * i) (R (13 + 4 * i) + d)) 4 (ur R (13 + 4 * i) (R (13 + 4 * i) + d) 4 - d) 8 + d)) (d := d) hi (fun j hj hji => by rw [ur_ne _ _ (by omega), ur_ne _ _ (by omega), ur_ne _ _ (by omega)]) (by rw [ur_ne _ _ (by omega), ur_ne _ _ (by omega), ur_eq])
  refine ⟨?_, ?_⟩
  · rw [e]
    simp (disch := omega) only [ur_eq, ur_ne]
    grind
  · simp (disch := omega) only [ur_eq, ur_ne]
    grind
theorem XX_gn {n i : Nat} {R : Nat → Int32} (h : XX n R) (hn : n ≤ 8) (hi : i < n) : XX n (gnR R i) := by
  unfold gnR
  by_cases he : ern R i ≤ 0
  · rw [if_pos he]
    exact XX_gv h hn hi
  · rw [if_neg he]
    refine XX_in h hn hi ?_
    rw [i32_le] at he
    have := lit.1
    omega
theorem XX_mv {n i j : Nat} {R : Nat → Int32} {y : Int32} (h : XX n R) (hn : n ≤ 8) (hi : i < n) (hj : j < n) (y1 : 1 ≤ y.toInt) : XX n (mvR R i j y) := by
  unfold mvR
  refine ⟨XI_jw ?_ hn _ _ _, XJ_jw (XJ_ur (XJ_ur (XJ_ur (XJ_ur h.2 _ (by omega) (by omega)) _ (by omega) (by omega)) _ (by omega) (by omega)) _ (by omega) (by omega)) y1 hi⟩
  obtain ⟨a, b⟩ := h.1
  have e1 := sB_up (R := R) (R' := ur R (13 + 4 * i) (R (13 + 4 * i) + -y)) (d := -y) hi (fun j hj hji => ur_ne _ _ (by omega)) (ur_eq _ _ _)
  have e2 := sB_up (R := ur R (13 + 4 * i) (R (13 + 4 * i) + -y)) (R' := ur (ur R (13 + 4 * i) (R (13 + 4 * i) + -y)) (13 + 4 * j) (ur R (13 + 4 * i) (R (13 + 4 * i) + -y) (13 + 4 * j) + y)) (d := y) hj (fun j hj hji => ur_ne _ _ (by omega)) (ur_eq _ _ _)
  refine XI_same (R := ur (ur R (13 + 4 * i) (R (13 + 4 * i) + -y)) (13 + 4 * j) (ur R (13 + 4 * i) (R (13 + 4 * i) + -y) (13 + 4 * j) + y)) ⟨?_, ?_⟩ ?_ ?_ ?_ ?_ ?_ (fun k hk => ?_)
  · rw [e2, e1]
    simp (disch := omega) only [ur_ne]
    grind
  · simp (disch := omega) only [ur_ne]
    exact b
  · simp (disch := omega) only [ur_ne]
  · simp (disch := omega) only [ur_ne]
  · simp (disch := omega) only [ur_ne]
  · simp (disch := omega) only [ur_ne]
  · simp (disch := omega) only [ur_ne]
  · rw [ur_ne _ _ (by omega), ur_ne _ _ (by omega)]
theorem XX_bn {n i : Nat} {R : Nat → Int32} (h : XX n R) (hn : n ≤ 8) (hi : i < n) : XX n (bnR R i) := by
  unfold bnR
  exact XX_gv (XX_ur h _ (by omega) (by omega) ⟨by omega, by omega, by omega, by omega, by omega⟩ (fun j hj => by omega)) hn hi
theorem XX_opn {n : Nat} {R : Nat → Int32} {x : Int32} (h : XX n R) (hn : n < 8) : XX (n + 1) (opnR R n x) := by
  obtain ⟨o1, o2, o3, -⟩ := opn_at R n x
  refine ⟨?_, XJ_same h.2 (by omega) (o1 11 (by omega) (by omega) (by omega) (by omega) (by omega)) (fun q q1 q2 => o1 q (by omega) (by omega) (by omega) (by omega) (by omega))⟩
  obtain ⟨a, b⟩ := h.1
  have e : sB (n + 1) (opnR R n x) = sB n R := by
    show sB n (opnR R n x) + opnR R n x (13 + 4 * n) = _
    rw [o3, sB_eq (R := R) (fun j hj => o1 _ (by omega) (by omega) (by omega) (by omega) (by omega)), Int32.add_zero]
  unfold XI
  rw [e, o1 5 (by omega) (by omega) (by omega) (by omega) (by omega), o1 6 (by omega) (by omega) (by omega) (by omega) (by omega), o1 4 (by omega) (by omega) (by omega) (by omega) (by omega), o1 9 (by omega) (by omega) (by omega) (by omega) (by omega), o1 8 (by omega) (by omega) (by omega) (by omega) (by omega)]
  exact ⟨a, b⟩
theorem XX_sel {n t : Nat} {R : Nat → Int32} {x0 x1 x2 x3 : Int32} (h : XX n R) (hn : n ≤ 8) (ht : t < 10) : XX n (selR R t x0 x1 x2 x3) := by
  obtain ⟨o1, -⟩ := sel_at R t x0 x1 x2 x3
  have lo : ∀ j, j < 44 → j ≠ 3 → j ≠ 2 → selR R t x0 x1 x2 x3 j = R j := fun j h1 h2 h3 => o1 j (Or.inl h1) h2 h3
  exact ⟨XI_same h.1 (lo _ (by omega) (by omega) (by omega)) (lo _ (by omega) (by omega) (by omega)) (lo _ (by omega) (by omega) (by omega)) (lo _ (by omega) (by omega) (by omega)) (lo _ (by omega) (by omega) (by omega)) (fun j hj => lo _ (by omega) (by omega) (by omega)), XJ_same h.2 (Nat.le_refl n) (lo _ (by omega) (by omega) (by omega)) (fun q q1 q2 => o1 q (Or.inr (Or.inl (by omega))) (by omega) (by omega))⟩
theorem XX_gain {n : Nat} (hn : n ≤ 8) : ∀ (g i : Nat) (R : Nat → Int32), i + g = n → XX n R → XX n (gainR g i R)
  | 0, _, _, _, h => h
  | g + 1, i, R, hi, h => XX_gain hn g (i + 1) (gnR R i) (by omega) (XX_gn h hn (by omega))
theorem XX_forg {n : Nat} (hn : n ≤ 8) : ∀ (g i : Nat) (R : Nat → Int32), i + g = n → XX n R → XX n (forgR g i R)
  | 0, _, _, _, h => h
  | g + 1, i, R, hi, h => XX_forg hn g (i + 1) _ (by omega) (XX_ur h _ (by omega) (by omega) ⟨by omega, by omega, by omega, by omega, by omega⟩ (fun j hj => by omega))
