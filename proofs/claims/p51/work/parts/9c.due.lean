/-! what a day does to the transfers -/
def Live (t : Nat) (R : Nat → Int32) (x w : Int32) : Prop := ∃ k, k < t ∧ R (44 + 5 * k) = x ∧ R (48 + 5 * k) = w
theorem bn10 (R : Nat → Int32) (i : Nat) (hi : i < 8) : bnR R i 10 = R 10 + 1 := by
  unfold bnR gvN
  split
  · exact ur_eq _ _ _
  · simp only [gvR, jw, ur]
    grind
theorem mv10 (R : Nat → Int32) (i j : Nat) (y : Int32) (hi : i < 8) (hj : j < 8) : mvR R i j y 10 = R 10 := by
  simp only [mvR, jw, ur]
  grind
theorem dwl {X R : Nat → Int32} {k : Nat} (h : ∀ q, 44 ≤ q → q < 94 → X q = R q) (hk : k < 10) : ∀ j, j < 9 → ∀ o, o < 5 → dw X k (44 + o + 5 * j) = if j < k then R (44 + o + 5 * j) else R (44 + o + 5 * (j + 1)) := by
  intro j hj o ho
  unfold dw
  rw [if_neg (by omega)]
  by_cases hjk : j < k
  · rw [if_neg (by omega), if_pos hjk, h _ (by omega) (by omega)]
  · rw [if_pos (by omega), if_neg hjk, h _ (by omega) (by omega), show 44 + o + 5 * j + 5 = 44 + o + 5 * (j + 1) by omega]
theorem live_dw {X R : Nat → Int32} {k t : Nat} (h : ∀ q, 44 ≤ q → q < 94 → X q = R q) (hk : k < t) (ht : t ≤ 10) (x w : Int32) : Live (t - 1) (dw X k) x w ↔ ∃ j, j < t ∧ j ≠ k ∧ R (44 + 5 * j) = x ∧ R (48 + 5 * j) = w := by
  have a := fun j (hj : j < 9) => dwl h (k := k) (by omega) j hj 0 (by omega)
  have b := fun j (hj : j < 9) => dwl h (k := k) (by omega) j hj 4 (by omega)
  simp only [Nat.add_zero, show 44 + 4 = 48 by omega] at a b
  constructor
  · rintro ⟨j, h1, h2, h3⟩
    rw [a j (by omega)] at h2
    rw [b j (by omega)] at h3
    by_cases hjk : j < k
    · rw [if_pos hjk] at h2 h3
      exact ⟨j, by omega, by omega, h2, h3⟩
    · rw [if_neg hjk] at h2 h3
      exact ⟨j + 1, by omega, by omega, h2, h3⟩
  · rintro ⟨j, h1, h2, h3, h4⟩
    by_cases hjk : j < k
    · refine ⟨j, by omega, ?_, ?_⟩
      · rw [a j (by omega), if_pos hjk]
        exact h3
      · rw [b j (by omega), if_pos hjk]
        exact h4
    · refine ⟨j - 1, by omega, ?_, ?_⟩
      · rw [a _ (by omega), if_neg (by omega), show j - 1 + 1 = j by omega]
        exact h3
      · rw [b _ (by omega), if_neg (by omega), show j - 1 + 1 = j by omega]
        exact h4
/-- those due today, of g slots from kp on -/
def Due (g kp : Nat) (R : Nat → Int32) (x : Int32) : Prop := ∃ k, kp ≤ k ∧ k < g + kp ∧ R (44 + 5 * k) = x ∧ R (48 + 5 * k) = R 0
theorem due_dw {X R : Nat → Int32} {g kp : Nat} (h : ∀ q, 44 ≤ q → q < 94 → X q = R q) (h0 : X 0 = R 0) (ht : g + 1 + kp ≤ 10) (x : Int32) : Due g kp (dw X kp) x ↔ ∃ k, kp < k ∧ k < g + 1 + kp ∧ R (44 + 5 * k) = x ∧ R (48 + 5 * k) = R 0 := by
  have a := fun j (hj : j < 9) => dwl h (k := kp) (by omega) j hj 0 (by omega)
  have b := fun j (hj : j < 9) => dwl h (k := kp) (by omega) j hj 4 (by omega)
  simp only [Nat.add_zero, show 44 + 4 = 48 by omega] at a b
  have d0 : dw X kp 0 = R 0 := by
    unfold dw
    rw [if_neg (by omega), if_neg (by omega), h0]
  constructor
  · rintro ⟨j, h1, h2, h3, h4⟩
    rw [a j (by omega), if_neg (by omega)] at h3
    rw [b j (by omega), if_neg (by omega), d0] at h4
    exact ⟨j + 1, by omega, by omega, h3, h4⟩
  · rintro ⟨j, h1, h2, h3, h4⟩
    refine ⟨j - 1, by omega, by omega, ?_, ?_⟩
    · rw [a _ (by omega), if_neg (by omega), show j - 1 + 1 = j by omega]
      exact h3
    · rw [b _ (by omega), if_neg (by omega), show j - 1 + 1 = j by omega, d0]
      exact h4
theorem P_step {e D n g kp : Nat} {R X : Nat → Int32} (hR : RB e D n (g + 1 + kp) kp 0 R) (hd : R (48 + 5 * kp) = R 0) (l1 : ∀ q, 44 ≤ q → q < 94 → X q = R q) (l2 : X 0 = R 0) {o : List (Int32 × Bool)} {kp' : Nat} {R' : Nat → Int32} (b : Bool)
    (r9 : ∀ x w, Live kp' R' x w ↔ Live (g + kp) (dw X kp) x w ∧ w ≠ dw X kp 0) (r10 : ∀ x, x ∈ o.map Prod.fst ↔ Due g kp (dw X kp) x) (r11 : (o.map Prod.fst).Nodup) :
    (∀ x w, Live kp' R' x w ↔ Live (g + 1 + kp) R x w ∧ w ≠ R 0) ∧ (∀ x, x ∈ (((R (44 + 5 * kp), b) :: o).map Prod.fst) ↔ Due (g + 1) kp R x) ∧ (((R (44 + 5 * kp), b) :: o).map Prod.fst).Nodup := by
  have ht10 : g + 1 + kp ≤ 10 := hR.2.1.1
  have hu := hR.2.1.2.2.2.2
  have d0 : dw X kp 0 = R 0 := by
    unfold dw
    rw [if_neg (by omega), if_neg (by omega), l2]
  refine ⟨fun x w => ?_, fun x => ?_, ?_⟩
  · rw [r9 x w, d0, show g + kp = g + 1 + kp - 1 by omega, live_dw l1 (by omega) ht10]
    constructor
    · rintro ⟨⟨j, h1, h2, h3, h4⟩, h5⟩
      exact ⟨⟨j, h1, h3, h4⟩, h5⟩
    · rintro ⟨⟨j, h1, h3, h4⟩, h5⟩
      refine ⟨⟨j, h1, ?_, h3, h4⟩, h5⟩
      rintro rfl
      exact h5 (h4.symm.trans hd)
  · rw [List.map_cons, List.mem_cons, r10 x, due_dw l1 l2 ht10]
    constructor
    · rintro (h | ⟨k, k1, k2, k3, k4⟩)
      · exact ⟨kp, Nat.le_refl kp, by omega, h.symm, hd⟩
      · exact ⟨k, by omega, k2, k3, k4⟩
    · rintro ⟨k, k1, k2, k3, k4⟩
      by_cases hk : k = kp
      · subst hk
        exact Or.inl k3.symm
      · exact Or.inr ⟨k, by omega, k2, k3, k4⟩
  · rw [List.map_cons, List.nodup_cons]
    refine ⟨fun hm => ?_, r11⟩
    obtain ⟨k, k1, k2, k3, -⟩ := (due_dw l1 l2 ht10 _).mp ((r10 _).mp hm)
    have k3 : R (44 + 5 * k) = R (44 + 5 * kp) := k3
    have := hu kp k k1 k2
    rw [k3] at this
    omega
theorem P_set {e D n : Nat} : ∀ (g kp : Nat) (R : Nat → Int32), RB e D n (g + kp) kp 0 R → XX n R → XX n (stl g kp R).2.2 ∧ (stl g kp R).2.2 0 = R 0 ∧ (stl g kp R).2.2 10 = R 10 + Int32.ofNat (cF (stl g kp R).1) ∧ (∀ x w, Live (stl g kp R).2.1 (stl g kp R).2.2 x w ↔ Live (g + kp) R x w ∧ w ≠ R 0) ∧ (∀ x, x ∈ (stl g kp R).1.map Prod.fst ↔ Due g kp R x) ∧ ((stl g kp R).1.map Prod.fst).Nodup := by
  intro g
  induction g with
  | zero =>
    intro kp R hR hX
    refine ⟨hX, rfl, ?_, fun x w => ?_, fun x => ?_, List.nodup_nil⟩
    · show R 10 = R 10 + Int32.ofNat 0
      rw [show Int32.ofNat 0 = 0 from rfl, Int32.add_zero]
    · show Live kp R x w ↔ _
      rw [Nat.zero_add]
      refine ⟨fun h => ⟨h, ?_⟩, fun h => h.1⟩
      obtain ⟨k, k1, k2, k3⟩ := h
      have := hR.2.1.2.2.2.1 k k1 (by omega)
      rw [k3] at this
      rintro rfl
      omega
    · show x ∈ [] ↔ _
      refine ⟨fun h => absurd h List.not_mem_nil, fun ⟨k, k1, k2, _⟩ => by omega⟩
  | succ g ih =>
    intro kp R hR hX
    have hn : n ≤ 8 := hR.1.1
    have ht10 : g + 1 + kp ≤ 10 := hR.2.1.1
    obtain ⟨⟨i, hi, e1⟩, ⟨j, hj, e2⟩, y1, y2, d1, d2, id1, id2⟩ := hR.2.1.2.2.1 kp (by omega)
    have eI : sI R kp = i := sI_eq e1 (by omega)
    have eJ : sJ R kp = j := sJ_eq e2 (by omega)
    by_cases hd : R (48 + 5 * kp) = R 0
    · by_cases hc : R (13 + 4 * i) - R (47 + 5 * kp) < -R (14 + 4 * i)
      · have es : stl (g + 1) kp R = ((R (44 + 5 * kp), false) :: (stl g kp (dw (bnR R i) kp)).1, (stl g kp (dw (bnR R i) kp)).2) := by
          simp only [stl, if_pos hd, eI, if_pos hc]
        rw [es]
        have nR := bn_RB hR (k := kp) (by omega) (Nat.le_refl kp) hi (by omega)
        rw [show g + 1 + kp - 1 = g + kp by omega] at nR
        obtain ⟨l1, l2, l3⟩ := lo_bn R i (by omega)
        obtain ⟨r1, r2, r3, r9, r10, r11⟩ := ih kp (dw (bnR R i) kp) nR (XX_dw (XX_bn hX hn hi) hn kp)
        obtain ⟨p1, p2, p3⟩ := P_step hR hd l1 l2 false r9 r10 r11
        refine ⟨r1, ?_, ?_, p1, p2, p3⟩
        · rw [show ((R (44 + 5 * kp), false) :: (stl g kp (dw (bnR R i) kp)).1, (stl g kp (dw (bnR R i) kp)).2).2 = (stl g kp (dw (bnR R i) kp)).2 from rfl, r2]
          unfold dw
          rw [if_neg (by omega), if_neg (by omega), l2]
        · rw [show ((R (44 + 5 * kp), false) :: (stl g kp (dw (bnR R i) kp)).1, (stl g kp (dw (bnR R i) kp)).2).2 = (stl g kp (dw (bnR R i) kp)).2 from rfl, r3, cF_f, dw_lo _ _ (by omega) (by omega), bn10 R i (by omega), oN_s]
      · have es : stl (g + 1) kp R = ((R (44 + 5 * kp), true) :: (stl g kp (dw (mvR R i j (R (47 + 5 * kp))) kp)).1, (stl g kp (dw (mvR R i j (R (47 + 5 * kp))) kp)).2) := by
          simp only [stl, if_pos hd, eI, eJ, if_neg hc]
        rw [es]
        have nR := mv_RB hR (k := kp) (by omega) (Nat.le_refl kp) hi hj y1 y2 hc (by omega)
        rw [show g + 1 + kp - 1 = g + kp by omega] at nR
        obtain ⟨l1, l2, l3⟩ := lo_mv R i j (R (47 + 5 * kp)) (by omega) (by omega)
        obtain ⟨r1, r2, r3, r9, r10, r11⟩ := ih kp (dw (mvR R i j (R (47 + 5 * kp))) kp) nR (XX_dw (XX_mv hX hn hi hj y1) hn kp)
        obtain ⟨p1, p2, p3⟩ := P_step hR hd l1 l2 true r9 r10 r11
        refine ⟨r1, ?_, ?_, p1, p2, p3⟩
        · refine r2.trans ?_
          unfold dw
          rw [if_neg (by omega), if_neg (by omega), l2]
        · refine r3.trans ?_
          rw [cF_t, dw_lo _ _ (by omega) (by omega), mv10 R i j _ (by omega) (by omega)]
    · have es : stl (g + 1) kp R = stl g (kp + 1) R := by
        simp only [stl, if_neg hd]
      rw [es]
      have hdd : (R 0).toInt < (R (48 + 5 * kp)).toInt := by
        rw [i32_inj] at hd
        omega
      have nR : RB e D n (g + (kp + 1)) (kp + 1) 0 R := by
        rw [show g + (kp + 1) = g + 1 + kp by omega]
        refine RB_m hR (fun k k1 k2 k3 => ?_)
        have : k = kp := by omega
        rw [this]
        exact hdd
      obtain ⟨r1, r2, r3, r9, r10, r11⟩ := ih (kp + 1) R nR hX
      refine ⟨r1, r2, r3, fun x w => ?_, fun x => ?_, r11⟩
      · rw [show g + 1 + kp = g + (kp + 1) by omega]
        exact r9 x w
      · rw [r10 x]
        constructor
        · rintro ⟨k, k1, k2, k3⟩
          exact ⟨k, by omega, by omega, k3⟩
        · rintro ⟨k, k1, k2, k3, k4⟩
          refine ⟨k, ?_, by omega, k3, k4⟩
          by_cases hk : k = kp
          · subst hk
            exact absurd k4 hd
          · omega
theorem live_hi {e D n t a m : Nat} {R : Nat → Int32} (hR : RB e D n t m a R) {x w : Int32} (h : Live t R x w) : (R 0).toInt ≤ w.toInt ∧ w.toInt ≤ (R 0).toInt + 60 ∧ 0 ≤ x.toInt := by
  obtain ⟨k, k1, k2, k3⟩ := h
  obtain ⟨-, -, -, -, d1, d2, i1, -⟩ := hR.2.1.2.2.1 k k1
  rw [k3] at d1 d2
  rw [k2] at i1
  exact ⟨d1, d2, i1⟩
theorem gain10 : ∀ (g i : Nat) (R : Nat → Int32), i + g ≤ 8 → gainR g i R 10 = R 10
  | 0, _, _, _ => rfl
  | g + 1, i, R, h => by
    show gainR g (i + 1) (gnR R i) 10 = R 10
    rw [gain10 g (i + 1) _ (by omega)]
    unfold gnR
    split
    · unfold gvN
      split
      · rfl
      · simp only [gvR, jw, ur]
        grind
    · simp only [inR, jw, ur]
      grind
/-- of a whole day -/
theorem P_day {e D n t p : Nat} {B : StB} {R : Nat → Int32} (hT : Ti 0 n 0 0 t B p R) (hR : RB e D n t 0 0 R) (hX : XX n R) (hD : D + 1 ≤ 37000) : XX n (dayR n t R) ∧ (dayR n t R 0).toInt = (R 0).toInt + 1 ∧ dayR n t R 10 = R 10 + Int32.ofNat (cF (stl t 0 R).1) ∧ (∀ x w, Live (stl t 0 R).2.1 (dayR n t R) x w ↔ Live t R x w ∧ (R 0).toInt + 1 ≤ w.toInt) ∧ (∀ x, x ∈ (stl t 0 R).1.map Prod.fst ↔ Live t R x (R 0)) ∧ ((stl t 0 R).1.map Prod.fst).Nodup := by
  have hn : n ≤ 8 := hR.1.1
  obtain ⟨p1, p2, p3, p4, p5, p6⟩ := P_set t 0 R (by simpa only [Nat.add_zero] using hR) hX
  obtain ⟨-, -, d3, d4, -, d6, d7, d8, d9⟩ := S_day hT hR hD
  have hS := hR.2.2
  unfold bS at hS
  have v0 : (R 0 + 1).toInt = (R 0).toInt + 1 := by
    rw [i32_add (by have := lit.2.1; omega) (by have := lit.2.1; omega), lit.2.1]
  have hk : (stl t 0 R).2.1 ≤ 10 := d6.2.1.1
  refine ⟨?_, by rw [d8, p2, v0], ?_, fun x w => ?_, fun x => ?_, p6⟩
  · unfold dayR
    exact XX_ur (XX_forg hn n 0 _ (by omega) (XX_gain hn n 0 _ (by omega) p1)) _ (by omega) (by omega) ⟨by omega, by omega, by omega, by omega, by omega⟩ (fun j hj => by omega)
  · have e1 : dayR n t R 10 = gainR n 0 (stl t 0 R).2.2 10 := by
      unfold dayR
      rw [ur_ne _ _ (by omega)]
      have : ∀ (g i : Nat) (Q : Nat → Int32), forgR g i Q 10 = Q 10 := by
        intro g
        induction g with
        | zero => intro i Q; rfl
        | succ g ih => intro i Q; exact (ih (i + 1) _).trans (ur_ne _ _ (by omega))
      exact this n 0 _
    rw [e1, gain10 n 0 _ (by omega), p3]
  · have e1 : Live (stl t 0 R).2.1 (dayR n t R) x w ↔ Live (stl t 0 R).2.1 (stl t 0 R).2.2 x w := by
      unfold Live
      constructor
      · rintro ⟨k, k1, k2, k3⟩
        exact ⟨k, k1, by rw [← d7 _ (by omega) (by omega)]; exact k2, by rw [← d7 _ (by omega) (by omega)]; exact k3⟩
      · rintro ⟨k, k1, k2, k3⟩
        exact ⟨k, k1, by rw [d7 _ (by omega) (by omega)]; exact k2, by rw [d7 _ (by omega) (by omega)]; exact k3⟩
    rw [e1, p4 x w, Nat.add_zero]
    constructor
    · rintro ⟨a, b⟩
      have := live_hi hR a
      refine ⟨a, ?_⟩
      rw [Ne, i32_inj] at b
      omega
    · rintro ⟨a, b⟩
      refine ⟨a, ?_⟩
      rintro rfl
      omega
  · rw [p5 x]
    constructor
    · rintro ⟨k, k1, k2, k3, k4⟩
      exact ⟨k, by omega, k3, k4⟩
    · rintro ⟨k, k1, k3, k4⟩
      exact ⟨k, by omega, by omega, k3, k4⟩
theorem P_run {e n p : Nat} : ∀ (d D t : Nat) (B : StB) (R : Nat → Int32), Ti 0 n 0 0 t B p R → RB e D n t 0 0 R → XX n R → D + d ≤ 37000 → XX n (run d n t R).2.2 ∧ ((run d n t R).2.2 0).toInt = (R 0).toInt + (d : Int) ∧ (run d n t R).2.2 10 = R 10 + Int32.ofNat (cF (run d n t R).1) ∧ (∀ x w, Live (run d n t R).2.1 (run d n t R).2.2 x w ↔ Live t R x w ∧ (R 0).toInt + (d : Int) ≤ w.toInt) ∧ (∀ x, x ∈ (run d n t R).1.map Prod.fst ↔ ∃ w, Live t R x w ∧ w.toInt < (R 0).toInt + (d : Int)) ∧ ((run d n t R).1.map Prod.fst).Nodup := by
  intro d
  induction d with
  | zero =>
    intro D t B R hT hR hX hD
    refine ⟨hX, (Int.add_zero _).symm, ?_, fun x w => ?_, fun x => ?_, List.nodup_nil⟩
    · show R 10 = R 10 + Int32.ofNat 0
      rw [show Int32.ofNat 0 = 0 from rfl, Int32.add_zero]
    · show Live t R x w ↔ _
      refine ⟨fun h => ⟨h, ?_⟩, fun h => h.1⟩
      have := live_hi hR h
      omega
    · show x ∈ [] ↔ _
      refine ⟨fun h => absurd h List.not_mem_nil, fun ⟨w, h, h2⟩ => ?_⟩
      have := live_hi hR h
      omega
  | succ d ih =>
    intro D t B R hT hR hX hD
    obtain ⟨a1, a2, a3, a4, a5, a6⟩ := P_day hT hR hX (by omega)
    obtain ⟨-, -, d3, d4, -⟩ := S_day hT hR (by omega)
    obtain ⟨r1, r2, r3, r4, r5, r6⟩ := ih (D + 1) (stl t 0 R).2.1 (dayB p B) (dayR n t R) d3 d4 a1 (by omega)
    have hu := hR.2.1.2.2.2.2
    have uni : ∀ {x w w2 : Int32}, Live t R x w → Live t R x w2 → w = w2 := by
      rintro x w w2 ⟨k, k1, k2, k3⟩ ⟨j, j1, j2, j3⟩
      have : k = j := by
        rcases Nat.lt_trichotomy k j with h | h | h
        · have := hu k j h j1
          rw [k2, j2] at this
          omega
        · exact h
        · have := hu j k h k1
          rw [k2, j2] at this
          omega
      subst this
      exact k3.symm.trans j3
    refine ⟨r1, ?_, ?_, fun x w => ?_, fun x => ?_, ?_⟩
    · show ((run d n (stl t 0 R).2.1 (dayR n t R)).2.2 0).toInt = _
      rw [r2, a2]
      omega
    · show (run d n (stl t 0 R).2.1 (dayR n t R)).2.2 10 = R 10 + Int32.ofNat (cF ((stl t 0 R).1 ++ (run d n (stl t 0 R).2.1 (dayR n t R)).1))
      rw [r3, a3, cF_app, Int32.ofNat_add, Int32.add_assoc]
    · show Live (run d n (stl t 0 R).2.1 (dayR n t R)).2.1 (run d n (stl t 0 R).2.1 (dayR n t R)).2.2 x w ↔ _
      rw [r4 x w, a4 x w, a2]
      constructor
      · rintro ⟨⟨h1, h2⟩, h3⟩
        exact ⟨h1, by omega⟩
      · rintro ⟨h1, h2⟩
        exact ⟨⟨h1, by omega⟩, by omega⟩
    · show x ∈ ((stl t 0 R).1 ++ (run d n (stl t 0 R).2.1 (dayR n t R)).1).map Prod.fst ↔ _
      rw [List.map_append, List.mem_append, a5 x, r5 x]
      constructor
      · rintro (h | ⟨w, h, h2⟩)
        · exact ⟨R 0, h, by omega⟩
        · rw [a4 x w] at h
          rw [a2] at h2
          exact ⟨w, h.1, by omega⟩
      · rintro ⟨w, h, h2⟩
        have := live_hi hR h
        by_cases hw : w = R 0
        · subst hw
          exact Or.inl h
        · rw [i32_inj] at hw
          refine Or.inr ⟨w, (a4 x w).mpr ⟨h, by omega⟩, ?_⟩
          rw [a2]
          omega
    · show (((stl t 0 R).1 ++ (run d n (stl t 0 R).2.1 (dayR n t R)).1).map Prod.fst).Nodup
      rw [List.map_append, List.nodup_append]
      refine ⟨a6, r6, ?_⟩
      intro x hx y hy hxy
      subst hxy
      rw [a5 x] at hx
      rw [r5 x] at hy
      obtain ⟨w, h, -⟩ := hy
      rw [a4 x w] at h
      have := uni hx h.1
      subst this
      omega
