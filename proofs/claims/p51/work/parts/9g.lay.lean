/-! p51: the law lays a bank by its script -/
def Aw (b : Nat) (ok : Prop) (B : StB) : Prop := ok ∧ ∃ e' n' t' R', e' ≤ b ∧ SS e' n' t' B R'
theorem Aw_ite {α : Type} {w : α → StB} {b : Nat} {c : Prop} [Decidable c] {P Q : Prop} {f g : α} (h1 : c → Aw b P (w f)) (h2 : ¬ c → Aw b Q (w g)) : Aw b ((c → P) ∧ (¬ c → Q)) (w (if c then f else g)) := by
  by_cases h : c
  · rw [if_pos h]
    exact ⟨⟨fun _ => (h1 h).1, fun h9 => absurd h h9⟩, (h1 h).2⟩
  · rw [if_neg h]
    exact ⟨⟨fun h9 => absurd h9 h, fun _ => (h2 h).1⟩, (h2 h).2⟩
theorem Aw_nm {β : Type} {w : β → StB} {b : Nat} {α : Type} {v : α} {P : α → Prop} {f : α → β} (h : ∀ r, r = v → Aw b (P r) (w (f r))) : Aw b (∀ r, r = v → P r) (w (nm v f)) :=
  ⟨fun r hr => (h r hr).1, (h v rfl).2⟩
theorem Aw_ok {β : Type} {w : β → StB} {b : Nat} {α : Type} {o : Prop} {v : α} {P : α → Prop} {f : α → β} (ho : o) (h : ∀ r, r = v → Aw b (P r) (w (f r))) : Aw b (o ∧ ∀ r, r = v → P r) (w (nm v f)) :=
  ⟨⟨ho, fun r hr => (h r hr).1⟩, (h v rfl).2⟩
theorem Aw_deed {β : Type} {w : β → StB} {b e n t : Nat} {B : StB} {R : Nat → Int32} (h : SS e n t B R) (he : e < 600) {x1 x2 x3 x4 x5 : Int32} (hx : 0 ≤ x1.toInt ∧ x1.toInt ≤ 6) {P : Int32 × StB → Prop} {f : Int32 × StB → β} (k : ∀ z e' n' t' R', e' ≤ e + 1 → SS e' n' t' z.2 R' → Aw b (P z) (w (f z))) : Aw b (ok_L_deed B x1 x2 x3 x4 x5 ∧ ∀ z : Int32 × StB, z = f_L_deed B x1 x2 x3 x4 x5 → P z) (w (nm (f_L_deed B x1 x2 x3 x4 x5) f)) := by
  obtain ⟨d1, e', n', t', R', d2, d3⟩ := deed_C h he x1 x2 x3 x4 x5 hx
  have h9 := k _ e' n' t' R' d2 d3
  refine ⟨⟨d1, ?_⟩, h9.2⟩
  intro z hz
  rw [hz]
  exact h9.1
theorem Aw_end {b e n t : Nat} {B : StB} {R : Nat → Int32} (h : SS e n t B R) (hb : e ≤ b) : Aw b True B := ⟨trivial, e, n, t, R, hb, h⟩
theorem cK {c : Int32} {k : Nat} (h : 0 ≤ c.toInt) (h2 : c.toInt ≤ 1000) (hk : k < 1000) : 0 ≤ (c + Int32.ofNat k).toInt := by
  have := ofN_toInt (a := k) (by omega)
  rw [i32_add (by omega) (by omega)]
  omega
theorem lay_1 {S : Nat → Int32} {N m : Nat} (hN : N ≤ 260) (hm : m ≤ 8) : ∀ (g nf k e n t : Nat) (B : StB) (R : Nat → Int32) (a2 : Int32), k + g = m → g < nf → SS e n t B R → e + 4 * g < 600 → Aw (e + 4 * g) (ok_L_lay_L13 nf S N B a2 (Int32.ofNat m) (Int32.ofNat k)) (f_L_lay_L13 nf S N B a2 (Int32.ofNat m) (Int32.ofNat k)).2 := by
  intro g
  induction g with
  | zero =>
    intro nf k e n t B R a2 hk hnf h he
    obtain ⟨nf, rfl⟩ : ∃ q, nf = q + 1 := ⟨nf - 1, by omega⟩
    have w : Int32.ofNat m ≤ Int32.ofNat k := by
      rw [le_ofN (by omega) (by omega)]
      omega
    unfold f_L_lay_L13 ok_L_lay_L13
    rw [if_pos w]
    exact ⟨⟨fun _ => trivial, fun h9 => absurd w h9⟩, e, n, t, R, by omega, h⟩
  | succ g ih =>
    intro nf k e n t B R a2 hk hnf h he
    obtain ⟨nf, rfl⟩ : ∃ q, nf = q + 1 := ⟨nf - 1, by omega⟩
    have w : ¬ Int32.ofNat m ≤ Int32.ofNat k := by
      rw [le_ofN (by omega) (by omega)]
      omega
    have q2 : 0 < (2 : Int32).toInt := by decide
    have q3 : 0 < (3 : Int32).toInt := by decide
    have q4 : 0 < (4 : Int32).toInt := by decide
    have q501 : 0 < (501 : Int32).toInt := by decide
    have q999 : 0 < (999 : Int32).toInt := by decide
    have k0 : 0 ≤ (0 : Int32).toInt ∧ (0 : Int32).toInt ≤ 6 := by decide
    have k1 : 0 ≤ (1 : Int32).toInt ∧ (1 : Int32).toInt ≤ 6 := by decide
    have k2 : 0 ≤ (2 : Int32).toInt ∧ (2 : Int32).toInt ≤ 6 := by decide
    have k3 : 0 ≤ (3 : Int32).toInt ∧ (3 : Int32).toInt ≤ 6 := by decide
    have c11 := cK (c := 11) (k := k) (by decide) (by decide) (by omega)
    have c21 := cK (c := 21) (k := k) (by decide) (by decide) (by omega)
    have c31 := cK (c := 31) (k := k) (by decide) (by decide) (by omega)
    have c41 := cK (c := 41) (k := k) (by decide) (by decide) (by omega)
    have c51 := cK (c := 51) (k := k) (by decide) (by decide) (by omega)
    have c61 := cK (c := 61) (k := k) (by decide) (by decide) (by omega)
    have again : ∀ e' n' t' B' R' a, e' ≤ e + 4 → SS e' n' t' B' R' → Aw (e + 4 * (g + 1)) (ok_L_lay_L13 nf S N B' a (Int32.ofNat m) (Int32.ofNat k + 1)) (f_L_lay_L13 nf S N B' a (Int32.ofNat m) (Int32.ofNat k + 1)).2 := by
      intro e' n' t' B' R' a h1 h2
      obtain ⟨i1, e2, n2, t2, R2, i2, i3⟩ := ih nf (k + 1) e' n' t' B' R' a (by omega) (by omega) h2 (by omega)
      rw [oad1]
      exact ⟨i1, e2, n2, t2, R2, by omega, i3⟩
    unfold f_L_lay_L13 ok_L_lay_L13
    refine Aw_ite (w := Prod.snd) (fun h9 => absurd h9 w) fun _ => ?_
    refine Aw_ok (w := Prod.snd) (pk_ok S hN c11 q4) fun r5 _ => ?_
    refine Aw_deed (w := Prod.snd) h (by omega) k0 fun z7 e7 n7 t7 R7 h71 h72 => ?_
    refine Aw_nm (w := Prod.snd) fun v8 _ => ?_
    refine Aw_ok (w := Prod.snd) (pk_ok S hN c21 q999) fun r10 _ => ?_
    refine Aw_deed (w := Prod.snd) h72 (by omega) k1 fun z12 e12 n12 t12 R12 h121 h122 => ?_
    refine Aw_ok (w := Prod.snd) (pk_ok S hN c31 q2) fun r14 _ => ?_
    refine Aw_ok (w := Prod.snd) (pk_ok S hN c41 q501) fun r16 _ => ?_
    refine Aw_deed (w := Prod.snd) h122 (by omega) k3 fun z18 e18 n18 t18 R18 h181 h182 => ?_
    refine Aw_nm (w := Prod.snd) fun v19 _ => ?_
    refine Aw_ok (w := Prod.snd) (pk_ok S hN c51 q3) fun r21 _ => ?_
    refine Aw_ite (w := Prod.snd) (fun _ => ?_) fun _ => ?_
    · refine Aw_ok (w := Prod.snd) (pk_ok S hN c61 q999) fun r25 _ => ?_
      refine Aw_deed (w := Prod.snd) h182 (by omega) k2 fun z27 e27 n27 t27 R27 h271 h272 => ?_
      refine Aw_nm (w := Prod.snd) fun v28 _ => ?_
      exact again _ _ _ _ _ _ (by omega) h272
    · refine Aw_nm (w := Prod.snd) fun v23 _ => ?_
      exact again _ _ _ _ _ _ (by omega) h182
theorem lay_2 {S : Nat → Int32} {N m : Nat} (hN : N ≤ 260) (hm : m ≤ 8) : ∀ (g nf k e n t : Nat) (B : StB) (R : Nat → Int32) (a2 : Int32), k + g = 12 → g < nf → SS e n t B R → e + g < 600 → Aw (e + g) (ok_L_lay_L151 nf S N B a2 (Int32.ofNat m) (Int32.ofNat k)) (f_L_lay_L151 nf S N B a2 (Int32.ofNat m) (Int32.ofNat k)).2 := by
  have q12 : 0 < (12 : Int32).toInt := by decide
  have q1 : 0 ≤ (1 : Int32).toInt := by decide
  have pr := pk_rng S N 1 q12
  intro g
  induction g with
  | zero =>
    intro nf k e n t B R a2 hk hnf h he
    obtain ⟨nf, rfl⟩ : ∃ q, nf = q + 1 := ⟨nf - 1, by omega⟩
    have w : f_L_pick S N 1 12 ≤ Int32.ofNat k := by
      rw [i32_le, ofN_toInt (by omega)]
      rw [show (12 : Int32).toInt = 12 from by decide] at pr
      omega
    unfold f_L_lay_L151 ok_L_lay_L151
    refine Aw_ok (w := Prod.snd) (pk_ok S hN q1 q12) fun r hr => ?_
    rw [hr]
    exact Aw_ite (w := Prod.snd) (fun _ => Aw_end h (by omega)) fun h9 => absurd w h9
  | succ g ih =>
    intro nf k e n t B R a2 hk hnf h he
    obtain ⟨nf, rfl⟩ : ∃ q, nf = q + 1 := ⟨nf - 1, by omega⟩
    have q5 : 0 < (5 : Int32).toInt := by decide
    have q700 : 0 < (700 : Int32).toInt := by decide
    have k4 : 0 ≤ (4 : Int32).toInt ∧ (4 : Int32).toInt ≤ 6 := by decide
    have c71 := cK (c := 71) (k := k) (by decide) (by decide) (by omega)
    have c91 := cK (c := 91) (k := k) (by decide) (by decide) (by omega)
    have c111 := cK (c := 111) (k := k) (by decide) (by decide) (by omega)
    have c131 := cK (c := 131) (k := k) (by decide) (by decide) (by omega)
    unfold f_L_lay_L151 ok_L_lay_L151
    refine Aw_ok (w := Prod.snd) (pk_ok S hN q1 q12) fun r hr => ?_
    refine Aw_ite (w := Prod.snd) (fun _ => Aw_end h (by omega)) fun _ => ?_
    refine Aw_ite (w := Prod.snd) (fun _ => Aw_end h (by omega)) fun hm0 => ?_
    have qm : 0 < (Int32.ofNat m).toInt := by
      rw [i32_le, lit.1] at hm0
      omega
    refine Aw_ok (w := Prod.snd) (pk_ok S hN c71 qm) fun r35 _ => ?_
    refine Aw_ok (w := Prod.snd) (pk_ok S hN c91 qm) fun r37 _ => ?_
    refine Aw_ok (w := Prod.snd) (pk_ok S hN c111 q700) fun r39 _ => ?_
    refine Aw_ok (w := Prod.snd) (pk_ok S hN c131 q5) fun r41 _ => ?_
    refine Aw_deed (w := Prod.snd) h (by omega) k4 fun z7 e7 n7 t7 R7 h71 h72 => ?_
    refine Aw_nm (w := Prod.snd) fun v8 _ => ?_
    obtain ⟨i1, e2, n2, t2, R2, i2, i3⟩ := ih nf (k + 1) e7 n7 t7 z7.2 R7 v8 (by omega) (by omega) h72 (by omega)
    rw [oad1]
    exact ⟨i1, e2, n2, t2, R2, by omega, i3⟩
theorem lay_C {S : Nat → Int32} {N e n t : Nat} {B : StB} {R : Nat → Int32} (hN : N ≤ 260) (h : SS e n t B R) (he : e = 0) : Aw 50 (ok_L_lay S N B) (f_L_lay S N B) := by
  have q9 : 0 < (9 : Int32).toInt := by decide
  have q0 : 0 ≤ (0 : Int32).toInt := by decide
  have q2 : 0 < (2 : Int32).toInt := by decide
  have q4 : 0 < (4 : Int32).toInt := by decide
  have q2' : 0 ≤ (2 : Int32).toInt := by decide
  have q3' : 0 ≤ (3 : Int32).toInt := by decide
  have k6 : 0 ≤ (6 : Int32).toInt ∧ (6 : Int32).toInt ≤ 6 := by decide
  have pr := pk_rng S N 0 q9
  obtain ⟨m, hm, em⟩ := of_rng (n := 9) pr.1 (by rw [show ((9 : Nat) : Int) = (9 : Int32).toInt from by decide]; exact pr.2)
  unfold f_L_lay ok_L_lay
  refine Aw_ok (w := id) (pk_ok S hN q0 q9) fun r2 h2 => ?_
  rw [em] at h2
  rw [h2]
  obtain ⟨a1, e1, n1, t1, R1, a2, a3⟩ := lay_1 (S := S) (N := N) hN (m := m) (by omega) m 20 0 e n t B R 0 (by omega) (by omega) h (by omega)
  refine Aw_ok (w := id) a1 fun z29 h29 => ?_
  have a3 : SS e1 n1 t1 z29.2 R1 := by
    rw [h29]
    exact a3
  obtain ⟨b1, e3, n3, t3, R3, b2, b3⟩ := lay_2 (S := S) (N := N) hN (m := m) (by omega) 12 20 0 e1 n1 t1 z29.2 R1 z29.1 (by omega) (by omega) a3 (by omega)
  refine Aw_ok (w := id) b1 fun z45 h45 => ?_
  have b3 : SS e3 n3 t3 z45.2 R3 := by
    rw [h45]
    exact b3
  unfold f_L_lay_J226 ok_L_lay_J226
  refine Aw_ok (w := id) (pk_ok S hN q2' q2) fun r47 _ => ?_
  refine Aw_ite (w := id) (fun _ => ?_) fun _ => Aw_end b3 (by omega)
  refine Aw_ok (w := id) (pk_ok S hN q3' q4) fun r51 _ => ?_
  obtain ⟨d1, e', n', t', R', d2, d3⟩ := deed_C b3 (by omega) 6 (1 + r51) 0 0 0 k6
  exact ⟨d1, e', n', t', R', by omega, d3⟩
