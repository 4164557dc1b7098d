/-! p51: the start; the journal is right -/
theorem start0 : SS 0 0 0 B0 (fun _ => 0) := by
  have z0 : (0 : Int32).toInt = 0 := by decide
  have zl : (0 : Int32).toInt64 = 0 := by decide
  have hb : ∀ q k, q ≠ 176 → bi B0 q k = 0 := fun q k h => if_neg (fun hh => h hh.1)
  have h0 : Int32.ofNat 0 = 0 := rfl
  have hT : Ti 0 0 0 0 0 B0 0 (fun _ => 0) := by
    refine ⟨⟨hb _ _ (by decide), rfl, by omega, fun i hi => by omega, fun i hi => by omega, fun i hi => by omega, fun i hi => by omega⟩, ⟨hb _ _ (by decide), rfl, by omega, by omega, by omega, by omega, hb _ _ (by decide), fun k hk => by omega, fun k hk => by omega⟩, ⟨0, 0, hb _ _ (by decide), rfl, by omega, hb _ _ (by decide), by omega, fun r hr => by omega, fun r hr => by omega, fun r hr => by omega, fun r hr => by omega⟩, hb _ _ (by decide), hb _ _ (by decide), hb _ _ (by decide), ?_, ?_, ?_, ?_, ?_⟩
    · exact zl.symm
    · exact zl.symm
    · exact zl.symm
    · exact zl.symm
    · exact zl.symm
  have hR : RB 0 (60 * 0) 0 0 0 0 (fun _ => 0) := by
    refine ⟨⟨by omega, rfl, fun i hi => by omega⟩, ⟨by omega, rfl, fun k hk => by omega, fun k h1 h2 => by omega, fun j k h1 h2 => by omega⟩, ?_⟩
    unfold bS
    simp only [z0]
    omega
  refine ⟨hT, hR, ⟨⟨rfl, rfl⟩, 0, rfl, by omega, fun r hr => by omega⟩, rfl, ⟨0, 0, by omega, by omega, hb _ _ (by decide), hb _ _ (by decide)⟩, 0, by omega, hb _ _ (by decide)⟩
/-- goes through, and ends so -/
def Gz {α : Type} (Z : α → Prop) (ok : Prop) (f : α) : Prop := ok ∧ Z f
theorem G_ite {α : Type} {Z : α → Prop} {c : Prop} [Decidable c] {P Q : Prop} {f g : α} (h1 : c → Gz Z P f) (h2 : ¬ c → Gz Z Q g) : Gz Z ((c → P) ∧ (¬ c → Q)) (if c then f else g) := by
  by_cases h : c
  · rw [if_pos h]
    exact ⟨⟨fun _ => (h1 h).1, fun h9 => absurd h h9⟩, (h1 h).2⟩
  · rw [if_neg h]
    exact ⟨⟨fun h9 => absurd h9 h, fun _ => (h2 h).1⟩, (h2 h).2⟩
theorem G_pos {α : Type} {Z : α → Prop} {c : Prop} [Decidable c] {P Q : Prop} {f g : α} (h : c) (h1 : Gz Z P f) : Gz Z ((c → P) ∧ (¬ c → Q)) (if c then f else g) := G_ite (fun _ => h1) (fun h9 => absurd h h9)
theorem G_neg {α : Type} {Z : α → Prop} {c : Prop} [Decidable c] {P Q : Prop} {f g : α} (h : ¬ c) (h2 : Gz Z Q g) : Gz Z ((c → P) ∧ (¬ c → Q)) (if c then f else g) := G_ite (fun h9 => absurd h9 h) (fun _ => h2)
theorem G_nm {α β : Type} {Z : β → Prop} {v : α} {P : α → Prop} {f : α → β} (h : ∀ r, r = v → Gz Z (P r) (f r)) : Gz Z (∀ r, r = v → P r) (nm v f) :=
  ⟨fun r hr => (h r hr).1, (h v rfl).2⟩
theorem G_ok {α β : Type} {Z : β → Prop} {o : Prop} {v : α} {P : α → Prop} {f : α → β} (ho : o) (h : ∀ r, r = v → Gz Z (P r) (f r)) : Gz Z (o ∧ ∀ r, r = v → P r) (nm v f) :=
  ⟨⟨ho, fun r hr => (h r hr).1⟩, (h v rfl).2⟩
/-- the same where the value is known -/
theorem G_as {α β : Type} {Z : β → Prop} {v w : α} {P : α → Prop} {f : α → β} (e : v = w) (h : Gz Z (P w) (f w)) : Gz Z (∀ r, r = v → P r) (nm v f) := by
  subst e
  exact G_nm (fun r hr => by rw [hr]; exact h)
theorem G_ka {α β : Type} {Z : β → Prop} {o : Prop} {v w : α} {P : α → Prop} {f : α → β} (ho : o) (e : v = w) (h : Gz Z (P w) (f w)) : Gz Z (o ∧ ∀ r, r = v → P r) (nm v f) := by
  subst e
  exact G_ok ho (fun r hr => by rw [hr]; exact h)
theorem fmodr {w r : Nat} (h : w < 10) (hr : r < 10) : f_J9_floorMod_7cf53 (Int32.ofNat w - Int32.ofNat r) 10 = Int32.ofNat ((w + 10 - r) % 10) := by
  have : ∀ w : Nat, w < 10 → ∀ r : Nat, r < 10 → f_J9_floorMod_7cf53 (Int32.ofNat w - Int32.ofNat r) 10 = Int32.ofNat ((w + 10 - r) % 10) := by decide +kernel
  exact this w h r hr
theorem reqM {B : StB} {L w : Nat} (x : Int32) (h0 : bi B 12 0 = Int32.ofNat L) (hL : L ≤ 10) (h1 : bi B 12 1 = Int32.ofNat w) (hw : w < 10) : ok_X6_requireMovement B x ∧ (¬ acc L x → f_X6_requireMovement B x = (5, 0, B)) ∧ (∀ r, r < L → x = Int32.ofNat r → f_X6_requireMovement B x = (0, Int32.ofNat ((w + 10 - r) % 10), B)) := by
  have e0 : (0 : Int32).toInt = 0 := by decide
  have eL := ofN_toInt (a := L) (by omega)
  refine ⟨⟨fun _ => trivial, fun _ => ⟨fun _ => by unfold ok_X2_slot ok_J9_floorMod_7cf53; decide, fun _ => trivial⟩⟩, fun hx => ?_, fun r hr hx => ?_⟩
  · unfold acc at hx
    unfold f_X6_requireMovement
    by_cases hx0 : x < 0
    · rw [if_pos hx0]
    · rw [if_neg hx0, if_neg (by rw [i32_lt] at hx0; rw [h0, i32_lt]; omega)]
  · subst hx
    unfold f_X6_requireMovement
    rw [if_neg (by rw [show (0 : Int32) = Int32.ofNat 0 from rfl, lt_ofN (by omega) (by omega)]; omega), h0, if_pos (by rw [lt_ofN (by omega) (by omega)]; exact hr)]
    unfold f_X2_slot
    rw [nm_eq, nm_eq, h1, fmodr hw (by omega)]
theorem reqMn {B : StB} {L w r : Nat} (h0 : bi B 12 0 = Int32.ofNat L) (hL : L ≤ 10) (h1 : bi B 12 1 = Int32.ofNat w) (hw : w < 10) (hr : r < L) : ok_X6_requireMovement_n B (Int32.ofNat r) ∧ f_X6_requireMovement_n B (Int32.ofNat r) = Int32.ofNat ((w + 10 - r) % 10) := by
  have w0 : ¬ Int32.ofNat r < 0 := by
    rw [show (0 : Int32) = Int32.ofNat 0 from rfl, lt_ofN (by omega) (by omega)]
    omega
  have w1 : Int32.ofNat r < bi B 12 0 := by
    rw [h0, lt_ofN (by omega) (by omega)]
    exact hr
  refine ⟨⟨fun h => w0 h, fun _ => ⟨fun _ => by unfold ok_X2_slot ok_J9_floorMod_7cf53; decide, fun h => h w1⟩⟩, ?_⟩
  unfold f_X6_requireMovement_n
  rw [if_neg w0, if_pos w1]
  unfold f_X2_slot
  rw [nm_eq, nm_eq, h1, fmodr hw (by omega)]
theorem ask_of {B : StB} {k : Nat} {x1 x2 x3 : Int32} (o : ok_L_asked B x1 x2 x3) (f : f_L_asked B x1 x2 x3 = (k, 0, B)) (hk : k = 1 ∨ k = 2 ∨ k = 5) : ok_L_ask B x1 x2 x3 ∧ f_L_ask B x1 x2 x3 = (code_ask k 0, B) := by
  refine ⟨⟨o, ?_⟩, ?_⟩
  · intro z hz
    rw [hz, f]
    exact Or.inr hk
  · unfold f_L_ask
    rw [nm_eq, f]
theorem jour_ask {B : StB} {L w : Nat} {x : Int32} (h0 : bi B 12 0 = Int32.ofNat L) (hL : L ≤ 10) (h1 : bi B 12 1 = Int32.ofNat w) (hw : w < 10) (hx : ¬ acc L x) : ok_L_ask B 8 x 0 ∧ f_L_ask B 8 x 0 = (-20004, B) := by
  obtain ⟨o, f, -⟩ := reqM x h0 hL h1 hw
  have f := f hx
  have e : f_X6_movementAmount B x = (5, 0, B) := by
    unfold f_X6_movementAmount
    rw [nm_eq, f]
    rfl
  have oo : ok_X6_movementAmount B x := by
    refine ⟨o, ?_⟩
    intro z hz h9
    rw [hz, f] at h9
    exact absurd (show (5 : Nat) = 0 from h9) (by decide)
  refine ask_of (k := 5) ?_ ?_ (by omega)
  · exact ⟨fun h9 => absurd h9 (by decide), fun _ => ⟨fun h9 => absurd h9 (by decide), fun _ => ⟨fun h9 => absurd h9 (by decide), fun _ => ⟨fun h9 => absurd h9 (by decide), fun _ => ⟨fun h9 => absurd h9 (by decide), fun _ => ⟨fun h9 => absurd h9 (by decide), fun _ => ⟨fun h9 => absurd h9 (by decide), fun _ => ⟨fun h9 => absurd h9 (by decide), fun _ => ⟨fun _ => oo, fun h9 => absurd rfl h9⟩⟩⟩⟩⟩⟩⟩⟩⟩
  · unfold f_L_asked
    rw [if_neg (by decide), if_neg (by decide), if_neg (by decide), if_neg (by decide), if_neg (by decide), if_neg (by decide), if_neg (by decide), if_neg (by decide), if_pos rfl, nm_eq, e]
    rfl
theorem jour_L {n L w : Nat} {B : StB} {R : Nat → Int32} (h0 : bi B 12 0 = Int32.ofNat L) (hL : L ≤ 10) (h1 : bi B 12 1 = Int32.ofNat w) (hw : w < 10) (j1 : ∀ r, r < L → jk (R (94 + 3 * r))) (j2 : ∀ r, r < L → ba B 13 ((w + 10 - r) % 10) = R (94 + 3 * r)) (j3 : ∀ r, r < L → ba B 14 ((w + 10 - r) % 10) = R (95 + 3 * r)) (j4 : ∀ r, r < L → ba B 15 ((w + 10 - r) % 10) = R (96 + 3 * r)) (hn : n ≤ 8) (hc : f_X6_accountCount B = Int32.ofNat n) (hX : ∀ r, r < L → 1 ≤ (R (95 + 3 * r)).toInt ∧ ∃ i, i < n ∧ R (96 + 3 * r) = Int32.ofNat i) : ∀ (g nf k : Nat), k + g = L → g < nf → Gz (fun v => v = 1) (ok_L_isJournalRight_L47 nf B (Int32.ofNat L) 1 (Int32.ofNat k)) (f_L_isJournalRight_L47 nf B (Int32.ofNat L) 1 (Int32.ofNat k)) := by
  intro g
  induction g with
  | zero =>
    intro nf k hk hnf
    obtain ⟨nf, rfl⟩ : ∃ q, nf = q + 1 := ⟨nf - 1, by omega⟩
    have c : Int32.ofNat L ≤ Int32.ofNat k := by
      rw [le_ofN (by omega) (by omega)]
      omega
    unfold f_L_isJournalRight_L47 ok_L_isJournalRight_L47
    exact G_pos c ⟨trivial, rfl⟩
  | succ g ih =>
    intro nf k hk hnf
    obtain ⟨nf, rfl⟩ : ∃ q, nf = q + 1 := ⟨nf - 1, by omega⟩
    have c : ¬ Int32.ofNat L ≤ Int32.ofNat k := by
      rw [le_ofN (by omega) (by omega)]
      omega
    have hkL : k < L := by omega
    obtain ⟨o, f⟩ := reqMn h0 hL h1 hw hkL
    have hx : ix (Int32.ofNat ((w + 10 - k) % 10)) = (w + 10 - k) % 10 := ix_o (by omega)
    have hv : vp_in (Int32.ofNat ((w + 10 - k) % 10)) 10 := in_o (by omega) (by omega)
    have hj := j1 k hkL
    have oK : ok_X6_movementKind_n B (Int32.ofNat k) := by
      refine ⟨o, ?_⟩
      intro r hr
      rw [hr, f, hx, j2 k hkL]
      refine ⟨hv, ?_⟩
      rcases hj with h | h | h | h | h | h <;> rw [h] <;> rfl
    have fK : f_X6_movementKind_n B (Int32.ofNat k) = R (94 + 3 * k) := by
      unfold f_X6_movementKind_n
      rw [nm_eq, f, hx, j2 k hkL]
    have oA : ok_X6_movementAmount_n B (Int32.ofNat k) := by
      refine ⟨o, ?_⟩
      intro r hr
      rw [hr, f]
      exact hv
    have fA : f_X6_movementAmount_n B (Int32.ofNat k) = R (95 + 3 * k) := by
      unfold f_X6_movementAmount_n
      rw [nm_eq, f, hx, j3 k hkL]
    have oW : ok_X6_movementAccount_n B (Int32.ofNat k) := by
      refine ⟨o, ?_⟩
      intro r hr
      rw [hr, f]
      exact hv
    have fW : f_X6_movementAccount_n B (Int32.ofNat k) = R (96 + 3 * k) := by
      unfold f_X6_movementAccount_n
      rw [nm_eq, f, hx, j4 k hkL]
    obtain ⟨p1, i, hi, ei⟩ := hX k hkL
    have w1 : ¬ R (95 + 3 * k) ≤ 0 := by
      rw [i32_le, lit.1]
      omega
    have w2 : ¬ Int32.ofNat n ≤ R (96 + 3 * k) := by
      rw [ei, le_ofN (by omega) (by omega)]
      omega
    have r1 := ih nf (k + 1) (by omega) (by omega)
    rw [← oad1] at r1
    unfold f_L_isJournalRight_L47 ok_L_isJournalRight_L47
    refine G_neg c (G_ka oK fK ?_)
    rcases hj with h | h | h | h | h | h
    · exact G_pos h (G_neg (by decide) (G_ka oA fA (G_neg w1 (G_ka oW fW (G_as hc (G_neg w2 r1))))))
    · exact G_neg (by rw [h]; decide) (G_pos h (G_neg (by decide) (G_ka oA fA (G_neg w1 (G_ka oW fW (G_as hc (G_neg w2 r1)))))))
    · exact G_neg (by rw [h]; decide) (G_neg (by rw [h]; decide) (G_pos h (G_neg (by decide) (G_ka oA fA (G_neg w1 (G_ka oW fW (G_as hc (G_neg w2 r1))))))))
    · exact G_neg (by rw [h]; decide) (G_neg (by rw [h]; decide) (G_neg (by rw [h]; decide) (G_pos h (G_neg (by decide) (G_ka oA fA (G_neg w1 (G_ka oW fW (G_as hc (G_neg w2 r1)))))))))
    · exact G_neg (by rw [h]; decide) (G_neg (by rw [h]; decide) (G_neg (by rw [h]; decide) (G_neg (by rw [h]; decide) (G_pos h (G_neg (by decide) (G_ka oA fA (G_neg w1 (G_ka oW fW (G_as hc (G_neg w2 r1))))))))))
    · exact G_neg (by rw [h]; decide) (G_neg (by rw [h]; decide) (G_neg (by rw [h]; decide) (G_neg (by rw [h]; decide) (G_neg (by rw [h]; decide) (G_pos h (G_neg (by decide) (G_ka oA fA (G_neg w1 (G_ka oW fW (G_as hc (G_neg w2 r1)))))))))))
theorem jour_C {e n t : Nat} {B : StB} {R : Nat → Int32} (h : SS e n t B R) : Gz (fun z => z = ((1 : Int32), B)) (ok_L_isJournalRight B) (f_L_isJournalRight B) := by
  obtain ⟨hT, hR, ⟨-, LX, x1, x2, x3⟩, -⟩ := h
  have hc := acn hT
  have hn := (Ti_n hT).2.2
  obtain ⟨L, w, j0, j1, j2, j3, j4, j8, j5, j6, j7⟩ := hT.2.2.1
  have hLX : LX = L := by
    rw [j1] at x1
    exact ((ofN_inj (by omega) (by omega)).mp x1).symm
  subst hLX
  have j0 : bi B 12 0 = Int32.ofNat LX := j0
  have nL : ¬ acc LX (Int32.ofNat LX) := by
    unfold acc
    rw [ofN_toInt (by omega)]
    omega
  have nM : ¬ acc LX (-1) := by
    unfold acc
    rw [show (-1 : Int32).toInt = -1 from by decide]
    omega
  obtain ⟨a1, a2⟩ := jour_ask j0 j2 j3 j4 nL
  obtain ⟨b1, b2⟩ := jour_ask j0 j2 j3 j4 nM
  have w10 : ¬ (10 : Int32) < Int32.ofNat LX := by
    rw [show (10 : Int32) = Int32.ofNat 10 from rfl, lt_ofN (by omega) (by omega)]
    omega
  obtain ⟨g1, g2⟩ := jour_L j0 j2 j3 j4 j8 j5 j6 j7 hn hc x3 LX 20 0 (by omega) (by omega)
  have g1 : ok_L_isJournalRight_L47 20 B (Int32.ofNat LX) 1 0 := g1
  have g2 : f_L_isJournalRight_L47 20 B (Int32.ofNat LX) 1 0 = 1 := g2
  unfold f_L_isJournalRight ok_L_isJournalRight
  refine G_as j0 (G_neg w10 (G_ka a1 a2 (G_pos rfl (G_ka b1 b2 (G_pos rfl ?_)))))
  unfold f_L_isJournalRight_J44 ok_L_isJournalRight_J44
  refine ⟨⟨g1, ?_⟩, ?_⟩
  · intro z hz
    rw [hz]
    exact nar01 (Or.inr g2)
  · rw [nm_eq]
    show (f_L_isJournalRight_L47 20 B (Int32.ofNat LX) 1 0, B) = (1, B)
    rw [g2]
