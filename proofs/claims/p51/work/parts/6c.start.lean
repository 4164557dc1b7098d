/-! the world behind the constructors is the world of places -/
def sg (p : Nat) : Nat := if p < 48 then p + 1 else if p < 176 then p + 3 else if p = 176 then 0 else if p < 179 then p - 128 else if p < 182 then p else if p = 182 then 184 else if p < 191 then p + 2 else if p < 193 then p - 9 else p
def sgi (i : Nat) : Nat := if i = 0 then 176 else if i < 49 then i - 1 else if i < 51 then i + 128 else if i < 179 then i - 3 else if i < 182 then i else if i < 184 then i + 9 else if i = 184 then 182 else if i < 193 then i - 2 else i
theorem sgi_sg : ∀ p, p < 193 → sgi (sg p) = p := by decide +kernel
def ad0 (F : Nat → Nat) (p : Nat) : Nat := F (sg p)
def B0 : StB := (fun p k => if p = 176 ∧ (k = 8 ∨ k = 9) then -1 else 0, fun _ _ => 0, fun _ _ => 0, 16)
def M0 : StM := (fun _ => 0, fun _ _ => 0)
def O0 : StO := (0, 0)
theorem ws0_st (F : Nat → Nat) : (fun j => if j < 8 then some (ad0 F (48 + 16 * j)) else none) = (fun j => if j < 8 then some (F (49 + (2 + 16 * j))) else none) := by
  funext j
  by_cases h : j < 8
  · rw [if_pos h, if_pos h]
    unfold ad0 sg
    rw [if_neg (by omega), if_pos (by omega)]
    congr 2
    omega
  · rw [if_neg h, if_neg h]
theorem ws0_su (F : Nat → Nat) : (fun j => if j < 8 then some (ad0 F (183 + j)) else none) = (fun j => if j < 8 then some (F (185 + j)) else none) := by
  funext j
  by_cases h : j < 8
  · rw [if_pos h, if_pos h]
    unfold ad0 sg
    rw [if_neg (by omega), if_neg (by omega), if_neg (by omega), if_neg (by omega), if_neg (by omega), if_neg (by omega), if_pos (by omega)]
    congr 2
    omega
  · rw [if_neg h, if_neg h]
set_option maxHeartbeats 4000000 in
set_option maxRecDepth 100000 in
theorem ws0_at0 (G : GT) (F : Nat → Nat) : ∀ k, 0 ≤ k → k < 48 → (kI G F)[sg k]? = some (ad0 F k, ent G (ad0 F) B0 M0 O0 k) := by
  intro k h1 h2
  obtain ⟨i, rfl⟩ : ∃ i, k = 0 + i := ⟨k - 0, by omega⟩
  have h3 : i < 48 := by omega
  clear h1 h2
  match i, h3 with
  | 0, _ => rfl
  | 1, _ => rfl
  | 2, _ => rfl
  | 3, _ => rfl
  | 4, _ => rfl
  | 5, _ => rfl
  | 6, _ => rfl
  | 7, _ => rfl
  | 8, _ => rfl
  | 9, _ => rfl
  | 10, _ => rfl
  | 11, _ => rfl
  | 12, _ => rfl
  | 13, _ => rfl
  | 14, _ => rfl
  | 15, _ => rfl
  | 16, _ => rfl
  | 17, _ => rfl
  | 18, _ => rfl
  | 19, _ => rfl
  | 20, _ => rfl
  | 21, _ => rfl
  | 22, _ => rfl
  | 23, _ => rfl
  | 24, _ => rfl
  | 25, _ => rfl
  | 26, _ => rfl
  | 27, _ => rfl
  | 28, _ => rfl
  | 29, _ => rfl
  | 30, _ => rfl
  | 31, _ => rfl
  | 32, _ => rfl
  | 33, _ => rfl
  | 34, _ => rfl
  | 35, _ => rfl
  | 36, _ => rfl
  | 37, _ => rfl
  | 38, _ => rfl
  | 39, _ => rfl
  | 40, _ => rfl
  | 41, _ => rfl
  | 42, _ => rfl
  | 43, _ => rfl
  | 44, _ => rfl
  | 45, _ => rfl
  | 46, _ => rfl
  | 47, _ => rfl
  | i + 48, h => exact absurd h (by omega)
set_option maxHeartbeats 4000000 in
set_option maxRecDepth 100000 in
theorem ws0_at1 (G : GT) (F : Nat → Nat) : ∀ k, 48 ≤ k → k < 112 → (kI G F)[sg k]? = some (ad0 F k, ent G (ad0 F) B0 M0 O0 k) := by
  intro k h1 h2
  obtain ⟨i, rfl⟩ : ∃ i, k = 48 + i := ⟨k - 48, by omega⟩
  have h3 : i < 64 := by omega
  clear h1 h2
  match i, h3 with
  | 0, _ => rfl
  | 1, _ => rfl
  | 2, _ => rfl
  | 3, _ => rfl
  | 4, _ => rfl
  | 5, _ => rfl
  | 6, _ => rfl
  | 7, _ => rfl
  | 8, _ => rfl
  | 9, _ => rfl
  | 10, _ => rfl
  | 11, _ => rfl
  | 12, _ => rfl
  | 13, _ => rfl
  | 14, _ => rfl
  | 15, _ => rfl
  | 16, _ => rfl
  | 17, _ => rfl
  | 18, _ => rfl
  | 19, _ => rfl
  | 20, _ => rfl
  | 21, _ => rfl
  | 22, _ => rfl
  | 23, _ => rfl
  | 24, _ => rfl
  | 25, _ => rfl
  | 26, _ => rfl
  | 27, _ => rfl
  | 28, _ => rfl
  | 29, _ => rfl
  | 30, _ => rfl
  | 31, _ => rfl
  | 32, _ => rfl
  | 33, _ => rfl
  | 34, _ => rfl
  | 35, _ => rfl
  | 36, _ => rfl
  | 37, _ => rfl
  | 38, _ => rfl
  | 39, _ => rfl
  | 40, _ => rfl
  | 41, _ => rfl
  | 42, _ => rfl
  | 43, _ => rfl
  | 44, _ => rfl
  | 45, _ => rfl
  | 46, _ => rfl
  | 47, _ => rfl
  | 48, _ => rfl
  | 49, _ => rfl
  | 50, _ => rfl
  | 51, _ => rfl
  | 52, _ => rfl
  | 53, _ => rfl
  | 54, _ => rfl
  | 55, _ => rfl
  | 56, _ => rfl
  | 57, _ => rfl
  | 58, _ => rfl
  | 59, _ => rfl
  | 60, _ => rfl
  | 61, _ => rfl
  | 62, _ => rfl
  | 63, _ => rfl
  | i + 64, h => exact absurd h (by omega)
set_option maxHeartbeats 4000000 in
set_option maxRecDepth 100000 in
theorem ws0_at2 (G : GT) (F : Nat → Nat) : ∀ k, 112 ≤ k → k < 176 → (kI G F)[sg k]? = some (ad0 F k, ent G (ad0 F) B0 M0 O0 k) := by
  intro k h1 h2
  obtain ⟨i, rfl⟩ : ∃ i, k = 112 + i := ⟨k - 112, by omega⟩
  have h3 : i < 64 := by omega
  clear h1 h2
  match i, h3 with
  | 0, _ => rfl
  | 1, _ => rfl
  | 2, _ => rfl
  | 3, _ => rfl
  | 4, _ => rfl
  | 5, _ => rfl
  | 6, _ => rfl
  | 7, _ => rfl
  | 8, _ => rfl
  | 9, _ => rfl
  | 10, _ => rfl
  | 11, _ => rfl
  | 12, _ => rfl
  | 13, _ => rfl
  | 14, _ => rfl
  | 15, _ => rfl
  | 16, _ => rfl
  | 17, _ => rfl
  | 18, _ => rfl
  | 19, _ => rfl
  | 20, _ => rfl
  | 21, _ => rfl
  | 22, _ => rfl
  | 23, _ => rfl
  | 24, _ => rfl
  | 25, _ => rfl
  | 26, _ => rfl
  | 27, _ => rfl
  | 28, _ => rfl
  | 29, _ => rfl
  | 30, _ => rfl
  | 31, _ => rfl
  | 32, _ => rfl
  | 33, _ => rfl
  | 34, _ => rfl
  | 35, _ => rfl
  | 36, _ => rfl
  | 37, _ => rfl
  | 38, _ => rfl
  | 39, _ => rfl
  | 40, _ => rfl
  | 41, _ => rfl
  | 42, _ => rfl
  | 43, _ => rfl
  | 44, _ => rfl
  | 45, _ => rfl
  | 46, _ => rfl
  | 47, _ => rfl
  | 48, _ => rfl
  | 49, _ => rfl
  | 50, _ => rfl
  | 51, _ => rfl
  | 52, _ => rfl
  | 53, _ => rfl
  | 54, _ => rfl
  | 55, _ => rfl
  | 56, _ => rfl
  | 57, _ => rfl
  | 58, _ => rfl
  | 59, _ => rfl
  | 60, _ => rfl
  | 61, _ => rfl
  | 62, _ => rfl
  | 63, _ => rfl
  | i + 64, h => exact absurd h (by omega)
set_option maxHeartbeats 4000000 in
set_option maxRecDepth 100000 in
theorem ws0_at3 (G : GT) (F : Nat → Nat) : ∀ k, 176 ≤ k → k < 193 → (kI G F)[sg k]? = some (ad0 F k, ent G (ad0 F) B0 M0 O0 k) := by
  intro k h1 h2
  obtain ⟨i, rfl⟩ : ∃ i, k = 176 + i := ⟨k - 176, by omega⟩
  have h3 : i < 17 := by omega
  clear h1 h2
  match i, h3 with
  | 0, _ => rfl
  | 1, _ => rfl
  | 2, _ => exact (congrArg (fun f => some (F 50, (Sum.inl (G.2.1 4, 8, .inr (.inr (.inr (.inr f)))) : va_E))) (ws0_st F)).symm
  | 3, _ => rfl
  | 4, _ => rfl
  | 5, _ => rfl
  | 6, _ => exact (congrArg (fun f => some (F 184, (Sum.inl (G.2.1 5, 8, .inr (.inr (.inr (.inr f)))) : va_E))) (ws0_su F)).symm
  | 7, _ => rfl
  | 8, _ => rfl
  | 9, _ => rfl
  | 10, _ => rfl
  | 11, _ => rfl
  | 12, _ => rfl
  | 13, _ => rfl
  | 14, _ => rfl
  | 15, _ => rfl
  | 16, _ => rfl
  | i + 17, h => exact absurd h (by omega)
theorem ws0_at (G : GT) (F : Nat → Nat) (k : Nat) (h : k < 193) : (kI G F)[sg k]? = some (ad0 F k, ent G (ad0 F) B0 M0 O0 k) := by
  by_cases h0 : k < 48
  · exact ws0_at0 G F k (by omega) h0
  · by_cases h1 : k < 112
    · exact ws0_at1 G F k (by omega) h1
    · by_cases h2 : k < 176
      · exact ws0_at2 G F k (by omega) h2
      · exact ws0_at3 G F k (by omega) h
theorem ws0_P {G : GT} {F : Nat → Nat} {H : Heap} (hG : G.2.2.2.2 3 = 0) (h : va_P G.1 vwCl (kI G F) H) : va_P G.1 vwCl (wl G (ad0 F) B0 M0 O0) H := by
  intro k q hk
  have hl : k < 193 + G.2.2.2.2 3 := by
    have := (List.getElem?_eq_some_iff.mp hk).1
    simpa [wl] using this
  rw [wl_at ⟨hl, rfl⟩] at hk
  cases hk
  exact h _ _ (ws0_at G F k (by omega))
theorem ws0_ok {A : Nat → Prop} {G : GT} {F : Nat → Nat} (hG : G.2.2.2.2 3 = 0) (h : va_D A (kI G F)) : AdOk A G (ad0 F) := by
  refine ⟨fun i j hi hj e => ?_, fun i hi => h.2 _ _ (ws0_at G F i (by omega))⟩
  have := h.1 _ _ _ _ (ws0_at G F i (by omega)) (ws0_at G F j (by omega)) e
  rw [← sgi_sg i (by omega), this, sgi_sg j (by omega)]
