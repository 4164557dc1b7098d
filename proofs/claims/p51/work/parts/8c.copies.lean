theorem nm_eq {α β : Type} {v : α} {k : α → β} : nm v k = k v := rfl
/-- the first t numbers copied: from array i at a into array j at b -/
def mcp (M : StM) (i a j b t : Nat) : StM := (M.1, fun q k => if q = j ∧ b ≤ k ∧ k < b + t then M.2 i (a + (k - b)) else M.2 q k)
theorem mcp_0 (M : StM) (i a j b : Nat) : mcp M i a j b 0 = M := by
  unfold mcp
  refine Prod.ext rfl (funext fun q => funext fun k => ?_)
  show (if q = j ∧ b ≤ k ∧ k < b + 0 then _ else _) = _
  rw [if_neg (by omega)]
theorem mcp_s (M : StM) (i a j b t : Nat) (hij : i ≠ j) : sma (mcp M i a j b t) j (b + t) (ma (mcp M i a j b t) i (a + t)) = mcp M i a j b (t + 1) := by
  have e : ma (mcp M i a j b t) i (a + t) = M.2 i (a + t) := if_neg (fun h => hij h.1)
  rw [e]
  refine Prod.ext rfl (funext fun q => funext fun k => ?_)
  show (if q = j ∧ k = b + t then M.2 i (a + t) else (if q = j ∧ b ≤ k ∧ k < b + t then M.2 i (a + (k - b)) else M.2 q k)) = (if q = j ∧ b ≤ k ∧ k < b + (t + 1) then M.2 i (a + (k - b)) else M.2 q k)
  by_cases h : q = j ∧ k = b + t
  · rw [if_pos h, if_pos (by omega), show k - b = t by omega]
  · rw [if_neg h]
    by_cases h2 : q = j ∧ b ≤ k ∧ k < b + t
    · rw [if_pos h2, if_pos (by omega)]
    · rw [if_neg h2, if_neg (by omega)]
theorem ix_add {a t : Nat} (h : a + t < 2 ^ 31) : ix (Int32.ofNat a + Int32.ofNat t) = a + t := by
  rw [← Int32.ofNat_add]
  exact ix_ofN h
theorem in_add {a t L : Nat} (h : a + t < 2 ^ 31) (hl : a + t < L) : vp_in (Int32.ofNat a + Int32.ofNat t) L := by
  rw [← Int32.ofNat_add]
  exact ofN_in h hl
theorem le_ofN {a b : Nat} (ha : a < 2 ^ 31) (hb : b < 2 ^ 31) : (Int32.ofNat a ≤ Int32.ofNat b) ↔ a ≤ b := by
  rw [i32_le, ofN_toInt ha, ofN_toInt hb]
  omega
theorem lt_ofN {a b : Nat} (ha : a < 2 ^ 31) (hb : b < 2 ^ 31) : (Int32.ofNat a < Int32.ofNat b) ↔ a < b := by
  rw [i32_lt, ofN_toInt ha, ofN_toInt hb]
  omega
theorem L_copies_M0_M1 (M : StM) (a b : Nat) (ha : a + 124 ≤ 124) (hb : b + 124 ≤ 124) : ∀ (n t : Nat), t ≤ 124 → 124 < n + t → f_X7_copies_M0_M1_L3 n (mcp M 0 a 1 b t) (Int32.ofNat a) (Int32.ofNat b) (Int32.ofNat t) = mcp M 0 a 1 b 124 ∧ ok_X7_copies_M0_M1_L3 n (mcp M 0 a 1 b t) (Int32.ofNat a) (Int32.ofNat b) (Int32.ofNat t) := by
  intro n
  induction n with
  | zero => intro t h1 h2; omega
  | succ n ih =>
    intro t h1 h2
    have e1 : ((124 : Int32) ≤ Int32.ofNat t) ↔ 124 ≤ t := le_ofN (a := 124) (by decide) (by omega)
    by_cases h : 124 ≤ t
    · have : t = 124 := by omega
      subst this
      refine ⟨?_, ?_⟩
      · unfold f_X7_copies_M0_M1_L3
        rw [if_pos (e1.mpr h)]
      · unfold ok_X7_copies_M0_M1_L3
        exact ⟨fun _ => trivial, fun h9 => absurd (e1.mpr h) h9⟩
    · obtain ⟨g1, g2⟩ := ih (t + 1) (by omega) (by omega)
      have e2 : sma (mcp M 0 a 1 b t) 1 (ix (Int32.ofNat b + Int32.ofNat t)) (ma (mcp M 0 a 1 b t) 0 (ix (Int32.ofNat a + Int32.ofNat t))) = mcp M 0 a 1 b (t + 1) := by
        rw [ix_add (by omega), ix_add (by omega)]
        exact mcp_s M 0 a 1 b t (by decide)
      have e3 : Int32.ofNat t + 1 = Int32.ofNat (t + 1) := (Int32.ofNat_add _ _).symm
      refine ⟨?_, ?_⟩
      · unfold f_X7_copies_M0_M1_L3
        rw [if_neg (fun h9 => h (e1.mp h9))]
        unfold nm
        rw [e2, e3]
        exact g1
      · unfold ok_X7_copies_M0_M1_L3
        refine ⟨fun _ => trivial, fun _ => ⟨in_add (by omega) (by omega), in_add (by omega) (by omega), ?_⟩⟩
        rintro M4 rfl
        rw [e2, e3]
        exact g2
theorem F_copies_M0_M1 (M : StM) (a b : Nat) (ha : a + 124 ≤ 124) (hb : b + 124 ≤ 124) : f_X7_copies_M0_M1 M (Int32.ofNat a) (Int32.ofNat b) = mcp M 0 a 1 b 124 ∧ ok_X7_copies_M0_M1 M (Int32.ofNat a) (Int32.ofNat b) := by
  have hfu : 124 < fu + 0 := by unfold fu; omega
  have h := L_copies_M0_M1 M a b ha hb fu 0 (by omega) hfu
  have e0 : Int32.ofNat 0 = (0 : Int32) := rfl
  rw [mcp_0, e0] at h
  clear hfu
  unfold f_X7_copies_M0_M1 ok_X7_copies_M0_M1
  rw [nm_eq]
  exact h
theorem L_copies_M1_M4 (M : StM) (a b : Nat) (ha : a + 124 ≤ 124) (hb : b + 124 ≤ 992) : ∀ (n t : Nat), t ≤ 124 → 124 < n + t → f_X7_copies_M1_M4_L3 n (mcp M 1 a 4 b t) (Int32.ofNat a) (Int32.ofNat b) (Int32.ofNat t) = mcp M 1 a 4 b 124 ∧ ok_X7_copies_M1_M4_L3 n (mcp M 1 a 4 b t) (Int32.ofNat a) (Int32.ofNat b) (Int32.ofNat t) := by
  intro n
  induction n with
  | zero => intro t h1 h2; omega
  | succ n ih =>
    intro t h1 h2
    have e1 : ((124 : Int32) ≤ Int32.ofNat t) ↔ 124 ≤ t := le_ofN (a := 124) (by decide) (by omega)
    by_cases h : 124 ≤ t
    · have : t = 124 := by omega
      subst this
      refine ⟨?_, ?_⟩
      · unfold f_X7_copies_M1_M4_L3
        rw [if_pos (e1.mpr h)]
      · unfold ok_X7_copies_M1_M4_L3
        exact ⟨fun _ => trivial, fun h9 => absurd (e1.mpr h) h9⟩
    · obtain ⟨g1, g2⟩ := ih (t + 1) (by omega) (by omega)
      have e2 : sma (mcp M 1 a 4 b t) 4 (ix (Int32.ofNat b + Int32.ofNat t)) (ma (mcp M 1 a 4 b t) 1 (ix (Int32.ofNat a + Int32.ofNat t))) = mcp M 1 a 4 b (t + 1) := by
        rw [ix_add (by omega), ix_add (by omega)]
        exact mcp_s M 1 a 4 b t (by decide)
      have e3 : Int32.ofNat t + 1 = Int32.ofNat (t + 1) := (Int32.ofNat_add _ _).symm
      refine ⟨?_, ?_⟩
      · unfold f_X7_copies_M1_M4_L3
        rw [if_neg (fun h9 => h (e1.mp h9))]
        unfold nm
        rw [e2, e3]
        exact g1
      · unfold ok_X7_copies_M1_M4_L3
        refine ⟨fun _ => trivial, fun _ => ⟨in_add (by omega) (by omega), in_add (by omega) (by omega), ?_⟩⟩
        rintro M4 rfl
        rw [e2, e3]
        exact g2
theorem F_copies_M1_M4 (M : StM) (a b : Nat) (ha : a + 124 ≤ 124) (hb : b + 124 ≤ 992) : f_X7_copies_M1_M4 M (Int32.ofNat a) (Int32.ofNat b) = mcp M 1 a 4 b 124 ∧ ok_X7_copies_M1_M4 M (Int32.ofNat a) (Int32.ofNat b) := by
  have hfu : 124 < fu + 0 := by unfold fu; omega
  have h := L_copies_M1_M4 M a b ha hb fu 0 (by omega) hfu
  have e0 : Int32.ofNat 0 = (0 : Int32) := rfl
  rw [mcp_0, e0] at h
  clear hfu
  unfold f_X7_copies_M1_M4 ok_X7_copies_M1_M4
  rw [nm_eq]
  exact h
theorem L_copies_M1_M0 (M : StM) (a b : Nat) (ha : a + 124 ≤ 124) (hb : b + 124 ≤ 124) : ∀ (n t : Nat), t ≤ 124 → 124 < n + t → f_X7_copies_M1_M0_L3 n (mcp M 1 a 0 b t) (Int32.ofNat a) (Int32.ofNat b) (Int32.ofNat t) = mcp M 1 a 0 b 124 ∧ ok_X7_copies_M1_M0_L3 n (mcp M 1 a 0 b t) (Int32.ofNat a) (Int32.ofNat b) (Int32.ofNat t) := by
  intro n
  induction n with
  | zero => intro t h1 h2; omega
  | succ n ih =>
    intro t h1 h2
    have e1 : ((124 : Int32) ≤ Int32.ofNat t) ↔ 124 ≤ t := le_ofN (a := 124) (by decide) (by omega)
    by_cases h : 124 ≤ t
    · have : t = 124 := by omega
      subst this
      refine ⟨?_, ?_⟩
      · unfold f_X7_copies_M1_M0_L3
        rw [if_pos (e1.mpr h)]
      · unfold ok_X7_copies_M1_M0_L3
        exact ⟨fun _ => trivial, fun h9 => absurd (e1.mpr h) h9⟩
    · obtain ⟨g1, g2⟩ := ih (t + 1) (by omega) (by omega)
      have e2 : sma (mcp M 1 a 0 b t) 0 (ix (Int32.ofNat b + Int32.ofNat t)) (ma (mcp M 1 a 0 b t) 1 (ix (Int32.ofNat a + Int32.ofNat t))) = mcp M 1 a 0 b (t + 1) := by
        rw [ix_add (by omega), ix_add (by omega)]
        exact mcp_s M 1 a 0 b t (by decide)
      have e3 : Int32.ofNat t + 1 = Int32.ofNat (t + 1) := (Int32.ofNat_add _ _).symm
      refine ⟨?_, ?_⟩
      · unfold f_X7_copies_M1_M0_L3
        rw [if_neg (fun h9 => h (e1.mp h9))]
        unfold nm
        rw [e2, e3]
        exact g1
      · unfold ok_X7_copies_M1_M0_L3
        refine ⟨fun _ => trivial, fun _ => ⟨in_add (by omega) (by omega), in_add (by omega) (by omega), ?_⟩⟩
        rintro M4 rfl
        rw [e2, e3]
        exact g2
theorem F_copies_M1_M0 (M : StM) (a b : Nat) (ha : a + 124 ≤ 124) (hb : b + 124 ≤ 124) : f_X7_copies_M1_M0 M (Int32.ofNat a) (Int32.ofNat b) = mcp M 1 a 0 b 124 ∧ ok_X7_copies_M1_M0 M (Int32.ofNat a) (Int32.ofNat b) := by
  have hfu : 124 < fu + 0 := by unfold fu; omega
  have h := L_copies_M1_M0 M a b ha hb fu 0 (by omega) hfu
  have e0 : Int32.ofNat 0 = (0 : Int32) := rfl
  rw [mcp_0, e0] at h
  clear hfu
  unfold f_X7_copies_M1_M0 ok_X7_copies_M1_M0
  rw [nm_eq]
  exact h
theorem L_copies_M4_M0 (M : StM) (a b : Nat) (ha : a + 124 ≤ 992) (hb : b + 124 ≤ 124) : ∀ (n t : Nat), t ≤ 124 → 124 < n + t → f_X7_copies_M4_M0_L3 n (mcp M 4 a 0 b t) (Int32.ofNat a) (Int32.ofNat b) (Int32.ofNat t) = mcp M 4 a 0 b 124 ∧ ok_X7_copies_M4_M0_L3 n (mcp M 4 a 0 b t) (Int32.ofNat a) (Int32.ofNat b) (Int32.ofNat t) := by
  intro n
  induction n with
  | zero => intro t h1 h2; omega
  | succ n ih =>
    intro t h1 h2
    have e1 : ((124 : Int32) ≤ Int32.ofNat t) ↔ 124 ≤ t := le_ofN (a := 124) (by decide) (by omega)
    by_cases h : 124 ≤ t
    · have : t = 124 := by omega
      subst this
      refine ⟨?_, ?_⟩
      · unfold f_X7_copies_M4_M0_L3
        rw [if_pos (e1.mpr h)]
      · unfold ok_X7_copies_M4_M0_L3
        exact ⟨fun _ => trivial, fun h9 => absurd (e1.mpr h) h9⟩
    · obtain ⟨g1, g2⟩ := ih (t + 1) (by omega) (by omega)
      have e2 : sma (mcp M 4 a 0 b t) 0 (ix (Int32.ofNat b + Int32.ofNat t)) (ma (mcp M 4 a 0 b t) 4 (ix (Int32.ofNat a + Int32.ofNat t))) = mcp M 4 a 0 b (t + 1) := by
        rw [ix_add (by omega), ix_add (by omega)]
        exact mcp_s M 4 a 0 b t (by decide)
      have e3 : Int32.ofNat t + 1 = Int32.ofNat (t + 1) := (Int32.ofNat_add _ _).symm
      refine ⟨?_, ?_⟩
      · unfold f_X7_copies_M4_M0_L3
        rw [if_neg (fun h9 => h (e1.mp h9))]
        unfold nm
        rw [e2, e3]
        exact g1
      · unfold ok_X7_copies_M4_M0_L3
        refine ⟨fun _ => trivial, fun _ => ⟨in_add (by omega) (by omega), in_add (by omega) (by omega), ?_⟩⟩
        rintro M4 rfl
        rw [e2, e3]
        exact g2
theorem F_copies_M4_M0 (M : StM) (a b : Nat) (ha : a + 124 ≤ 992) (hb : b + 124 ≤ 124) : f_X7_copies_M4_M0 M (Int32.ofNat a) (Int32.ofNat b) = mcp M 4 a 0 b 124 ∧ ok_X7_copies_M4_M0 M (Int32.ofNat a) (Int32.ofNat b) := by
  have hfu : 124 < fu + 0 := by unfold fu; omega
  have h := L_copies_M4_M0 M a b ha hb fu 0 (by omega) hfu
  have e0 : Int32.ofNat 0 = (0 : Int32) := rfl
  rw [mcp_0, e0] at h
  clear hfu
  unfold f_X7_copies_M4_M0 ok_X7_copies_M4_M0
  rw [nm_eq]
  exact h
theorem L_copies_M0_M3 (M : StM) (a b : Nat) (ha : a + 124 ≤ 124) (hb : b + 124 ≤ 124) : ∀ (n t : Nat), t ≤ 124 → 124 < n + t → f_X7_copies_M0_M3_L3 n (mcp M 0 a 3 b t) (Int32.ofNat a) (Int32.ofNat b) (Int32.ofNat t) = mcp M 0 a 3 b 124 ∧ ok_X7_copies_M0_M3_L3 n (mcp M 0 a 3 b t) (Int32.ofNat a) (Int32.ofNat b) (Int32.ofNat t) := by
  intro n
  induction n with
  | zero => intro t h1 h2; omega
  | succ n ih =>
    intro t h1 h2
    have e1 : ((124 : Int32) ≤ Int32.ofNat t) ↔ 124 ≤ t := le_ofN (a := 124) (by decide) (by omega)
    by_cases h : 124 ≤ t
    · have : t = 124 := by omega
      subst this
      refine ⟨?_, ?_⟩
      · unfold f_X7_copies_M0_M3_L3
        rw [if_pos (e1.mpr h)]
      · unfold ok_X7_copies_M0_M3_L3
        exact ⟨fun _ => trivial, fun h9 => absurd (e1.mpr h) h9⟩
    · obtain ⟨g1, g2⟩ := ih (t + 1) (by omega) (by omega)
      have e2 : sma (mcp M 0 a 3 b t) 3 (ix (Int32.ofNat b + Int32.ofNat t)) (ma (mcp M 0 a 3 b t) 0 (ix (Int32.ofNat a + Int32.ofNat t))) = mcp M 0 a 3 b (t + 1) := by
        rw [ix_add (by omega), ix_add (by omega)]
        exact mcp_s M 0 a 3 b t (by decide)
      have e3 : Int32.ofNat t + 1 = Int32.ofNat (t + 1) := (Int32.ofNat_add _ _).symm
      refine ⟨?_, ?_⟩
      · unfold f_X7_copies_M0_M3_L3
        rw [if_neg (fun h9 => h (e1.mp h9))]
        unfold nm
        rw [e2, e3]
        exact g1
      · unfold ok_X7_copies_M0_M3_L3
        refine ⟨fun _ => trivial, fun _ => ⟨in_add (by omega) (by omega), in_add (by omega) (by omega), ?_⟩⟩
        rintro M4 rfl
        rw [e2, e3]
        exact g2
theorem F_copies_M0_M3 (M : StM) (a b : Nat) (ha : a + 124 ≤ 124) (hb : b + 124 ≤ 124) : f_X7_copies_M0_M3 M (Int32.ofNat a) (Int32.ofNat b) = mcp M 0 a 3 b 124 ∧ ok_X7_copies_M0_M3 M (Int32.ofNat a) (Int32.ofNat b) := by
  have hfu : 124 < fu + 0 := by unfold fu; omega
  have h := L_copies_M0_M3 M a b ha hb fu 0 (by omega) hfu
  have e0 : Int32.ofNat 0 = (0 : Int32) := rfl
  rw [mcp_0, e0] at h
  clear hfu
  unfold f_X7_copies_M0_M3 ok_X7_copies_M0_M3
  rw [nm_eq]
  exact h
theorem L_copies_M3_M0 (M : StM) (a b : Nat) (ha : a + 124 ≤ 124) (hb : b + 124 ≤ 124) : ∀ (n t : Nat), t ≤ 124 → 124 < n + t → f_X7_copies_M3_M0_L3 n (mcp M 3 a 0 b t) (Int32.ofNat a) (Int32.ofNat b) (Int32.ofNat t) = mcp M 3 a 0 b 124 ∧ ok_X7_copies_M3_M0_L3 n (mcp M 3 a 0 b t) (Int32.ofNat a) (Int32.ofNat b) (Int32.ofNat t) := by
  intro n
  induction n with
  | zero => intro t h1 h2; omega
  | succ n ih =>
    intro t h1 h2
    have e1 : ((124 : Int32) ≤ Int32.ofNat t) ↔ 124 ≤ t := le_ofN (a := 124) (by decide) (by omega)
    by_cases h : 124 ≤ t
    · have : t = 124 := by omega
      subst this
      refine ⟨?_, ?_⟩
      · unfold f_X7_copies_M3_M0_L3
        rw [if_pos (e1.mpr h)]
      · unfold ok_X7_copies_M3_M0_L3
        exact ⟨fun _ => trivial, fun h9 => absurd (e1.mpr h) h9⟩
    · obtain ⟨g1, g2⟩ := ih (t + 1) (by omega) (by omega)
      have e2 : sma (mcp M 3 a 0 b t) 0 (ix (Int32.ofNat b + Int32.ofNat t)) (ma (mcp M 3 a 0 b t) 3 (ix (Int32.ofNat a + Int32.ofNat t))) = mcp M 3 a 0 b (t + 1) := by
        rw [ix_add (by omega), ix_add (by omega)]
        exact mcp_s M 3 a 0 b t (by decide)
      have e3 : Int32.ofNat t + 1 = Int32.ofNat (t + 1) := (Int32.ofNat_add _ _).symm
      refine ⟨?_, ?_⟩
      · unfold f_X7_copies_M3_M0_L3
        rw [if_neg (fun h9 => h (e1.mp h9))]
        unfold nm
        rw [e2, e3]
        exact g1
      · unfold ok_X7_copies_M3_M0_L3
        refine ⟨fun _ => trivial, fun _ => ⟨in_add (by omega) (by omega), in_add (by omega) (by omega), ?_⟩⟩
        rintro M4 rfl
        rw [e2, e3]
        exact g2
theorem F_copies_M3_M0 (M : StM) (a b : Nat) (ha : a + 124 ≤ 124) (hb : b + 124 ≤ 124) : f_X7_copies_M3_M0 M (Int32.ofNat a) (Int32.ofNat b) = mcp M 3 a 0 b 124 ∧ ok_X7_copies_M3_M0 M (Int32.ofNat a) (Int32.ofNat b) := by
  have hfu : 124 < fu + 0 := by unfold fu; omega
  have h := L_copies_M3_M0 M a b ha hb fu 0 (by omega) hfu
  have e0 : Int32.ofNat 0 = (0 : Int32) := rfl
  rw [mcp_0, e0] at h
  clear hfu
  unfold f_X7_copies_M3_M0 ok_X7_copies_M3_M0
  rw [nm_eq]
  exact h
theorem L_copies_M0_M2 (M : StM) (a b : Nat) (ha : a + 124 ≤ 124) (hb : b + 124 ≤ 124) : ∀ (n t : Nat), t ≤ 124 → 124 < n + t → f_X7_copies_M0_M2_L3 n (mcp M 0 a 2 b t) (Int32.ofNat a) (Int32.ofNat b) (Int32.ofNat t) = mcp M 0 a 2 b 124 ∧ ok_X7_copies_M0_M2_L3 n (mcp M 0 a 2 b t) (Int32.ofNat a) (Int32.ofNat b) (Int32.ofNat t) := by
  intro n
  induction n with
  | zero => intro t h1 h2; omega
  | succ n ih =>
    intro t h1 h2
    have e1 : ((124 : Int32) ≤ Int32.ofNat t) ↔ 124 ≤ t := le_ofN (a := 124) (by decide) (by omega)
    by_cases h : 124 ≤ t
    · have : t = 124 := by omega
      subst this
      refine ⟨?_, ?_⟩
      · unfold f_X7_copies_M0_M2_L3
        rw [if_pos (e1.mpr h)]
      · unfold ok_X7_copies_M0_M2_L3
        exact ⟨fun _ => trivial, fun h9 => absurd (e1.mpr h) h9⟩
    · obtain ⟨g1, g2⟩ := ih (t + 1) (by omega) (by omega)
      have e2 : sma (mcp M 0 a 2 b t) 2 (ix (Int32.ofNat b + Int32.ofNat t)) (ma (mcp M 0 a 2 b t) 0 (ix (Int32.ofNat a + Int32.ofNat t))) = mcp M 0 a 2 b (t + 1) := by
        rw [ix_add (by omega), ix_add (by omega)]
        exact mcp_s M 0 a 2 b t (by decide)
      have e3 : Int32.ofNat t + 1 = Int32.ofNat (t + 1) := (Int32.ofNat_add _ _).symm
      refine ⟨?_, ?_⟩
      · unfold f_X7_copies_M0_M2_L3
        rw [if_neg (fun h9 => h (e1.mp h9))]
        unfold nm
        rw [e2, e3]
        exact g1
      · unfold ok_X7_copies_M0_M2_L3
        refine ⟨fun _ => trivial, fun _ => ⟨in_add (by omega) (by omega), in_add (by omega) (by omega), ?_⟩⟩
        rintro M4 rfl
        rw [e2, e3]
        exact g2
theorem F_copies_M0_M2 (M : StM) (a b : Nat) (ha : a + 124 ≤ 124) (hb : b + 124 ≤ 124) : f_X7_copies_M0_M2 M (Int32.ofNat a) (Int32.ofNat b) = mcp M 0 a 2 b 124 ∧ ok_X7_copies_M0_M2 M (Int32.ofNat a) (Int32.ofNat b) := by
  have hfu : 124 < fu + 0 := by unfold fu; omega
  have h := L_copies_M0_M2 M a b ha hb fu 0 (by omega) hfu
  have e0 : Int32.ofNat 0 = (0 : Int32) := rfl
  rw [mcp_0, e0] at h
  clear hfu
  unfold f_X7_copies_M0_M2 ok_X7_copies_M0_M2
  rw [nm_eq]
  exact h
theorem L_copies_M2_M0 (M : StM) (a b : Nat) (ha : a + 124 ≤ 124) (hb : b + 124 ≤ 124) : ∀ (n t : Nat), t ≤ 124 → 124 < n + t → f_X7_copies_M2_M0_L3 n (mcp M 2 a 0 b t) (Int32.ofNat a) (Int32.ofNat b) (Int32.ofNat t) = mcp M 2 a 0 b 124 ∧ ok_X7_copies_M2_M0_L3 n (mcp M 2 a 0 b t) (Int32.ofNat a) (Int32.ofNat b) (Int32.ofNat t) := by
  intro n
  induction n with
  | zero => intro t h1 h2; omega
  | succ n ih =>
    intro t h1 h2
    have e1 : ((124 : Int32) ≤ Int32.ofNat t) ↔ 124 ≤ t := le_ofN (a := 124) (by decide) (by omega)
    by_cases h : 124 ≤ t
    · have : t = 124 := by omega
      subst this
      refine ⟨?_, ?_⟩
      · unfold f_X7_copies_M2_M0_L3
        rw [if_pos (e1.mpr h)]
      · unfold ok_X7_copies_M2_M0_L3
        exact ⟨fun _ => trivial, fun h9 => absurd (e1.mpr h) h9⟩
    · obtain ⟨g1, g2⟩ := ih (t + 1) (by omega) (by omega)
      have e2 : sma (mcp M 2 a 0 b t) 0 (ix (Int32.ofNat b + Int32.ofNat t)) (ma (mcp M 2 a 0 b t) 2 (ix (Int32.ofNat a + Int32.ofNat t))) = mcp M 2 a 0 b (t + 1) := by
        rw [ix_add (by omega), ix_add (by omega)]
        exact mcp_s M 2 a 0 b t (by decide)
      have e3 : Int32.ofNat t + 1 = Int32.ofNat (t + 1) := (Int32.ofNat_add _ _).symm
      refine ⟨?_, ?_⟩
      · unfold f_X7_copies_M2_M0_L3
        rw [if_neg (fun h9 => h (e1.mp h9))]
        unfold nm
        rw [e2, e3]
        exact g1
      · unfold ok_X7_copies_M2_M0_L3
        refine ⟨fun _ => trivial, fun _ => ⟨in_add (by omega) (by omega), in_add (by omega) (by omega), ?_⟩⟩
        rintro M4 rfl
        rw [e2, e3]
        exact g2
theorem F_copies_M2_M0 (M : StM) (a b : Nat) (ha : a + 124 ≤ 124) (hb : b + 124 ≤ 124) : f_X7_copies_M2_M0 M (Int32.ofNat a) (Int32.ofNat b) = mcp M 2 a 0 b 124 ∧ ok_X7_copies_M2_M0 M (Int32.ofNat a) (Int32.ofNat b) := by
  have hfu : 124 < fu + 0 := by unfold fu; omega
  have h := L_copies_M2_M0 M a b ha hb fu 0 (by omega) hfu
  have e0 : Int32.ofNat 0 = (0 : Int32) := rfl
  rw [mcp_0, e0] at h
  clear hfu
  unfold f_X7_copies_M2_M0 ok_X7_copies_M2_M0
  rw [nm_eq]
  exact h
