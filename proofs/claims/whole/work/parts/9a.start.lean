/-! the start, and every step -/
theorem h00 : Inv 0 B0 M0 := by
  have z0 : (0 : Int32).toInt = 0 := by decide
  have zl : (0 : Int32).toInt64 = 0 := by decide
  have hb : ∀ q k, q ≠ 176 → bi B0 q k = 0 := fun q k h => if_neg (fun hh => h hh.1)
  have hr : ∀ q k, ma M0 q k = 0 := fun _ _ => rfl
  have h0 : Int32.ofNat 0 = 0 := rfl
  have hT : Ti 0 0 0 0 0 B0 0 (ma M0 0) := by
    refine ⟨⟨hb _ _ (by decide), rfl, by omega, fun i hi => by omega, fun i hi => by omega, fun i hi => by omega, fun i hi => by omega⟩, ⟨hb _ _ (by decide), rfl, by omega, by omega, by omega, by omega, hb _ _ (by decide), fun k hk => by omega, fun k hk => by omega⟩, ⟨0, 0, hb _ _ (by decide), rfl, by omega, hb _ _ (by decide), by omega, fun r hr => by omega, fun r hr => by omega, fun r hr => by omega, fun r hr => by omega⟩, hb _ _ (by decide), hb _ _ (by decide), hb _ _ (by decide), ?_, ?_, ?_, ?_, ?_⟩
    · exact zl.symm
    · exact zl.symm
    · exact zl.symm
    · exact zl.symm
    · exact zl.symm
  have hR : RB 0 (60 * 0) 0 0 0 0 (ma M0 0) := by
    refine ⟨⟨by omega, rfl, fun i hi => by omega⟩, ⟨by omega, rfl, fun k hk => by omega, fun k h1 h2 => by omega, fun j k h1 h2 => by omega⟩, ?_⟩
    unfold bS
    simp only [hr, z0]
    omega
  refine ⟨0, 0, by omega, by omega, ⟨0, 0, hT, hR⟩, ⟨Or.inl ?_, ?_, fun h => ?_⟩, ⟨0, 0, by omega, by omega, hb _ _ (by decide), rfl, hb _ _ (by decide), fun r hr => by omega⟩, ⟨?_, ?_, ?_, ?_, rfl⟩, ⟨by omega, hb _ _ (by decide), rfl, fun k hk => by omega⟩, ⟨0, by omega, rfl, hb _ _ (by decide), rfl, fun k hk => by omega⟩⟩
  · rfl
  · rfl
  · have h7 : bi B0 176 7 = 0 := rfl
    rw [h7] at h
    exact absurd h (by decide)
  · rfl
  · rfl
  · rw [show bi B0 176 8 = -1 from rfl]
    decide
  · rw [show bi B0 176 9 = -1 from rfl]
    decide
theorem hInv (u : Nat) (B : StB) (M : StM) (hu : u < 512) (h : Inv u B M) (k : Nat) (O : StO) (y1 y2 y3 y4 : Int32) : okC k B M O y1 y2 y3 y4 ∧ Inv (u + 1) (sBC k B M O y1 y2 y3 y4) (sMC k B M O y1 y2 y3 y4) := by
  have hk : k = 0 ∨ k = 1 ∨ k = 2 ∨ k = 3 ∨ k = 4 ∨ k = 5 ∨ k = 6 ∨ k = 7 ∨ k = 8 ∨ k = 9 ∨ k = 10 ∨ k = 11 ∨ k = 12 ∨ k = 13 ∨ k = 14 ∨ k = 15 ∨ k = 16 ∨ k = 17 ∨ k = 18 ∨ k = 19 ∨ k = 20 ∨ k = 21 ∨ k = 22 ∨ k = 23 ∨ k = 24 ∨ k = 25 ∨ k = 26 ∨ k = 27 ∨ k = 28 ∨ k = 29 ∨ k = 30 ∨ k = 31 ∨ k = 32 ∨ k = 33 ∨ k = 34 ∨ k = 35 ∨ k = 36 ∨ k = 37 ∨ k = 38 ∨ k = 39 ∨ k = 40 ∨ k = 41 ∨ k = 42 ∨ k = 43 ∨ k = 44 ∨ k = 45 ∨ k = 46 ∨ k = 47 ∨ 48 ≤ k := by omega
  rcases hk with rfl | rfl | rfl | rfl | rfl | rfl | rfl | rfl | rfl | rfl | rfl | rfl | rfl | rfl | rfl | rfl | rfl | rfl | rfl | rfl | rfl | rfl | rfl | rfl | rfl | rfl | rfl | rfl | rfl | rfl | rfl | rfl | rfl | rfl | rfl | rfl | rfl | rfl | rfl | rfl | rfl | rfl | rfl | rfl | rfl | rfl | rfl | rfl | hk
  · exact case_0 h hu O y1
  · exact case_1 h hu O y1 y2
  · exact case_2 h hu O y1 y2
  · exact case_3 h hu O y1 y2
  · exact case_4 h hu O 
  · exact case_5 h hu O y1
  · exact case_6 h hu O y1
  · exact case_7 h hu O y1
  · exact case_8 h hu O y1
  · exact case_9 h hu O y1
  · exact case_10 h hu O y1
  · exact case_11 h hu O y1
  · exact case_12 h hu O 
  · exact case_13 h hu O 
  · exact case_14 h hu O 
  · exact case_15 h hu O 
  · exact case_16 h hu O 
  · exact case_17 h hu O 
  · exact case_18 h hu O 
  · exact case_19 h hu O 
  · exact case_20 h hu O y1
  · exact case_21 h hu O y1 y2
  · exact case_22 h hu O y1 y2 y3 y4
  · exact case_23 h hu O y1
  · exact case_24 h hu O 
  · exact case_25 h hu O y1
  · exact case_26 h hu O y1
  · exact case_27 h hu O y1
  · exact case_28 h hu O y1
  · exact case_29 h hu O y1
  · exact case_30 h hu O y1
  · exact case_31 h hu O 
  · exact case_32 h hu O y1
  · exact case_33 h hu O y1
  · exact case_34 h hu O y1 y2
  · exact case_35 h hu O 
  · exact case_36 h hu O y1
  · exact case_37 h hu O y1
  · exact case_38 h hu O y1
  · exact case_39 h hu O y1
  · exact case_40 h hu O y1
  · exact case_41 h hu O y1
  · exact case_42 h hu O 
  · exact case_43 h hu O 
  · exact case_44 h hu O 
  · exact case_45 h hu O 
  · exact case_46 h hu O 
  · exact case_47 h hu O 
  · obtain ⟨j, rfl⟩ : ∃ j, k = j + 48 := ⟨k - 48, by omega⟩
    exact ⟨trivial, Inv_M h (by omega) (by omega) (fun _ _ => rfl) (fun _ _ _ => rfl) (fun _ _ _ => rfl)⟩
