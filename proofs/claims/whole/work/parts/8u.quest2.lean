/-! the pure part: transfers asked for, the journal, errors, undo, snapshots -/
theorem Inv_F {u lo hi : Nat} {B C : StB} {M N : StM} (h : Inv u B M) (hu : u < 512) (g : Fg lo hi B C) (hg : (16 ≤ lo ∧ hi ≤ 32) ∨ (181 ≤ lo ∧ hi ≤ 191)) (h0 : ∀ k, k < 124 → ma N 0 k = ma M 0 k) (hq : ∀ q k, 3 ≤ q → ma N q k = ma M q k) (hm : ∀ j, j ≠ 15 → j ≠ 10 → mi N j = mi M j) : Inv (u + 1) C N := by
  obtain ⟨e, ty, a1, a2, a3, a4, a5, a6, a7, a8⟩ := h
  refine ⟨e, ty, by omega, by omega, LR_cong (LR_Fg a3 g (by omega)) h0, ?_, ?_, ?_, ?_, ?_⟩
  · exact IvS_k a4 (Nat.le_refl e) (by omega) (g.2 _ _ (by omega)).1 (hm 5 (by decide) (by decide)) (fun k _ => hq 3 k (by decide)) (fun _ h => LR_Fg h g (by omega))
  · exact IvH_k a5 (Nat.le_refl e) (by omega) (g.2 _ _ (by omega)).1 (g.2 _ _ (by omega)).1 (hm 6 (by decide) (by decide)) (fun k _ => hq 4 k (by decide)) (fun _ _ _ _ h => LR_Fg h g (by omega))
  · exact IvE_k a6 (g.2 _ _ (by omega)).1 (g.2 _ _ (by omega)).1 (hm 7 (by decide) (by decide)) (hm 8 (by decide) (by decide)) (hm 9 (by decide) (by decide))
  · exact IvR_k a7 (g.2 _ _ (by omega)).1 (hm 12 (by decide) (by decide)) (fun _ => (g.2 _ _ (by omega)).2.2) (fun k _ => hq 5 k (by decide))
  · exact IvT_k a8 g.1 (g.2 _ _ (by omega)).1 (hm 14 (by decide) (by decide)) (fun _ => (g.2 _ _ (by omega)).2.2) (fun k _ => hq 6 k (by decide))
theorem ne_m1 {m : Nat} (h : m < 100) : ¬ (Int32.ofNat m = -1) := by
  intro h9
  have := congrArg Int32.toInt h9
  rw [ofN_toInt (by omega)] at this
  have h1 : (-1 : Int32).toInt = -1 := by decide
  omega
theorem ge_0 {m : Nat} (h : m < 100) : (0 : Int32) ≤ Int32.ofNat m := by
  rw [show (0 : Int32) = Int32.ofNat 0 from rfl, le_ofN (by omega) (by omega)]
  omega
theorem reqT {n t : Nat} {B : StB} {R : Nat → Int32} (x : Int32) (hT : Ti 0 n 0 0 t B 0 R) (hu : uq t R) : ok_X6_requireTransfer B x ∧ ((∀ j, j < t → R (44 + 5 * j) ≠ x) → f_X6_requireTransfer B x = (5, 0, B)) ∧ (∀ m, m < t → R (44 + 5 * m) = x → f_X6_requireTransfer B x = (0, Int32.ofNat m, B)) := by
  obtain ⟨o1, c1, c2⟩ := find_C x hT hu
  have ht := (Ti_c hT).2.2.1
  refine ⟨o1, fun h => ?_, fun m hm hx => ?_⟩
  · unfold f_X6_requireTransfer
    have := c1 h
    rw [nm_eq]
    rw [show f_X5_find 6 B x = -1 from this, if_neg (by decide)]
  · unfold f_X6_requireTransfer
    have := c2 m hm hx
    rw [nm_eq]
    rw [show f_X5_find 6 B x = Int32.ofNat m from this, if_pos (ge_0 (by omega))]
theorem pl_M {M : StM} {k j : Nat} (v : Int32) (hk : k < 10) (hj : j < 5) : f_X7_ofPlace (smi M 15 v) (Int32.ofNat k) (Int32.ofNat j) = ma M 0 (44 + 5 * k + j) ∧ ok_X7_ofPlace (smi M 15 v) (Int32.ofNat k) (Int32.ofNat j) := by
  have := pl_R (M := smi M 15 v) (R := ma M 0) hk hj
  rwa [rs15] at this
theorem askT {M : StM} {t j : Nat} (x : Int32) (h3 : ma M 0 3 = Int32.ofNat t) (ht : t ≤ 10) (hu : uq t (ma M 0)) (hj : j < 5) : ok_X7_asksTransfer M x (Int32.ofNat j) ∧ ((∀ k, k < t → ma M 0 (44 + 5 * k) ≠ x) → f_X7_asksTransfer M x (Int32.ofNat j) = (0, smi M 15 1)) ∧ (∀ m, m < t → ma M 0 (44 + 5 * m) = x → f_X7_asksTransfer M x (Int32.ofNat j) = (ma M 0 (44 + 5 * m + j), smi M 15 0)) := by
  have fm := find_M (M := M) (R := ma M 0) x h3 ht hu
  rw [rs_self] at fm
  obtain ⟨o1, c1, c2⟩ := fm
  refine ⟨⟨o1, ?_⟩, fun h => ?_, fun m hm hx => ?_⟩
  · intro r hr
    rw [hr]
    refine ⟨fun _ => ⟨okgoes (Or.inl rfl), ?_⟩, fun hne => ⟨okgoes (Or.inr rfl), ?_⟩⟩
    · intro z hz
      rw [hz, goes_0]
      exact ⟨fun _ => trivial, fun h9 => absurd rfl h9⟩
    · intro z hz
      rw [hz, goes_1]
      refine ⟨fun h9 => absurd (show (1 : Int32) = 0 from h9) (by decide), fun _ => ?_⟩
      by_cases hex : ∃ m, m < t ∧ ma M 0 (44 + 5 * m) = x
      · obtain ⟨m, hm, hx⟩ := hex
        rw [c2 m hm hx]
        exact (pl_M 0 (by omega) hj).2
      · exact absurd (c1 (fun k hk h => hex ⟨k, hk, h⟩)) hne
  · unfold f_X7_asksTransfer
    rw [nm_eq, c1 h, if_pos rfl]
    unfold f_X7_asksTransfer_J17
    rw [nm_eq, goes_0]
    rfl
  · unfold f_X7_asksTransfer
    rw [nm_eq, c2 m hm hx, if_neg (ne_m1 (by omega))]
    unfold f_X7_asksTransfer_J17
    rw [nm_eq, goes_1]
    show (if (1 : Int32) = 0 then _ else nm (f_X7_ofPlace (smi M 15 0) (Int32.ofNat m) (Int32.ofNat j)) fun r8 => (r8, smi M 15 0)) = _
    rw [if_neg (by decide), nm_eq, (pl_M 0 (by omega) hj).1]

theorem case_26 {u : Nat} {B : StB} {M : StM} (hI : Inv u B M) (hu : u < 512) (O : StO) (y1 : Int32) : okc_26 B M O y1 ∧ Inv (u + 1) (stB_26 B M O y1) (stM_26 B M O y1) := by
  have hN := fun v => Inv_15 hI hu v
  obtain ⟨e, ty, he, hu2, ⟨n, t, hT, hR⟩, hS, hH, hE, hRd, hTt⟩ := hI
  have ht : t ≤ 10 := hR.2.1.1
  obtain ⟨o1, q0, q1⟩ := reqT y1 hT (bT_uq hR.2.1)
  obtain ⟨am, a0, a1⟩ := askT (j := 1) y1 hR.2.1.2.1 ht (bT_uq hR.2.1) (by decide)
  have om : ok_X7_senderOf M y1 := am
  unfold okc_26 stB_26 stM_26
  by_cases hex : ∃ m, m < t ∧ ma M 0 (44 + 5 * m) = y1
  · obtain ⟨m, hm, hx⟩ := hex
    have hxx : ix (Int32.ofNat m) = m := ix_o (by omega)
    have hv : vp_in (Int32.ofNat m) 10 := in_o (by omega) (by omega)
    have tv : ba B 8 m = ma M 0 (45 + 5 * m) := (Ti_q hT hm).2.1
    have ea : f_X7_asksTransfer M y1 1 = (ma M 0 (45 + 5 * m), smi M 15 0) := by
      have := a1 m hm hx
      rw [show 44 + 5 * m + 1 = 45 + 5 * m by omega] at this
      exact this
    have ef : f_X6_senderOf B y1 = (0, ma M 0 (45 + 5 * m), B) := by
      unfold f_X6_senderOf
      rw [nm_eq, q1 m hm hx]
      show (if 0 = 0 then (0, ba B 8 (ix (Int32.ofNat m)), B) else _) = _
      rw [if_pos rfl, hxx, tv]
    have em : f_X7_senderOf M y1 = (ma M 0 (45 + 5 * m), smi M 15 0) := by
      unfold f_X7_senderOf
      rw [nm_eq, ea]
    rw [ef, em]
    refine ⟨⟨⟨o1, ?_⟩, Or.inl rfl, om, rfl, fun _ => rfl⟩, hN 0⟩
    intro z hz _
    rw [hz, q1 m hm hx]
    exact hv
  · have hno : ∀ j, j < t → ma M 0 (44 + 5 * j) ≠ y1 := fun j hj h => hex ⟨j, hj, h⟩
    have ea : f_X7_asksTransfer M y1 1 = (0, smi M 15 1) := a0 hno
    have ef : f_X6_senderOf B y1 = (5, 0, B) := by
      unfold f_X6_senderOf
      rw [nm_eq, q0 hno]
      rfl
    have em : f_X7_senderOf M y1 = (0, smi M 15 1) := by
      unfold f_X7_senderOf
      rw [nm_eq, ea]
    rw [ef, em]
    refine ⟨⟨⟨o1, ?_⟩, Or.inr rfl, om, rfl, fun h => absurd (show (1 : Int32) = 0 from h) (by decide)⟩, hN 1⟩
    intro z hz h0
    rw [hz, q0 hno] at h0
    exact absurd (show (5 : Nat) = 0 from h0) (by decide)
theorem case_27 {u : Nat} {B : StB} {M : StM} (hI : Inv u B M) (hu : u < 512) (O : StO) (y1 : Int32) : okc_27 B M O y1 ∧ Inv (u + 1) (stB_27 B M O y1) (stM_27 B M O y1) := by
  have hN := fun v => Inv_15 hI hu v
  obtain ⟨e, ty, he, hu2, ⟨n, t, hT, hR⟩, hS, hH, hE, hRd, hTt⟩ := hI
  have ht : t ≤ 10 := hR.2.1.1
  obtain ⟨o1, q0, q1⟩ := reqT y1 hT (bT_uq hR.2.1)
  obtain ⟨am, a0, a1⟩ := askT (j := 2) y1 hR.2.1.2.1 ht (bT_uq hR.2.1) (by decide)
  have om : ok_X7_receiverOf M y1 := am
  unfold okc_27 stB_27 stM_27
  by_cases hex : ∃ m, m < t ∧ ma M 0 (44 + 5 * m) = y1
  · obtain ⟨m, hm, hx⟩ := hex
    have hxx : ix (Int32.ofNat m) = m := ix_o (by omega)
    have hv : vp_in (Int32.ofNat m) 10 := in_o (by omega) (by omega)
    have tv : ba B 9 m = ma M 0 (46 + 5 * m) := (Ti_q hT hm).2.2.1
    have ea : f_X7_asksTransfer M y1 2 = (ma M 0 (46 + 5 * m), smi M 15 0) := by
      have := a1 m hm hx
      rw [show 44 + 5 * m + 2 = 46 + 5 * m by omega] at this
      exact this
    have ef : f_X6_receiverOf B y1 = (0, ma M 0 (46 + 5 * m), B) := by
      unfold f_X6_receiverOf
      rw [nm_eq, q1 m hm hx]
      show (if 0 = 0 then (0, ba B 9 (ix (Int32.ofNat m)), B) else _) = _
      rw [if_pos rfl, hxx, tv]
    have em : f_X7_receiverOf M y1 = (ma M 0 (46 + 5 * m), smi M 15 0) := by
      unfold f_X7_receiverOf
      rw [nm_eq, ea]
    rw [ef, em]
    refine ⟨⟨⟨o1, ?_⟩, Or.inl rfl, om, rfl, fun _ => rfl⟩, hN 0⟩
    intro z hz _
    rw [hz, q1 m hm hx]
    exact hv
  · have hno : ∀ j, j < t → ma M 0 (44 + 5 * j) ≠ y1 := fun j hj h => hex ⟨j, hj, h⟩
    have ea : f_X7_asksTransfer M y1 2 = (0, smi M 15 1) := a0 hno
    have ef : f_X6_receiverOf B y1 = (5, 0, B) := by
      unfold f_X6_receiverOf
      rw [nm_eq, q0 hno]
      rfl
    have em : f_X7_receiverOf M y1 = (0, smi M 15 1) := by
      unfold f_X7_receiverOf
      rw [nm_eq, ea]
    rw [ef, em]
    refine ⟨⟨⟨o1, ?_⟩, Or.inr rfl, om, rfl, fun h => absurd (show (1 : Int32) = 0 from h) (by decide)⟩, hN 1⟩
    intro z hz h0
    rw [hz, q0 hno] at h0
    exact absurd (show (5 : Nat) = 0 from h0) (by decide)
theorem case_28 {u : Nat} {B : StB} {M : StM} (hI : Inv u B M) (hu : u < 512) (O : StO) (y1 : Int32) : okc_28 B M O y1 ∧ Inv (u + 1) (stB_28 B M O y1) (stM_28 B M O y1) := by
  have hN := fun v => Inv_15 hI hu v
  obtain ⟨e, ty, he, hu2, ⟨n, t, hT, hR⟩, hS, hH, hE, hRd, hTt⟩ := hI
  have ht : t ≤ 10 := hR.2.1.1
  obtain ⟨o1, q0, q1⟩ := reqT y1 hT (bT_uq hR.2.1)
  obtain ⟨am, a0, a1⟩ := askT (j := 3) y1 hR.2.1.2.1 ht (bT_uq hR.2.1) (by decide)
  have om : ok_X7_amountOf M y1 := am
  unfold okc_28 stB_28 stM_28
  by_cases hex : ∃ m, m < t ∧ ma M 0 (44 + 5 * m) = y1
  · obtain ⟨m, hm, hx⟩ := hex
    have hxx : ix (Int32.ofNat m) = m := ix_o (by omega)
    have hv : vp_in (Int32.ofNat m) 10 := in_o (by omega) (by omega)
    have tv : ba B 10 m = ma M 0 (47 + 5 * m) := (Ti_q hT hm).2.2.2.1
    have ea : f_X7_asksTransfer M y1 3 = (ma M 0 (47 + 5 * m), smi M 15 0) := by
      have := a1 m hm hx
      rw [show 44 + 5 * m + 3 = 47 + 5 * m by omega] at this
      exact this
    have ef : f_X6_amountOf B y1 = (0, ma M 0 (47 + 5 * m), B) := by
      unfold f_X6_amountOf
      rw [nm_eq, q1 m hm hx]
      show (if 0 = 0 then (0, ba B 10 (ix (Int32.ofNat m)), B) else _) = _
      rw [if_pos rfl, hxx, tv]
    have em : f_X7_amountOf M y1 = (ma M 0 (47 + 5 * m), smi M 15 0) := by
      unfold f_X7_amountOf
      rw [nm_eq, ea]
    rw [ef, em]
    refine ⟨⟨⟨o1, ?_⟩, Or.inl rfl, om, rfl, fun _ => rfl⟩, hN 0⟩
    intro z hz _
    rw [hz, q1 m hm hx]
    exact hv
  · have hno : ∀ j, j < t → ma M 0 (44 + 5 * j) ≠ y1 := fun j hj h => hex ⟨j, hj, h⟩
    have ea : f_X7_asksTransfer M y1 3 = (0, smi M 15 1) := a0 hno
    have ef : f_X6_amountOf B y1 = (5, 0, B) := by
      unfold f_X6_amountOf
      rw [nm_eq, q0 hno]
      rfl
    have em : f_X7_amountOf M y1 = (0, smi M 15 1) := by
      unfold f_X7_amountOf
      rw [nm_eq, ea]
    rw [ef, em]
    refine ⟨⟨⟨o1, ?_⟩, Or.inr rfl, om, rfl, fun h => absurd (show (1 : Int32) = 0 from h) (by decide)⟩, hN 1⟩
    intro z hz h0
    rw [hz, q0 hno] at h0
    exact absurd (show (5 : Nat) = 0 from h0) (by decide)
theorem case_29 {u : Nat} {B : StB} {M : StM} (hI : Inv u B M) (hu : u < 512) (O : StO) (y1 : Int32) : okc_29 B M O y1 ∧ Inv (u + 1) (stB_29 B M O y1) (stM_29 B M O y1) := by
  have hN := fun v => Inv_15 hI hu v
  obtain ⟨e, ty, he, hu2, ⟨n, t, hT, hR⟩, hS, hH, hE, hRd, hTt⟩ := hI
  have ht : t ≤ 10 := hR.2.1.1
  obtain ⟨o1, q0, q1⟩ := reqT y1 hT (bT_uq hR.2.1)
  obtain ⟨am, a0, a1⟩ := askT (j := 4) y1 hR.2.1.2.1 ht (bT_uq hR.2.1) (by decide)
  have om : ok_X7_daysUntilDue M y1 := am
  unfold okc_29 stB_29 stM_29
  by_cases hex : ∃ m, m < t ∧ ma M 0 (44 + 5 * m) = y1
  · obtain ⟨m, hm, hx⟩ := hex
    have hxx : ix (Int32.ofNat m) = m := ix_o (by omega)
    have hv : vp_in (Int32.ofNat m) 10 := in_o (by omega) (by omega)
    have tv : ba B 11 m = ma M 0 (48 + 5 * m) := (Ti_q hT hm).2.2.2.2
    have ea : f_X7_asksTransfer M y1 4 = (ma M 0 (48 + 5 * m), smi M 15 0) := by
      have := a1 m hm hx
      rw [show 44 + 5 * m + 4 = 48 + 5 * m by omega] at this
      exact this
    have ef : f_X6_daysUntilDue B y1 = (0, ma M 0 (48 + 5 * m) - ma M 0 0, B) := by
      unfold f_X6_daysUntilDue
      rw [nm_eq, q1 m hm hx]
      show (if 0 = 0 then (0, ba B 11 (ix (Int32.ofNat m)) - bi B 0 3, B) else _) = _
      rw [if_pos rfl, hxx, tv, (Ti_s hT).1]
    have em : f_X7_daysUntilDue M y1 = (ma M 0 (48 + 5 * m) - ma M 0 0, smi M 15 0) := by
      unfold f_X7_daysUntilDue
      rw [nm_eq, ea]
      rfl
    rw [ef, em]
    refine ⟨⟨⟨o1, ?_⟩, Or.inl rfl, om, rfl, fun _ => rfl⟩, hN 0⟩
    intro z hz _
    rw [hz, q1 m hm hx]
    exact hv
  · have hno : ∀ j, j < t → ma M 0 (44 + 5 * j) ≠ y1 := fun j hj h => hex ⟨j, hj, h⟩
    have ea : f_X7_asksTransfer M y1 4 = (0, smi M 15 1) := a0 hno
    have ef : f_X6_daysUntilDue B y1 = (5, 0, B) := by
      unfold f_X6_daysUntilDue
      rw [nm_eq, q0 hno]
      rfl
    have em : f_X7_daysUntilDue M y1 = (0, smi M 15 1) := by
      unfold f_X7_daysUntilDue
      rw [nm_eq, ea]
      rfl
    rw [ef, em]
    refine ⟨⟨⟨o1, ?_⟩, Or.inr rfl, om, rfl, fun h => absurd (show (1 : Int32) = 0 from h) (by decide)⟩, hN 1⟩
    intro z hz h0
    rw [hz, q0 hno] at h0
    exact absurd (show (5 : Nat) = 0 from h0) (by decide)
/-! the journal -/
theorem fmodr {w r : Nat} (h : w < 10) (hr : r < 10) : f_J9_floorMod_7cf53 (Int32.ofNat w - Int32.ofNat r) 10 = Int32.ofNat ((w + 10 - r) % 10) := by
  have : ∀ w : Nat, w < 10 → ∀ r : Nat, r < 10 → f_J9_floorMod_7cf53 (Int32.ofNat w - Int32.ofNat r) 10 = Int32.ofNat ((w + 10 - r) % 10) := by decide +kernel
  exact this w h r hr
theorem wri_Q {M : StM} {L j : Nat} (x : Int32) (h : ma M 0 11 = Int32.ofNat L) (hL : L ≤ 10) (hj : j < 3) : ok_X7_written M x (Int32.ofNat j) ∧ (¬ acc L x → f_X7_written M x (Int32.ofNat j) = (0, smi M 15 1)) ∧ (∀ r, r < L → x = Int32.ofNat r → f_X7_written M x (Int32.ofNat j) = (ma M 0 (94 + 3 * r + j), smi M 15 0)) := by
  have e0 : (0 : Int32).toInt = 0 := by decide
  have e1 : (1 : Int32).toInt = 1 := by decide
  have eL := ofN_toInt (a := L) (by omega)
  have e2 : (Int32.ofNat L - 1).toInt = (L : Int) - 1 := by
    rw [i32_sub (by omega) (by omega)]
    omega
  have i0 : ¬ acc L x → f_X7_isIn x 0 (ma M 0 11 - 1) = 0 := by
    intro hx
    refine isIn_0 ?_
    rw [i32_lt, i32_lt, h, e2, e0]
    unfold acc at hx
    omega
  have i1 : acc L x → f_X7_isIn x 0 (ma M 0 11 - 1) = 1 := by
    intro hx
    unfold acc at hx
    refine isIn_1 ?_ ?_
    · rw [i32_lt, e0]
      omega
    · rw [i32_lt, h, e2]
      omega
  have oa : ∀ r, r < L → acc L (Int32.ofNat r) := by
    intro r hr
    unfold acc
    rw [ofN_toInt (by omega)]
    omega
  refine ⟨?_, fun hx => ?_, fun r hr hx => ?_⟩
  · unfold ok_X7_written
    simp only [ixl]
    intro r hr
    rw [hr]
    by_cases hx : acc L x
    · rw [i1 hx]
      refine ⟨okgoes (Or.inr rfl), ?_⟩
      intro z hz
      rw [hz, goes_1]
      refine ⟨fun h9 => absurd (show (1 : Int32) = 0 from h9) (by decide), fun _ => ?_⟩
      obtain ⟨i, hi, rfl⟩ := of_rng hx.1 hx.2
      rw [omov, oadd]
      exact in_o (by omega) (by omega)
    · rw [i0 hx]
      refine ⟨okgoes (Or.inl rfl), ?_⟩
      intro z hz
      rw [hz, goes_0]
      exact ⟨fun _ => trivial, fun h9 => absurd rfl h9⟩
  · unfold f_X7_written
    simp only [ixl]
    rw [nm_eq, i0 hx, nm_eq, goes_0]
    rfl
  · subst hx
    unfold f_X7_written
    simp only [ixl]
    rw [nm_eq, i1 (oa r hr), nm_eq, goes_1]
    show (if (1 : Int32) = 0 then _ else (ma M 0 (ix (94 + 3 * Int32.ofNat r + Int32.ofNat j)), smi M 15 0)) = _
    rw [if_neg (by decide), omov, oadd, ix_o (by omega)]
theorem reqM {B : StB} {L w : Nat} (x : Int32) (h0 : bi B 12 0 = Int32.ofNat L) (hL : L ≤ 10) (h1 : bi B 12 1 = Int32.ofNat w) (hw : w < 10) : ok_X6_requireMovement B x ∧ (¬ acc L x → f_X6_requireMovement B x = (5, 0, B)) ∧ (∀ r, r < L → x = Int32.ofNat r → f_X6_requireMovement B x = (0, Int32.ofNat ((w + 10 - r) % 10), B)) := by
  have e0 : (0 : Int32).toInt = 0 := by decide
  have eL := ofN_toInt (a := L) (by omega)
  refine ⟨⟨fun _ => trivial, fun _ => ⟨fun _ => by unfold ok_X2_slot ok_J9_floorMod_7cf53; decide, fun _ => trivial⟩⟩, fun hx => ?_, fun r hr hx => ?_⟩
  · unfold acc at hx
    unfold f_X6_requireMovement
    by_cases hx0 : x < 0
    · rw [if_pos hx0]
    · rw [if_neg hx0, if_neg (by rw [i32_lt] at hx0; rw [h0, i32_lt]; omega)]
  · subst hx
    unfold f_X6_requireMovement
    rw [if_neg (by rw [show (0 : Int32) = Int32.ofNat 0 from rfl, lt_ofN (by omega) (by omega)]; omega), h0, if_pos (by rw [lt_ofN (by omega) (by omega)]; exact hr)]
    unfold f_X2_slot
    rw [nm_eq, nm_eq, h1, fmodr hw (by omega)]

theorem case_36 {u : Nat} {B : StB} {M : StM} (hI : Inv u B M) (hu : u < 512) (O : StO) (y1 : Int32) : okc_36 B M O y1 ∧ Inv (u + 1) (stB_36 B M O y1) (stM_36 B M O y1) := by
  have hN := fun v => Inv_15 hI hu v
  obtain ⟨e, ty, he, hu2, ⟨n, t, hT, hR⟩, hS, hH, hE, hRd, hTt⟩ := hI
  obtain ⟨L, w, j0, j1, j2, j3, j4, j8, j5, j6, j7⟩ := hT.2.2.1
  obtain ⟨o1, q0, q1⟩ := reqM y1 j0 j2 j3 j4
  obtain ⟨am, a0, a1⟩ := wri_Q (j := 0) y1 j1 j2 (by decide)
  have om : ok_X7_movementKind M y1 := by
    refine ⟨am, ?_⟩
    intro z hz
    rw [hz, show (0 : Int32) = Int32.ofNat 0 from rfl]
    by_cases hx : acc L y1
    · obtain ⟨r, hr, rfl⟩ := of_rng hx.1 hx.2
      rw [a1 r hr rfl]
      show narrow .char (.int ((ma M 0 (94 + 3 * r)).toUInt32 % 65536).toInt32) = .int ((ma M 0 (94 + 3 * r)).toUInt32 % 65536).toInt32
      rw [cajk (j8 r hr)]
      exact nark (j8 r hr)
    · rw [a0 hx]
      show narrow .char (.int ((0 : Int32).toUInt32 % 65536).toInt32) = .int ((0 : Int32).toUInt32 % 65536).toInt32
      decide
  unfold okc_36 stB_36 stM_36
  by_cases hx : acc L y1
  · obtain ⟨r, hr, rfl⟩ := of_rng hx.1 hx.2
    have hlt : (w + 10 - r) % 10 < 10 := Nat.mod_lt _ (by decide)
    have hxx : ix (Int32.ofNat ((w + 10 - r) % 10)) = (w + 10 - r) % 10 := ix_o (by omega)
    have hv : vp_in (Int32.ofNat ((w + 10 - r) % 10)) 10 := in_o (by omega) (by omega)
    have tv : ba B 13 ((w + 10 - r) % 10) = ma M 0 (94 + 3 * r) := j5 r hr
    have hjk := j8 r hr
    have ea : f_X7_written M (Int32.ofNat r) 0 = (ma M 0 (94 + 3 * r), smi M 15 0) := by
      have := a1 r hr rfl
      rw [show 94 + 3 * r + 0 = 94 + 3 * r by omega] at this
      exact this
    have ef : f_X6_movementKind B (Int32.ofNat r) = (0, ma M 0 (94 + 3 * r), B) := by
      unfold f_X6_movementKind
      rw [nm_eq, q1 r hr rfl]
      show (if 0 = 0 then (0, ba B 13 (ix (Int32.ofNat ((w + 10 - r) % 10))), B) else _) = _
      rw [if_pos rfl, hxx, tv]
    have em : f_X7_movementKind M (Int32.ofNat r) = (ma M 0 (94 + 3 * r), smi M 15 0) := by
      unfold f_X7_movementKind
      rw [nm_eq, ea]
      exact congrArg (fun v => (v, smi M 15 0)) (cajk hjk)
    rw [ef, em]
    refine ⟨⟨⟨o1, ?_⟩, Or.inl rfl, om, rfl, fun _ => rfl⟩, hN 0⟩
    intro z hz _
    rw [hz, q1 r hr rfl]
    refine ⟨hv, ?_⟩
    show narrow .char (.int (ba B 13 (ix (Int32.ofNat ((w + 10 - r) % 10))))) = .int (ba B 13 (ix (Int32.ofNat ((w + 10 - r) % 10))))
    rw [hxx, tv]
    exact nark hjk
  · have ea : f_X7_written M y1 0 = (0, smi M 15 1) := a0 hx
    have ef : f_X6_movementKind B y1 = (5, 0, B) := by
      unfold f_X6_movementKind
      rw [nm_eq, q0 hx]
      rfl
    have em : f_X7_movementKind M y1 = (0, smi M 15 1) := by
      unfold f_X7_movementKind
      rw [nm_eq, ea]
      rfl
    rw [ef, em]
    refine ⟨⟨⟨o1, ?_⟩, Or.inr rfl, om, rfl, fun h => absurd (show (1 : Int32) = 0 from h) (by decide)⟩, hN 1⟩
    intro z hz h0
    rw [hz, q0 hx] at h0
    exact absurd (show (5 : Nat) = 0 from h0) (by decide)
theorem case_37 {u : Nat} {B : StB} {M : StM} (hI : Inv u B M) (hu : u < 512) (O : StO) (y1 : Int32) : okc_37 B M O y1 ∧ Inv (u + 1) (stB_37 B M O y1) (stM_37 B M O y1) := by
  have hN := fun v => Inv_15 hI hu v
  obtain ⟨e, ty, he, hu2, ⟨n, t, hT, hR⟩, hS, hH, hE, hRd, hTt⟩ := hI
  obtain ⟨L, w, j0, j1, j2, j3, j4, j8, j5, j6, j7⟩ := hT.2.2.1
  obtain ⟨o1, q0, q1⟩ := reqM y1 j0 j2 j3 j4
  obtain ⟨am, a0, a1⟩ := wri_Q (j := 1) y1 j1 j2 (by decide)
  have om : ok_X7_movementAmount M y1 := am
  unfold okc_37 stB_37 stM_37
  by_cases hx : acc L y1
  · obtain ⟨r, hr, rfl⟩ := of_rng hx.1 hx.2
    have hlt : (w + 10 - r) % 10 < 10 := Nat.mod_lt _ (by decide)
    have hxx : ix (Int32.ofNat ((w + 10 - r) % 10)) = (w + 10 - r) % 10 := ix_o (by omega)
    have hv : vp_in (Int32.ofNat ((w + 10 - r) % 10)) 10 := in_o (by omega) (by omega)
    have tv : ba B 14 ((w + 10 - r) % 10) = ma M 0 (95 + 3 * r) := j6 r hr
    have hjk := j8 r hr
    have ea : f_X7_written M (Int32.ofNat r) 1 = (ma M 0 (95 + 3 * r), smi M 15 0) := by
      have := a1 r hr rfl
      rw [show 94 + 3 * r + 1 = 95 + 3 * r by omega] at this
      exact this
    have ef : f_X6_movementAmount B (Int32.ofNat r) = (0, ma M 0 (95 + 3 * r), B) := by
      unfold f_X6_movementAmount
      rw [nm_eq, q1 r hr rfl]
      show (if 0 = 0 then (0, ba B 14 (ix (Int32.ofNat ((w + 10 - r) % 10))), B) else _) = _
      rw [if_pos rfl, hxx, tv]
    have em : f_X7_movementAmount M (Int32.ofNat r) = (ma M 0 (95 + 3 * r), smi M 15 0) := by
      unfold f_X7_movementAmount
      rw [nm_eq, ea]
    rw [ef, em]
    refine ⟨⟨⟨o1, ?_⟩, Or.inl rfl, om, rfl, fun _ => rfl⟩, hN 0⟩
    intro z hz _
    rw [hz, q1 r hr rfl]
    exact hv
  · have ea : f_X7_written M y1 1 = (0, smi M 15 1) := a0 hx
    have ef : f_X6_movementAmount B y1 = (5, 0, B) := by
      unfold f_X6_movementAmount
      rw [nm_eq, q0 hx]
      rfl
    have em : f_X7_movementAmount M y1 = (0, smi M 15 1) := by
      unfold f_X7_movementAmount
      rw [nm_eq, ea]
    rw [ef, em]
    refine ⟨⟨⟨o1, ?_⟩, Or.inr rfl, om, rfl, fun h => absurd (show (1 : Int32) = 0 from h) (by decide)⟩, hN 1⟩
    intro z hz h0
    rw [hz, q0 hx] at h0
    exact absurd (show (5 : Nat) = 0 from h0) (by decide)
theorem case_38 {u : Nat} {B : StB} {M : StM} (hI : Inv u B M) (hu : u < 512) (O : StO) (y1 : Int32) : okc_38 B M O y1 ∧ Inv (u + 1) (stB_38 B M O y1) (stM_38 B M O y1) := by
  have hN := fun v => Inv_15 hI hu v
  obtain ⟨e, ty, he, hu2, ⟨n, t, hT, hR⟩, hS, hH, hE, hRd, hTt⟩ := hI
  obtain ⟨L, w, j0, j1, j2, j3, j4, j8, j5, j6, j7⟩ := hT.2.2.1
  obtain ⟨o1, q0, q1⟩ := reqM y1 j0 j2 j3 j4
  obtain ⟨am, a0, a1⟩ := wri_Q (j := 2) y1 j1 j2 (by decide)
  have om : ok_X7_movementAccount M y1 := am
  unfold okc_38 stB_38 stM_38
  by_cases hx : acc L y1
  · obtain ⟨r, hr, rfl⟩ := of_rng hx.1 hx.2
    have hlt : (w + 10 - r) % 10 < 10 := Nat.mod_lt _ (by decide)
    have hxx : ix (Int32.ofNat ((w + 10 - r) % 10)) = (w + 10 - r) % 10 := ix_o (by omega)
    have hv : vp_in (Int32.ofNat ((w + 10 - r) % 10)) 10 := in_o (by omega) (by omega)
    have tv : ba B 15 ((w + 10 - r) % 10) = ma M 0 (96 + 3 * r) := j7 r hr
    have hjk := j8 r hr
    have ea : f_X7_written M (Int32.ofNat r) 2 = (ma M 0 (96 + 3 * r), smi M 15 0) := by
      have := a1 r hr rfl
      rw [show 94 + 3 * r + 2 = 96 + 3 * r by omega] at this
      exact this
    have ef : f_X6_movementAccount B (Int32.ofNat r) = (0, ma M 0 (96 + 3 * r), B) := by
      unfold f_X6_movementAccount
      rw [nm_eq, q1 r hr rfl]
      show (if 0 = 0 then (0, ba B 15 (ix (Int32.ofNat ((w + 10 - r) % 10))), B) else _) = _
      rw [if_pos rfl, hxx, tv]
    have em : f_X7_movementAccount M (Int32.ofNat r) = (ma M 0 (96 + 3 * r), smi M 15 0) := by
      unfold f_X7_movementAccount
      rw [nm_eq, ea]
    rw [ef, em]
    refine ⟨⟨⟨o1, ?_⟩, Or.inl rfl, om, rfl, fun _ => rfl⟩, hN 0⟩
    intro z hz _
    rw [hz, q1 r hr rfl]
    exact hv
  · have ea : f_X7_written M y1 2 = (0, smi M 15 1) := a0 hx
    have ef : f_X6_movementAccount B y1 = (5, 0, B) := by
      unfold f_X6_movementAccount
      rw [nm_eq, q0 hx]
      rfl
    have em : f_X7_movementAccount M y1 = (0, smi M 15 1) := by
      unfold f_X7_movementAccount
      rw [nm_eq, ea]
    rw [ef, em]
    refine ⟨⟨⟨o1, ?_⟩, Or.inr rfl, om, rfl, fun h => absurd (show (1 : Int32) = 0 from h) (by decide)⟩, hN 1⟩
    intro z hz h0
    rw [hz, q0 hx] at h0
    exact absurd (show (5 : Nat) = 0 from h0) (by decide)
theorem case_43 {u : Nat} {B : StB} {M : StM} (hI : Inv u B M) (hu : u < 512) (O : StO) : okc_43 B M O ∧ Inv (u + 1) (stB_43 B M O) (stM_43 B M O) := by
  have hN := fun v => Inv_15 hI hu v
  obtain ⟨e, ty, he, hu2, hL, hS, hH, ⟨e1, e2, e3, e4, e5⟩, hRd, hTt⟩ := hI
  have em : mi M 7 = bi B 176 8 := e1
  have eb : -1 ≤ (bi B 176 8).toInt := e3
  have h0 : (0 : Int32).toInt = 0 := by decide
  have h1 : (-1 : Int32).toInt = -1 := by decide
  unfold okc_43 stB_43 stM_43
  by_cases hx : 0 ≤ bi B 176 8
  · have hne : ¬ mi M 7 = -1 := by
      rw [em]
      rw [i32_le] at hx
      rw [i32_inj]
      omega
    have ef : f_X6_errorPosition B = (0, bi B 176 8, B) := by
      unfold f_X6_errorPosition
      rw [if_pos hx]
    have eM : f_X7_errorPosition M = (bi B 176 8, smi M 15 0) := by
      unfold f_X7_errorPosition
      rw [if_neg hne]
      unfold f_X7_errorPosition_J14
      rw [nm_eq, goes_1]
      show (if (1 : Int32) = 0 then _ else (mi (smi M 15 0) 7, smi M 15 0)) = _
      rw [if_neg (by decide), mi_smi, if_neg (by decide), em]
    have om : ok_X7_errorPosition M := ⟨fun h9 => absurd h9 hne, fun _ => okgoes (Or.inr rfl)⟩
    rw [ef, eM]
    exact ⟨⟨trivial, Or.inl rfl, om, rfl, fun _ => rfl⟩, hN 0⟩
  · have hne : mi M 7 = -1 := by
      rw [em]
      rw [i32_le] at hx
      rw [i32_inj]
      omega
    have ef : f_X6_errorPosition B = (5, 0, B) := by
      unfold f_X6_errorPosition
      rw [if_neg hx]
    have eM : f_X7_errorPosition M = (0, smi M 15 1) := by
      unfold f_X7_errorPosition
      rw [if_pos hne]
      unfold f_X7_errorPosition_J14
      rw [nm_eq, goes_0]
      rfl
    have om : ok_X7_errorPosition M := ⟨fun _ => okgoes (Or.inl rfl), fun h9 => absurd hne h9⟩
    rw [ef, eM]
    exact ⟨⟨trivial, Or.inr rfl, om, rfl, fun h => absurd (show (1 : Int32) = 0 from h) (by decide)⟩, hN 1⟩
theorem case_44 {u : Nat} {B : StB} {M : StM} (hI : Inv u B M) (hu : u < 512) (O : StO) : okc_44 B M O ∧ Inv (u + 1) (stB_44 B M O) (stM_44 B M O) := by
  have hN := fun v => Inv_15 hI hu v
  obtain ⟨e, ty, he, hu2, hL, hS, hH, ⟨e1, e2, e3, e4, e5⟩, hRd, hTt⟩ := hI
  have em : mi M 8 = bi B 176 9 := e2
  have eb : -1 ≤ (bi B 176 9).toInt := e4
  have h0 : (0 : Int32).toInt = 0 := by decide
  have h1 : (-1 : Int32).toInt = -1 := by decide
  unfold okc_44 stB_44 stM_44
  by_cases hx : 0 ≤ bi B 176 9
  · have hne : ¬ mi M 8 = -1 := by
      rw [em]
      rw [i32_le] at hx
      rw [i32_inj]
      omega
    have ef : f_X6_failedCommand B = (0, bi B 176 9, B) := by
      unfold f_X6_failedCommand
      rw [if_pos hx]
    have eM : f_X7_failedCommand M = (bi B 176 9, smi M 15 0) := by
      unfold f_X7_failedCommand
      rw [if_neg hne]
      unfold f_X7_failedCommand_J14
      rw [nm_eq, goes_1]
      show (if (1 : Int32) = 0 then _ else (mi (smi M 15 0) 8, smi M 15 0)) = _
      rw [if_neg (by decide), mi_smi, if_neg (by decide), em]
    have om : ok_X7_failedCommand M := ⟨fun h9 => absurd h9 hne, fun _ => okgoes (Or.inr rfl)⟩
    rw [ef, eM]
    exact ⟨⟨trivial, Or.inl rfl, om, rfl, fun _ => rfl⟩, hN 0⟩
  · have hne : mi M 8 = -1 := by
      rw [em]
      rw [i32_le] at hx
      rw [i32_inj]
      omega
    have ef : f_X6_failedCommand B = (5, 0, B) := by
      unfold f_X6_failedCommand
      rw [if_neg hx]
    have eM : f_X7_failedCommand M = (0, smi M 15 1) := by
      unfold f_X7_failedCommand
      rw [if_pos hne]
      unfold f_X7_failedCommand_J14
      rw [nm_eq, goes_0]
      rfl
    have om : ok_X7_failedCommand M := ⟨fun _ => okgoes (Or.inl rfl), fun h9 => absurd hne h9⟩
    rw [ef, eM]
    exact ⟨⟨trivial, Or.inr rfl, om, rfl, fun h => absurd (show (1 : Int32) = 0 from h) (by decide)⟩, hN 1⟩
