/-! the pure part: questions -/
theorem rs15 (M : StM) (v : Int32) : rs (smi M 15 v) (ma M 0) = smi M 15 v := by
  rw [← smi_rs, rs_self]
theorem acc_M {M : StM} {n : Nat} {x : Int32} (h : ma M 0 1 = Int32.ofNat n) (hn : n ≤ 8) : (acc n x → f_X7_isAccount M x = 1) ∧ (¬ acc n x → f_X7_isAccount M x = 0) := by
  refine ⟨fun hx => ?_, fun hx => ?_⟩
  · have := isAcc_1 (M := M) (R := ma M 0) h hn hx
    rwa [rs_self] at this
  · have := isAcc_0 (M := M) (R := ma M 0) h hn hx
    rwa [rs_self] at this
theorem of_M {M : StM} {n i j : Nat} (v : Int32) (h : ma M 0 1 = Int32.ofNat n) (hn : n ≤ 8) (hi : i < n) (hj : j < 4) : f_X7_of (smi M 15 v) (Int32.ofNat i) (Int32.ofNat j) = ma M 0 (12 + 4 * i + j) ∧ ok_X7_of (smi M 15 v) (Int32.ofNat i) (Int32.ofNat j) := by
  have := of_R (M := smi M 15 v) (R := ma M 0) h hn hi hj
  rwa [rs15] at this
theorem asks_M {M : StM} {n j : Nat} {x : Int32} (h : ma M 0 1 = Int32.ofNat n) (hn : n ≤ 8) (hj : j < 4) : ok_X7_asks M x (Int32.ofNat j) ∧ (¬ acc n x → f_X7_asks M x (Int32.ofNat j) = (0, smi M 15 1)) ∧ (∀ i, i < n → x = Int32.ofNat i → f_X7_asks M x (Int32.ofNat j) = (ma M 0 (12 + 4 * i + j), smi M 15 0)) := by
  obtain ⟨a1, a0⟩ := acc_M (M := M) (x := x) h hn
  refine ⟨⟨okisAcc _ _, ?_⟩, fun hx => ?_, fun i hi hx => ?_⟩
  · intro r hr
    rw [hr]
    by_cases hx : acc n x
    · obtain ⟨i, hi, rfl⟩ := acc_o hx
      rw [a1 hx]
      refine ⟨okgoes (Or.inr rfl), ?_⟩
      intro z hz
      rw [hz, goes_1]
      exact ⟨fun h9 => absurd (show (1 : Int32) = 0 from h9) (by decide), fun _ => (of_M 0 h hn hi hj).2⟩
    · rw [a0 hx]
      refine ⟨okgoes (Or.inl rfl), ?_⟩
      intro z hz
      rw [hz, goes_0]
      exact ⟨fun _ => trivial, fun h9 => absurd rfl h9⟩
  · unfold f_X7_asks
    rw [nm_eq, a0 hx, nm_eq, goes_0]
    rfl
  · subst hx
    unfold f_X7_asks
    rw [nm_eq, a1 (o_acc hi hn), nm_eq, goes_1]
    show (if (1 : Int32) = 0 then _ else _) = _
    rw [if_neg (by decide), nm_eq, (of_M 0 h hn hi hj).1]
theorem reqA {B : StB} {n : Nat} {x : Int32} (h : bi B 1 0 = Int32.ofNat n) (hn : n ≤ 8) : (acc n x → f_X6_requireAccount B x = (0, 0, B)) ∧ (¬ acc n x → f_X6_requireAccount B x = (1, 0, B)) := by
  refine ⟨fun hx => ?_, fun hx => ?_⟩
  · unfold f_X6_requireAccount
    rw [nm_eq, has_1 h (by omega) hx, if_neg (by decide)]
  · unfold f_X6_requireAccount
    rw [nm_eq, has_0 h (by omega) hx, if_pos rfl]

theorem case_4 {u : Nat} {B : StB} {M : StM} (hI : Inv u B M) (hu : u < 512) (O : StO) : okc_4 B M O ∧ Inv (u + 1) (stB_4 B M O) (stM_4 B M O) := by
  have hN := Inv_15 hI hu 0
  obtain ⟨e, ty, he, hu2, ⟨n, t, hT, hR⟩, hS, hH, hE, hRd, hTt⟩ := hI
  refine ⟨⟨trivial, trivial, ?_⟩, hN⟩
  exact (Ti_n hT).1.trans (Ti_n hT).2.1.symm
theorem case_13 {u : Nat} {B : StB} {M : StM} (hI : Inv u B M) (hu : u < 512) (O : StO) : okc_13 B M O ∧ Inv (u + 1) (stB_13 B M O) (stM_13 B M O) := by
  have hN := Inv_15 hI hu 0
  obtain ⟨e, ty, he, hu2, ⟨n, t, hT, hR⟩, hS, hH, hE, hRd, hTt⟩ := hI
  refine ⟨⟨trivial, trivial, ?_⟩, hN⟩
  exact (Ti_s hT).2.1
theorem case_15 {u : Nat} {B : StB} {M : StM} (hI : Inv u B M) (hu : u < 512) (O : StO) : okc_15 B M O ∧ Inv (u + 1) (stB_15 B M O) (stM_15 B M O) := by
  have hN := Inv_15 hI hu 0
  obtain ⟨e, ty, he, hu2, ⟨n, t, hT, hR⟩, hS, hH, hE, hRd, hTt⟩ := hI
  refine ⟨⟨trivial, trivial, ?_⟩, hN⟩
  show bl B 0 6 - bl B 0 7 = (ma M 0 5 - ma M 0 6).toInt64
  have s := Ti_s hT
  have b := hR.2.2
  unfold bS at b
  rw [s.2.2.2.1, s.2.2.2.2.1]
  rw [i64_inj, i64_of, i32_sub (by omega) (by omega), i64_sub (by rw [i64_of, i64_of]; omega) (by rw [i64_of, i64_of]; omega), i64_of, i64_of]
theorem case_16 {u : Nat} {B : StB} {M : StM} (hI : Inv u B M) (hu : u < 512) (O : StO) : okc_16 B M O ∧ Inv (u + 1) (stB_16 B M O) (stM_16 B M O) := by
  have hN := Inv_15 hI hu 0
  obtain ⟨e, ty, he, hu2, ⟨n, t, hT, hR⟩, hS, hH, hE, hRd, hTt⟩ := hI
  refine ⟨⟨trivial, trivial, ?_⟩, hN⟩
  exact (Ti_s hT).2.2.2.2.2.1
theorem case_17 {u : Nat} {B : StB} {M : StM} (hI : Inv u B M) (hu : u < 512) (O : StO) : okc_17 B M O ∧ Inv (u + 1) (stB_17 B M O) (stM_17 B M O) := by
  have hN := Inv_15 hI hu 0
  obtain ⟨e, ty, he, hu2, ⟨n, t, hT, hR⟩, hS, hH, hE, hRd, hTt⟩ := hI
  refine ⟨⟨trivial, trivial, ?_⟩, hN⟩
  exact (Ti_s hT).2.2.2.2.2.2.1
theorem case_18 {u : Nat} {B : StB} {M : StM} (hI : Inv u B M) (hu : u < 512) (O : StO) : okc_18 B M O ∧ Inv (u + 1) (stB_18 B M O) (stM_18 B M O) := by
  have hN := Inv_15 hI hu 0
  obtain ⟨e, ty, he, hu2, ⟨n, t, hT, hR⟩, hS, hH, hE, hRd, hTt⟩ := hI
  refine ⟨⟨trivial, trivial, ?_⟩, hN⟩
  exact (Ti_s hT).2.2.2.2.2.2.2
theorem case_19 {u : Nat} {B : StB} {M : StM} (hI : Inv u B M) (hu : u < 512) (O : StO) : okc_19 B M O ∧ Inv (u + 1) (stB_19 B M O) (stM_19 B M O) := by
  have hN := Inv_15 hI hu 0
  obtain ⟨e, ty, he, hu2, ⟨n, t, hT, hR⟩, hS, hH, hE, hRd, hTt⟩ := hI
  refine ⟨⟨trivial, trivial, ?_⟩, hN⟩
  exact (Ti_s hT).1
theorem case_24 {u : Nat} {B : StB} {M : StM} (hI : Inv u B M) (hu : u < 512) (O : StO) : okc_24 B M O ∧ Inv (u + 1) (stB_24 B M O) (stM_24 B M O) := by
  have hN := Inv_15 hI hu 0
  obtain ⟨e, ty, he, hu2, ⟨n, t, hT, hR⟩, hS, hH, hE, hRd, hTt⟩ := hI
  refine ⟨⟨trivial, trivial, ?_⟩, hN⟩
  exact (Ti_c hT).1.trans hR.2.1.2.1.symm
theorem case_31 {u : Nat} {B : StB} {M : StM} (hI : Inv u B M) (hu : u < 512) (O : StO) : okc_31 B M O ∧ Inv (u + 1) (stB_31 B M O) (stM_31 B M O) := by
  have hN := Inv_15 hI hu 0
  obtain ⟨e, ty, he, hu2, ⟨n, t, hT, hR⟩, hS, hH, hE, hRd, hTt⟩ := hI
  refine ⟨⟨trivial, trivial, ?_⟩, hN⟩
  exact (Ti_s hT).2.2.1
theorem case_35 {u : Nat} {B : StB} {M : StM} (hI : Inv u B M) (hu : u < 512) (O : StO) : okc_35 B M O ∧ Inv (u + 1) (stB_35 B M O) (stM_35 B M O) := by
  have hN := Inv_15 hI hu 0
  obtain ⟨e, ty, he, hu2, ⟨n, t, hT, hR⟩, hS, hH, hE, hRd, hTt⟩ := hI
  refine ⟨⟨trivial, trivial, ?_⟩, hN⟩
  obtain ⟨L, w, j0, j1, _⟩ := hT.2.2.1
  exact j0.trans j1.symm
theorem case_5 {u : Nat} {B : StB} {M : StM} (hI : Inv u B M) (hu : u < 512) (O : StO) (y1 : Int32) : okc_5 B M O y1 ∧ Inv (u + 1) (stB_5 B M O y1) (stM_5 B M O y1) := by
  have hN := fun v => Inv_15 hI hu v
  obtain ⟨e, ty, he, hu2, ⟨n, t, hT, hR⟩, hS, hH, hE, hRd, hTt⟩ := hI
  obtain ⟨b1, b2, b3⟩ := Ti_n hT
  have b1 : bi B 1 0 = Int32.ofNat n := b1
  obtain ⟨r1, r0⟩ := reqA (x := y1) b1 b3
  unfold okc_5 stB_5 stM_5
  obtain ⟨am, a0, a1⟩ := asks_M (j := 0) (x := y1) b2 b3 (by decide)
  have om : ok_X7_kindOf M y1 := am
  have e12 : ∀ i, 12 + 4 * i + 0 = 12 + 4 * i := fun i => by omega
  by_cases hx : acc n y1
  · obtain ⟨i, hi, rfl⟩ := acc_o hx
    have hxx : ix (Int32.ofNat i) = i := ix_o (by omega)
    have hv : vp_in (Int32.ofNat i) 8 := in_o (by omega) (by omega)
    have ef : f_X6_kindOf B (Int32.ofNat i) = (0, ma M 0 (12 + 4 * i), B) := by
      unfold f_X6_kindOf
      rw [nm_eq, r1 hx]
      show (if 0 = 0 then _ else _) = _
      rw [if_pos rfl, hxx]
      exact congrArg (fun v => ((0 : Nat), v, B)) (Ti_k hT hi)
    have em : f_X7_kindOf M (Int32.ofNat i) = (ma M 0 (12 + 4 * i), smi M 15 0) := by
      unfold f_X7_kindOf
      rw [nm_eq]
      have := a1 i hi rfl
      rw [e12] at this
      exact congrArg (fun z : Int32 × StM => (z.1, z.2)) this
    rw [ef, em]
    exact ⟨⟨fun _ _ _ => hv, Or.inl rfl, om, rfl, fun _ => rfl⟩, hN 0⟩
  · have ef : f_X6_kindOf B y1 = (1, 0, B) := by
      unfold f_X6_kindOf
      rw [nm_eq, r0 hx]
      rfl
    have em : f_X7_kindOf M y1 = (0, smi M 15 1) := by
      unfold f_X7_kindOf
      rw [nm_eq]
      exact congrArg (fun z : Int32 × StM => (z.1, z.2)) (a0 hx)
    rw [ef, em]
    refine ⟨⟨?_, Or.inr rfl, om, rfl, fun h => absurd (show (1 : Int32) = 0 from h) (by decide)⟩, hN 1⟩
    intro z hz h0
    rw [hz, r0 hx] at h0
    exact absurd (show (1 : Nat) = 0 from h0) (by decide)
theorem case_6 {u : Nat} {B : StB} {M : StM} (hI : Inv u B M) (hu : u < 512) (O : StO) (y1 : Int32) : okc_6 B M O y1 ∧ Inv (u + 1) (stB_6 B M O y1) (stM_6 B M O y1) := by
  have hN := fun v => Inv_15 hI hu v
  obtain ⟨e, ty, he, hu2, ⟨n, t, hT, hR⟩, hS, hH, hE, hRd, hTt⟩ := hI
  obtain ⟨b1, b2, b3⟩ := Ti_n hT
  have b1 : bi B 1 0 = Int32.ofNat n := b1
  obtain ⟨r1, r0⟩ := reqA (x := y1) b1 b3
  unfold okc_6 stB_6 stM_6
  obtain ⟨am, a0, a1⟩ := asks_M (j := 1) (x := y1) b2 b3 (by decide)
  have om : ok_X7_balanceOf M y1 := am
  have e12 : ∀ i, 12 + 4 * i + 1 = 13 + 4 * i := fun i => by omega
  by_cases hx : acc n y1
  · obtain ⟨i, hi, rfl⟩ := acc_o hx
    have hxx : ix (Int32.ofNat i) = i := ix_o (by omega)
    have hv : vp_in (Int32.ofNat i) 8 := in_o (by omega) (by omega)
    have ef : f_X6_balanceOf B (Int32.ofNat i) = (0, ma M 0 (13 + 4 * i), B) := by
      unfold f_X6_balanceOf
      rw [nm_eq, r1 hx]
      show (if 0 = 0 then _ else _) = _
      rw [if_pos rfl, hxx]
      exact congrArg (fun v => ((0 : Nat), v, B)) (Ti_b hT hi)
    have em : f_X7_balanceOf M (Int32.ofNat i) = (ma M 0 (13 + 4 * i), smi M 15 0) := by
      unfold f_X7_balanceOf
      rw [nm_eq]
      have := a1 i hi rfl
      rw [e12] at this
      exact congrArg (fun z : Int32 × StM => (z.1, z.2)) this
    rw [ef, em]
    exact ⟨⟨fun _ _ _ => hv, Or.inl rfl, om, rfl, fun _ => rfl⟩, hN 0⟩
  · have ef : f_X6_balanceOf B y1 = (1, 0, B) := by
      unfold f_X6_balanceOf
      rw [nm_eq, r0 hx]
      rfl
    have em : f_X7_balanceOf M y1 = (0, smi M 15 1) := by
      unfold f_X7_balanceOf
      rw [nm_eq]
      exact congrArg (fun z : Int32 × StM => (z.1, z.2)) (a0 hx)
    rw [ef, em]
    refine ⟨⟨?_, Or.inr rfl, om, rfl, fun h => absurd (show (1 : Int32) = 0 from h) (by decide)⟩, hN 1⟩
    intro z hz h0
    rw [hz, r0 hx] at h0
    exact absurd (show (1 : Nat) = 0 from h0) (by decide)
theorem case_7 {u : Nat} {B : StB} {M : StM} (hI : Inv u B M) (hu : u < 512) (O : StO) (y1 : Int32) : okc_7 B M O y1 ∧ Inv (u + 1) (stB_7 B M O y1) (stM_7 B M O y1) := by
  have hN := fun v => Inv_15 hI hu v
  obtain ⟨e, ty, he, hu2, ⟨n, t, hT, hR⟩, hS, hH, hE, hRd, hTt⟩ := hI
  obtain ⟨b1, b2, b3⟩ := Ti_n hT
  have b1 : bi B 1 0 = Int32.ofNat n := b1
  obtain ⟨r1, r0⟩ := reqA (x := y1) b1 b3
  unfold okc_7 stB_7 stM_7
  obtain ⟨am, a0, a1⟩ := asks_M (j := 2) (x := y1) b2 b3 (by decide)
  have om : ok_X7_limitOf M y1 := am
  have e12 : ∀ i, 12 + 4 * i + 2 = 14 + 4 * i := fun i => by omega
  by_cases hx : acc n y1
  · obtain ⟨i, hi, rfl⟩ := acc_o hx
    have hxx : ix (Int32.ofNat i) = i := ix_o (by omega)
    have hv : vp_in (Int32.ofNat i) 8 := in_o (by omega) (by omega)
    have ef : f_X6_limitOf B (Int32.ofNat i) = (0, ma M 0 (14 + 4 * i), B) := by
      unfold f_X6_limitOf
      rw [nm_eq, r1 hx]
      show (if 0 = 0 then _ else _) = _
      rw [if_pos rfl, hxx]
      exact congrArg (fun v => ((0 : Nat), v, B)) (Ti_l hT hi)
    have em : f_X7_limitOf M (Int32.ofNat i) = (ma M 0 (14 + 4 * i), smi M 15 0) := by
      unfold f_X7_limitOf
      rw [nm_eq]
      have := a1 i hi rfl
      rw [e12] at this
      exact congrArg (fun z : Int32 × StM => (z.1, z.2)) this
    rw [ef, em]
    exact ⟨⟨fun _ _ _ => hv, Or.inl rfl, om, rfl, fun _ => rfl⟩, hN 0⟩
  · have ef : f_X6_limitOf B y1 = (1, 0, B) := by
      unfold f_X6_limitOf
      rw [nm_eq, r0 hx]
      rfl
    have em : f_X7_limitOf M y1 = (0, smi M 15 1) := by
      unfold f_X7_limitOf
      rw [nm_eq]
      exact congrArg (fun z : Int32 × StM => (z.1, z.2)) (a0 hx)
    rw [ef, em]
    refine ⟨⟨?_, Or.inr rfl, om, rfl, fun h => absurd (show (1 : Int32) = 0 from h) (by decide)⟩, hN 1⟩
    intro z hz h0
    rw [hz, r0 hx] at h0
    exact absurd (show (1 : Nat) = 0 from h0) (by decide)
theorem case_8 {u : Nat} {B : StB} {M : StM} (hI : Inv u B M) (hu : u < 512) (O : StO) (y1 : Int32) : okc_8 B M O y1 ∧ Inv (u + 1) (stB_8 B M O y1) (stM_8 B M O y1) := by
  have hN := fun v => Inv_15 hI hu v
  obtain ⟨e, ty, he, hu2, ⟨n, t, hT, hR⟩, hS, hH, hE, hRd, hTt⟩ := hI
  obtain ⟨b1, b2, b3⟩ := Ti_n hT
  have b1 : bi B 1 0 = Int32.ofNat n := b1
  obtain ⟨r1, r0⟩ := reqA (x := y1) b1 b3
  unfold okc_8 stB_8 stM_8
  obtain ⟨m1, m0⟩ := acc_M (M := M) (x := y1) b2 b3
  by_cases hx : acc n y1
  · obtain ⟨i, hi, rfl⟩ := acc_o hx
    obtain ⟨av, oav⟩ := av_C hT hi
    have o1 := of_M (j := 1) 0 b2 b3 hi (by decide)
    have o2 := of_M (j := 2) 0 b2 b3 hi (by decide)
    rw [show 12 + 4 * i + 1 = 13 + 4 * i by omega] at o1
    rw [show 12 + 4 * i + 2 = 14 + 4 * i by omega] at o2
    have ef : f_X6_availableIn B (Int32.ofNat i) = (0, ma M 0 (13 + 4 * i) + ma M 0 (14 + 4 * i), B) := by
      unfold f_X6_availableIn
      rw [nm_eq, r1 hx]
      show (if 0 = 0 then _ else _) = _
      rw [if_pos rfl, nm_eq]
      exact congrArg (fun v => ((0 : Nat), v, B)) av
    have em : f_X7_availableIn M (Int32.ofNat i) = (ma M 0 (13 + 4 * i) + ma M 0 (14 + 4 * i), smi M 15 0) := by
      unfold f_X7_availableIn
      rw [nm_eq, m1 hx, nm_eq, goes_1]
      show (if (1 : Int32) = 0 then _ else nm (f_X7_of (smi M 15 0) (Int32.ofNat i) (Int32.ofNat 1)) fun r7 => nm (f_X7_of (smi M 15 0) (Int32.ofNat i) (Int32.ofNat 2)) fun r9 => (r7 + r9, smi M 15 0)) = _
      rw [if_neg (by decide), nm_eq, nm_eq, o1.1, o2.1]
    have om : ok_X7_availableIn M (Int32.ofNat i) := by
      refine ⟨okisAcc _ _, ?_⟩
      intro r hr
      rw [hr, m1 hx]
      refine ⟨okgoes (Or.inr rfl), ?_⟩
      intro z hz
      rw [hz, goes_1]
      exact ⟨fun h9 => absurd (show (1 : Int32) = 0 from h9) (by decide), fun _ => ⟨o1.2, fun _ _ => o2.2⟩⟩
    rw [ef, em]
    refine ⟨⟨?_, Or.inl rfl, om, rfl, fun _ => rfl⟩, hN 0⟩
    intro z hz _
    rw [hz, r1 hx]
    exact oav
  · have ef : f_X6_availableIn B y1 = (1, 0, B) := by
      unfold f_X6_availableIn
      rw [nm_eq, r0 hx]
      rfl
    have em : f_X7_availableIn M y1 = (0, smi M 15 1) := by
      unfold f_X7_availableIn
      rw [nm_eq, m0 hx, nm_eq, goes_0]
      rfl
    have om : ok_X7_availableIn M y1 := by
      refine ⟨okisAcc _ _, ?_⟩
      intro r hr
      rw [hr, m0 hx]
      refine ⟨okgoes (Or.inl rfl), ?_⟩
      intro z hz
      rw [hz, goes_0]
      exact ⟨fun _ => trivial, fun h9 => absurd rfl h9⟩
    rw [ef, em]
    refine ⟨⟨?_, Or.inr rfl, om, rfl, fun h => absurd (show (1 : Int32) = 0 from h) (by decide)⟩, hN 1⟩
    intro z hz h0
    rw [hz, r0 hx] at h0
    exact absurd (show (1 : Nat) = 0 from h0) (by decide)
theorem case_9 {u : Nat} {B : StB} {M : StM} (hI : Inv u B M) (hu : u < 512) (O : StO) (y1 : Int32) : okc_9 B M O y1 ∧ Inv (u + 1) (stB_9 B M O y1) (stM_9 B M O y1) := by
  have hN := fun v => Inv_15 hI hu v
  obtain ⟨e, ty, he, hu2, ⟨n, t, hT, hR⟩, hS, hH, hE, hRd, hTt⟩ := hI
  obtain ⟨b1, b2, b3⟩ := Ti_n hT
  have b1 : bi B 1 0 = Int32.ofNat n := b1
  obtain ⟨r1, r0⟩ := reqA (x := y1) b1 b3
  unfold okc_9 stB_9 stM_9
  obtain ⟨am, a0, a1⟩ := asks_M (j := 3) (x := y1) b2 b3 (by decide)
  have om : ok_X7_wasTouched M y1 := am
  by_cases hx : acc n y1
  · obtain ⟨i, hi, rfl⟩ := acc_o hx
    have hxx : ix (Int32.ofNat i) = i := ix_o (by omega)
    have hv : vp_in (Int32.ofNat i) 8 := in_o (by omega) (by omega)
    have h01 := (bA_at hR.1 hi).2.2.1
    have tt : ba B 5 i = ma M 0 (15 + 4 * i) := Ti_t hT hi
    have ef : f_X6_wasTouched B (Int32.ofNat i) = (0, ma M 0 (15 + 4 * i), B) := by
      unfold f_X6_wasTouched
      rw [nm_eq, r1 hx]
      show (if 0 = 0 then _ else _) = _
      rw [if_pos rfl, hxx]
      exact congrArg (fun v => ((0 : Nat), v, B)) tt
    have ea : f_X7_asks M (Int32.ofNat i) 3 = (ma M 0 (15 + 4 * i), smi M 15 0) := by
      have := a1 i hi rfl
      rw [show 12 + 4 * i + 3 = 15 + 4 * i by omega] at this
      exact this
    have em : f_X7_wasTouched M (Int32.ofNat i) = (ma M 0 (15 + 4 * i), smi M 15 0) := by
      unfold f_X7_wasTouched
      rw [nm_eq, ea]
      rcases h01 with h | h
      · rw [h]
        rfl
      · rw [h]
        rfl
    rw [ef, em]
    refine ⟨⟨?_, Or.inl rfl, om, rfl, fun _ => rfl⟩, hN 0⟩
    intro z hz _
    rw [hz, r1 hx]
    refine ⟨hv, ?_⟩
    show narrow .boolean (.int (ba B 5 (ix (Int32.ofNat i)))) = .int (ba B 5 (ix (Int32.ofNat i)))
    rw [hxx, tt]
    exact nar01 h01
  · have ef : f_X6_wasTouched B y1 = (1, 0, B) := by
      unfold f_X6_wasTouched
      rw [nm_eq, r0 hx]
      rfl
    have ea : f_X7_asks M y1 3 = (0, smi M 15 1) := a0 hx
    have em : f_X7_wasTouched M y1 = (0, smi M 15 1) := by
      unfold f_X7_wasTouched
      rw [nm_eq, ea]
      rfl
    rw [ef, em]
    refine ⟨⟨?_, Or.inr rfl, om, rfl, fun h => absurd (show (1 : Int32) = 0 from h) (by decide)⟩, hN 1⟩
    intro z hz h0
    rw [hz, r0 hx] at h0
    exact absurd (show (1 : Nat) = 0 from h0) (by decide)
theorem case_10 {u : Nat} {B : StB} {M : StM} (hI : Inv u B M) (hu : u < 512) (O : StO) (y1 : Int32) : okc_10 B M O y1 ∧ Inv (u + 1) (stB_10 B M O y1) (stM_10 B M O y1) := by
  have hN := fun v => Inv_15 hI hu v
  obtain ⟨e, ty, he, hu2, ⟨n, t, hT, hR⟩, hS, hH, hE, hRd, hTt⟩ := hI
  obtain ⟨b1, b2, b3⟩ := Ti_n hT
  have b1 : bi B 1 0 = Int32.ofNat n := b1
  obtain ⟨r1, r0⟩ := reqA (x := y1) b1 b3
  unfold okc_10 stB_10 stM_10
  obtain ⟨m1, m0⟩ := acc_M (M := M) (x := y1) b2 b3
  by_cases hx : acc n y1
  · obtain ⟨i, hi, rfl⟩ := acc_o hx
    obtain ⟨eC, oC⟩ := ern_C hT hR.1 hi
    have eM := ern_M (M := smi M 15 0) (R := ma M 0) b2 b3 hi
    rw [rs15] at eM
    have ef : f_X6_interestOf B (Int32.ofNat i) = (0, ern (ma M 0) i, B) := by
      unfold f_X6_interestOf
      rw [nm_eq, r1 hx]
      show (if 0 = 0 then _ else _) = _
      rw [if_pos rfl, nm_eq]
      exact congrArg (fun v => ((0 : Nat), v, B)) eC
    have em : f_X7_interestOf M (Int32.ofNat i) = (ern (ma M 0) i, smi M 15 0) := by
      unfold f_X7_interestOf
      rw [nm_eq, m1 hx, nm_eq, goes_1]
      show (if (1 : Int32) = 0 then _ else nm (f_X7_earns (smi M 15 0) (Int32.ofNat i)) fun r7 => (r7, smi M 15 0)) = _
      rw [if_neg (by decide), nm_eq, eM.1]
    have om : ok_X7_interestOf M (Int32.ofNat i) := by
      refine ⟨okisAcc _ _, ?_⟩
      intro r hr
      rw [hr, m1 hx]
      refine ⟨okgoes (Or.inr rfl), ?_⟩
      intro z hz
      rw [hz, goes_1]
      exact ⟨fun h9 => absurd (show (1 : Int32) = 0 from h9) (by decide), fun _ => eM.2⟩
    rw [ef, em]
    refine ⟨⟨?_, Or.inl rfl, om, rfl, fun _ => rfl⟩, hN 0⟩
    intro z hz _
    rw [hz, r1 hx]
    exact oC
  · have ef : f_X6_interestOf B y1 = (1, 0, B) := by
      unfold f_X6_interestOf
      rw [nm_eq, r0 hx]
      rfl
    have em : f_X7_interestOf M y1 = (0, smi M 15 1) := by
      unfold f_X7_interestOf
      rw [nm_eq, m0 hx, nm_eq, goes_0]
      rfl
    have om : ok_X7_interestOf M y1 := by
      refine ⟨okisAcc _ _, ?_⟩
      intro r hr
      rw [hr, m0 hx]
      refine ⟨okgoes (Or.inl rfl), ?_⟩
      intro z hz
      rw [hz, goes_0]
      exact ⟨fun _ => trivial, fun h9 => absurd rfl h9⟩
    rw [ef, em]
    refine ⟨⟨?_, Or.inr rfl, om, rfl, fun h => absurd (show (1 : Int32) = 0 from h) (by decide)⟩, hN 1⟩
    intro z hz h0
    rw [hz, r0 hx] at h0
    exact absurd (show (1 : Nat) = 0 from h0) (by decide)
/-! sums -/
theorem L_sum {n : Nat} {B : StB} {M : StM} {R : Nat → Int32} (h1 : R 1 = Int32.ofNat n) (hn : n ≤ 8) (c1 : bi B 1 0 = Int32.ofNat n) (hb : ∀ i, i < n → ba B 3 i = R (13 + 4 * i)) : ∀ (g n1 n2 i : Nat) (a : Int64), i + g = n → g < n1 → g < n2 → ok_X0_sum_L4 n1 1 B a (Int32.ofNat i) ∧ ok_X7_balances_L4 n2 (rs M R) a (Int32.ofNat i) ∧ f_X0_sum_L4 n1 1 B a (Int32.ofNat i) = f_X7_balances_L4 n2 (rs M R) a (Int32.ofNat i) := by
  intro g
  induction g with
  | zero =>
    intro n1 n2 i a hi g1 g2
    obtain ⟨n1, rfl⟩ : ∃ q, n1 = q + 1 := ⟨n1 - 1, by omega⟩
    obtain ⟨n2, rfl⟩ : ∃ q, n2 = q + 1 := ⟨n2 - 1, by omega⟩
    have hni : n = i := by omega
    subst hni
    have w1 : Int32.ofNat n ≤ Int32.ofNat n := (le_ofN (by omega) (by omega)).mpr (Nat.le_refl n)
    unfold ok_X0_sum_L4 ok_X7_balances_L4 f_X0_sum_L4 f_X7_balances_L4
    simp only [c1, ma_rs0, ixl, h1, if_pos w1]
    exact ⟨⟨fun _ => trivial, fun h9 => absurd w1 h9⟩, ⟨fun _ => trivial, fun h9 => absurd w1 h9⟩, trivial⟩
  | succ g ih =>
    intro n1 n2 i a hi g1 g2
    obtain ⟨n1, rfl⟩ : ∃ q, n1 = q + 1 := ⟨n1 - 1, by omega⟩
    obtain ⟨n2, rfl⟩ : ∃ q, n2 = q + 1 := ⟨n2 - 1, by omega⟩
    have w1 : ¬ Int32.ofNat n ≤ Int32.ofNat i := by
      rw [le_ofN (by omega) (by omega)]
      omega
    have hx : ix (Int32.ofNat i) = i := ix_o (by omega)
    have hv : vp_in (Int32.ofNat i) 8 := in_o (by omega) (by omega)
    have o1 := of_1 (M := M) h1 hn (i := i) (by omega)
    obtain ⟨r1, r2, r3⟩ := ih n1 n2 (i + 1) (a + (R (13 + 4 * i)).toInt64) (by omega) (by omega) (by omega)
    refine ⟨?_, ?_, ?_⟩
    · unfold ok_X0_sum_L4
      refine ⟨fun _ => trivial, fun _ => ⟨hv, ?_⟩⟩
      intro z hz
      rw [hz, hx, show 1 + 2 = 3 from rfl, hb i (by omega), oad1]
      exact r1
    · unfold ok_X7_balances_L4
      refine ⟨fun _ => trivial, fun _ => ⟨ok_of1 h1 hn, ?_⟩⟩
      intro z hz
      rw [hz, o1]
      intro z2 hz2
      rw [hz2, oad1]
      exact r2
    · simp only [f_X0_sum_L4, f_X7_balances_L4, c1, ma_rs0, ixl, h1, if_neg w1, nm_eq, hx, o1, oad1]
      rw [show 1 + 2 = 3 from rfl, hb i (by omega)]
      exact r3
theorem sum_CM {n t : Nat} {B : StB} {M : StM} (v : Int32) (hT : Ti 0 n 0 0 t B 0 (ma M 0)) : ok_X0_sum 1 B ∧ ok_X7_balances (smi M 15 v) ∧ f_X0_sum 1 B = f_X7_balances (smi M 15 v) := by
  obtain ⟨b1, b2, b3⟩ := Ti_n hT
  have hfu : n < fu := by unfold fu; omega
  obtain ⟨r1, r2, r3⟩ := L_sum (M := smi M 15 v) b2 b3 b1 (fun i hi => Ti_b hT hi) n fu fu 0 0 (by omega) hfu hfu
  clear hfu
  rw [rs15] at r2 r3
  refine ⟨r1, r2, ?_⟩
  unfold f_X0_sum f_X7_balances
  rw [nm_eq, nm_eq]
  exact r3
theorem case_14 {u : Nat} {B : StB} {M : StM} (hI : Inv u B M) (hu : u < 512) (O : StO) : okc_14 B M O ∧ Inv (u + 1) (stB_14 B M O) (stM_14 B M O) := by
  have hN := Inv_15 hI hu 0
  obtain ⟨e, ty, he, hu2, ⟨n, t, hT, hR⟩, hS, hH, hE, hRd, hTt⟩ := hI
  obtain ⟨r1, r2, r3⟩ := sum_CM 0 hT
  have ef : f_X6_totalInk B = (ma M 0 4).toInt64 + f_X7_balances (smi M 15 0) := by
    unfold f_X6_totalInk
    rw [nm_eq, r3]
    exact congrArg (fun v : Int32 => v.toInt64 + f_X7_balances (smi M 15 0)) (Ti_s hT).2.1
  have em : f_X7_totalInk M = (f_X7_balances (smi M 15 0) + (ma M 0 4).toInt64, smi M 15 0) := by
    unfold f_X7_totalInk
    rw [nm_eq, nm_eq]
    rfl
  unfold okc_14 stB_14 stM_14
  rw [ef, em]
  refine ⟨⟨r1, ?_, Int64.add_comm _ _⟩, hN⟩
  intro z hz
  rw [hz]
  exact r2
theorem mean_cmp (a : Int64) (c : Int32) (h : ¬ c = 0) : FP.dcmp (FP.ddiv (FP.l2d a) (FP.i2d c)) (FP.ddiv (FP.l2d a) (FP.i2d c)) = some .eq := by
  have h1 := mean_nan a c h
  exact FP.Core.dcmp_self (fun h2 => by
    have h3 := (FP.Core.dIsNaN_iff _).mpr h2
    rw [h1] at h3
    exact absurd h3 (by decide))
theorem case_12 {u : Nat} {B : StB} {M : StM} (hI : Inv u B M) (hu : u < 512) (O : StO) : okc_12 B M O ∧ Inv (u + 1) (stB_12 B M O) (stM_12 B M O) := by
  have hN := fun v => Inv_15 hI hu v
  obtain ⟨e, ty, he, hu2, ⟨n, t, hT, hR⟩, hS, hH, hE, hRd, hTt⟩ := hI
  obtain ⟨b1, b2, b3⟩ := Ti_n hT
  have b1 : bi B 1 0 = Int32.ofNat n := b1
  obtain ⟨r1, r2, r3⟩ := sum_CM 0 hT
  unfold okc_12 stB_12 stM_12
  by_cases hz0 : n = 0
  · subst hz0
    have w1 : ¬ (1 : Int32) ≤ bi B 1 0 := by
      rw [b1]
      decide
    have w0 : ma M 0 1 ≤ 0 := by
      rw [b2]
      decide
    have ef : f_X6_meanBalance B = (6, 0, B) := by
      unfold f_X6_meanBalance
      rw [if_neg w1]
    have em : f_X7_meanBalance M = (0, smi M 15 1) := by
      unfold f_X7_meanBalance
      simp only [ixl]
      rw [if_pos w0]
      unfold f_X7_meanBalance_J15
      rw [nm_eq, goes_0]
      rfl
    have om : ok_X7_meanBalance M := by
      unfold ok_X7_meanBalance
      simp only [ixl]
      refine ⟨fun _ => ⟨okgoes (Or.inl rfl), ?_⟩, fun h9 => absurd w0 h9⟩
      intro z hz
      rw [hz, goes_0]
      exact ⟨fun _ => trivial, fun h9 => absurd rfl h9⟩
    rw [ef, em]
    exact ⟨⟨⟨fun h9 => absurd h9 w1, fun _ => trivial⟩, Or.inr rfl, om, rfl, fun h => absurd (show (1 : Int32) = 0 from h) (by decide)⟩, hN 1⟩
  · have w1 : (1 : Int32) ≤ bi B 1 0 := by
      rw [b1, show (1 : Int32) = Int32.ofNat 1 from rfl, le_ofN (by omega) (by omega)]
      omega
    have w0 : ¬ ma M 0 1 ≤ 0 := by
      rw [b2, show (0 : Int32) = Int32.ofNat 0 from rfl, le_ofN (by omega) (by omega)]
      omega
    have hne : ¬ (Int32.ofNat n = 0) := by
      rw [show (0 : Int32) = Int32.ofNat 0 from rfl, ofN_inj (by omega) (by omega)]
      exact hz0
    have ef : f_X6_meanBalance B = (0, FP.ddiv (FP.l2d (f_X7_balances (smi M 15 0))) (FP.i2d (Int32.ofNat n)), B) := by
      unfold f_X6_meanBalance
      rw [if_pos w1, nm_eq, r3, b1]
    have em : f_X7_meanBalance M = (FP.ddiv (FP.l2d (f_X7_balances (smi M 15 0))) (FP.i2d (Int32.ofNat n)), smi M 15 0) := by
      unfold f_X7_meanBalance
      simp only [ixl]
      rw [if_neg w0]
      unfold f_X7_meanBalance_J15
      rw [nm_eq, goes_1]
      show (if (1 : Int32) = 0 then _ else nm (f_X7_balances (smi M 15 0)) fun r7 => (FP.ddiv (FP.l2d r7) (FP.i2d (ma M 0 1)), smi M 15 0)) = _
      rw [if_neg (by decide), nm_eq, b2]
    have om : ok_X7_meanBalance M := by
      unfold ok_X7_meanBalance
      simp only [ixl]
      refine ⟨fun h9 => absurd h9 w0, fun _ => ⟨okgoes (Or.inr rfl), ?_⟩⟩
      intro z hz
      rw [hz, goes_1]
      refine ⟨fun h9 => absurd (show (1 : Int32) = 0 from h9) (by decide), fun _ => ⟨r2, ?_⟩⟩
      intro z2 hz2
      show vf_n64 (FP.ddiv (FP.l2d z2) (FP.i2d (ma M 0 1)))
      rw [b2]
      exact mean_n64 _ _ hne
    rw [ef, em]
    refine ⟨⟨⟨fun _ => ⟨r1, ?_⟩, fun h9 => absurd w1 h9⟩, Or.inl rfl, om, rfl, fun _ => ⟨rfl, mean_cmp _ _ hne⟩⟩, hN 0⟩
    intro z hz
    rw [b1]
    exact mean_n64 _ _ hne
