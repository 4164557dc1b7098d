/-! what the Statement gives of the start -/
abbrev NR : Cond := Jvm.Cond.and given_1 narrow_1
theorem tt_lw {w : Cond} (h : w ∈ TT) : w ∈ lw_tbl := (List.mem_filter.mp h).1
theorem lw_t {w : Cond} (h : w ∈ tables_1) : w ∈ lw_tbl := List.mem_append_right _ h
set_option maxHeartbeats 4000000 in
set_option maxRecDepth 100000 in
theorem nr_nest : ∀ q ∈ nestL, (Cond.methodLinkNest q.1 q.2.1 q.2.2.1 q.2.2.2) ∈ tables_1 := by decide +kernel
set_option maxHeartbeats 4000000 in
set_option maxRecDepth 100000 in
theorem nr_cast : ∀ q ∈ castL, (Cond.castable q.1 q.2) ∈ tables_1 := by decide +kernel
set_option maxHeartbeats 4000000 in
set_option maxRecDepth 100000 in
theorem nr_decl : ∀ q ∈ declL, (Cond.declares q) ∈ tables_1 := by decide +kernel
set_option maxHeartbeats 4000000 in
set_option maxRecDepth 100000 in
theorem nr_nc : ∀ q ∈ ncL, (Cond.not (.castable q.1 q.2)) ∈ flatC NR := by decide +kernel
def eBase : List Nat := [657, 409, 422, 436, 451, 683, 707, 732, 0]
def neP : List Nat := [0, 670, 671, 672, 673, 703, 727, 752, 777, 670, 0, 432, 446, 461, 693, 717, 742, 767, 671, 432, 0, 447, 462, 694, 718, 743, 768, 672, 446, 447, 0, 463, 695, 719, 744, 769, 673, 461, 462, 463, 0, 696, 720, 745, 770, 703, 693, 694, 695, 696, 0, 728, 753, 778, 727, 717, 718, 719, 720, 728, 0, 754, 779, 752, 742, 743, 744, 745, 753, 754, 0, 780, 777, 767, 768, 769, 770, 778, 779, 780, 0]
set_option maxHeartbeats 4000000 in
set_option maxRecDepth 100000 in
theorem nr_T0 : ∀ j : Nat, j < 100 → (flatC NR)[117 + j]? = some (Cond.eq (.elem (.static IntC "DigitTens" "[B") (.int (Int32.ofNat j))) (.int (dgT.getD j 0))) := by decide +kernel
theorem nr_T (j : Nat) (h : j < 100) : (Cond.eq (.elem (.static IntC "DigitTens" "[B") (.int (Int32.ofNat j))) (.int (dgT.getD j 0))) ∈ flatC NR := List.mem_of_getElem? (nr_T0 j h)
set_option maxHeartbeats 4000000 in
set_option maxRecDepth 100000 in
theorem nr_O0 : ∀ j : Nat, j < 100 → (flatC NR)[14 + j]? = some (Cond.eq (.elem (.static IntC "DigitOnes" "[B") (.int (Int32.ofNat j))) (.int (dgO.getD j 0))) := by decide +kernel
theorem nr_O (j : Nat) (h : j < 100) : (Cond.eq (.elem (.static IntC "DigitOnes" "[B") (.int (Int32.ofNat j))) (.int (dgO.getD j 0))) ∈ flatC NR := List.mem_of_getElem? (nr_O0 j h)
def ktm (i : Nat) : Term := .string (kOwn.getD i "") (kIdx.getD i 0)
set_option maxHeartbeats 4000000 in
set_option maxRecDepth 100000 in
theorem nr_ex : ∀ i : Nat, i < 9 → (Cond.exactly (ktm i) "java/lang/String") ∈ flatC NR := by decide +kernel
set_option maxHeartbeats 4000000 in
set_option maxRecDepth 100000 in
theorem nr_co : ∀ i : Nat, i < 9 → (Cond.eq (.field (ktm i) "java/lang/String" "coder" "B") (.int 0)) ∈ flatC NR := by decide +kernel
set_option maxHeartbeats 4000000 in
set_option maxRecDepth 100000 in
theorem nr_ar : ∀ i : Nat, i < 9 → (Cond.arrayOf (.field (ktm i) "java/lang/String" "value" "[B") .byte) ∈ flatC NR := by decide +kernel
set_option maxHeartbeats 4000000 in
set_option maxRecDepth 100000 in
theorem nr_le : ∀ i : Nat, i < 9 → (Cond.eq (.length (.field (ktm i) "java/lang/String" "value" "[B")) (.int (Int32.ofNat (kLen.getD i 0)))) ∈ flatC NR := by decide +kernel
set_option maxHeartbeats 4000000 in
set_option maxRecDepth 100000 in
theorem nr_el0 : ∀ i : Nat, i < 9 → ∀ j : Nat, j < kLen.getD i 0 → (flatC NR)[eBase.getD i 0 + 3 + j]? = some (Cond.eq (.elem (.field (ktm i) "java/lang/String" "value" "[B") (.int (Int32.ofNat j))) (.int ((kByt.getD i []).getD j 0))) := by decide +kernel
theorem nr_el (i : Nat) (h : i < 9) (j : Nat) (h2 : j < kLen.getD i 0) : (Cond.eq (.elem (.field (ktm i) "java/lang/String" "value" "[B") (.int (Int32.ofNat j))) (.int ((kByt.getD i []).getD j 0))) ∈ flatC NR := List.mem_of_getElem? (nr_el0 i h j h2)
set_option maxHeartbeats 4000000 in
set_option maxRecDepth 100000 in
theorem nr_ne0 : ∀ i : Nat, i < 9 → ∀ j : Nat, j < 9 → i ≠ j → (flatC NR)[neP.getD (9 * i + j) 0 + 2]? = some (Cond.not (Cond.eq (ktm i) (ktm j))) ∨ (flatC NR)[neP.getD (9 * i + j) 0 + 2]? = some (Cond.not (Cond.eq (ktm j) (ktm i))) := by decide +kernel
theorem nr_ne (i : Nat) (h : i < 9) (j : Nat) (h2 : j < 9) (hij : i ≠ j) : (Cond.not (Cond.eq (ktm i) (ktm j))) ∈ flatC NR ∨ (Cond.not (Cond.eq (ktm j) (ktm i))) ∈ flatC NR := (nr_ne0 i h j h2 hij).imp (fun h => List.mem_of_getElem? h) (fun h => List.mem_of_getElem? h)
set_option maxHeartbeats 4000000 in
set_option maxRecDepth 100000 in
theorem nr_sr : ∀ i : Nat, i < 9 → (Cond.stringRef (kOwn.getD i "") (kIdx.getD i 0) (kTx.getD i "")) ∈ tables_1 := by decide +kernel
set_option maxHeartbeats 4000000 in
set_option maxRecDepth 100000 in
theorem nr_m0 : (Cond.eq (.static "java/lang/String" "COMPACT_STRINGS" "Z") (.int 1)) ∈ flatC NR := by decide +kernel
set_option maxHeartbeats 4000000 in
set_option maxRecDepth 100000 in
theorem nr_m1 : (Cond.isRef (.static Bundle.tN "UNASSIGNED_STACK" Bundle.steD)) ∈ flatC NR := by decide +kernel
set_option maxHeartbeats 4000000 in
set_option maxRecDepth 100000 in
theorem nr_m2 : (Cond.isRef (.static Bundle.tN "SUPPRESSED_SENTINEL" Bundle.listD)) ∈ flatC NR := by decide +kernel
set_option maxHeartbeats 4000000 in
set_option maxRecDepth 100000 in
theorem nr_m3 : (Cond.isRef (.static "jdk/internal/util/Preconditions" "SIOOBE_FORMATTER" "Ljava/util/function/BiFunction;")) ∈ flatC NR := by decide +kernel
set_option maxHeartbeats 4000000 in
set_option maxRecDepth 100000 in
theorem nr_m4 : (Cond.arrayOf (.static IntC "DigitTens" "[B") .byte) ∈ flatC NR := by decide +kernel
set_option maxHeartbeats 4000000 in
set_option maxRecDepth 100000 in
theorem nr_m5 : (Cond.arrayOf (.static IntC "DigitOnes" "[B") .byte) ∈ flatC NR := by decide +kernel
set_option maxHeartbeats 4000000 in
set_option maxRecDepth 100000 in
theorem nr_m6 : (Cond.eq (.length (.static IntC "DigitTens" "[B")) (.int (Int32.ofNat 100))) ∈ flatC NR := by decide +kernel
set_option maxHeartbeats 4000000 in
set_option maxRecDepth 100000 in
theorem nr_m7 : (Cond.eq (.length (.static IntC "DigitOnes" "[B")) (.int (Int32.ofNat 100))) ∈ flatC NR := by decide +kernel
set_option maxHeartbeats 4000000 in
set_option maxRecDepth 100000 in
theorem nr_l0 : (Cond.laysStatic "java/lang/String" "COMPACT_STRINGS" "Z") ∈ tables_1 ∧ (Cond.initialized "java/lang/String") ∈ tables_1 := by decide +kernel
set_option maxHeartbeats 4000000 in
set_option maxRecDepth 100000 in
theorem nr_l1 : (Cond.laysStatic Bundle.tN "UNASSIGNED_STACK" Bundle.steD) ∈ tables_1 ∧ (Cond.laysStatic Bundle.tN "SUPPRESSED_SENTINEL" Bundle.listD) ∈ tables_1 ∧ (Cond.initialized Bundle.tN) ∈ tables_1 := by decide +kernel
set_option maxHeartbeats 4000000 in
set_option maxRecDepth 100000 in
theorem nr_l2 : (Cond.laysStatic "jdk/internal/util/Preconditions" "SIOOBE_FORMATTER" "Ljava/util/function/BiFunction;") ∈ tables_1 ∧ (Cond.initialized "jdk/internal/util/Preconditions") ∈ tables_1 := by decide +kernel
set_option maxHeartbeats 4000000 in
set_option maxRecDepth 100000 in
theorem nr_l3 : (Cond.laysStatic IntC "DigitTens" "[B") ∈ tables_1 ∧ (Cond.laysStatic IntC "DigitOnes" "[B") ∈ tables_1 ∧ (Cond.initialized IntC) ∈ tables_1 := by decide +kernel
set_option maxHeartbeats 4000000 in
set_option maxRecDepth 100000 in
theorem nr_ac : (∀ ty ∈ ([.byte, .char, .int, .boolean] : List FieldType), Cond.arrayClass ty ∈ tables_1) ∧ (Cond.arrayOver (.object "InkBank$Ledger")) ∈ tables_1 ∧ (Cond.arrayOver (.array .int)) ∈ tables_1 := by decide +kernel
set_option maxHeartbeats 4000000 in
set_option maxRecDepth 100000 in
theorem nr_pi : (Cond.privateMethod ySBput ∈ tables_1 ∧ Cond.instanceMethod ySBput ∈ tables_1) ∧ (Cond.privateMethod ySBinf ∈ tables_1 ∧ Cond.instanceMethod ySBinf ∈ tables_1) := by decide +kernel
set_option maxHeartbeats 4000000 in
set_option maxRecDepth 100000 in
theorem nr_en : Cond.instantiable RJ4 4 ∈ tables_1 ∧ Cond.privateMethod ySBens ∈ tables_1 ∧ Cond.instanceMethod ySBens ∈ tables_1 ∧ Cond.selects RJ4 ySBisL ySBisL ∈ tables_1 ∧ Cond.instanceMethod ySBisL ∈ tables_1 := by decide +kernel
set_option maxHeartbeats 4000000 in
set_option maxRecDepth 100000 in
theorem nr_c0 : (∀ w ∈ u_ws RJ0 TJ0 4, w ∈ tables_1) ∧ Cond.instantiable RJ0 4 ∈ tables_1 := by decide +kernel
set_option maxHeartbeats 4000000 in
set_option maxRecDepth 100000 in
theorem nr_c1 : (∀ w ∈ u_ws RJ4 TJ4 4, w ∈ tables_1) ∧ Cond.instantiable RJ4 4 ∈ tables_1 := by decide +kernel
set_option maxHeartbeats 4000000 in
set_option maxRecDepth 100000 in
theorem nr_c2 : (∀ w ∈ u_ws RJx00060 TJx00060 6, w ∈ tables_1) ∧ Cond.instantiable RJx00060 6 ∈ tables_1 := by decide +kernel
set_option maxHeartbeats 4000000 in
set_option maxRecDepth 100000 in
theorem nr_c3 : (∀ w ∈ u_ws RJx7c733 TJx7c733 6, w ∈ tables_1) ∧ Cond.instantiable RJx7c733 6 ∈ tables_1 := by decide +kernel
set_option maxHeartbeats 4000000 in
set_option maxRecDepth 100000 in
theorem nr_c4 : (∀ w ∈ u_ws RX0 TX0 5, w ∈ tables_1) ∧ Cond.instantiable RX0 5 ∈ tables_1 := by decide +kernel
set_option maxHeartbeats 4000000 in
set_option maxRecDepth 100000 in
theorem nr_c5 : (∀ w ∈ u_ws RX1 TX1 3, w ∈ tables_1) ∧ Cond.instantiable RX1 3 ∈ tables_1 := by decide +kernel
set_option maxHeartbeats 4000000 in
set_option maxRecDepth 100000 in
theorem nr_c6 : (∀ w ∈ u_ws RX2 TX2 5, w ∈ tables_1) ∧ Cond.instantiable RX2 5 ∈ tables_1 := by decide +kernel
set_option maxHeartbeats 4000000 in
set_option maxRecDepth 100000 in
theorem nr_c7 : (∀ w ∈ u_ws RX3 TX3 11, w ∈ tables_1) ∧ Cond.instantiable RX3 11 ∈ tables_1 := by decide +kernel
set_option maxHeartbeats 4000000 in
set_option maxRecDepth 100000 in
theorem nr_c8 : (∀ w ∈ u_ws RX4 TX4 5, w ∈ tables_1) ∧ Cond.instantiable RX4 5 ∈ tables_1 := by decide +kernel
set_option maxHeartbeats 4000000 in
set_option maxRecDepth 100000 in
theorem nr_c9 : (∀ w ∈ u_ws RX5 TX5 7, w ∈ tables_1) ∧ Cond.instantiable RX5 7 ∈ tables_1 := by decide +kernel
set_option maxHeartbeats 4000000 in
set_option maxRecDepth 100000 in
theorem nr_c10 : (∀ w ∈ u_ws RX6 TX6 10, w ∈ tables_1) ∧ Cond.instantiable RX6 10 ∈ tables_1 := by decide +kernel
theorem sel_priOf {s : State} {args : Array Value} {y : MethodName} (hy : y.cls ≠ "java/lang/invoke/MethodHandle" ∧ y.cls ≠ "java/lang/invoke/VarHandle") (hc5 : y.cls = RJ5) (h1 : (Cond.instantiable RJ4 4).before args s = true) (h2 : (Cond.privateMethod y).before args s = true) (h3 : (Cond.instanceMethod y).before args s = true) (h4 : (Cond.selects RJ4 ySBisL ySBisL).before args s = true) (h5 : (Cond.instanceMethod ySBisL).before args s = true) : (Cond.selects RJ4 y y).before args s = true := by
  obtain ⟨c, k, hc, hk, -, hniab, -, -⟩ := Cond.instantiable_spec h1
  obtain ⟨mk, methM, hnamed, hmethM, -, -⟩ := Cond.instanceMethod_spec h3
  have hfound : s.methodFound? y.cls y.name y.desc = some mk := State.methodFound?_of_named hnamed hy
  have hsel : selectMethod {} s.vm c mk = .method mk := selectMethod_private hmethM (Cond.privateMethod_at h2 mk methM hnamed hmethM)
  obtain ⟨c2, r2, m2, q1, q2, q3, q4, kP, hkP, hkPi⟩ := Cond.selects_spec h4
  obtain ⟨mL, methL, hnamedL, hmethL, -, -⟩ := Cond.instanceMethod_spec h5
  cases hnamedL.symm.trans q3
  have e1 := findClass_of_methodNamed hnamed
  have e2 := findClass_of_methodNamed hnamedL
  simp only [Cond.before, Cond.holds, Cond.value, hc, hfound, hnamed, hsel]
  rw [Option.some.inj (e1.symm.trans ((congrArg s.vm.findClass hc5).trans e2))]
  simp [hkP, hkPi]
set_option maxHeartbeats 4000000 in
set_option maxRecDepth 100000 in
theorem st_fx {s : State} {A : Nat → Prop} {b N : Nat} {xs : Nat → Int32} (hN : N ≤ 260) (hX : va_X b N xs s s.heap) (hbA : ¬ A b) (hts : ∀ w ∈ lw_tbl, w.before #[Value.ref b] s = true) (hgv : NR.before #[Value.ref b] s = true) (hA : ∀ a : Nat, a < s.heap.size → ¬ A a) : ∃ G : GT, va_K G.1 vwCl (tyG G) s ∧ Fx G A s ∧ NB s ∧ (G.2.2.2.2 2 = 0 ∧ G.2.2.2.2 3 = 0) ∧ G.2.2.2.2 4 = b ∧ G.2.2.2.2 5 = N := by
  have ht : ∀ w ∈ tables_1, w.before #[Value.ref b] s = true := fun w h => hts w (lw_t h)
  have hs := flat_of_before _ hgv
  obtain ⟨c0, i0, k0⟩ := u_known ht nr_c0.1 (ht _ nr_c0.2)
  obtain ⟨c1, i1, k1⟩ := u_known ht nr_c1.1 (ht _ nr_c1.2)
  obtain ⟨c2, i2, k2⟩ := u_known ht nr_c2.1 (ht _ nr_c2.2)
  obtain ⟨c3, i3, k3⟩ := u_known ht nr_c3.1 (ht _ nr_c3.2)
  obtain ⟨c4, i4, k4⟩ := u_known ht nr_c4.1 (ht _ nr_c4.2)
  obtain ⟨c5, i5, k5⟩ := u_known ht nr_c5.1 (ht _ nr_c5.2)
  obtain ⟨c6, i6, k6⟩ := u_known ht nr_c6.1 (ht _ nr_c6.2)
  obtain ⟨c7, i7, k7⟩ := u_known ht nr_c7.1 (ht _ nr_c7.2)
  obtain ⟨c8, i8, k8⟩ := u_known ht nr_c8.1 (ht _ nr_c8.2)
  obtain ⟨c9, i9, k9⟩ := u_known ht nr_c9.1 (ht _ nr_c9.2)
  obtain ⟨c10, i10, k10⟩ := u_known ht nr_c10.1 (ht _ nr_c10.2)
  obtain ⟨a0, ka0, ca0, n0, p0, q0⟩ := Cond.arrayClass_spec (ht _ (nr_ac.1 .byte (by decide)))
  obtain ⟨a1, ka1, ca1, n1, p1, q1⟩ := Cond.arrayClass_spec (ht _ (nr_ac.1 .char (by decide)))
  obtain ⟨a2, ka2, ca2, n2, p2, q2⟩ := Cond.arrayClass_spec (ht _ (nr_ac.1 .int (by decide)))
  obtain ⟨a3, ka3, ca3, n3, p3, q3⟩ := Cond.arrayClass_spec (ht _ (nr_ac.1 .boolean (by decide)))
  obtain ⟨oc, ol, ok, o1, o2, o3, o4, o5⟩ := Cond.arrayOver_spec (ht _ nr_ac.2.1)
  obtain ⟨mc, ml, mk, m1, m2, m3, m4, m5⟩ := vAA_spec (ht _ nr_ac.2.2)
  obtain ⟨adK, adV, hK, hKe⟩ := vk_Sof (args := #[Value.ref b]) (s := s) (N := 9) (tm := ktm) (len := kLen) (byt := kByt) (A := A) (by decide +kernel) (fun i hi => hs _ (nr_ex i hi)) (fun i hi => hs _ (nr_co i hi)) (fun i hi => hs _ (nr_ar i hi)) (fun i hi => hs _ (nr_le i hi)) (fun i hi j hj => hs _ (nr_el i hi j hj)) (fun i j hi hj hij => (nr_ne i hi j hj hij).imp (fun h => hs _ h) (fun h => hs _ h)) hA
  obtain ⟨tT, eT, hT⟩ := va_Tof (args := #[Value.ref b]) (s := s) (tm := .static IntC "DigitTens" "[B") (ty := .byte) (N := 100) (f := fun j => .int (dgT.getD j 0)) (A := A) (by decide) (hs _ nr_m4) (va_eqt (hs _ nr_m6)) (fun j hj => va_eqt (hs _ (nr_T j hj))) hA
  obtain ⟨tO, eO, hO⟩ := va_Tof (args := #[Value.ref b]) (s := s) (tm := .static IntC "DigitOnes" "[B") (ty := .byte) (N := 100) (f := fun j => .int (dgO.getD j 0)) (A := A) (by decide) (hs _ nr_m5) (va_eqt (hs _ nr_m7)) (fun j hj => va_eqt (hs _ (nr_O j hj))) hA
  refine ⟨((fun i => [c0, c1, c2, c3, c4, c5, c6, c7, c8, c9, c10].getD i 0, fun i => [i0, i1, i2, i3, i4, i5, i6, i7, i8, i9, i10].getD i (fun _ => 0)), (fun i => [a0, a1, a2, a3, ol, ml].getD i 0), adK, adV, (fun k => if k = 0 then tT else if k = 1 then tO else if k = 4 then b else if k = 5 then N else if k < 10 then 0 else (xs (k - 10)).toUInt32.toNat)), ⟨?_, ?_⟩, ?_, ⟨va_AO.of (ht _ nr_ac.2.1), ht _ nr_ac.2.2⟩, ⟨rfl, rfl⟩, rfl, rfl⟩
  · intro c q hq
    match c, hq with
    | 0, hq => cases hq; exact k0
    | 1, hq => cases hq; exact k1
    | 2, hq => cases hq; exact k2
    | 3, hq => cases hq; exact k3
    | 4, hq => cases hq; exact k4
    | 5, hq => cases hq; exact k5
    | 6, hq => cases hq; exact k6
    | 7, hq => cases hq; exact k7
    | 8, hq => cases hq; exact k8
    | 9, hq => cases hq; exact k9
    | 10, hq => cases hq; exact k10
    | c + 11, hq => cases hq
  · intro c q hq
    match c, hq with
    | 0, hq => cases hq; exact ⟨fun n z => ⟨fun k h => (by cases h), ka0, p0, ca0, q0⟩, n0⟩
    | 1, hq => cases hq; exact ⟨fun n z => ⟨fun k h => (by cases h), ka1, p1, ca1, q1⟩, n1⟩
    | 2, hq => cases hq; exact ⟨fun n z => ⟨fun k h => (by cases h), ka2, p2, ca2, q2⟩, n2⟩
    | 3, hq => cases hq; exact ⟨fun n z => ⟨fun k h => (by cases h), ka3, p3, ca3, q3⟩, n3⟩
    | 4, hq => cases hq; exact ⟨fun n z => ⟨fun k h => (by cases h), ok, o3, oc, o4⟩, ok, oc, o3, o4, o1, o5⟩
    | 5, hq => cases hq; exact ⟨fun n z => ⟨fun k h => (by cases h), mk, m3, mc, m4⟩, m5⟩
    | c + 6, hq => cases hq
  · refine ⟨vx_Zqof (ht _ nr_l1.1) (ht _ nr_l1.2.2) (hs _ nr_m1) hA, vx_Zqof (ht _ nr_l1.2.1) (ht _ nr_l1.2.2) (hs _ nr_m2) hA, va_Zof (ht _ nr_l0.1) (ht _ nr_l0.2) (va_eqt (hs _ nr_m0)) hA, hK, fun i hi => vk_R.of (ht _ (nr_sr i hi)) (hKe i hi), va_Zof (ht _ nr_l3.1) (ht _ nr_l3.2.2) eT hA, hT, va_Zof (ht _ nr_l3.2.1) (ht _ nr_l3.2.2) eO hA, hO, fun q hq => va_Nw.of rfl (ht _ (nr_nest q hq)), fun q hq => va_Nw.of rfl (ht _ (nr_cast q hq)), fun q hq => va_Nw.of rfl (ht _ (nr_decl q hq)), fun q hq => va_Nc.of (hs _ (nr_nc q hq)), va_Zqof (ht _ nr_l2.1) (ht _ nr_l2.2) (hs _ nr_m3) hA, ?_, ?_, ?_, ?_, ⟨va_AO.of (ht _ nr_ac.2.1), ht _ nr_ac.2.2⟩⟩
    · exact va_Nw.of rfl (sel_ensOf (ht _ nr_en.1) (ht _ nr_en.2.1) (ht _ nr_en.2.2.1) (ht _ nr_en.2.2.2.1) (ht _ nr_en.2.2.2.2))
    · obtain ⟨scr, x1, x2, x3, x4, x5⟩ := hX
      refine ⟨scr, x1, x2, x3, Nat.le_of_eq x4.symm, ?_, fun j hj => ?_, hbA⟩
      · show Nat.toInt32 scr.slots.size = Int32.ofNat N
        rw [x4]
      · refine (x5 j hj).trans ?_
        have e : (if 10 + j = 0 then tT else if 10 + j = 1 then tO else if 10 + j = 4 then b else if 10 + j = 5 then N else if 10 + j < 10 then 0 else (xs (10 + j - 10)).toUInt32.toNat) = (xs j).toUInt32.toNat := by
          rw [if_neg (by omega), if_neg (by omega), if_neg (by omega), if_neg (by omega), if_neg (by omega), Nat.add_sub_cancel_left]
        have e2 : ∀ x : Int32, Int32.ofNat x.toUInt32.toNat = x := fun x => by
          apply Int32.toBitVec_inj.mp
          simp
        exact congrArg (fun z => some (Value.int z)) ((e2 (xs j)).symm.trans (congrArg Int32.ofNat e.symm))
    · exact va_Nw.of rfl (sel_priOf (y := ySBput) ⟨by decide, by decide⟩ rfl (ht _ nr_en.1) (ht _ nr_pi.1.1) (ht _ nr_pi.1.2) (ht _ nr_en.2.2.2.1) (ht _ nr_en.2.2.2.2))
    · exact va_Nw.of rfl (sel_priOf (y := ySBinf) ⟨by decide, by decide⟩ rfl (ht _ nr_en.1) (ht _ nr_pi.2.1) (ht _ nr_pi.2.2) (ht _ nr_en.2.2.2.1) (ht _ nr_en.2.2.2.2))
