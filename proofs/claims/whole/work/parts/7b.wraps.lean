def wr (t : List Nat) (z : Nat × Int32 × StB) (O : StO) : Int32 × StB × StO := if z.1 = 0 then (0, z.2.2, (z.2.1.toInt64, O.2)) else (Int32.ofNat (t.idxOf z.1 + 1), z.2.2, O)
def wrZ (t : List Nat) (z : Nat × Int32 × StB) (O : StO) : Int32 × StB × StO := if z.1 = 0 then (0, z.2.2, (if z.2.1 = 0 then 0 else 1, O.2)) else (Int32.ofNat (t.idxOf z.1 + 1), z.2.2, O)
def wrD (t : List Nat) (z : Nat × UInt64 × StB) (O : StO) : Int32 × StB × StO := if z.1 = 0 then (0, z.2.2, (O.1, z.2.1)) else (Int32.ofNat (t.idxOf z.1 + 1), z.2.2, O)
theorem we_2_138 : (Jvm.Cond.classLink "InkBankLaw" (13 : Nat) "java/lang/IllegalArgumentException") ∈ TT := tt_2 (List.mem_of_getElem? (i := 138) rfl) rfl
theorem we_2_139 : (Jvm.Cond.classLink "InkBankLaw" (15 : Nat) "java/lang/IllegalStateException") ∈ TT := tt_2 (List.mem_of_getElem? (i := 139) rfl) rfl
theorem we_2_140 : (Jvm.Cond.methodLink "InkBankLaw" (7 : Nat) ({ cls := "InkBank", name := "open", desc := "(I)I" } : Jvm.MethodName)) ∈ TT := tt_2 (List.mem_of_getElem? (i := 140) rfl) rfl
theorem we_2_141 : (Jvm.Cond.instanceMethod ({ cls := "InkBank", name := "open", desc := "(I)I" } : Jvm.MethodName)) ∈ TT := tt_2 (List.mem_of_getElem? (i := 141) rfl) rfl
theorem we_2_142 : (Jvm.Cond.selects "InkBank" ({ cls := "InkBank", name := "open", desc := "(I)I" } : Jvm.MethodName) ({ cls := "InkBank", name := "open", desc := "(I)I" } : Jvm.MethodName)) ∈ TT := tt_2 (List.mem_of_getElem? (i := 142) rfl) rfl
theorem we_2_143 : (Jvm.Cond.code ({ cls := "InkBank", name := "open", desc := "(I)I" } : Jvm.MethodName) prog_1_method_2_code (2 : Nat) (Option.some Jvm.ClassFile.FieldType.int)) ∈ TT := tt_2 (List.mem_of_getElem? (i := 143) rfl) rfl
theorem we_3_61 : (Jvm.Cond.classLink "InkBankLaw" (21 : Nat) "java/lang/IndexOutOfBoundsException") ∈ TT := tt_3 (List.mem_of_getElem? (i := 61) rfl) rfl
theorem we_3_191 : (Jvm.Cond.methodLink "InkBankLaw" (43 : Nat) ({ cls := "InkBank", name := "wasTouched", desc := "(I)Z" } : Jvm.MethodName)) ∈ TT := tt_3 (List.mem_of_getElem? (i := 191) rfl) rfl
theorem we_3_192 : (Jvm.Cond.instanceMethod ({ cls := "InkBank", name := "wasTouched", desc := "(I)Z" } : Jvm.MethodName)) ∈ TT := tt_3 (List.mem_of_getElem? (i := 192) rfl) rfl
theorem we_3_193 : (Jvm.Cond.selects "InkBank" ({ cls := "InkBank", name := "wasTouched", desc := "(I)Z" } : Jvm.MethodName) ({ cls := "InkBank", name := "wasTouched", desc := "(I)Z" } : Jvm.MethodName)) ∈ TT := tt_3 (List.mem_of_getElem? (i := 193) rfl) rfl
theorem we_3_194 : (Jvm.Cond.code ({ cls := "InkBank", name := "wasTouched", desc := "(I)Z" } : Jvm.MethodName) prog_1_method_11_code (2 : Nat) (Option.some Jvm.ClassFile.FieldType.boolean)) ∈ TT := tt_3 (List.mem_of_getElem? (i := 194) rfl) rfl
theorem we_3_234 : (Jvm.Cond.classLink "InkBankLaw" (59 : Nat) "java/lang/ArithmeticException") ∈ TT := tt_3 (List.mem_of_getElem? (i := 234) rfl) rfl
theorem we_4_8 : (Jvm.Cond.methodLink "InkBankLaw" (55 : Nat) ({ cls := "InkBank", name := "meanBalance", desc := "()D" } : Jvm.MethodName)) ∈ TT := tt_4 (List.mem_of_getElem? (i := 8) rfl) rfl
theorem we_4_9 : (Jvm.Cond.instanceMethod ({ cls := "InkBank", name := "meanBalance", desc := "()D" } : Jvm.MethodName)) ∈ TT := tt_4 (List.mem_of_getElem? (i := 9) rfl) rfl
theorem we_4_10 : (Jvm.Cond.selects "InkBank" ({ cls := "InkBank", name := "meanBalance", desc := "()D" } : Jvm.MethodName) ({ cls := "InkBank", name := "meanBalance", desc := "()D" } : Jvm.MethodName)) ∈ TT := tt_4 (List.mem_of_getElem? (i := 10) rfl) rfl
theorem we_4_11 : (Jvm.Cond.code ({ cls := "InkBank", name := "meanBalance", desc := "()D" } : Jvm.MethodName) prog_1_method_14_code (1 : Nat) (Option.some Jvm.ClassFile.FieldType.double)) ∈ TT := tt_4 (List.mem_of_getElem? (i := 11) rfl) rfl
theorem we_4_73 : (Jvm.Cond.methodLink "InkBankLaw" (67 : Nat) ({ cls := "InkBank", name := "seal", desc := "(IIII)I" } : Jvm.MethodName)) ∈ TT := tt_4 (List.mem_of_getElem? (i := 73) rfl) rfl
theorem we_4_74 : (Jvm.Cond.instanceMethod ({ cls := "InkBank", name := "seal", desc := "(IIII)I" } : Jvm.MethodName)) ∈ TT := tt_4 (List.mem_of_getElem? (i := 74) rfl) rfl
theorem we_4_75 : (Jvm.Cond.selects "InkBank" ({ cls := "InkBank", name := "seal", desc := "(IIII)I" } : Jvm.MethodName) ({ cls := "InkBank", name := "seal", desc := "(IIII)I" } : Jvm.MethodName)) ∈ TT := tt_4 (List.mem_of_getElem? (i := 75) rfl) rfl
theorem we_4_76 : (Jvm.Cond.code ({ cls := "InkBank", name := "seal", desc := "(IIII)I" } : Jvm.MethodName) prog_1_method_24_code (5 : Nat) (Option.some Jvm.ClassFile.FieldType.int)) ∈ TT := tt_4 (List.mem_of_getElem? (i := 76) rfl) rfl
set_option maxHeartbeats 4000000 in
set_option maxRecDepth 100000 in
theorem lc_open {l : Launch} {A : Nat → Prop} {G : GT} {ad : Nat → Nat} (gl : Gl l A ad) (B : StB) (M : StM) (O : StO) (x0 : Int32)  (hok : ok_X6_open B x0) (z : Nat × Int32 × StB) (hz : z = f_X6_open B x0) (hx : z.1 = 0 ∨ z.1 = 2 ∨ z.1 = 4 ) (R0 : Int32 × StB × StO) (hR : R0 = wr [2, 4] z O) : Met l yL_open (wofH yL_open cL_open 4 (some .int) [(0, 9, 12, 13), (0, 9, 15, 15)]) (rmd 13 4 24) (va_Pc [.ref (ad 176), .int x0, .ref (ad 202)] (PW G A ad B M O)) (QI G A ad R0.1 R0.2.1 M R0.2.2) 4 24 A := by
  have hM := c_X6_open gl B M O x0 hok
  rw [← hz] at hM
  refine xw_body (own := "InkBankLaw") (ls := [(0, .ref (ad 176)), (1, .int x0), (2, .ref (ad 202))]) (by decide) rfl gl (Nat.le_of_ble_eq_true rfl) rfl ?_
  intro p e s m args below meth c C htab
  refine x_aload_n C 2 dL_open_0 rfl rfl ?_
  refine x_iconst C (v := 0) dL_open_1 (by decide) ?_
  refine x_aload_n C 0 dL_open_2 rfl rfl ?_
  refine x_iload_n C 1 dL_open_3 rfl rfl ?_
  refine xw_cIV C (as := [.int x0]) (rest := [.int 0, .ref (ad 202)]) (ci := 10) (T := TX6) (N := 10) (n := 1) hM e_I rfl ⟨we_2_141, we_2_142⟩ ⟨we_2_143, we_1_1, by decide, by decide, by decide +kernel⟩ we_2_140 ⟨(Nat.le_of_ble_eq_true rfl), (Nat.le_of_ble_eq_true rfl)⟩ ⟨(Nat.le_of_ble_eq_true rfl), (Nat.le_of_ble_eq_true rfl)⟩ rfl rfl (Nat.le_of_ble_eq_true rfl) dL_open_4 (fun hne q => ?_) (fun h0 => ?_)
  · rcases hx with h | h | h
    · exact absurd h hne
    · have e1 : R0 = (1, z.2.2, O) := by rw [hR]; unfold wr; rw [if_neg hne, h]; rfl
      subst e1
      rw [h]
      refine xc_catch C (name := "java/lang/IllegalArgumentException") [] { startPc := 0, endPc := 9, handlerPc := 12, catchType := 13 } [{ startPc := 0, endPc := 9, handlerPc := 15, catchType := 15 }] (htab.trans rfl) (fun _ h9 => by cases h9) (by decide) (by decide) we_2_138 (by decide) ?_
      refine x_astore_n C dL_open_12 rfl (by decide) rfl ?_
      refine x_iconst C (v := 1) dL_open_13 (by decide) ?_
      exact x_iret C rfl rfl dL_open_14
    · have e1 : R0 = (2, z.2.2, O) := by rw [hR]; unfold wr; rw [if_neg hne, h]; rfl
      subst e1
      rw [h]
      refine xc_catch C (name := "java/lang/IllegalStateException") [{ startPc := 0, endPc := 9, handlerPc := 12, catchType := 13 }] { startPc := 0, endPc := 9, handlerPc := 15, catchType := 15 } [] (htab.trans rfl) (List.forall_mem_cons.mpr ⟨⟨by decide, "java/lang/IllegalArgumentException", we_2_138, by decide⟩, (fun _ h9 => by cases h9)⟩) (by decide) (by decide) we_2_139 (by decide) ?_
      refine x_astore_n C dL_open_15 rfl (by decide) rfl ?_
      refine x_iconst C (v := 2) dL_open_16 (by decide) ?_
      exact x_iret C rfl rfl dL_open_17
  · have e1 : R0 = (0, z.2.2, (z.2.1.toInt64, O.2)) := by rw [hR]; unfold wr; rw [if_pos h0]
    subst e1
    refine x_i2l C dL_open_7 ?_
    refine x_last C dL_open_8 ?_
    refine x_goto C dL_open_9 (tgt := 18) (by decide) ?_
    refine x_iconst C (v := 0) dL_open_18 (by decide) ?_
    exact x_iret C rfl rfl dL_open_19
set_option maxHeartbeats 4000000 in
set_option maxRecDepth 100000 in
theorem lc_wasTouched {l : Launch} {A : Nat → Prop} {G : GT} {ad : Nat → Nat} (gl : Gl l A ad) (B : StB) (M : StM) (O : StO) (x0 : Int32)  (hok : ok_X6_wasTouched B x0) (z : Nat × Int32 × StB) (hz : z = f_X6_wasTouched B x0) (hx : z.1 = 0 ∨ z.1 = 1 ) (R0 : Int32 × StB × StO) (hR : R0 = wrZ [1] z O) : Met l yL_wasTouched (wofH yL_wasTouched cL_wasTouched 4 (some .int) [(0, 16, 19, 21)]) (rmd 13 4 24) (va_Pc [.ref (ad 176), .int x0, .ref (ad 202)] (PW G A ad B M O)) (QI G A ad R0.1 R0.2.1 M R0.2.2) 4 24 A := by
  have hM := c_X6_wasTouched gl B M O x0 hok
  rw [← hz] at hM
  refine xw_body (own := "InkBankLaw") (ls := [(0, .ref (ad 176)), (1, .int x0), (2, .ref (ad 202))]) (by decide) rfl gl (Nat.le_of_ble_eq_true rfl) rfl ?_
  intro p e s m args below meth c C htab
  refine x_aload_n C 2 dL_wasTouched_0 rfl rfl ?_
  refine x_iconst C (v := 0) dL_wasTouched_1 (by decide) ?_
  refine x_aload_n C 0 dL_wasTouched_2 rfl rfl ?_
  refine x_iload_n C 1 dL_wasTouched_3 rfl rfl ?_
  refine xw_cIV C (as := [.int x0]) (rest := [.int 0, .ref (ad 202)]) (ci := 10) (T := TX6) (N := 10) (n := 1) hM e_I rfl ⟨we_3_192, we_3_193⟩ ⟨we_3_194, we_1_1, by decide, by decide, by decide +kernel⟩ we_3_191 ⟨(Nat.le_of_ble_eq_true rfl), (Nat.le_of_ble_eq_true rfl)⟩ ⟨(Nat.le_of_ble_eq_true rfl), (Nat.le_of_ble_eq_true rfl)⟩ rfl rfl (Nat.le_of_ble_eq_true rfl) dL_wasTouched_4 (fun hne q => ?_) (fun h0 => ?_)
  · rcases hx with h | h
    · exact absurd h hne
    · have e1 : R0 = (1, z.2.2, O) := by rw [hR]; unfold wrZ; rw [if_neg hne, h]; rfl
      subst e1
      rw [h]
      refine xc_catch C (name := "java/lang/IndexOutOfBoundsException") [] { startPc := 0, endPc := 16, handlerPc := 19, catchType := 21 } [] (htab.trans rfl) (fun _ h9 => by cases h9) (by decide) (by decide) we_3_61 (by decide) ?_
      refine x_astore_n C dL_wasTouched_19 rfl (by decide) rfl ?_
      refine x_iconst C (v := 1) dL_wasTouched_20 (by decide) ?_
      exact x_iret C rfl rfl dL_wasTouched_21
  · skip
    refine x_if_eq C dL_wasTouched_7 (tgt := 14) (by decide) (fun hc => ?_) (fun hc => ?_)
    · have e1 : R0 = (0, z.2.2, (0, O.2)) := by rw [hR]; unfold wrZ; rw [if_pos h0, if_pos hc]
      subst e1
      refine x_lconst C (v := 0) dL_wasTouched_14 (by decide) ?_
      refine x_last C dL_wasTouched_15 ?_
      refine x_goto C dL_wasTouched_16 (tgt := 22) (by decide) ?_
      refine x_iconst C (v := 0) dL_wasTouched_22 (by decide) ?_
      exact x_iret C rfl rfl dL_wasTouched_23
    · have e1 : R0 = (0, z.2.2, (1, O.2)) := by rw [hR]; unfold wrZ; rw [if_pos h0, if_neg hc]
      subst e1
      refine x_lconst C (v := 1) dL_wasTouched_10 (by decide) ?_
      refine x_goto C dL_wasTouched_11 (tgt := 15) (by decide) ?_
      refine x_last C dL_wasTouched_15 ?_
      refine x_goto C dL_wasTouched_16 (tgt := 22) (by decide) ?_
      refine x_iconst C (v := 0) dL_wasTouched_22 (by decide) ?_
      exact x_iret C rfl rfl dL_wasTouched_23
set_option maxHeartbeats 4000000 in
set_option maxRecDepth 100000 in
theorem lc_meanBalance {l : Launch} {A : Nat → Prop} {G : GT} {ad : Nat → Nat} (gl : Gl l A ad) (B : StB) (M : StM) (O : StO)  (hok : ok_X6_meanBalance B) (z : Nat × UInt64 × StB) (hz : z = f_X6_meanBalance B) (hx : z.1 = 0 ∨ z.1 = 6 ) (R0 : Int32 × StB × StO) (hR : R0 = wrD [6] z O) : Met l yL_meanBalance (wofH yL_meanBalance cL_meanBalance 3 (some .int) [(0, 7, 10, 59)]) (rmd 13 4 24) (va_Pc [.ref (ad 176), .ref (ad 203)] (PW G A ad B M O)) (QI G A ad R0.1 R0.2.1 M R0.2.2) 4 24 A := by
  have hM := c_X6_meanBalance gl B M O  hok
  rw [← hz] at hM
  refine xw_body (own := "InkBankLaw") (ls := [(0, .ref (ad 176)), (1, .ref (ad 203))]) (by decide) rfl gl (Nat.le_of_ble_eq_true rfl) rfl ?_
  intro p e s m args below meth c C htab
  refine x_aload_n C 1 dL_meanBalance_0 rfl rfl ?_
  refine x_iconst C (v := 0) dL_meanBalance_1 (by decide) ?_
  refine x_aload_n C 0 dL_meanBalance_2 rfl rfl ?_
  refine xw_cDV C (as := []) (rest := [.int 0, .ref (ad 203)]) (ci := 10) (T := TX6) (N := 10) (n := 0) hM e_I rfl ⟨we_4_9, we_4_10⟩ ⟨we_4_11, we_1_1, by decide, by decide, by decide +kernel⟩ we_4_8 ⟨(Nat.le_of_ble_eq_true rfl), (Nat.le_of_ble_eq_true rfl)⟩ ⟨(Nat.le_of_ble_eq_true rfl), (Nat.le_of_ble_eq_true rfl)⟩ rfl rfl (Nat.le_of_ble_eq_true rfl) dL_meanBalance_3 (fun hne q => ?_) (fun h0 => ?_)
  · rcases hx with h | h
    · exact absurd h hne
    · have e1 : R0 = (1, z.2.2, O) := by rw [hR]; unfold wrD; rw [if_neg hne, h]; rfl
      subst e1
      rw [h]
      refine xc_catch C (name := "java/lang/ArithmeticException") [] { startPc := 0, endPc := 7, handlerPc := 10, catchType := 59 } [] (htab.trans rfl) (fun _ h9 => by cases h9) (by decide) (by decide) we_3_234 (by decide) ?_
      refine x_astore_n C dL_meanBalance_10 rfl (by decide) rfl ?_
      refine x_iconst C (v := 1) dL_meanBalance_11 (by decide) ?_
      exact x_iret C rfl rfl dL_meanBalance_12
  · have e1 : R0 = (0, z.2.2, (O.1, z.2.1)) := by rw [hR]; unfold wrD; rw [if_pos h0]
    subst e1
    refine x_dast C dL_meanBalance_6 ?_
    refine x_goto C dL_meanBalance_7 (tgt := 13) (by decide) ?_
    refine x_iconst C (v := 0) dL_meanBalance_13 (by decide) ?_
    exact x_iret C rfl rfl dL_meanBalance_14
set_option maxHeartbeats 4000000 in
set_option maxRecDepth 100000 in
theorem lc_seal {l : Launch} {A : Nat → Prop} {G : GT} {ad : Nat → Nat} (gl : Gl l A ad) (B : StB) (M : StM) (O : StO) (x0 : Int32) (x1 : Int32) (x2 : Int32) (x3 : Int32)  (hok : ok_X6_seal B x0 x1 x2 x3) (z : Nat × Int32 × StB) (hz : z = f_X6_seal B x0 x1 x2 x3) (hx : z.1 = 0 ∨ z.1 = 1 ∨ z.1 = 2 ∨ z.1 = 4 ) (R0 : Int32 × StB × StO) (hR : R0 = wr [1, 2, 4] z O) : Met l yL_seal (wofH yL_seal cL_seal 7 (some .int) [(0, 14, 17, 21), (0, 14, 21, 13), (0, 14, 25, 15)]) (rmd 13 4 24) (va_Pc [.ref (ad 176), .int x0, .int x1, .int x2, .int x3, .ref (ad 202)] (PW G A ad B M O)) (QI G A ad R0.1 R0.2.1 M R0.2.2) 4 24 A := by
  have hM := c_X6_seal gl B M O x0 x1 x2 x3 hok
  rw [← hz] at hM
  refine xw_body (own := "InkBankLaw") (ls := [(0, .ref (ad 176)), (1, .int x0), (2, .int x1), (3, .int x2), (4, .int x3), (5, .ref (ad 202))]) (by decide) rfl gl (Nat.le_of_ble_eq_true rfl) rfl ?_
  intro p e s m args below meth c C htab
  refine x_aload C 5 dL_seal_0 rfl ?_
  refine x_iconst C (v := 0) dL_seal_2 (by decide) ?_
  refine x_aload_n C 0 dL_seal_3 rfl rfl ?_
  refine x_iload_n C 1 dL_seal_4 rfl rfl ?_
  refine x_iload_n C 2 dL_seal_5 rfl rfl ?_
  refine x_iload_n C 3 dL_seal_6 rfl rfl ?_
  refine x_iload C 4 dL_seal_7 rfl ?_
  refine xw_cIV C (as := [.int x0, .int x1, .int x2, .int x3]) (rest := [.int 0, .ref (ad 202)]) (ci := 10) (T := TX6) (N := 10) (n := 4) hM e_I rfl ⟨we_4_74, we_4_75⟩ ⟨we_4_76, we_1_1, by decide, by decide, by decide +kernel⟩ we_4_73 ⟨(Nat.le_of_ble_eq_true rfl), (Nat.le_of_ble_eq_true rfl)⟩ ⟨(Nat.le_of_ble_eq_true rfl), (Nat.le_of_ble_eq_true rfl)⟩ rfl rfl (Nat.le_of_ble_eq_true rfl) dL_seal_9 (fun hne q => ?_) (fun h0 => ?_)
  · rcases hx with h | h | h | h
    · exact absurd h hne
    · have e1 : R0 = (1, z.2.2, O) := by rw [hR]; unfold wr; rw [if_neg hne, h]; rfl
      subst e1
      rw [h]
      refine xc_catch C (name := "java/lang/IndexOutOfBoundsException") [] { startPc := 0, endPc := 14, handlerPc := 17, catchType := 21 } [{ startPc := 0, endPc := 14, handlerPc := 21, catchType := 13 }, { startPc := 0, endPc := 14, handlerPc := 25, catchType := 15 }] (htab.trans rfl) (fun _ h9 => by cases h9) (by decide) (by decide) we_3_61 (by decide) ?_
      refine x_astore C dL_seal_17 (by decide) rfl ?_
      refine x_iconst C (v := 1) dL_seal_19 (by decide) ?_
      exact x_iret C rfl rfl dL_seal_20
    · have e1 : R0 = (2, z.2.2, O) := by rw [hR]; unfold wr; rw [if_neg hne, h]; rfl
      subst e1
      rw [h]
      refine xc_catch C (name := "java/lang/IllegalArgumentException") [{ startPc := 0, endPc := 14, handlerPc := 17, catchType := 21 }] { startPc := 0, endPc := 14, handlerPc := 21, catchType := 13 } [{ startPc := 0, endPc := 14, handlerPc := 25, catchType := 15 }] (htab.trans rfl) (List.forall_mem_cons.mpr ⟨⟨by decide, "java/lang/IndexOutOfBoundsException", we_3_61, by decide⟩, (fun _ h9 => by cases h9)⟩) (by decide) (by decide) we_2_138 (by decide) ?_
      refine x_astore C dL_seal_21 (by decide) rfl ?_
      refine x_iconst C (v := 2) dL_seal_23 (by decide) ?_
      exact x_iret C rfl rfl dL_seal_24
    · have e1 : R0 = (3, z.2.2, O) := by rw [hR]; unfold wr; rw [if_neg hne, h]; rfl
      subst e1
      rw [h]
      refine xc_catch C (name := "java/lang/IllegalStateException") [{ startPc := 0, endPc := 14, handlerPc := 17, catchType := 21 }, { startPc := 0, endPc := 14, handlerPc := 21, catchType := 13 }] { startPc := 0, endPc := 14, handlerPc := 25, catchType := 15 } [] (htab.trans rfl) (List.forall_mem_cons.mpr ⟨⟨by decide, "java/lang/IndexOutOfBoundsException", we_3_61, by decide⟩, (List.forall_mem_cons.mpr ⟨⟨by decide, "java/lang/IllegalArgumentException", we_2_138, by decide⟩, (fun _ h9 => by cases h9)⟩)⟩) (by decide) (by decide) we_2_139 (by decide) ?_
      refine x_astore C dL_seal_25 (by decide) rfl ?_
      refine x_iconst C (v := 3) dL_seal_27 (by decide) ?_
      exact x_iret C rfl rfl dL_seal_28
  · have e1 : R0 = (0, z.2.2, (z.2.1.toInt64, O.2)) := by rw [hR]; unfold wr; rw [if_pos h0]
    subst e1
    refine x_i2l C dL_seal_12 ?_
    refine x_last C dL_seal_13 ?_
    refine x_goto C dL_seal_14 (tgt := 29) (by decide) ?_
    refine x_iconst C (v := 0) dL_seal_29 (by decide) ?_
    exact x_iret C rfl rfl dL_seal_30
