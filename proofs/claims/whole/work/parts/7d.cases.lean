theorem we_1_0 : (Jvm.Cond.initialized "InkBankLaw") ∈ TT := tt_1 (List.mem_of_getElem? (i := 0) rfl) rfl
theorem we_2_63 : (Jvm.Cond.methodLink "InkBankLaw" (161 : Nat) ({ cls := "InkBank", name := "accountCount", desc := "()I" } : Jvm.MethodName)) ∈ TT := tt_2 (List.mem_of_getElem? (i := 63) rfl) rfl
theorem we_2_71 : (Jvm.Cond.methodLink "InkBankLaw" (194 : Nat) ({ cls := "InkBank", name := "totalInk", desc := "()J" } : Jvm.MethodName)) ∈ TT := tt_2 (List.mem_of_getElem? (i := 71) rfl) rfl
theorem we_2_111 : (Jvm.Cond.methodLink "InkBankLaw" (303 : Nat) ({ cls := "InkBank", name := "save", desc := "()I" } : Jvm.MethodName)) ∈ TT := tt_2 (List.mem_of_getElem? (i := 111) rfl) rfl
theorem we_2_135 : (Jvm.Cond.methodLink "InkBankLaw" (142 : Nat) ({ cls := "InkBankLaw", name := "open", desc := "(LInkBank;I[J)I" } : Jvm.MethodName)) ∈ TT := tt_2 (List.mem_of_getElem? (i := 135) rfl) rfl
theorem we_2_136 : (Jvm.Cond.static ({ cls := "InkBankLaw", name := "open", desc := "(LInkBank;I[J)I" } : Jvm.MethodName)) ∈ TT := tt_2 (List.mem_of_getElem? (i := 136) rfl) rfl
theorem we_2_137 : (Jvm.Cond.codeWith ({ cls := "InkBankLaw", name := "open", desc := "(LInkBank;I[J)I" } : Jvm.MethodName) method_3_code (4 : Nat) (Option.some Jvm.ClassFile.FieldType.int) [((0 : Nat), (9 : Nat), (12 : Nat), (13 : Nat)), ((0 : Nat), (9 : Nat), (15 : Nat), (15 : Nat))]) ∈ TT := tt_2 (List.mem_of_getElem? (i := 137) rfl) rfl
theorem we_3_188 : (Jvm.Cond.methodLink "InkBankLaw" (177 : Nat) ({ cls := "InkBankLaw", name := "wasTouched", desc := "(LInkBank;I[J)I" } : Jvm.MethodName)) ∈ TT := tt_3 (List.mem_of_getElem? (i := 188) rfl) rfl
theorem we_3_189 : (Jvm.Cond.static ({ cls := "InkBankLaw", name := "wasTouched", desc := "(LInkBank;I[J)I" } : Jvm.MethodName)) ∈ TT := tt_3 (List.mem_of_getElem? (i := 189) rfl) rfl
theorem we_3_190 : (Jvm.Cond.codeWith ({ cls := "InkBankLaw", name := "wasTouched", desc := "(LInkBank;I[J)I" } : Jvm.MethodName) method_11_code (4 : Nat) (Option.some Jvm.ClassFile.FieldType.int) [((0 : Nat), (16 : Nat), (19 : Nat), (21 : Nat))]) ∈ TT := tt_3 (List.mem_of_getElem? (i := 190) rfl) rfl
theorem we_6_66 : (Jvm.Cond.methodLink "InkBankLaw" (286 : Nat) ({ cls := "InkBankLaw", name := "type", desc := "(LInkBank;C[J)I" } : Jvm.MethodName)) ∈ TT := tt_6 (List.mem_of_getElem? (i := 66) rfl) rfl
theorem we_6_67 : (Jvm.Cond.static ({ cls := "InkBankLaw", name := "type", desc := "(LInkBank;C[J)I" } : Jvm.MethodName)) ∈ TT := tt_6 (List.mem_of_getElem? (i := 67) rfl) rfl
theorem we_6_68 : (Jvm.Cond.codeWith ({ cls := "InkBankLaw", name := "type", desc := "(LInkBank;C[J)I" } : Jvm.MethodName) method_33_code (4 : Nat) (Option.some Jvm.ClassFile.FieldType.int) [((0 : Nat), (9 : Nat), (12 : Nat), (13 : Nat)), ((0 : Nat), (9 : Nat), (15 : Nat), (15 : Nat))]) ∈ TT := tt_6 (List.mem_of_getElem? (i := 68) rfl) rfl
theorem we_7_51 : (Jvm.Cond.methodLink "InkBankLaw" (148 : Nat) ({ cls := "InkBankModel", name := "thrown", desc := "()I" } : Jvm.MethodName)) ∈ TT := tt_7 (List.mem_of_getElem? (i := 51) rfl) rfl
theorem we_7_70 : (Jvm.Cond.methodLink "InkBankLaw" (306 : Nat) ({ cls := "InkBankModel", name := "save", desc := "()I" } : Jvm.MethodName)) ∈ TT := tt_7 (List.mem_of_getElem? (i := 70) rfl) rfl
theorem we_7_78 : (Jvm.Cond.methodLink "InkBankLaw" (147 : Nat) ({ cls := "InkBankModel", name := "open", desc := "(I)I" } : Jvm.MethodName)) ∈ TT := tt_7 (List.mem_of_getElem? (i := 78) rfl) rfl
theorem we_7_209 : (Jvm.Cond.methodLink "InkBankLaw" (164 : Nat) ({ cls := "InkBankModel", name := "accountCount", desc := "()I" } : Jvm.MethodName)) ∈ TT := tt_7 (List.mem_of_getElem? (i := 209) rfl) rfl
theorem we_7_233 : (Jvm.Cond.methodLink "InkBankLaw" (179 : Nat) ({ cls := "InkBankModel", name := "wasTouched", desc := "(I)Z" } : Jvm.MethodName)) ∈ TT := tt_7 (List.mem_of_getElem? (i := 233) rfl) rfl
theorem we_8_17 : (Jvm.Cond.methodLink "InkBankLaw" (198 : Nat) ({ cls := "InkBankModel", name := "totalInk", desc := "()J" } : Jvm.MethodName)) ∈ TT := tt_8 (List.mem_of_getElem? (i := 17) rfl) rfl
theorem we_8_139 : (Jvm.Cond.methodLink "InkBankLaw" (289 : Nat) ({ cls := "InkBankModel", name := "type", desc := "(C)I" } : Jvm.MethodName)) ∈ TT := tt_8 (List.mem_of_getElem? (i := 139) rfl) rfl
section LC
variable {p : Program} {l : Launch} {e : Env} {R : Room} {s : State} {m : MethodId} {args : Array Value} {below : List Frame} {meth : Method} {c : Code} {cells slots : Nat} {Q : State → Prop}
variable {A : Nat → Prop} {G : GT} {ad : Nat → Nat} {B : StB} {M : StM} {O : StO} {b L : Nat} {xs : Nat → Int32}
def okc_0 (B : StB) (M : StM) (O : StO) (y1 : Int32)  : Prop := ok_X6_open B y1 ∧ ((f_X6_open B y1).1 = 0 ∨ (f_X6_open B y1).1 = 2 ∨ (f_X6_open B y1).1 = 4 ) ∧ ok_X7_open M y1 ∧ f_X7_thrown ((f_X7_open M y1)).2 = (wr [2, 4] (f_X6_open B y1) O).1 ∧ ((wr [2, 4] (f_X6_open B y1) O).1 = 0 → (wr [2, 4] (f_X6_open B y1) O).2.2.1 = ((f_X7_open M y1)).1.toInt64)
def stB_0 (B : StB) (M : StM) (O : StO) (y1 : Int32)  : StB := (wr [2, 4] (f_X6_open B y1) O).2.1
def stM_0 (B : StB) (M : StM) (O : StO) (y1 : Int32)  : StM := ((f_X7_open M y1)).2
def stO_0 (B : StB) (M : StM) (O : StO) (y1 : Int32)  : StO := (wr [2, 4] (f_X6_open B y1) O).2.2
set_option maxHeartbeats 4000000 in
set_option maxRecDepth 100000 in
theorem law_c0 (C : CX p l s m args meth c A G ad cL_law "InkBankLaw" 9 (some .boolean)) (hX : va_X b L xs s s.heap ∧ b < s.heap.size ∧ ¬ A b) (hR : 60 ≤ R.frames ∧ 4000 ≤ R.locals) (hf : cells + 8 ≤ R.cells ∧ slots + 48 ≤ R.slots) {i : Int32} (hin : ∀ k : Int32, k = 1 ∨ k = 2 ∨ k = 3 ∨ k = 4 → vp_in (i + k) L) {y1 : Int32}  (hy1 : xs (ix (i + 1)) = y1) (hok : okc_0 B M O y1) (k : X p l e R s m args below meth c A G ad 9 (cells + 8) (slots + 48) Q (stB_0 B M O y1) (stM_0 B M O y1) (stO_0 B M O y1) [(5, .int i), (0, .ref b), (1, .ref (ad 176)), (2, .ref (ad 193)), (3, .ref (ad 202)), (4, .ref (ad 203))] 2497 []) : X p l e R s m args below meth c A G ad 9 cells slots Q B M O [(5, .int i), (0, .ref b), (1, .ref (ad 176)), (2, .ref (ad 193)), (3, .ref (ad 202)), (4, .ref (ad 203))] 252 [] := by
  obtain ⟨h1, h2, h3, h4, h5⟩ := hok
  unfold stB_0 stM_0 stO_0 at k
  have hW := lc_open (G := G) C.2.2.2.2.2.2.2.1 B M O (y1) h1 (f_X6_open B y1) rfl h2 (wr [2, 4] (f_X6_open B y1) O) rfl
  have hM := c_X7_open (G := G) C.2.2.2.2.2.2.2.1 (wr [2, 4] (f_X6_open B y1) O).2.1 M (wr [2, 4] (f_X6_open B y1) O).2.2 (y1) h3
  generalize (wr [2, 4] (f_X6_open B y1) O) = w at h4 h5 hW hM k
  generalize (f_X7_open M y1) = g at h4 h5 hM k
  have hT := c_X7_thrown (G := G) C.2.2.2.2.2.2.2.1 w.2.1 g.2 w.2.2
  refine x_aload_n C 2 dL_law_252 rfl rfl ?_
  refine x_aload_n C 1 dL_law_253 rfl rfl ?_
  refine x_iload C 0 dL_law_254 rfl ?_
  refine x_iconst C (v := 1) dL_law_256 (by decide) ?_
  refine x_iadd C dL_law_257 ?_
  refine x_sld C hX (hin 1 (by decide)) dL_law_258 ?_
  rw [hy1]
  refine x_aload_n C 4 dL_law_259 rfl rfl ?_
  refine x_cWS C (as := [.ref (ad 176), .int y1, .ref (ad 202)]) (rest := []) (n := 3) hW we_2_135 we_2_136 we_1_0 we_2_137 ⟨by decide, by decide, by decide +kernel⟩ ⟨Nat.le_trans (Nat.le_of_ble_eq_true rfl) hR.1, Nat.le_trans (Nat.le_of_ble_eq_true rfl) hR.2⟩ ⟨by have := hf.1; omega, by have := hf.2; omega⟩ rfl rfl (Nat.le_of_ble_eq_true rfl) dL_law_260 ?_
  refine x_istore C dL_law_263 (by decide) rfl ?_
  refine x_aload_n C 4 dL_law_265 rfl rfl ?_
  refine x_aload_n C 2 dL_law_266 rfl rfl ?_
  refine x_iload C 1 dL_law_267 rfl ?_
  refine x_iconst C (v := 1) dL_law_269 (by decide) ?_
  refine x_iadd C dL_law_270 ?_
  refine x_sld C hX (hin 1 (by decide)) dL_law_271 ?_
  rw [hy1]
  refine x_cIV C (as := [.int y1]) (rest := []) hM e_M rfl cv_X7_open cd_X7_open we_7_78 ⟨Nat.le_trans (Nat.le_of_ble_eq_true rfl) hR.1, Nat.le_trans (Nat.le_of_ble_eq_true rfl) hR.2⟩ ⟨by have := hf.1; omega, by have := hf.2; omega⟩ rfl rfl (Nat.le_of_ble_eq_true rfl) dL_law_272 ?_
  refine x_istore C dL_law_275 (by decide) rfl ?_
  refine x_aload_n C 5 dL_law_277 rfl rfl ?_
  refine x_cIV C (as := []) (rest := []) hT e_M rfl cv_X7_thrown cd_X7_thrown we_7_51 ⟨Nat.le_trans (Nat.le_of_ble_eq_true rfl) hR.1, Nat.le_trans (Nat.le_of_ble_eq_true rfl) hR.2⟩ ⟨by have := hf.1; omega, by have := hf.2; omega⟩ rfl rfl (Nat.le_of_ble_eq_true rfl) dL_law_278 ?_
  refine x_iload C 1 dL_law_281 rfl ?_
  refine x_icmp_eq C dL_law_283 (tgt := 288) (by decide) (fun _ => ?_) (fun h9 => absurd h4 h9)
  refine x_iload C 1 dL_law_288 rfl ?_
  refine x_if_ne C dL_law_290 (tgt := 305) (by decide) (fun _ => ?_) (fun h0 => ?_)
  · skip
    refine x_goto C dL_law_305 (tgt := 2497) (by decide) ?_
    refine x_sub [2, 3, 4, 5, 6, 7] (ls2 := [(5, .int i), (0, .ref b), (1, .ref (ad 176)), (2, .ref (ad 193)), (3, .ref (ad 202)), (4, .ref (ad 203))]) rfl ?_
    exact x_wid (by omega) (by omega) k
  · skip
    refine x_aload_n C 6 dL_law_293 rfl rfl ?_
    refine x_iconst C (v := 0) dL_law_294 (by decide) ?_
    refine x_lald C dL_law_295 ?_
    refine x_iload C 0 dL_law_296 rfl ?_
    refine x_i2l C dL_law_298 ?_
    refine x_lcmp C dL_law_299 ?_
    refine x_if_eq C dL_law_300 (tgt := 305) (by decide) (fun _ => ?_) (fun h9 => absurd (by rw [h5 h0]; exact lg_cmp_self _) h9)
    refine x_goto C dL_law_305 (tgt := 2497) (by decide) ?_
    refine x_sub [2, 3, 4, 5, 6, 7] (ls2 := [(5, .int i), (0, .ref b), (1, .ref (ad 176)), (2, .ref (ad 193)), (3, .ref (ad 202)), (4, .ref (ad 203))]) rfl ?_
    exact x_wid (by omega) (by omega) k
def okc_4 (B : StB) (M : StM) (O : StO)  : Prop := True ∧ True ∧ (f_X6_accountCount B) = (f_X7_accountCount M).1
def stB_4 (B : StB) (M : StM) (O : StO)  : StB := B
def stM_4 (B : StB) (M : StM) (O : StO)  : StM := (f_X7_accountCount M).2
def stO_4 (B : StB) (M : StM) (O : StO)  : StO := O
set_option maxHeartbeats 4000000 in
set_option maxRecDepth 100000 in
theorem law_c4 (C : CX p l s m args meth c A G ad cL_law "InkBankLaw" 9 (some .boolean)) (hX : va_X b L xs s s.heap ∧ b < s.heap.size ∧ ¬ A b) (hR : 60 ≤ R.frames ∧ 4000 ≤ R.locals) (hf : cells + 8 ≤ R.cells ∧ slots + 48 ≤ R.slots) {i : Int32} (hin : ∀ k : Int32, k = 1 ∨ k = 2 ∨ k = 3 ∨ k = 4 → vp_in (i + k) L)   (hok : okc_4 B M O ) (k : X p l e R s m args below meth c A G ad 9 (cells + 8) (slots + 48) Q (stB_4 B M O ) (stM_4 B M O ) (stO_4 B M O ) [(5, .int i), (0, .ref b), (1, .ref (ad 176)), (2, .ref (ad 193)), (3, .ref (ad 202)), (4, .ref (ad 203))] 2497 []) : X p l e R s m args below meth c A G ad 9 cells slots Q B M O [(5, .int i), (0, .ref b), (1, .ref (ad 176)), (2, .ref (ad 193)), (3, .ref (ad 202)), (4, .ref (ad 203))] 512 [] := by
  obtain ⟨h1, h2, h3⟩ := hok
  unfold stB_4 stM_4 stO_4 at k
  have hW := c_X6_accountCount (G := G) C.2.2.2.2.2.2.2.1 B M O 
  have hM := c_X7_accountCount (G := G) C.2.2.2.2.2.2.2.1 (B) M O 
  refine x_aload_n C 2 dL_law_512 rfl rfl ?_
  refine x_cIV C (as := []) (rest := []) hW e_I rfl cv_X6_accountCount cd_X6_accountCount we_2_63 ⟨Nat.le_trans (Nat.le_of_ble_eq_true rfl) hR.1, Nat.le_trans (Nat.le_of_ble_eq_true rfl) hR.2⟩ ⟨by have := hf.1; omega, by have := hf.2; omega⟩ rfl rfl (Nat.le_of_ble_eq_true rfl) dL_law_513 ?_
  refine x_aload_n C 3 dL_law_516 rfl rfl ?_
  refine x_cIV C (as := []) (rest := [.int _]) hM e_M rfl cv_X7_accountCount cd_X7_accountCount we_7_209 ⟨Nat.le_trans (Nat.le_of_ble_eq_true rfl) hR.1, Nat.le_trans (Nat.le_of_ble_eq_true rfl) hR.2⟩ ⟨by have := hf.1; omega, by have := hf.2; omega⟩ rfl rfl (Nat.le_of_ble_eq_true rfl) dL_law_517 ?_
  refine x_icmp_eq C dL_law_520 (tgt := 2497) (by decide) (fun _ => ?_) (fun h9 => absurd h3 h9)
  exact x_wid (by omega) (by omega) k
def okc_9 (B : StB) (M : StM) (O : StO) (y1 : Int32)  : Prop := ok_X6_wasTouched B y1 ∧ ((f_X6_wasTouched B y1).1 = 0 ∨ (f_X6_wasTouched B y1).1 = 1 ) ∧ ok_X7_wasTouched M y1 ∧ f_X7_thrown ((f_X7_wasTouched M y1)).2 = (wrZ [1] (f_X6_wasTouched B y1) O).1 ∧ ((wrZ [1] (f_X6_wasTouched B y1) O).1 = 0 → (wrZ [1] (f_X6_wasTouched B y1) O).2.2.1 = (if ((f_X7_wasTouched M y1)).1 = 0 then (0 : Int64) else 1))
def stB_9 (B : StB) (M : StM) (O : StO) (y1 : Int32)  : StB := (wrZ [1] (f_X6_wasTouched B y1) O).2.1
def stM_9 (B : StB) (M : StM) (O : StO) (y1 : Int32)  : StM := ((f_X7_wasTouched M y1)).2
def stO_9 (B : StB) (M : StM) (O : StO) (y1 : Int32)  : StO := (wrZ [1] (f_X6_wasTouched B y1) O).2.2
set_option maxHeartbeats 4000000 in
set_option maxRecDepth 100000 in
theorem law_c9 (C : CX p l s m args meth c A G ad cL_law "InkBankLaw" 9 (some .boolean)) (hX : va_X b L xs s s.heap ∧ b < s.heap.size ∧ ¬ A b) (hR : 60 ≤ R.frames ∧ 4000 ≤ R.locals) (hf : cells + 8 ≤ R.cells ∧ slots + 48 ≤ R.slots) {i : Int32} (hin : ∀ k : Int32, k = 1 ∨ k = 2 ∨ k = 3 ∨ k = 4 → vp_in (i + k) L) {y1 : Int32}  (hy1 : xs (ix (i + 1)) = y1) (hok : okc_9 B M O y1) (k : X p l e R s m args below meth c A G ad 9 (cells + 8) (slots + 48) Q (stB_9 B M O y1) (stM_9 B M O y1) (stO_9 B M O y1) [(5, .int i), (0, .ref b), (1, .ref (ad 176)), (2, .ref (ad 193)), (3, .ref (ad 202)), (4, .ref (ad 203))] 2497 []) : X p l e R s m args below meth c A G ad 9 cells slots Q B M O [(5, .int i), (0, .ref b), (1, .ref (ad 176)), (2, .ref (ad 193)), (3, .ref (ad 202)), (4, .ref (ad 203))] 749 [] := by
  obtain ⟨h1, h2, h3, h4, h5⟩ := hok
  unfold stB_9 stM_9 stO_9 at k
  have hW := lc_wasTouched (G := G) C.2.2.2.2.2.2.2.1 B M O (y1) h1 (f_X6_wasTouched B y1) rfl h2 (wrZ [1] (f_X6_wasTouched B y1) O) rfl
  have hM := c_X7_wasTouched (G := G) C.2.2.2.2.2.2.2.1 (wrZ [1] (f_X6_wasTouched B y1) O).2.1 M (wrZ [1] (f_X6_wasTouched B y1) O).2.2 (y1) h3
  generalize (wrZ [1] (f_X6_wasTouched B y1) O) = w at h4 h5 hW hM k
  generalize (f_X7_wasTouched M y1) = g at h4 h5 hM k
  have hT := c_X7_thrown (G := G) C.2.2.2.2.2.2.2.1 w.2.1 g.2 w.2.2
  refine x_aload_n C 2 dL_law_749 rfl rfl ?_
  refine x_aload_n C 1 dL_law_750 rfl rfl ?_
  refine x_iload C 0 dL_law_751 rfl ?_
  refine x_iconst C (v := 1) dL_law_753 (by decide) ?_
  refine x_iadd C dL_law_754 ?_
  refine x_sld C hX (hin 1 (by decide)) dL_law_755 ?_
  rw [hy1]
  refine x_aload_n C 4 dL_law_756 rfl rfl ?_
  refine x_cWS C (as := [.ref (ad 176), .int y1, .ref (ad 202)]) (rest := []) (n := 3) hW we_3_188 we_3_189 we_1_0 we_3_190 ⟨by decide, by decide, by decide +kernel⟩ ⟨Nat.le_trans (Nat.le_of_ble_eq_true rfl) hR.1, Nat.le_trans (Nat.le_of_ble_eq_true rfl) hR.2⟩ ⟨by have := hf.1; omega, by have := hf.2; omega⟩ rfl rfl (Nat.le_of_ble_eq_true rfl) dL_law_757 ?_
  refine x_istore C dL_law_760 (by decide) rfl ?_
  refine x_aload_n C 4 dL_law_762 rfl rfl ?_
  refine x_aload_n C 2 dL_law_763 rfl rfl ?_
  refine x_iload C 1 dL_law_764 rfl ?_
  refine x_iconst C (v := 1) dL_law_766 (by decide) ?_
  refine x_iadd C dL_law_767 ?_
  refine x_sld C hX (hin 1 (by decide)) dL_law_768 ?_
  rw [hy1]
  refine x_cIV C (as := [.int y1]) (rest := []) hM e_M rfl cv_X7_wasTouched cd_X7_wasTouched we_7_233 ⟨Nat.le_trans (Nat.le_of_ble_eq_true rfl) hR.1, Nat.le_trans (Nat.le_of_ble_eq_true rfl) hR.2⟩ ⟨by have := hf.1; omega, by have := hf.2; omega⟩ rfl rfl (Nat.le_of_ble_eq_true rfl) dL_law_769 ?_
  refine x_istore C dL_law_772 (by decide) rfl ?_
  refine x_aload_n C 5 dL_law_774 rfl rfl ?_
  refine x_cIV C (as := []) (rest := []) hT e_M rfl cv_X7_thrown cd_X7_thrown we_7_51 ⟨Nat.le_trans (Nat.le_of_ble_eq_true rfl) hR.1, Nat.le_trans (Nat.le_of_ble_eq_true rfl) hR.2⟩ ⟨by have := hf.1; omega, by have := hf.2; omega⟩ rfl rfl (Nat.le_of_ble_eq_true rfl) dL_law_775 ?_
  refine x_iload C 1 dL_law_778 rfl ?_
  refine x_icmp_eq C dL_law_780 (tgt := 785) (by decide) (fun _ => ?_) (fun h9 => absurd h4 h9)
  refine x_iload C 1 dL_law_785 rfl ?_
  refine x_if_ne C dL_law_787 (tgt := 809) (by decide) (fun _ => ?_) (fun h0 => ?_)
  · skip
    refine x_goto C dL_law_809 (tgt := 2497) (by decide) ?_
    refine x_sub [2, 3, 4, 5, 6, 7] (ls2 := [(5, .int i), (0, .ref b), (1, .ref (ad 176)), (2, .ref (ad 193)), (3, .ref (ad 202)), (4, .ref (ad 203))]) rfl ?_
    exact x_wid (by omega) (by omega) k
  · skip
    refine x_aload_n C 6 dL_law_790 rfl rfl ?_
    refine x_iconst C (v := 0) dL_law_791 (by decide) ?_
    refine x_lald C dL_law_792 ?_
    refine x_iload C 0 dL_law_793 rfl ?_
    refine x_if_eq C dL_law_795 (tgt := 802) (by decide) (fun hb => ?_) (fun hb => ?_)
    · skip
      refine x_lconst C (v := 0) dL_law_802 (by decide) ?_
      refine x_lcmp C dL_law_803 ?_
      refine x_if_eq C dL_law_804 (tgt := 809) (by decide) (fun _ => ?_) (fun h9 => absurd (by rw [h5 h0, if_pos hb]; exact lg_cmp_self _) h9)
      refine x_goto C dL_law_809 (tgt := 2497) (by decide) ?_
      refine x_sub [2, 3, 4, 5, 6, 7] (ls2 := [(5, .int i), (0, .ref b), (1, .ref (ad 176)), (2, .ref (ad 193)), (3, .ref (ad 202)), (4, .ref (ad 203))]) rfl ?_
      exact x_wid (by omega) (by omega) k
    · skip
      refine x_lconst C (v := 1) dL_law_798 (by decide) ?_
      refine x_goto C dL_law_799 (tgt := 803) (by decide) ?_
      refine x_lcmp C dL_law_803 ?_
      refine x_if_eq C dL_law_804 (tgt := 809) (by decide) (fun _ => ?_) (fun h9 => absurd (by rw [h5 h0, if_neg hb]; exact lg_cmp_self _) h9)
      refine x_goto C dL_law_809 (tgt := 2497) (by decide) ?_
      refine x_sub [2, 3, 4, 5, 6, 7] (ls2 := [(5, .int i), (0, .ref b), (1, .ref (ad 176)), (2, .ref (ad 193)), (3, .ref (ad 202)), (4, .ref (ad 203))]) rfl ?_
      exact x_wid (by omega) (by omega) k
def okc_14 (B : StB) (M : StM) (O : StO)  : Prop := ok_X6_totalInk B ∧ ok_X7_totalInk M ∧ (f_X6_totalInk B) = (f_X7_totalInk M).1
def stB_14 (B : StB) (M : StM) (O : StO)  : StB := B
def stM_14 (B : StB) (M : StM) (O : StO)  : StM := (f_X7_totalInk M).2
def stO_14 (B : StB) (M : StM) (O : StO)  : StO := O
set_option maxHeartbeats 4000000 in
set_option maxRecDepth 100000 in
theorem law_c14 (C : CX p l s m args meth c A G ad cL_law "InkBankLaw" 9 (some .boolean)) (hX : va_X b L xs s s.heap ∧ b < s.heap.size ∧ ¬ A b) (hR : 60 ≤ R.frames ∧ 4000 ≤ R.locals) (hf : cells + 8 ≤ R.cells ∧ slots + 48 ≤ R.slots) {i : Int32} (hin : ∀ k : Int32, k = 1 ∨ k = 2 ∨ k = 3 ∨ k = 4 → vp_in (i + k) L)   (hok : okc_14 B M O ) (k : X p l e R s m args below meth c A G ad 9 (cells + 8) (slots + 48) Q (stB_14 B M O ) (stM_14 B M O ) (stO_14 B M O ) [(5, .int i), (0, .ref b), (1, .ref (ad 176)), (2, .ref (ad 193)), (3, .ref (ad 202)), (4, .ref (ad 203))] 2497 []) : X p l e R s m args below meth c A G ad 9 cells slots Q B M O [(5, .int i), (0, .ref b), (1, .ref (ad 176)), (2, .ref (ad 193)), (3, .ref (ad 202)), (4, .ref (ad 203))] 1002 [] := by
  obtain ⟨h1, h2, h3⟩ := hok
  unfold stB_14 stM_14 stO_14 at k
  have hW := c_X6_totalInk (G := G) C.2.2.2.2.2.2.2.1 B M O h1
  have hM := c_X7_totalInk (G := G) C.2.2.2.2.2.2.2.1 (B) M O h2
  refine x_aload_n C 2 dL_law_1002 rfl rfl ?_
  refine x_cLV C (as := []) (rest := []) hW e_I rfl cv_X6_totalInk cd_X6_totalInk we_2_71 ⟨Nat.le_trans (Nat.le_of_ble_eq_true rfl) hR.1, Nat.le_trans (Nat.le_of_ble_eq_true rfl) hR.2⟩ ⟨by have := hf.1; omega, by have := hf.2; omega⟩ rfl rfl (Nat.le_of_ble_eq_true rfl) dL_law_1003 ?_
  refine x_aload_n C 3 dL_law_1006 rfl rfl ?_
  refine x_cLV C (as := []) (rest := [.long _]) hM e_M rfl cv_X7_totalInk cd_X7_totalInk we_8_17 ⟨Nat.le_trans (Nat.le_of_ble_eq_true rfl) hR.1, Nat.le_trans (Nat.le_of_ble_eq_true rfl) hR.2⟩ ⟨by have := hf.1; omega, by have := hf.2; omega⟩ rfl rfl (Nat.le_of_ble_eq_true rfl) dL_law_1007 ?_
  refine x_lcmp C dL_law_1010 ?_
  refine x_if_eq C dL_law_1011 (tgt := 2497) (by decide) (fun _ => ?_) (fun h9 => absurd (by rw [h3]; exact lg_cmp_self _) h9)
  exact x_wid (by omega) (by omega) k
def okc_41 (B : StB) (M : StM) (O : StO) (y1 : Int32)  : Prop := ok_X6_type B ((y1.toUInt32 % 65536).toInt32) ∧ ((f_X6_type B ((y1.toUInt32 % 65536).toInt32)).1 = 0 ∨ (f_X6_type B ((y1.toUInt32 % 65536).toInt32)).1 = 2 ∨ (f_X6_type B ((y1.toUInt32 % 65536).toInt32)).1 = 4 ) ∧ ok_X7_type M ((y1.toUInt32 % 65536).toInt32) ∧ f_X7_thrown ((f_X7_type M ((y1.toUInt32 % 65536).toInt32))).2 = (wr [2, 4] (f_X6_type B ((y1.toUInt32 % 65536).toInt32)) O).1 ∧ ((wr [2, 4] (f_X6_type B ((y1.toUInt32 % 65536).toInt32)) O).1 = 0 → (wr [2, 4] (f_X6_type B ((y1.toUInt32 % 65536).toInt32)) O).2.2.1 = ((f_X7_type M ((y1.toUInt32 % 65536).toInt32))).1.toInt64)
def stB_41 (B : StB) (M : StM) (O : StO) (y1 : Int32)  : StB := (wr [2, 4] (f_X6_type B ((y1.toUInt32 % 65536).toInt32)) O).2.1
def stM_41 (B : StB) (M : StM) (O : StO) (y1 : Int32)  : StM := ((f_X7_type M ((y1.toUInt32 % 65536).toInt32))).2
def stO_41 (B : StB) (M : StM) (O : StO) (y1 : Int32)  : StO := (wr [2, 4] (f_X6_type B ((y1.toUInt32 % 65536).toInt32)) O).2.2
set_option maxHeartbeats 4000000 in
set_option maxRecDepth 100000 in
theorem law_c41 (C : CX p l s m args meth c A G ad cL_law "InkBankLaw" 9 (some .boolean)) (hX : va_X b L xs s s.heap ∧ b < s.heap.size ∧ ¬ A b) (hR : 60 ≤ R.frames ∧ 4000 ≤ R.locals) (hf : cells + 8 ≤ R.cells ∧ slots + 48 ≤ R.slots) {i : Int32} (hin : ∀ k : Int32, k = 1 ∨ k = 2 ∨ k = 3 ∨ k = 4 → vp_in (i + k) L) {y1 : Int32}  (hy1 : xs (ix (i + 1)) = y1) (hok : okc_41 B M O y1) (k : X p l e R s m args below meth c A G ad 9 (cells + 8) (slots + 48) Q (stB_41 B M O y1) (stM_41 B M O y1) (stO_41 B M O y1) [(5, .int i), (0, .ref b), (1, .ref (ad 176)), (2, .ref (ad 193)), (3, .ref (ad 202)), (4, .ref (ad 203))] 2497 []) : X p l e R s m args below meth c A G ad 9 cells slots Q B M O [(5, .int i), (0, .ref b), (1, .ref (ad 176)), (2, .ref (ad 193)), (3, .ref (ad 202)), (4, .ref (ad 203))] 2206 [] := by
  obtain ⟨h1, h2, h3, h4, h5⟩ := hok
  unfold stB_41 stM_41 stO_41 at k
  have hW := lc_type (G := G) C.2.2.2.2.2.2.2.1 B M O ((y1.toUInt32 % 65536).toInt32) h1 (f_X6_type B ((y1.toUInt32 % 65536).toInt32)) rfl h2 (wr [2, 4] (f_X6_type B ((y1.toUInt32 % 65536).toInt32)) O) rfl
  have hM := c_X7_type (G := G) C.2.2.2.2.2.2.2.1 (wr [2, 4] (f_X6_type B ((y1.toUInt32 % 65536).toInt32)) O).2.1 M (wr [2, 4] (f_X6_type B ((y1.toUInt32 % 65536).toInt32)) O).2.2 ((y1.toUInt32 % 65536).toInt32) h3
  generalize (wr [2, 4] (f_X6_type B ((y1.toUInt32 % 65536).toInt32)) O) = w at h4 h5 hW hM k
  generalize (f_X7_type M ((y1.toUInt32 % 65536).toInt32)) = g at h4 h5 hM k
  have hT := c_X7_thrown (G := G) C.2.2.2.2.2.2.2.1 w.2.1 g.2 w.2.2
  refine x_aload_n C 2 dL_law_2206 rfl rfl ?_
  refine x_aload_n C 1 dL_law_2207 rfl rfl ?_
  refine x_iload C 0 dL_law_2208 rfl ?_
  refine x_iconst C (v := 1) dL_law_2210 (by decide) ?_
  refine x_iadd C dL_law_2211 ?_
  refine x_sld C hX (hin 1 (by decide)) dL_law_2212 ?_
  rw [hy1]
  refine x_i2c C dL_law_2213 ?_
  refine x_aload_n C 4 dL_law_2214 rfl rfl ?_
  refine x_cWS C (as := [.ref (ad 176), .int ((y1.toUInt32 % 65536).toInt32), .ref (ad 202)]) (rest := []) (n := 3) hW we_6_66 we_6_67 we_1_0 we_6_68 ⟨by decide, by decide, by decide +kernel⟩ ⟨Nat.le_trans (Nat.le_of_ble_eq_true rfl) hR.1, Nat.le_trans (Nat.le_of_ble_eq_true rfl) hR.2⟩ ⟨by have := hf.1; omega, by have := hf.2; omega⟩ rfl rfl (Nat.le_of_ble_eq_true rfl) dL_law_2215 ?_
  refine x_istore C dL_law_2218 (by decide) rfl ?_
  refine x_aload_n C 4 dL_law_2220 rfl rfl ?_
  refine x_aload_n C 2 dL_law_2221 rfl rfl ?_
  refine x_iload C 1 dL_law_2222 rfl ?_
  refine x_iconst C (v := 1) dL_law_2224 (by decide) ?_
  refine x_iadd C dL_law_2225 ?_
  refine x_sld C hX (hin 1 (by decide)) dL_law_2226 ?_
  rw [hy1]
  refine x_i2c C dL_law_2227 ?_
  refine x_cIV C (as := [.int ((y1.toUInt32 % 65536).toInt32)]) (rest := []) hM e_M rfl cv_X7_type cd_X7_type we_8_139 ⟨Nat.le_trans (Nat.le_of_ble_eq_true rfl) hR.1, Nat.le_trans (Nat.le_of_ble_eq_true rfl) hR.2⟩ ⟨by have := hf.1; omega, by have := hf.2; omega⟩ rfl rfl (Nat.le_of_ble_eq_true rfl) dL_law_2228 ?_
  refine x_istore C dL_law_2231 (by decide) rfl ?_
  refine x_aload_n C 5 dL_law_2233 rfl rfl ?_
  refine x_cIV C (as := []) (rest := []) hT e_M rfl cv_X7_thrown cd_X7_thrown we_7_51 ⟨Nat.le_trans (Nat.le_of_ble_eq_true rfl) hR.1, Nat.le_trans (Nat.le_of_ble_eq_true rfl) hR.2⟩ ⟨by have := hf.1; omega, by have := hf.2; omega⟩ rfl rfl (Nat.le_of_ble_eq_true rfl) dL_law_2234 ?_
  refine x_iload C 1 dL_law_2237 rfl ?_
  refine x_icmp_eq C dL_law_2239 (tgt := 2244) (by decide) (fun _ => ?_) (fun h9 => absurd h4 h9)
  refine x_iload C 1 dL_law_2244 rfl ?_
  refine x_if_ne C dL_law_2246 (tgt := 2261) (by decide) (fun _ => ?_) (fun h0 => ?_)
  · skip
    refine x_goto C dL_law_2261 (tgt := 2497) (by decide) ?_
    refine x_sub [2, 3, 4, 5, 6, 7] (ls2 := [(5, .int i), (0, .ref b), (1, .ref (ad 176)), (2, .ref (ad 193)), (3, .ref (ad 202)), (4, .ref (ad 203))]) rfl ?_
    exact x_wid (by omega) (by omega) k
  · skip
    refine x_aload_n C 6 dL_law_2249 rfl rfl ?_
    refine x_iconst C (v := 0) dL_law_2250 (by decide) ?_
    refine x_lald C dL_law_2251 ?_
    refine x_iload C 0 dL_law_2252 rfl ?_
    refine x_i2l C dL_law_2254 ?_
    refine x_lcmp C dL_law_2255 ?_
    refine x_if_eq C dL_law_2256 (tgt := 2261) (by decide) (fun _ => ?_) (fun h9 => absurd (by rw [h5 h0]; exact lg_cmp_self _) h9)
    refine x_goto C dL_law_2261 (tgt := 2497) (by decide) ?_
    refine x_sub [2, 3, 4, 5, 6, 7] (ls2 := [(5, .int i), (0, .ref b), (1, .ref (ad 176)), (2, .ref (ad 193)), (3, .ref (ad 202)), (4, .ref (ad 203))]) rfl ?_
    exact x_wid (by omega) (by omega) k
def okc_46 (B : StB) (M : StM) (O : StO)  : Prop := ok_X6_save B ∧ ok_X7_save M ∧ (f_X6_save B).1 = (f_X7_save M).1
def stB_46 (B : StB) (M : StM) (O : StO)  : StB := (f_X6_save B).2
def stM_46 (B : StB) (M : StM) (O : StO)  : StM := (f_X7_save M).2
def stO_46 (B : StB) (M : StM) (O : StO)  : StO := O
set_option maxHeartbeats 4000000 in
set_option maxRecDepth 100000 in
theorem law_c46 (C : CX p l s m args meth c A G ad cL_law "InkBankLaw" 9 (some .boolean)) (hX : va_X b L xs s s.heap ∧ b < s.heap.size ∧ ¬ A b) (hR : 60 ≤ R.frames ∧ 4000 ≤ R.locals) (hf : cells + 8 ≤ R.cells ∧ slots + 48 ≤ R.slots) {i : Int32} (hin : ∀ k : Int32, k = 1 ∨ k = 2 ∨ k = 3 ∨ k = 4 → vp_in (i + k) L)   (hok : okc_46 B M O ) (k : X p l e R s m args below meth c A G ad 9 (cells + 8) (slots + 48) Q (stB_46 B M O ) (stM_46 B M O ) (stO_46 B M O ) [(5, .int i), (0, .ref b), (1, .ref (ad 176)), (2, .ref (ad 193)), (3, .ref (ad 202)), (4, .ref (ad 203))] 2497 []) : X p l e R s m args below meth c A G ad 9 cells slots Q B M O [(5, .int i), (0, .ref b), (1, .ref (ad 176)), (2, .ref (ad 193)), (3, .ref (ad 202)), (4, .ref (ad 203))] 2440 [] := by
  obtain ⟨h1, h2, h3⟩ := hok
  unfold stB_46 stM_46 stO_46 at k
  have hW := c_X6_save (G := G) C.2.2.2.2.2.2.2.1 B M O h1
  have hM := c_X7_save (G := G) C.2.2.2.2.2.2.2.1 ((f_X6_save B).2) M O h2
  refine x_aload_n C 2 dL_law_2440 rfl rfl ?_
  refine x_cIV C (as := []) (rest := []) hW e_I rfl cv_X6_save cd_X6_save we_2_111 ⟨Nat.le_trans (Nat.le_of_ble_eq_true rfl) hR.1, Nat.le_trans (Nat.le_of_ble_eq_true rfl) hR.2⟩ ⟨by have := hf.1; omega, by have := hf.2; omega⟩ rfl rfl (Nat.le_of_ble_eq_true rfl) dL_law_2441 ?_
  refine x_aload_n C 3 dL_law_2444 rfl rfl ?_
  refine x_cIV C (as := []) (rest := [.int _]) hM e_M rfl cv_X7_save cd_X7_save we_7_70 ⟨Nat.le_trans (Nat.le_of_ble_eq_true rfl) hR.1, Nat.le_trans (Nat.le_of_ble_eq_true rfl) hR.2⟩ ⟨by have := hf.1; omega, by have := hf.2; omega⟩ rfl rfl (Nat.le_of_ble_eq_true rfl) dL_law_2445 ?_
  refine x_icmp_eq C dL_law_2448 (tgt := 2497) (by decide) (fun _ => ?_) (fun h9 => absurd h3 h9)
  exact x_wid (by omega) (by omega) k
end LC
