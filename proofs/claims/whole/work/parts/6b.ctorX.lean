section YL
variable {p : Program} {l : Launch} {e : Env} {R : Room} {s : State} {m : MethodId} {args : Array Value} {below : List Frame} {meth : Method} {c : Code} {cells slots : Nat} {Q : State → Prop}
variable {A : Nat → Prop} {G : GT} {cc : ByteArray} {own : String} {nL : Nat} {ret : Option FieldType} {w0 L : va_W} {ls : List (Nat × Value)} {pc : Nat} {rest stk : List Value}
theorem y_L (C : CY p s m args meth c A G cc own nL ret) {L2 : va_W} (h : L = L2) (k : Y p l e R s m args below meth c A G nL cells slots Q w0 L2 ls pc stk) : Y p l e R s m args below meth c A G nL cells slots Q w0 L ls pc stk := by subst h; exact k
end YL
def kA (G : GT) (f : Nat → Nat) : va_W := [(f 0, .inr (4, [.int 0, .ref (f 1), .ref (f 2), .ref (f 3), .ref (f 4)])), (f 1, .inl (G.2.1 2, 8, .inl (fun _ => 0))), (f 2, .inl (G.2.1 2, 8, .inl (fun _ => 0))), (f 3, .inl (G.2.1 2, 8, .inl (fun _ => 0))), (f 4, .inl (G.2.1 3, 8, .inl (fun _ => 0)))]
def kT (G : GT) (f : Nat → Nat) : va_W := [(f 0, .inr (9, [.int 0, .int 0, .ref (f 1), .ref (f 2), .ref (f 3), .ref (f 4), .ref (f 5)])), (f 1, .inl (G.2.1 2, 10, .inl (fun _ => 0))), (f 2, .inl (G.2.1 2, 10, .inl (fun _ => 0))), (f 3, .inl (G.2.1 2, 10, .inl (fun _ => 0))), (f 4, .inl (G.2.1 2, 10, .inl (fun _ => 0))), (f 5, .inl (G.2.1 2, 10, .inl (fun _ => 0)))]
def kJ (G : GT) (f : Nat → Nat) : va_W := [(f 0, .inr (6, [.int 0, .int 0, .ref (f 1), .ref (f 2), .ref (f 3)])), (f 1, .inl (G.2.1 1, 10, .inl (fun _ => 0))), (f 2, .inl (G.2.1 2, 10, .inl (fun _ => 0))), (f 3, .inl (G.2.1 2, 10, .inl (fun _ => 0)))]
def kL (G : GT) (f : Nat → Nat) : va_W := ([(f 0, .inr (7, [.ref (f 1), .ref (f 6), .ref (f 12), .int 0, .int 0, .int 0, .long 0, .long 0, .long 0, .long 0, .long 0]))]) ++ (kA G (fun j => f (1 + j))) ++ (kT G (fun j => f (6 + j))) ++ (kJ G (fun j => f (12 + j)))
def kR (G : GT) (f : Nat → Nat) : va_W := [(f 0, .inr (8, [.ref (f 1), .int 0, .int 0, .int 0, .ref (f 2)])), (f 1, .inl (G.2.1 1, 60, .inl (fun _ => 0))), (f 2, .inl (G.2.1 2, 4, .inl (fun _ => 0)))]
def kS (G : GT) (f : Nat → Nat) : va_W := [(f 0, .inr (1, [.ref (f 1), .int 0, .int 0, .int 0])), (f 1, .inl (G.2.1 0, 16, .inl (fun _ => 0)))]
theorem we_1_1 : (Jvm.Cond.initialized "InkBank") ∈ TT := tt_1 (List.mem_of_getElem? (i := 1) rfl) rfl
theorem we_1_2 : (Jvm.Cond.initialized "InkBank$Ledger") ∈ TT := tt_1 (List.mem_of_getElem? (i := 2) rfl) rfl
theorem we_1_3 : (Jvm.Cond.initialized "InkBank$Accounts") ∈ TT := tt_1 (List.mem_of_getElem? (i := 3) rfl) rfl
theorem we_1_4 : (Jvm.Cond.initialized "InkBank$Transfers") ∈ TT := tt_1 (List.mem_of_getElem? (i := 4) rfl) rfl
theorem we_1_5 : (Jvm.Cond.initialized "InkBank$Journal") ∈ TT := tt_1 (List.mem_of_getElem? (i := 5) rfl) rfl
theorem we_1_6 : (Jvm.Cond.initialized "InkBank$History") ∈ TT := tt_1 (List.mem_of_getElem? (i := 6) rfl) rfl
theorem we_1_7 : (Jvm.Cond.initialized "InkBank$Reader") ∈ TT := tt_1 (List.mem_of_getElem? (i := 7) rfl) rfl
theorem we_1_8 : (Jvm.Cond.initialized "java/lang/AbstractStringBuilder") ∈ TT := tt_1 (List.mem_of_getElem? (i := 8) rfl) rfl
theorem we_1_9 : (Jvm.Cond.initialized "java/lang/StringBuilder") ∈ TT := tt_1 (List.mem_of_getElem? (i := 9) rfl) rfl
theorem we_1_12 : (Jvm.Cond.initialized "InkBankModel") ∈ TT := tt_1 (List.mem_of_getElem? (i := 12) rfl) rfl
theorem we_1_37 : (Jvm.Cond.code ({ cls := "InkBank", name := "<init>", desc := "()V" } : Jvm.MethodName) prog_1_method_1_code (1 : Nat) (Option.none : Option Jvm.ClassFile.FieldType)) ∈ TT := tt_1 (List.mem_of_getElem? (i := 37) rfl) rfl
theorem we_1_39 : (Jvm.Cond.instanceMethod ({ cls := "java/lang/Object", name := "<init>", desc := "()V" } : Jvm.MethodName)) ∈ TT := tt_1 (List.mem_of_getElem? (i := 39) rfl) rfl
theorem we_1_40 : (Jvm.Cond.code ({ cls := "java/lang/Object", name := "<init>", desc := "()V" } : Jvm.MethodName) object_method_1_code (1 : Nat) (Option.none : Option Jvm.ClassFile.FieldType)) ∈ TT := tt_1 (List.mem_of_getElem? (i := 40) rfl) rfl
theorem we_1_45 : (Jvm.Cond.code ({ cls := "InkBank$Ledger", name := "<init>", desc := "()V" } : Jvm.MethodName) prog_5_method_1_code (1 : Nat) (Option.none : Option Jvm.ClassFile.FieldType)) ∈ TT := tt_1 (List.mem_of_getElem? (i := 45) rfl) rfl
theorem we_1_46 : (Jvm.Cond.methodLink "InkBank$Ledger" (3 : Nat) ({ cls := "java/lang/Object", name := "<init>", desc := "()V" } : Jvm.MethodName)) ∈ TT := tt_1 (List.mem_of_getElem? (i := 46) rfl) rfl
theorem we_1_47 : (Jvm.Cond.classLink "InkBank$Ledger" (9 : Nat) "InkBank$Accounts") ∈ TT := tt_1 (List.mem_of_getElem? (i := 47) rfl) rfl
theorem we_1_48 : (Jvm.Cond.instantiable "InkBank$Accounts" (5 : Nat)) ∈ TT := tt_1 (List.mem_of_getElem? (i := 48) rfl) rfl
theorem we_1_50 : (Jvm.Cond.instanceMethod ({ cls := "InkBank$Accounts", name := "<init>", desc := "()V" } : Jvm.MethodName)) ∈ TT := tt_1 (List.mem_of_getElem? (i := 50) rfl) rfl
theorem we_1_51 : (Jvm.Cond.code ({ cls := "InkBank$Accounts", name := "<init>", desc := "()V" } : Jvm.MethodName) prog_2_method_1_code (1 : Nat) (Option.none : Option Jvm.ClassFile.FieldType)) ∈ TT := tt_1 (List.mem_of_getElem? (i := 51) rfl) rfl
theorem we_1_52 : (Jvm.Cond.methodLink "InkBank$Accounts" (3 : Nat) ({ cls := "java/lang/Object", name := "<init>", desc := "()V" } : Jvm.MethodName)) ∈ TT := tt_1 (List.mem_of_getElem? (i := 52) rfl) rfl
theorem we_1_56 : (Jvm.Cond.fieldLink "InkBank$Accounts" (9 : Nat) "InkBank$Accounts" "kinds" "[I") ∈ TT := tt_1 (List.mem_of_getElem? (i := 56) rfl) rfl
theorem we_1_59 : (Jvm.Cond.fieldLink "InkBank$Accounts" (15 : Nat) "InkBank$Accounts" "balances" "[I") ∈ TT := tt_1 (List.mem_of_getElem? (i := 59) rfl) rfl
theorem we_1_62 : (Jvm.Cond.fieldLink "InkBank$Accounts" (18 : Nat) "InkBank$Accounts" "limits" "[I") ∈ TT := tt_1 (List.mem_of_getElem? (i := 62) rfl) rfl
theorem we_1_64 : (Jvm.Cond.fieldLink "InkBank$Accounts" (21 : Nat) "InkBank$Accounts" "touched" "[Z") ∈ TT := tt_1 (List.mem_of_getElem? (i := 64) rfl) rfl
theorem we_1_78 : (Jvm.Cond.arrayClass Jvm.ClassFile.FieldType.int) ∈ TT := tt_1 (List.mem_of_getElem? (i := 78) rfl) rfl
theorem we_1_79 : (Jvm.Cond.arrayClass Jvm.ClassFile.FieldType.boolean) ∈ TT := tt_1 (List.mem_of_getElem? (i := 79) rfl) rfl
theorem we_1_80 : (Jvm.Cond.classLink "InkBank$Ledger" (18 : Nat) "InkBank$Transfers") ∈ TT := tt_1 (List.mem_of_getElem? (i := 80) rfl) rfl
theorem we_1_81 : (Jvm.Cond.instantiable "InkBank$Transfers" (7 : Nat)) ∈ TT := tt_1 (List.mem_of_getElem? (i := 81) rfl) rfl
theorem we_1_83 : (Jvm.Cond.instanceMethod ({ cls := "InkBank$Transfers", name := "<init>", desc := "()V" } : Jvm.MethodName)) ∈ TT := tt_1 (List.mem_of_getElem? (i := 83) rfl) rfl
theorem we_1_84 : (Jvm.Cond.code ({ cls := "InkBank$Transfers", name := "<init>", desc := "()V" } : Jvm.MethodName) prog_7_method_1_code (1 : Nat) (Option.none : Option Jvm.ClassFile.FieldType)) ∈ TT := tt_1 (List.mem_of_getElem? (i := 84) rfl) rfl
theorem we_1_85 : (Jvm.Cond.methodLink "InkBank$Transfers" (3 : Nat) ({ cls := "java/lang/Object", name := "<init>", desc := "()V" } : Jvm.MethodName)) ∈ TT := tt_1 (List.mem_of_getElem? (i := 85) rfl) rfl
theorem we_1_90 : (Jvm.Cond.fieldLink "InkBank$Transfers" (9 : Nat) "InkBank$Transfers" "ids" "[I") ∈ TT := tt_1 (List.mem_of_getElem? (i := 90) rfl) rfl
theorem we_1_92 : (Jvm.Cond.fieldLink "InkBank$Transfers" (15 : Nat) "InkBank$Transfers" "senders" "[I") ∈ TT := tt_1 (List.mem_of_getElem? (i := 92) rfl) rfl
theorem we_1_95 : (Jvm.Cond.fieldLink "InkBank$Transfers" (18 : Nat) "InkBank$Transfers" "receivers" "[I") ∈ TT := tt_1 (List.mem_of_getElem? (i := 95) rfl) rfl
theorem we_1_98 : (Jvm.Cond.fieldLink "InkBank$Transfers" (21 : Nat) "InkBank$Transfers" "amounts" "[I") ∈ TT := tt_1 (List.mem_of_getElem? (i := 98) rfl) rfl
theorem we_1_101 : (Jvm.Cond.fieldLink "InkBank$Transfers" (24 : Nat) "InkBank$Transfers" "dueDays" "[I") ∈ TT := tt_1 (List.mem_of_getElem? (i := 101) rfl) rfl
theorem we_1_119 : (Jvm.Cond.classLink "InkBank$Ledger" (25 : Nat) "InkBank$Journal") ∈ TT := tt_1 (List.mem_of_getElem? (i := 119) rfl) rfl
theorem we_1_120 : (Jvm.Cond.instantiable "InkBank$Journal" (5 : Nat)) ∈ TT := tt_1 (List.mem_of_getElem? (i := 120) rfl) rfl
theorem we_1_122 : (Jvm.Cond.instanceMethod ({ cls := "InkBank$Journal", name := "<init>", desc := "()V" } : Jvm.MethodName)) ∈ TT := tt_1 (List.mem_of_getElem? (i := 122) rfl) rfl
theorem we_1_123 : (Jvm.Cond.code ({ cls := "InkBank$Journal", name := "<init>", desc := "()V" } : Jvm.MethodName) prog_4_method_1_code (1 : Nat) (Option.none : Option Jvm.ClassFile.FieldType)) ∈ TT := tt_1 (List.mem_of_getElem? (i := 123) rfl) rfl
theorem we_1_124 : (Jvm.Cond.methodLink "InkBank$Journal" (3 : Nat) ({ cls := "java/lang/Object", name := "<init>", desc := "()V" } : Jvm.MethodName)) ∈ TT := tt_1 (List.mem_of_getElem? (i := 124) rfl) rfl
theorem we_1_128 : (Jvm.Cond.fieldLink "InkBank$Journal" (9 : Nat) "InkBank$Journal" "kinds" "[C") ∈ TT := tt_1 (List.mem_of_getElem? (i := 128) rfl) rfl
theorem we_1_130 : (Jvm.Cond.fieldLink "InkBank$Journal" (15 : Nat) "InkBank$Journal" "amounts" "[I") ∈ TT := tt_1 (List.mem_of_getElem? (i := 130) rfl) rfl
theorem we_1_132 : (Jvm.Cond.fieldLink "InkBank$Journal" (19 : Nat) "InkBank$Journal" "accounts" "[I") ∈ TT := tt_1 (List.mem_of_getElem? (i := 132) rfl) rfl
theorem we_1_145 : (Jvm.Cond.arrayClass Jvm.ClassFile.FieldType.char) ∈ TT := tt_1 (List.mem_of_getElem? (i := 145) rfl) rfl
theorem we_1_146 : (Jvm.Cond.fieldLink "InkBank$Ledger" (12 : Nat) "InkBank$Ledger" "accounts" "LInkBank$Accounts;") ∈ TT := tt_1 (List.mem_of_getElem? (i := 146) rfl) rfl
theorem we_1_148 : (Jvm.Cond.fieldLink "InkBank$Ledger" (21 : Nat) "InkBank$Ledger" "transfers" "LInkBank$Transfers;") ∈ TT := tt_1 (List.mem_of_getElem? (i := 148) rfl) rfl
theorem we_1_150 : (Jvm.Cond.fieldLink "InkBank$Ledger" (28 : Nat) "InkBank$Ledger" "journal" "LInkBank$Journal;") ∈ TT := tt_1 (List.mem_of_getElem? (i := 150) rfl) rfl
theorem we_1_195 : (Jvm.Cond.code ({ cls := "InkBank$History", name := "<init>", desc := "()V" } : Jvm.MethodName) prog_3_method_1_code (2 : Nat) (Option.none : Option Jvm.ClassFile.FieldType)) ∈ TT := tt_1 (List.mem_of_getElem? (i := 195) rfl) rfl
theorem we_1_215 : (Jvm.Cond.code ({ cls := "InkBank$Reader", name := "<init>", desc := "()V" } : Jvm.MethodName) prog_6_method_1_code (1 : Nat) (Option.none : Option Jvm.ClassFile.FieldType)) ∈ TT := tt_1 (List.mem_of_getElem? (i := 215) rfl) rfl
theorem we_1_216 : (Jvm.Cond.methodLink "InkBank$Reader" (3 : Nat) ({ cls := "java/lang/Object", name := "<init>", desc := "()V" } : Jvm.MethodName)) ∈ TT := tt_1 (List.mem_of_getElem? (i := 216) rfl) rfl
theorem we_1_217 : (Jvm.Cond.fieldLink "InkBank$Reader" (9 : Nat) "InkBank$Reader" "text" "[C") ∈ TT := tt_1 (List.mem_of_getElem? (i := 217) rfl) rfl
theorem we_1_224 : (Jvm.Cond.fieldLink "InkBank$Reader" (15 : Nat) "InkBank$Reader" "values" "[I") ∈ TT := tt_1 (List.mem_of_getElem? (i := 224) rfl) rfl
theorem we_2_1 : (Jvm.Cond.code ({ cls := "java/lang/StringBuilder", name := "<init>", desc := "()V" } : Jvm.MethodName) prog_28_method_1_code (1 : Nat) (Option.none : Option Jvm.ClassFile.FieldType)) ∈ TT := tt_2 (List.mem_of_getElem? (i := 1) rfl) rfl
theorem we_2_4 : (Jvm.Cond.code ({ cls := "java/lang/AbstractStringBuilder", name := "<init>", desc := "(I)V" } : Jvm.MethodName) prog_11_method_2_code (2 : Nat) (Option.none : Option Jvm.ClassFile.FieldType)) ∈ TT := tt_2 (List.mem_of_getElem? (i := 4) rfl) rfl
theorem we_6_225 : (Jvm.Cond.code ({ cls := "InkBankModel", name := "<init>", desc := "()V" } : Jvm.MethodName) prog_9_method_1_code (1 : Nat) (Option.none : Option Jvm.ClassFile.FieldType)) ∈ TT := tt_6 (List.mem_of_getElem? (i := 225) rfl) rfl
theorem ce_X0 : Card yX0_init cX0_init 1 none 0 := ⟨we_1_51, we_1_3, by decide, by decide, by decide +kernel⟩
theorem ce_X1 : Card yX1_init cX1_init 2 none 0 := ⟨we_1_195, we_1_6, by decide, by decide, by decide +kernel⟩
theorem ce_X2 : Card yX2_init cX2_init 1 none 0 := ⟨we_1_123, we_1_5, by decide, by decide, by decide +kernel⟩
theorem ce_X3 : Card yX3_init cX3_init 1 none 0 := ⟨we_1_45, we_1_2, by decide, by decide, by decide +kernel⟩
theorem ce_X4 : Card yX4_init cX4_init 1 none 0 := ⟨we_1_215, we_1_7, by decide, by decide, by decide +kernel⟩
theorem ce_X5 : Card yX5_init cX5_init 1 none 0 := ⟨we_1_84, we_1_4, by decide, by decide, by decide +kernel⟩
theorem ce_X6 : Card yX6_init cX6_init 1 none 0 := ⟨we_1_37, we_1_1, by decide, by decide, by decide +kernel⟩
theorem ce_X7 : Card yX7_init cX7_init 1 none 0 := ⟨we_6_225, we_1_12, by decide, by decide, by decide +kernel⟩
theorem ce_J4 : Card yJ4_init_da8c8 cJ4_init_da8c8 1 none 0 := ⟨we_2_1, we_1_9, by decide, by decide, by decide +kernel⟩
theorem ce_J5 : Card yJ5_init_d00df cJ5_init_d00df 2 none 1 := ⟨we_2_4, we_1_8, by decide, by decide, by decide +kernel⟩
set_option maxHeartbeats 4000000 in
set_option maxRecDepth 100000 in
theorem kX0 {l : Launch} {A : Nat → Prop} {G : GT} (w : va_W) (a : Nat) {W0 : va_W} (hW : W0 = w ++ [(a, .inr (4, [.int 0, .null, .null, .null, .null]))]) : KM l yX0_init cX0_init 1 1 4 32 G A [] a W0 (fun u => ∃ f, f 0 = a ∧ u = w ++ kA G f) := by
  subst hW
  refine y_body (own := "InkBank$Accounts") (ls := [(0, .ref a)]) (by decide) rfl rfl (Nat.le_of_ble_eq_true rfl) rfl ?_
  intro p e s m args below meth c C hin
  refine y_aload_n C 0 dX0_init_0 rfl rfl ?_
  refine y_obj C we_1_52 we_1_39 we_1_40 dX0_init_1 ⟨(Nat.le_of_ble_eq_true rfl), (Nat.le_of_ble_eq_true rfl)⟩ (Nat.le_of_ble_eq_true rfl) ?_
  refine y_aload_n C 0 dX0_init_4 rfl rfl ?_
  refine y_bipush C (v := 8) dX0_init_5 (by decide) ?_
  refine y_newa C (atype := .int) (ty := .int) 2 rfl (fun _ h => h) rfl we_1_78 (n := 8) (N' := 8) (a0 := (8, .inl (fun _ => 0))) (fun _ => rfl) (by decide) (by decide) (by decide) (Nat.le_of_ble_eq_true rfl) (Nat.le_of_ble_eq_true rfl) dX0_init_7 (fun q1 => ?_)
  refine y_putF C tyX0 tyX0_ok nmX0 (j := 0) (ci := 4) (i := 1) rfl rfl ttX0 (by decide) we_1_56 rfl hin rfl rfl rfl (Nat.le_of_ble_eq_true rfl) dX0_init_9 ?_
  refine y_L C (L2 := ([(a, .inr (4, [.int 0, .ref q1, .null, .null, .null])), (q1, .inl (G.2.1 2, 8, .inl (fun _ => 0)))])) rfl ?_
  refine y_aload_n C 0 dX0_init_12 rfl rfl ?_
  refine y_bipush C (v := 8) dX0_init_13 (by decide) ?_
  refine y_newa C (atype := .int) (ty := .int) 2 rfl (fun _ h => h) rfl we_1_78 (n := 8) (N' := 8) (a0 := (8, .inl (fun _ => 0))) (fun _ => rfl) (by decide) (by decide) (by decide) (Nat.le_of_ble_eq_true rfl) (Nat.le_of_ble_eq_true rfl) dX0_init_15 (fun q2 => ?_)
  refine y_putF C tyX0 tyX0_ok nmX0 (j := 0) (ci := 4) (i := 2) rfl rfl ttX0 (by decide) we_1_59 rfl hin rfl rfl rfl (Nat.le_of_ble_eq_true rfl) dX0_init_17 ?_
  refine y_L C (L2 := ([(a, .inr (4, [.int 0, .ref q1, .ref q2, .null, .null])), (q1, .inl (G.2.1 2, 8, .inl (fun _ => 0))), (q2, .inl (G.2.1 2, 8, .inl (fun _ => 0)))])) rfl ?_
  refine y_aload_n C 0 dX0_init_20 rfl rfl ?_
  refine y_bipush C (v := 8) dX0_init_21 (by decide) ?_
  refine y_newa C (atype := .int) (ty := .int) 2 rfl (fun _ h => h) rfl we_1_78 (n := 8) (N' := 8) (a0 := (8, .inl (fun _ => 0))) (fun _ => rfl) (by decide) (by decide) (by decide) (Nat.le_of_ble_eq_true rfl) (Nat.le_of_ble_eq_true rfl) dX0_init_23 (fun q3 => ?_)
  refine y_putF C tyX0 tyX0_ok nmX0 (j := 0) (ci := 4) (i := 3) rfl rfl ttX0 (by decide) we_1_62 rfl hin rfl rfl rfl (Nat.le_of_ble_eq_true rfl) dX0_init_25 ?_
  refine y_L C (L2 := ([(a, .inr (4, [.int 0, .ref q1, .ref q2, .ref q3, .null])), (q1, .inl (G.2.1 2, 8, .inl (fun _ => 0))), (q2, .inl (G.2.1 2, 8, .inl (fun _ => 0))), (q3, .inl (G.2.1 2, 8, .inl (fun _ => 0)))])) rfl ?_
  refine y_aload_n C 0 dX0_init_28 rfl rfl ?_
  refine y_bipush C (v := 8) dX0_init_29 (by decide) ?_
  refine y_newa C (atype := .boolean) (ty := .boolean) 3 rfl (fun _ h => h) rfl we_1_79 (n := 8) (N' := 8) (a0 := (8, .inl (fun _ => 0))) (fun _ => rfl) (by decide) (by decide) (by decide) (Nat.le_of_ble_eq_true rfl) (Nat.le_of_ble_eq_true rfl) dX0_init_31 (fun q4 => ?_)
  refine y_putF C tyX0 tyX0_ok nmX0 (j := 0) (ci := 4) (i := 4) rfl rfl ttX0 (by decide) we_1_64 rfl hin rfl rfl rfl (Nat.le_of_ble_eq_true rfl) dX0_init_33 ?_
  refine y_L C (L2 := ([(a, .inr (4, [.int 0, .ref q1, .ref q2, .ref q3, .ref q4])), (q1, .inl (G.2.1 2, 8, .inl (fun _ => 0))), (q2, .inl (G.2.1 2, 8, .inl (fun _ => 0))), (q3, .inl (G.2.1 2, 8, .inl (fun _ => 0))), (q4, .inl (G.2.1 3, 8, .inl (fun _ => 0)))])) rfl ?_
  exact y_ret C rfl (⟨(fun j => [a, q1, q2, q3, q4].getD j 0), rfl, rfl⟩) dX0_init_36
set_option maxHeartbeats 4000000 in
set_option maxRecDepth 100000 in
theorem kX5 {l : Launch} {A : Nat → Prop} {G : GT} (w : va_W) (a : Nat) {W0 : va_W} (hW : W0 = w ++ [(a, .inr (9, [.int 0, .int 0, .null, .null, .null, .null, .null]))]) : KM l yX5_init cX5_init 1 1 5 50 G A [] a W0 (fun u => ∃ f, f 0 = a ∧ u = w ++ kT G f) := by
  subst hW
  refine y_body (own := "InkBank$Transfers") (ls := [(0, .ref a)]) (by decide) rfl rfl (Nat.le_of_ble_eq_true rfl) rfl ?_
  intro p e s m args below meth c C hin
  refine y_aload_n C 0 dX5_init_0 rfl rfl ?_
  refine y_obj C we_1_85 we_1_39 we_1_40 dX5_init_1 ⟨(Nat.le_of_ble_eq_true rfl), (Nat.le_of_ble_eq_true rfl)⟩ (Nat.le_of_ble_eq_true rfl) ?_
  refine y_aload_n C 0 dX5_init_4 rfl rfl ?_
  refine y_bipush C (v := 10) dX5_init_5 (by decide) ?_
  refine y_newa C (atype := .int) (ty := .int) 2 rfl (fun _ h => h) rfl we_1_78 (n := 10) (N' := 10) (a0 := (10, .inl (fun _ => 0))) (fun _ => rfl) (by decide) (by decide) (by decide) (Nat.le_of_ble_eq_true rfl) (Nat.le_of_ble_eq_true rfl) dX5_init_7 (fun q1 => ?_)
  refine y_putF C tyX5 tyX5_ok nmX5 (j := 0) (ci := 9) (i := 2) rfl rfl ttX5 (by decide) we_1_90 rfl hin rfl rfl rfl (Nat.le_of_ble_eq_true rfl) dX5_init_9 ?_
  refine y_L C (L2 := ([(a, .inr (9, [.int 0, .int 0, .ref q1, .null, .null, .null, .null])), (q1, .inl (G.2.1 2, 10, .inl (fun _ => 0)))])) rfl ?_
  refine y_aload_n C 0 dX5_init_12 rfl rfl ?_
  refine y_bipush C (v := 10) dX5_init_13 (by decide) ?_
  refine y_newa C (atype := .int) (ty := .int) 2 rfl (fun _ h => h) rfl we_1_78 (n := 10) (N' := 10) (a0 := (10, .inl (fun _ => 0))) (fun _ => rfl) (by decide) (by decide) (by decide) (Nat.le_of_ble_eq_true rfl) (Nat.le_of_ble_eq_true rfl) dX5_init_15 (fun q2 => ?_)
  refine y_putF C tyX5 tyX5_ok nmX5 (j := 0) (ci := 9) (i := 3) rfl rfl ttX5 (by decide) we_1_92 rfl hin rfl rfl rfl (Nat.le_of_ble_eq_true rfl) dX5_init_17 ?_
  refine y_L C (L2 := ([(a, .inr (9, [.int 0, .int 0, .ref q1, .ref q2, .null, .null, .null])), (q1, .inl (G.2.1 2, 10, .inl (fun _ => 0))), (q2, .inl (G.2.1 2, 10, .inl (fun _ => 0)))])) rfl ?_
  refine y_aload_n C 0 dX5_init_20 rfl rfl ?_
  refine y_bipush C (v := 10) dX5_init_21 (by decide) ?_
  refine y_newa C (atype := .int) (ty := .int) 2 rfl (fun _ h => h) rfl we_1_78 (n := 10) (N' := 10) (a0 := (10, .inl (fun _ => 0))) (fun _ => rfl) (by decide) (by decide) (by decide) (Nat.le_of_ble_eq_true rfl) (Nat.le_of_ble_eq_true rfl) dX5_init_23 (fun q3 => ?_)
  refine y_putF C tyX5 tyX5_ok nmX5 (j := 0) (ci := 9) (i := 4) rfl rfl ttX5 (by decide) we_1_95 rfl hin rfl rfl rfl (Nat.le_of_ble_eq_true rfl) dX5_init_25 ?_
  refine y_L C (L2 := ([(a, .inr (9, [.int 0, .int 0, .ref q1, .ref q2, .ref q3, .null, .null])), (q1, .inl (G.2.1 2, 10, .inl (fun _ => 0))), (q2, .inl (G.2.1 2, 10, .inl (fun _ => 0))), (q3, .inl (G.2.1 2, 10, .inl (fun _ => 0)))])) rfl ?_
  refine y_aload_n C 0 dX5_init_28 rfl rfl ?_
  refine y_bipush C (v := 10) dX5_init_29 (by decide) ?_
  refine y_newa C (atype := .int) (ty := .int) 2 rfl (fun _ h => h) rfl we_1_78 (n := 10) (N' := 10) (a0 := (10, .inl (fun _ => 0))) (fun _ => rfl) (by decide) (by decide) (by decide) (Nat.le_of_ble_eq_true rfl) (Nat.le_of_ble_eq_true rfl) dX5_init_31 (fun q4 => ?_)
  refine y_putF C tyX5 tyX5_ok nmX5 (j := 0) (ci := 9) (i := 5) rfl rfl ttX5 (by decide) we_1_98 rfl hin rfl rfl rfl (Nat.le_of_ble_eq_true rfl) dX5_init_33 ?_
  refine y_L C (L2 := ([(a, .inr (9, [.int 0, .int 0, .ref q1, .ref q2, .ref q3, .ref q4, .null])), (q1, .inl (G.2.1 2, 10, .inl (fun _ => 0))), (q2, .inl (G.2.1 2, 10, .inl (fun _ => 0))), (q3, .inl (G.2.1 2, 10, .inl (fun _ => 0))), (q4, .inl (G.2.1 2, 10, .inl (fun _ => 0)))])) rfl ?_
  refine y_aload_n C 0 dX5_init_36 rfl rfl ?_
  refine y_bipush C (v := 10) dX5_init_37 (by decide) ?_
  refine y_newa C (atype := .int) (ty := .int) 2 rfl (fun _ h => h) rfl we_1_78 (n := 10) (N' := 10) (a0 := (10, .inl (fun _ => 0))) (fun _ => rfl) (by decide) (by decide) (by decide) (Nat.le_of_ble_eq_true rfl) (Nat.le_of_ble_eq_true rfl) dX5_init_39 (fun q5 => ?_)
  refine y_putF C tyX5 tyX5_ok nmX5 (j := 0) (ci := 9) (i := 6) rfl rfl ttX5 (by decide) we_1_101 rfl hin rfl rfl rfl (Nat.le_of_ble_eq_true rfl) dX5_init_41 ?_
  refine y_L C (L2 := ([(a, .inr (9, [.int 0, .int 0, .ref q1, .ref q2, .ref q3, .ref q4, .ref q5])), (q1, .inl (G.2.1 2, 10, .inl (fun _ => 0))), (q2, .inl (G.2.1 2, 10, .inl (fun _ => 0))), (q3, .inl (G.2.1 2, 10, .inl (fun _ => 0))), (q4, .inl (G.2.1 2, 10, .inl (fun _ => 0))), (q5, .inl (G.2.1 2, 10, .inl (fun _ => 0)))])) rfl ?_
  exact y_ret C rfl (⟨(fun j => [a, q1, q2, q3, q4, q5].getD j 0), rfl, rfl⟩) dX5_init_44
set_option maxHeartbeats 4000000 in
set_option maxRecDepth 100000 in
theorem kX2 {l : Launch} {A : Nat → Prop} {G : GT} (w : va_W) (a : Nat) {W0 : va_W} (hW : W0 = w ++ [(a, .inr (6, [.int 0, .int 0, .null, .null, .null]))]) : KM l yX2_init cX2_init 1 1 3 30 G A [] a W0 (fun u => ∃ f, f 0 = a ∧ u = w ++ kJ G f) := by
  subst hW
  refine y_body (own := "InkBank$Journal") (ls := [(0, .ref a)]) (by decide) rfl rfl (Nat.le_of_ble_eq_true rfl) rfl ?_
  intro p e s m args below meth c C hin
  refine y_aload_n C 0 dX2_init_0 rfl rfl ?_
  refine y_obj C we_1_124 we_1_39 we_1_40 dX2_init_1 ⟨(Nat.le_of_ble_eq_true rfl), (Nat.le_of_ble_eq_true rfl)⟩ (Nat.le_of_ble_eq_true rfl) ?_
  refine y_aload_n C 0 dX2_init_4 rfl rfl ?_
  refine y_bipush C (v := 10) dX2_init_5 (by decide) ?_
  refine y_newa C (atype := .char) (ty := .char) 1 rfl (fun _ h => h) rfl we_1_145 (n := 10) (N' := 10) (a0 := (10, .inl (fun _ => 0))) (fun _ => rfl) (by decide) (by decide) (by decide) (Nat.le_of_ble_eq_true rfl) (Nat.le_of_ble_eq_true rfl) dX2_init_7 (fun q1 => ?_)
  refine y_putF C tyX2 tyX2_ok nmX2 (j := 0) (ci := 6) (i := 2) rfl rfl ttX2 (by decide) we_1_128 rfl hin rfl rfl rfl (Nat.le_of_ble_eq_true rfl) dX2_init_9 ?_
  refine y_L C (L2 := ([(a, .inr (6, [.int 0, .int 0, .ref q1, .null, .null])), (q1, .inl (G.2.1 1, 10, .inl (fun _ => 0)))])) rfl ?_
  refine y_aload_n C 0 dX2_init_12 rfl rfl ?_
  refine y_bipush C (v := 10) dX2_init_13 (by decide) ?_
  refine y_newa C (atype := .int) (ty := .int) 2 rfl (fun _ h => h) rfl we_1_78 (n := 10) (N' := 10) (a0 := (10, .inl (fun _ => 0))) (fun _ => rfl) (by decide) (by decide) (by decide) (Nat.le_of_ble_eq_true rfl) (Nat.le_of_ble_eq_true rfl) dX2_init_15 (fun q2 => ?_)
  refine y_putF C tyX2 tyX2_ok nmX2 (j := 0) (ci := 6) (i := 3) rfl rfl ttX2 (by decide) we_1_130 rfl hin rfl rfl rfl (Nat.le_of_ble_eq_true rfl) dX2_init_17 ?_
  refine y_L C (L2 := ([(a, .inr (6, [.int 0, .int 0, .ref q1, .ref q2, .null])), (q1, .inl (G.2.1 1, 10, .inl (fun _ => 0))), (q2, .inl (G.2.1 2, 10, .inl (fun _ => 0)))])) rfl ?_
  refine y_aload_n C 0 dX2_init_20 rfl rfl ?_
  refine y_bipush C (v := 10) dX2_init_21 (by decide) ?_
  refine y_newa C (atype := .int) (ty := .int) 2 rfl (fun _ h => h) rfl we_1_78 (n := 10) (N' := 10) (a0 := (10, .inl (fun _ => 0))) (fun _ => rfl) (by decide) (by decide) (by decide) (Nat.le_of_ble_eq_true rfl) (Nat.le_of_ble_eq_true rfl) dX2_init_23 (fun q3 => ?_)
  refine y_putF C tyX2 tyX2_ok nmX2 (j := 0) (ci := 6) (i := 4) rfl rfl ttX2 (by decide) we_1_132 rfl hin rfl rfl rfl (Nat.le_of_ble_eq_true rfl) dX2_init_25 ?_
  refine y_L C (L2 := ([(a, .inr (6, [.int 0, .int 0, .ref q1, .ref q2, .ref q3])), (q1, .inl (G.2.1 1, 10, .inl (fun _ => 0))), (q2, .inl (G.2.1 2, 10, .inl (fun _ => 0))), (q3, .inl (G.2.1 2, 10, .inl (fun _ => 0)))])) rfl ?_
  exact y_ret C rfl (⟨(fun j => [a, q1, q2, q3].getD j 0), rfl, rfl⟩) dX2_init_28
set_option maxHeartbeats 4000000 in
set_option maxRecDepth 100000 in
theorem kX3 {l : Launch} {A : Nat → Prop} {G : GT} (w : va_W) (a : Nat) {W0 : va_W} (hW : W0 = w ++ [(a, .inr (7, [.null, .null, .null, .int 0, .int 0, .int 0, .long 0, .long 0, .long 0, .long 0, .long 0]))]) : KM l yX3_init cX3_init 1 2 15 129 G A [] a W0 (fun u => ∃ f, f 0 = a ∧ u = w ++ kL G f) := by
  subst hW
  refine y_body (own := "InkBank$Ledger") (ls := [(0, .ref a)]) (by decide) rfl rfl (Nat.le_of_ble_eq_true rfl) rfl ?_
  intro p e s m args below meth c C hin
  refine y_aload_n C 0 dX3_init_0 rfl rfl ?_
  refine y_obj C we_1_46 we_1_39 we_1_40 dX3_init_1 ⟨(Nat.le_of_ble_eq_true rfl), (Nat.le_of_ble_eq_true rfl)⟩ (Nat.le_of_ble_eq_true rfl) ?_
  refine y_aload_n C 0 dX3_init_4 rfl rfl ?_
  refine y_new C (ci := 4) (fs := [.int 0, .null, .null, .null, .null]) tyX0 tyX0_ok rfl ttX0 we_1_47 we_1_48 we_1_3 (by decide) (Nat.le_of_ble_eq_true rfl) (Nat.le_of_ble_eq_true rfl) dX3_init_5 (fun q1 => ?_)
  refine y_dup C dX3_init_8 rfl ?_
  refine y_callN C (host := "InkBank") (kX0 (w ++ (([(a, .inr (7, [.null, .null, .null, .int 0, .int 0, .int 0, .long 0, .long 0, .long 0, .long 0, .long 0]))]))) q1 (by simp only [List.append_assoc])) ce_X0 we_1_50 rfl (by decide) ⟨(Nat.le_of_ble_eq_true rfl), (Nat.le_of_ble_eq_true rfl)⟩ ⟨(Nat.le_of_ble_eq_true rfl), (Nat.le_of_ble_eq_true rfl)⟩ rfl rfl (Nat.le_of_ble_eq_true rfl) dX3_init_9 (fun u hu => ?_)
  obtain ⟨gq1, hgq1, rfl⟩ := hu
  refine ⟨([(a, .inr (7, [.null, .null, .null, .int 0, .int 0, .int 0, .long 0, .long 0, .long 0, .long 0, .long 0]))]) ++ (kA G gq1), by simp only [List.append_assoc], ?_⟩
  refine y_putF C tyX3 tyX3_ok nmX3 (j := 0) (ci := 7) (i := 0) rfl rfl ttX3 (by decide) we_1_146 rfl hin rfl rfl rfl (Nat.le_of_ble_eq_true rfl) dX3_init_12 ?_
  refine y_L C (L2 := ([(a, .inr (7, [.ref q1, .null, .null, .int 0, .int 0, .int 0, .long 0, .long 0, .long 0, .long 0, .long 0]))]) ++ (kA G gq1)) rfl ?_
  refine y_aload_n C 0 dX3_init_15 rfl rfl ?_
  refine y_new C (ci := 9) (fs := [.int 0, .int 0, .null, .null, .null, .null, .null]) tyX5 tyX5_ok rfl ttX5 we_1_80 we_1_81 we_1_4 (by decide) (Nat.le_of_ble_eq_true rfl) (Nat.le_of_ble_eq_true rfl) dX3_init_16 (fun q2 => ?_)
  refine y_dup C dX3_init_19 rfl ?_
  refine y_callN C (host := "InkBank") (kX5 (w ++ (([(a, .inr (7, [.ref q1, .null, .null, .int 0, .int 0, .int 0, .long 0, .long 0, .long 0, .long 0, .long 0]))]) ++ (kA G gq1))) q2 (by simp only [List.append_assoc])) ce_X5 we_1_83 rfl (by decide) ⟨(Nat.le_of_ble_eq_true rfl), (Nat.le_of_ble_eq_true rfl)⟩ ⟨(Nat.le_of_ble_eq_true rfl), (Nat.le_of_ble_eq_true rfl)⟩ rfl rfl (Nat.le_of_ble_eq_true rfl) dX3_init_20 (fun u hu => ?_)
  obtain ⟨gq2, hgq2, rfl⟩ := hu
  refine ⟨([(a, .inr (7, [.ref q1, .null, .null, .int 0, .int 0, .int 0, .long 0, .long 0, .long 0, .long 0, .long 0]))]) ++ (kA G gq1) ++ (kT G gq2), by simp only [List.append_assoc], ?_⟩
  refine y_putF C tyX3 tyX3_ok nmX3 (j := 0) (ci := 7) (i := 1) rfl rfl ttX3 (by decide) we_1_148 rfl hin rfl rfl rfl (Nat.le_of_ble_eq_true rfl) dX3_init_23 ?_
  refine y_L C (L2 := ([(a, .inr (7, [.ref q1, .ref q2, .null, .int 0, .int 0, .int 0, .long 0, .long 0, .long 0, .long 0, .long 0]))]) ++ (kA G gq1) ++ (kT G gq2)) rfl ?_
  refine y_aload_n C 0 dX3_init_26 rfl rfl ?_
  refine y_new C (ci := 6) (fs := [.int 0, .int 0, .null, .null, .null]) tyX2 tyX2_ok rfl ttX2 we_1_119 we_1_120 we_1_5 (by decide) (Nat.le_of_ble_eq_true rfl) (Nat.le_of_ble_eq_true rfl) dX3_init_27 (fun q3 => ?_)
  refine y_dup C dX3_init_30 rfl ?_
  refine y_callN C (host := "InkBank") (kX2 (w ++ (([(a, .inr (7, [.ref q1, .ref q2, .null, .int 0, .int 0, .int 0, .long 0, .long 0, .long 0, .long 0, .long 0]))]) ++ (kA G gq1) ++ (kT G gq2))) q3 (by simp only [List.append_assoc])) ce_X2 we_1_122 rfl (by decide) ⟨(Nat.le_of_ble_eq_true rfl), (Nat.le_of_ble_eq_true rfl)⟩ ⟨(Nat.le_of_ble_eq_true rfl), (Nat.le_of_ble_eq_true rfl)⟩ rfl rfl (Nat.le_of_ble_eq_true rfl) dX3_init_31 (fun u hu => ?_)
  obtain ⟨gq3, hgq3, rfl⟩ := hu
  refine ⟨([(a, .inr (7, [.ref q1, .ref q2, .null, .int 0, .int 0, .int 0, .long 0, .long 0, .long 0, .long 0, .long 0]))]) ++ (kA G gq1) ++ (kT G gq2) ++ (kJ G gq3), by simp only [List.append_assoc], ?_⟩
  refine y_putF C tyX3 tyX3_ok nmX3 (j := 0) (ci := 7) (i := 2) rfl rfl ttX3 (by decide) we_1_150 rfl hin rfl rfl rfl (Nat.le_of_ble_eq_true rfl) dX3_init_34 ?_
  refine y_L C (L2 := ([(a, .inr (7, [.ref q1, .ref q2, .ref q3, .int 0, .int 0, .int 0, .long 0, .long 0, .long 0, .long 0, .long 0]))]) ++ (kA G gq1) ++ (kT G gq2) ++ (kJ G gq3)) rfl ?_
  exact y_ret C rfl (⟨(fun j => [a, gq1 0, gq1 1, gq1 2, gq1 3, gq1 4, gq2 0, gq2 1, gq2 2, gq2 3, gq2 4, gq2 5, gq3 0, gq3 1, gq3 2, gq3 3].getD j 0), rfl, by subst hgq1; subst hgq2; subst hgq3; rfl⟩) dX3_init_37
set_option maxHeartbeats 4000000 in
set_option maxRecDepth 100000 in
theorem kX4 {l : Launch} {A : Nat → Prop} {G : GT} (w : va_W) (a : Nat) {W0 : va_W} (hW : W0 = w ++ [(a, .inr (8, [.null, .int 0, .int 0, .int 0, .null]))]) : KM l yX4_init cX4_init 1 1 2 64 G A [] a W0 (fun u => ∃ f, f 0 = a ∧ u = w ++ kR G f) := by
  subst hW
  refine y_body (own := "InkBank$Reader") (ls := [(0, .ref a)]) (by decide) rfl rfl (Nat.le_of_ble_eq_true rfl) rfl ?_
  intro p e s m args below meth c C hin
  refine y_aload_n C 0 dX4_init_0 rfl rfl ?_
  refine y_obj C we_1_216 we_1_39 we_1_40 dX4_init_1 ⟨(Nat.le_of_ble_eq_true rfl), (Nat.le_of_ble_eq_true rfl)⟩ (Nat.le_of_ble_eq_true rfl) ?_
  refine y_aload_n C 0 dX4_init_4 rfl rfl ?_
  refine y_bipush C (v := 60) dX4_init_5 (by decide) ?_
  refine y_newa C (atype := .char) (ty := .char) 1 rfl (fun _ h => h) rfl we_1_145 (n := 60) (N' := 60) (a0 := (60, .inl (fun _ => 0))) (fun _ => rfl) (by decide) (by decide) (by decide) (Nat.le_of_ble_eq_true rfl) (Nat.le_of_ble_eq_true rfl) dX4_init_7 (fun q1 => ?_)
  refine y_putF C tyX4 tyX4_ok nmX4 (j := 0) (ci := 8) (i := 0) rfl rfl ttX4 (by decide) we_1_217 rfl hin rfl rfl rfl (Nat.le_of_ble_eq_true rfl) dX4_init_9 ?_
  refine y_L C (L2 := ([(a, .inr (8, [.ref q1, .int 0, .int 0, .int 0, .null])), (q1, .inl (G.2.1 1, 60, .inl (fun _ => 0)))])) rfl ?_
  refine y_aload_n C 0 dX4_init_12 rfl rfl ?_
  refine y_iconst C (v := 4) dX4_init_13 (by decide) ?_
  refine y_newa C (atype := .int) (ty := .int) 2 rfl (fun _ h => h) rfl we_1_78 (n := 4) (N' := 4) (a0 := (4, .inl (fun _ => 0))) (fun _ => rfl) (by decide) (by decide) (by decide) (Nat.le_of_ble_eq_true rfl) (Nat.le_of_ble_eq_true rfl) dX4_init_14 (fun q2 => ?_)
  refine y_putF C tyX4 tyX4_ok nmX4 (j := 0) (ci := 8) (i := 4) rfl rfl ttX4 (by decide) we_1_224 rfl hin rfl rfl rfl (Nat.le_of_ble_eq_true rfl) dX4_init_16 ?_
  refine y_L C (L2 := ([(a, .inr (8, [.ref q1, .int 0, .int 0, .int 0, .ref q2])), (q1, .inl (G.2.1 1, 60, .inl (fun _ => 0))), (q2, .inl (G.2.1 2, 4, .inl (fun _ => 0)))])) rfl ?_
  exact y_ret C rfl (⟨(fun j => [a, q1, q2].getD j 0), rfl, rfl⟩) dX4_init_19
