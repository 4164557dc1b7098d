theorem wd_1_1 : (Jvm.Cond.initialized "InkBank") ∈ TT := tt_1 (List.mem_of_getElem? (i := 1) rfl) rfl
theorem wd_1_2 : (Jvm.Cond.initialized "InkBank$Ledger") ∈ TT := tt_1 (List.mem_of_getElem? (i := 2) rfl) rfl
theorem wd_1_7 : (Jvm.Cond.initialized "InkBank$Reader") ∈ TT := tt_1 (List.mem_of_getElem? (i := 7) rfl) rfl
theorem wd_1_10 : (Jvm.Cond.initialized "java/lang/String") ∈ TT := tt_1 (List.mem_of_getElem? (i := 10) rfl) rfl
theorem wd_1_12 : (Jvm.Cond.initialized "InkBankModel") ∈ TT := tt_1 (List.mem_of_getElem? (i := 12) rfl) rfl
theorem wd_1_21 : (Jvm.Cond.initialized "java/lang/Math") ∈ TT := tt_1 (List.mem_of_getElem? (i := 21) rfl) rfl
theorem wd_1_28 : (Jvm.Cond.initialized "jdk/internal/util/Preconditions") ∈ TT := tt_1 (List.mem_of_getElem? (i := 28) rfl) rfl
theorem wd_1_29 : (Jvm.Cond.initialized "java/lang/StringLatin1") ∈ TT := tt_1 (List.mem_of_getElem? (i := 29) rfl) rfl
theorem wd_2_149 : (Jvm.Cond.static ({ cls := "InkBank", name := "isIn", desc := "(III)Z" } : Jvm.MethodName)) ∈ TT := tt_2 (List.mem_of_getElem? (i := 149) rfl) rfl
theorem wd_2_150 : (Jvm.Cond.code ({ cls := "InkBank", name := "isIn", desc := "(III)Z" } : Jvm.MethodName) prog_1_method_55_code (3 : Nat) (Option.some Jvm.ClassFile.FieldType.boolean)) ∈ TT := tt_2 (List.mem_of_getElem? (i := 150) rfl) rfl
theorem wd_2_153 : (Jvm.Cond.code ({ cls := "InkBank", name := "raise", desc := "(I)V" } : Jvm.MethodName) prog_1_method_50_code (1 : Nat) (Option.none : Option Jvm.ClassFile.FieldType)) ∈ TT := tt_2 (List.mem_of_getElem? (i := 153) rfl) rfl
theorem wd_3_49 : (Jvm.Cond.code ({ cls := "java/lang/Math", name := "floorMod", desc := "(II)I" } : Jvm.MethodName) prog_24_method_50_code (3 : Nat) (Option.some Jvm.ClassFile.FieldType.int)) ∈ TT := tt_3 (List.mem_of_getElem? (i := 49) rfl) rfl
theorem wd_3_52 : (Jvm.Cond.static ({ cls := "java/lang/Math", name := "min", desc := "(II)I" } : Jvm.MethodName)) ∈ TT := tt_3 (List.mem_of_getElem? (i := 52) rfl) rfl
theorem wd_3_53 : (Jvm.Cond.code ({ cls := "java/lang/Math", name := "min", desc := "(II)I" } : Jvm.MethodName) prog_24_method_69_code (2 : Nat) (Option.some Jvm.ClassFile.FieldType.int)) ∈ TT := tt_3 (List.mem_of_getElem? (i := 53) rfl) rfl
theorem wd_3_101 : (Jvm.Cond.methodLink "InkBank$Ledger" (75 : Nat) ({ cls := "InkBank$Ledger", name := "argumentFault", desc := "(IIII)I" } : Jvm.MethodName)) ∈ TT := tt_3 (List.mem_of_getElem? (i := 101) rfl) rfl
theorem wd_3_161 : (Jvm.Cond.methodLink "InkBank" (102 : Nat) ({ cls := "InkBank", name := "requireAccount", desc := "(I)V" } : Jvm.MethodName)) ∈ TT := tt_3 (List.mem_of_getElem? (i := 161) rfl) rfl
theorem wd_3_211 : (Jvm.Cond.static ({ cls := "java/lang/Math", name := "max", desc := "(II)I" } : Jvm.MethodName)) ∈ TT := tt_3 (List.mem_of_getElem? (i := 211) rfl) rfl
theorem wd_3_212 : (Jvm.Cond.code ({ cls := "java/lang/Math", name := "max", desc := "(II)I" } : Jvm.MethodName) prog_24_method_65_code (2 : Nat) (Option.some Jvm.ClassFile.FieldType.int)) ∈ TT := tt_3 (List.mem_of_getElem? (i := 212) rfl) rfl
theorem wd_4_25 : (Jvm.Cond.instanceMethod ({ cls := "InkBank$Ledger", name := "endDaysFault", desc := "(I)I" } : Jvm.MethodName)) ∈ TT := tt_4 (List.mem_of_getElem? (i := 25) rfl) rfl
theorem wd_4_26 : (Jvm.Cond.selects "InkBank$Ledger" ({ cls := "InkBank$Ledger", name := "endDaysFault", desc := "(I)I" } : Jvm.MethodName) ({ cls := "InkBank$Ledger", name := "endDaysFault", desc := "(I)I" } : Jvm.MethodName)) ∈ TT := tt_4 (List.mem_of_getElem? (i := 26) rfl) rfl
theorem wd_4_27 : (Jvm.Cond.code ({ cls := "InkBank$Ledger", name := "endDaysFault", desc := "(I)I" } : Jvm.MethodName) prog_5_method_12_code (2 : Nat) (Option.some Jvm.ClassFile.FieldType.int)) ∈ TT := tt_4 (List.mem_of_getElem? (i := 27) rfl) rfl
theorem wd_4_32 : (Jvm.Cond.methodLink "InkBank$Ledger" (106 : Nat) ({ cls := "InkBank$Ledger", name := "settleDue", desc := "()I" } : Jvm.MethodName)) ∈ TT := tt_4 (List.mem_of_getElem? (i := 32) rfl) rfl
theorem wd_4_126 : (Jvm.Cond.methodLink "InkBank" (203 : Nat) ({ cls := "InkBank", name := "requireTransfer", desc := "(I)I" } : Jvm.MethodName)) ∈ TT := tt_4 (List.mem_of_getElem? (i := 126) rfl) rfl
theorem wd_5_67 : (Jvm.Cond.fieldLink "java/lang/String" (1053 : Nat) "jdk/internal/util/Preconditions" "SIOOBE_FORMATTER" "Ljava/util/function/BiFunction;") ∈ TT := tt_5 (List.mem_of_getElem? (i := 67) rfl) rfl
theorem wd_5_82 : (Jvm.Cond.instanceMethod ({ cls := "java/lang/String", name := "length", desc := "()I" } : Jvm.MethodName)) ∈ TT := tt_5 (List.mem_of_getElem? (i := 82) rfl) rfl
theorem wd_5_83 : (Jvm.Cond.selects "java/lang/String" ({ cls := "java/lang/String", name := "length", desc := "()I" } : Jvm.MethodName) ({ cls := "java/lang/String", name := "length", desc := "()I" } : Jvm.MethodName)) ∈ TT := tt_5 (List.mem_of_getElem? (i := 83) rfl) rfl
theorem wd_5_84 : (Jvm.Cond.code ({ cls := "java/lang/String", name := "length", desc := "()I" } : Jvm.MethodName) prog_27_method_54_code (1 : Nat) (Option.some Jvm.ClassFile.FieldType.int)) ∈ TT := tt_5 (List.mem_of_getElem? (i := 84) rfl) rfl
theorem wd_5_85 : (Jvm.Cond.methodLink "java/lang/String" (335 : Nat) ({ cls := "java/lang/String", name := "coder", desc := "()B" } : Jvm.MethodName)) ∈ TT := tt_5 (List.mem_of_getElem? (i := 85) rfl) rfl
theorem wd_5_86 : (Jvm.Cond.instanceMethod ({ cls := "java/lang/String", name := "coder", desc := "()B" } : Jvm.MethodName)) ∈ TT := tt_5 (List.mem_of_getElem? (i := 86) rfl) rfl
theorem wd_5_87 : (Jvm.Cond.selects "java/lang/String" ({ cls := "java/lang/String", name := "coder", desc := "()B" } : Jvm.MethodName) ({ cls := "java/lang/String", name := "coder", desc := "()B" } : Jvm.MethodName)) ∈ TT := tt_5 (List.mem_of_getElem? (i := 87) rfl) rfl
theorem wd_5_88 : (Jvm.Cond.code ({ cls := "java/lang/String", name := "coder", desc := "()B" } : Jvm.MethodName) prog_27_method_152_code (1 : Nat) (Option.some Jvm.ClassFile.FieldType.byte)) ∈ TT := tt_5 (List.mem_of_getElem? (i := 88) rfl) rfl
theorem wd_5_89 : (Jvm.Cond.fieldLink "java/lang/String" (38 : Nat) "java/lang/String" "COMPACT_STRINGS" "Z") ∈ TT := tt_5 (List.mem_of_getElem? (i := 89) rfl) rfl
theorem wd_5_208 : (Jvm.Cond.fieldLink "java/lang/String" (9 : Nat) "java/lang/String" "value" "[B") ∈ TT := tt_5 (List.mem_of_getElem? (i := 208) rfl) rfl
theorem wd_5_209 : (Jvm.Cond.fieldLink "java/lang/String" (15 : Nat) "java/lang/String" "coder" "B") ∈ TT := tt_5 (List.mem_of_getElem? (i := 209) rfl) rfl
theorem wd_6_11 : (Jvm.Cond.instanceMethod ({ cls := "java/lang/String", name := "charAt", desc := "(I)C" } : Jvm.MethodName)) ∈ TT := tt_6 (List.mem_of_getElem? (i := 11) rfl) rfl
theorem wd_6_12 : (Jvm.Cond.selects "java/lang/String" ({ cls := "java/lang/String", name := "charAt", desc := "(I)C" } : Jvm.MethodName) ({ cls := "java/lang/String", name := "charAt", desc := "(I)C" } : Jvm.MethodName)) ∈ TT := tt_6 (List.mem_of_getElem? (i := 12) rfl) rfl
theorem wd_6_13 : (Jvm.Cond.code ({ cls := "java/lang/String", name := "charAt", desc := "(I)C" } : Jvm.MethodName) prog_27_method_56_code (2 : Nat) (Option.some Jvm.ClassFile.FieldType.char)) ∈ TT := tt_6 (List.mem_of_getElem? (i := 13) rfl) rfl
theorem wd_6_14 : (Jvm.Cond.methodLink "java/lang/String" (492 : Nat) ({ cls := "java/lang/String", name := "isLatin1", desc := "()Z" } : Jvm.MethodName)) ∈ TT := tt_6 (List.mem_of_getElem? (i := 14) rfl) rfl
theorem wd_6_15 : (Jvm.Cond.instanceMethod ({ cls := "java/lang/String", name := "isLatin1", desc := "()Z" } : Jvm.MethodName)) ∈ TT := tt_6 (List.mem_of_getElem? (i := 15) rfl) rfl
theorem wd_6_16 : (Jvm.Cond.selects "java/lang/String" ({ cls := "java/lang/String", name := "isLatin1", desc := "()Z" } : Jvm.MethodName) ({ cls := "java/lang/String", name := "isLatin1", desc := "()Z" } : Jvm.MethodName)) ∈ TT := tt_6 (List.mem_of_getElem? (i := 16) rfl) rfl
theorem wd_6_17 : (Jvm.Cond.code ({ cls := "java/lang/String", name := "isLatin1", desc := "()Z" } : Jvm.MethodName) prog_27_method_154_code (1 : Nat) (Option.some Jvm.ClassFile.FieldType.boolean)) ∈ TT := tt_6 (List.mem_of_getElem? (i := 17) rfl) rfl
theorem wd_6_18 : (Jvm.Cond.methodLink "java/lang/String" (495 : Nat) ({ cls := "java/lang/StringLatin1", name := "charAt", desc := "([BI)C" } : Jvm.MethodName)) ∈ TT := tt_6 (List.mem_of_getElem? (i := 18) rfl) rfl
theorem wd_6_19 : (Jvm.Cond.static ({ cls := "java/lang/StringLatin1", name := "charAt", desc := "([BI)C" } : Jvm.MethodName)) ∈ TT := tt_6 (List.mem_of_getElem? (i := 19) rfl) rfl
theorem wd_6_20 : (Jvm.Cond.code ({ cls := "java/lang/StringLatin1", name := "charAt", desc := "([BI)C" } : Jvm.MethodName) prog_30_method_2_code (2 : Nat) (Option.some Jvm.ClassFile.FieldType.char)) ∈ TT := tt_6 (List.mem_of_getElem? (i := 20) rfl) rfl
theorem wd_6_21 : (Jvm.Cond.methodLink "java/lang/StringLatin1" (9 : Nat) ({ cls := "java/lang/String", name := "checkIndex", desc := "(II)V" } : Jvm.MethodName)) ∈ TT := tt_6 (List.mem_of_getElem? (i := 21) rfl) rfl
theorem wd_6_22 : (Jvm.Cond.static ({ cls := "java/lang/String", name := "checkIndex", desc := "(II)V" } : Jvm.MethodName)) ∈ TT := tt_6 (List.mem_of_getElem? (i := 22) rfl) rfl
theorem wd_6_23 : (Jvm.Cond.code ({ cls := "java/lang/String", name := "checkIndex", desc := "(II)V" } : Jvm.MethodName) prog_27_method_155_code (2 : Nat) (Option.none : Option Jvm.ClassFile.FieldType)) ∈ TT := tt_6 (List.mem_of_getElem? (i := 23) rfl) rfl
theorem wd_6_24 : (Jvm.Cond.methodLink "java/lang/String" (1059 : Nat) ({ cls := "jdk/internal/util/Preconditions", name := "checkIndex", desc := "(IILjava/util/function/BiFunction;)I" } : Jvm.MethodName)) ∈ TT := tt_6 (List.mem_of_getElem? (i := 24) rfl) rfl
theorem wd_6_25 : (Jvm.Cond.static ({ cls := "jdk/internal/util/Preconditions", name := "checkIndex", desc := "(IILjava/util/function/BiFunction;)I" } : Jvm.MethodName)) ∈ TT := tt_6 (List.mem_of_getElem? (i := 25) rfl) rfl
theorem wd_6_26 : (Jvm.Cond.code ({ cls := "jdk/internal/util/Preconditions", name := "checkIndex", desc := "(IILjava/util/function/BiFunction;)I" } : Jvm.MethodName) prog_40_method_11_code (3 : Nat) (Option.some Jvm.ClassFile.FieldType.int)) ∈ TT := tt_6 (List.mem_of_getElem? (i := 26) rfl) rfl
theorem wd_6_88 : (Jvm.Cond.methodLink "InkBank$Reader" (26 : Nat) ({ cls := "InkBank$Reader", name := "readCommand", desc := "()Z" } : Jvm.MethodName)) ∈ TT := tt_6 (List.mem_of_getElem? (i := 88) rfl) rfl
theorem wd_6_94 : (Jvm.Cond.instanceMethod ({ cls := "java/lang/String", name := "indexOf", desc := "(I)I" } : Jvm.MethodName)) ∈ TT := tt_6 (List.mem_of_getElem? (i := 94) rfl) rfl
theorem wd_6_95 : (Jvm.Cond.selects "java/lang/String" ({ cls := "java/lang/String", name := "indexOf", desc := "(I)I" } : Jvm.MethodName) ({ cls := "java/lang/String", name := "indexOf", desc := "(I)I" } : Jvm.MethodName)) ∈ TT := tt_6 (List.mem_of_getElem? (i := 95) rfl) rfl
theorem wd_6_96 : (Jvm.Cond.code ({ cls := "java/lang/String", name := "indexOf", desc := "(I)I" } : Jvm.MethodName) prog_27_method_79_code (2 : Nat) (Option.some Jvm.ClassFile.FieldType.int)) ∈ TT := tt_6 (List.mem_of_getElem? (i := 96) rfl) rfl
theorem wd_6_97 : (Jvm.Cond.methodLink "java/lang/String" (633 : Nat) ({ cls := "java/lang/String", name := "indexOf", desc := "(II)I" } : Jvm.MethodName)) ∈ TT := tt_6 (List.mem_of_getElem? (i := 97) rfl) rfl
theorem wd_6_98 : (Jvm.Cond.instanceMethod ({ cls := "java/lang/String", name := "indexOf", desc := "(II)I" } : Jvm.MethodName)) ∈ TT := tt_6 (List.mem_of_getElem? (i := 98) rfl) rfl
theorem wd_6_99 : (Jvm.Cond.selects "java/lang/String" ({ cls := "java/lang/String", name := "indexOf", desc := "(II)I" } : Jvm.MethodName) ({ cls := "java/lang/String", name := "indexOf", desc := "(II)I" } : Jvm.MethodName)) ∈ TT := tt_6 (List.mem_of_getElem? (i := 99) rfl) rfl
theorem wd_6_100 : (Jvm.Cond.code ({ cls := "java/lang/String", name := "indexOf", desc := "(II)I" } : Jvm.MethodName) prog_27_method_80_code (3 : Nat) (Option.some Jvm.ClassFile.FieldType.int)) ∈ TT := tt_6 (List.mem_of_getElem? (i := 100) rfl) rfl
theorem wd_6_101 : (Jvm.Cond.methodLink "java/lang/String" (505 : Nat) ({ cls := "java/lang/String", name := "length", desc := "()I" } : Jvm.MethodName)) ∈ TT := tt_6 (List.mem_of_getElem? (i := 101) rfl) rfl
theorem wd_6_102 : (Jvm.Cond.methodLink "java/lang/String" (637 : Nat) ({ cls := "java/lang/StringLatin1", name := "indexOf", desc := "([BIII)I" } : Jvm.MethodName)) ∈ TT := tt_6 (List.mem_of_getElem? (i := 102) rfl) rfl
theorem wd_6_103 : (Jvm.Cond.static ({ cls := "java/lang/StringLatin1", name := "indexOf", desc := "([BIII)I" } : Jvm.MethodName)) ∈ TT := tt_6 (List.mem_of_getElem? (i := 103) rfl) rfl
theorem wd_6_104 : (Jvm.Cond.code ({ cls := "java/lang/StringLatin1", name := "indexOf", desc := "([BIII)I" } : Jvm.MethodName) prog_30_method_22_code (4 : Nat) (Option.some Jvm.ClassFile.FieldType.int)) ∈ TT := tt_6 (List.mem_of_getElem? (i := 104) rfl) rfl
theorem wd_6_105 : (Jvm.Cond.methodLink "java/lang/StringLatin1" (88 : Nat) ({ cls := "java/lang/StringLatin1", name := "canEncode", desc := "(I)Z" } : Jvm.MethodName)) ∈ TT := tt_6 (List.mem_of_getElem? (i := 105) rfl) rfl
theorem wd_6_106 : (Jvm.Cond.static ({ cls := "java/lang/StringLatin1", name := "canEncode", desc := "(I)Z" } : Jvm.MethodName)) ∈ TT := tt_6 (List.mem_of_getElem? (i := 106) rfl) rfl
theorem wd_6_107 : (Jvm.Cond.code ({ cls := "java/lang/StringLatin1", name := "canEncode", desc := "(I)Z" } : Jvm.MethodName) prog_30_method_4_code (1 : Nat) (Option.some Jvm.ClassFile.FieldType.boolean)) ∈ TT := tt_6 (List.mem_of_getElem? (i := 107) rfl) rfl
theorem wd_6_108 : (Jvm.Cond.methodLink "java/lang/StringLatin1" (92 : Nat) ({ cls := "java/lang/Math", name := "max", desc := "(II)I" } : Jvm.MethodName)) ∈ TT := tt_6 (List.mem_of_getElem? (i := 108) rfl) rfl
theorem wd_6_109 : (Jvm.Cond.methodLink "java/lang/StringLatin1" (38 : Nat) ({ cls := "java/lang/Math", name := "min", desc := "(II)I" } : Jvm.MethodName)) ∈ TT := tt_6 (List.mem_of_getElem? (i := 109) rfl) rfl
theorem wd_6_110 : (Jvm.Cond.methodLink "java/lang/StringLatin1" (95 : Nat) ({ cls := "java/lang/StringLatin1", name := "indexOfChar", desc := "([BIII)I" } : Jvm.MethodName)) ∈ TT := tt_6 (List.mem_of_getElem? (i := 110) rfl) rfl
theorem wd_6_111 : (Jvm.Cond.static ({ cls := "java/lang/StringLatin1", name := "indexOfChar", desc := "([BIII)I" } : Jvm.MethodName)) ∈ TT := tt_6 (List.mem_of_getElem? (i := 111) rfl) rfl
theorem wd_6_112 : (Jvm.Cond.code ({ cls := "java/lang/StringLatin1", name := "indexOfChar", desc := "([BIII)I" } : Jvm.MethodName) prog_30_method_23_code (6 : Nat) (Option.some Jvm.ClassFile.FieldType.int)) ∈ TT := tt_6 (List.mem_of_getElem? (i := 112) rfl) rfl
theorem wd_6_141 : (Jvm.Cond.code ({ cls := "InkBank$Reader", name := "formOf", desc := "(I)Ljava/lang/String;" } : Jvm.MethodName) prog_6_method_5_code (1 : Nat) (Option.some (Jvm.ClassFile.FieldType.object "java/lang/String"))) ∈ TT := tt_6 (List.mem_of_getElem? (i := 141) rfl) rfl
theorem wd_6_159 : (Jvm.Cond.methodLink "InkBank$Reader" (76 : Nat) ({ cls := "InkBank$Reader", name := "isDigitHere", desc := "()Z" } : Jvm.MethodName)) ∈ TT := tt_6 (List.mem_of_getElem? (i := 159) rfl) rfl
theorem wd_6_165 : (Jvm.Cond.instanceMethod ({ cls := "java/lang/String", name := "isEmpty", desc := "()Z" } : Jvm.MethodName)) ∈ TT := tt_6 (List.mem_of_getElem? (i := 165) rfl) rfl
theorem wd_6_166 : (Jvm.Cond.selects "java/lang/String" ({ cls := "java/lang/String", name := "isEmpty", desc := "()Z" } : Jvm.MethodName) ({ cls := "java/lang/String", name := "isEmpty", desc := "()Z" } : Jvm.MethodName)) ∈ TT := tt_6 (List.mem_of_getElem? (i := 166) rfl) rfl
theorem wd_6_167 : (Jvm.Cond.code ({ cls := "java/lang/String", name := "isEmpty", desc := "()Z" } : Jvm.MethodName) prog_27_method_55_code (1 : Nat) (Option.some Jvm.ClassFile.FieldType.boolean)) ∈ TT := tt_6 (List.mem_of_getElem? (i := 167) rfl) rfl
theorem wd_6_173 : (Jvm.Cond.methodLink "InkBank$Ledger" (152 : Nat) ({ cls := "InkBank$Ledger", name := "faultOf", desc := "(I[I)I" } : Jvm.MethodName)) ∈ TT := tt_6 (List.mem_of_getElem? (i := 173) rfl) rfl
theorem wd_7_59 : (Jvm.Cond.methodLink "InkBankModel" (61 : Nat) ({ cls := "InkBankModel", name := "goes", desc := "(Z)Z" } : Jvm.MethodName)) ∈ TT := tt_7 (List.mem_of_getElem? (i := 59) rfl) rfl
theorem wd_7_63 : (Jvm.Cond.methodLink "InkBankModel" (47 : Nat) ({ cls := "InkBankModel", name := "holds", desc := "(ZZZZ)Z" } : Jvm.MethodName)) ∈ TT := tt_7 (List.mem_of_getElem? (i := 63) rfl) rfl
theorem wd_7_82 : (Jvm.Cond.methodLink "InkBankModel" (87 : Nat) ({ cls := "InkBankModel", name := "begins", desc := "()V" } : Jvm.MethodName)) ∈ TT := tt_7 (List.mem_of_getElem? (i := 82) rfl) rfl
theorem wd_7_90 : (Jvm.Cond.methodLink "InkBankModel" (69 : Nat) ({ cls := "InkBankModel", name := "isIn", desc := "(III)Z" } : Jvm.MethodName)) ∈ TT := tt_7 (List.mem_of_getElem? (i := 90) rfl) rfl
theorem wd_7_91 : (Jvm.Cond.static ({ cls := "InkBankModel", name := "isIn", desc := "(III)Z" } : Jvm.MethodName)) ∈ TT := tt_7 (List.mem_of_getElem? (i := 91) rfl) rfl
theorem wd_7_92 : (Jvm.Cond.code ({ cls := "InkBankModel", name := "isIn", desc := "(III)Z" } : Jvm.MethodName) prog_9_method_3_code (3 : Nat) (Option.some Jvm.ClassFile.FieldType.boolean)) ∈ TT := tt_7 (List.mem_of_getElem? (i := 92) rfl) rfl
theorem wd_7_95 : (Jvm.Cond.code ({ cls := "InkBankModel", name := "accountAt", desc := "(I)I" } : Jvm.MethodName) prog_9_method_14_code (1 : Nat) (Option.some Jvm.ClassFile.FieldType.int)) ∈ TT := tt_7 (List.mem_of_getElem? (i := 95) rfl) rfl
theorem wd_7_112 : (Jvm.Cond.methodLink "InkBankModel" (96 : Nat) ({ cls := "InkBankModel", name := "isAmount", desc := "(I)Z" } : Jvm.MethodName)) ∈ TT := tt_7 (List.mem_of_getElem? (i := 112) rfl) rfl
theorem wd_7_113 : (Jvm.Cond.static ({ cls := "InkBankModel", name := "isAmount", desc := "(I)Z" } : Jvm.MethodName)) ∈ TT := tt_7 (List.mem_of_getElem? (i := 113) rfl) rfl
theorem wd_7_114 : (Jvm.Cond.code ({ cls := "InkBankModel", name := "isAmount", desc := "(I)Z" } : Jvm.MethodName) prog_9_method_16_code (1 : Nat) (Option.some Jvm.ClassFile.FieldType.boolean)) ∈ TT := tt_7 (List.mem_of_getElem? (i := 114) rfl) rfl
theorem wd_7_115 : (Jvm.Cond.methodLink "InkBankModel" (73 : Nat) ({ cls := "InkBankModel", name := "isAccount", desc := "(I)Z" } : Jvm.MethodName)) ∈ TT := tt_7 (List.mem_of_getElem? (i := 115) rfl) rfl
theorem wd_7_119 : (Jvm.Cond.methodLink "InkBankModel" (99 : Nat) ({ cls := "InkBankModel", name := "of", desc := "(II)I" } : Jvm.MethodName)) ∈ TT := tt_7 (List.mem_of_getElem? (i := 119) rfl) rfl
theorem wd_7_123 : (Jvm.Cond.methodLink "InkBankModel" (102 : Nat) ({ cls := "InkBankModel", name := "changes", desc := "(II)V" } : Jvm.MethodName)) ∈ TT := tt_7 (List.mem_of_getElem? (i := 123) rfl) rfl
theorem wd_7_164 : (Jvm.Cond.methodLink "InkBankModel" (123 : Nat) ({ cls := "InkBankModel", name := "find", desc := "(I)I" } : Jvm.MethodName)) ∈ TT := tt_7 (List.mem_of_getElem? (i := 164) rfl) rfl
theorem wd_7_168 : (Jvm.Cond.methodLink "InkBankModel" (126 : Nat) ({ cls := "InkBankModel", name := "ofPlace", desc := "(II)I" } : Jvm.MethodName)) ∈ TT := tt_7 (List.mem_of_getElem? (i := 168) rfl) rfl
theorem wd_7_204 : (Jvm.Cond.methodLink "InkBankModel" (148 : Nat) ({ cls := "InkBankModel", name := "earns", desc := "(I)I" } : Jvm.MethodName)) ∈ TT := tt_7 (List.mem_of_getElem? (i := 204) rfl) rfl
theorem wd_7_217 : (Jvm.Cond.methodLink "InkBankModel" (164 : Nat) ({ cls := "InkBankModel", name := "asks", desc := "(II)I" } : Jvm.MethodName)) ∈ TT := tt_7 (List.mem_of_getElem? (i := 217) rfl) rfl
theorem wd_8_9 : (Jvm.Cond.methodLink "InkBankModel" (167 : Nat) ({ cls := "InkBankModel", name := "balances", desc := "()J" } : Jvm.MethodName)) ∈ TT := tt_8 (List.mem_of_getElem? (i := 9) rfl) rfl
theorem wd_8_57 : (Jvm.Cond.methodLink "InkBankModel" (171 : Nat) ({ cls := "InkBankModel", name := "asksTransfer", desc := "(II)I" } : Jvm.MethodName)) ∈ TT := tt_8 (List.mem_of_getElem? (i := 57) rfl) rfl
theorem wd_8_85 : (Jvm.Cond.methodLink "InkBankModel" (174 : Nat) ({ cls := "InkBankModel", name := "net", desc := "(I)I" } : Jvm.MethodName)) ∈ TT := tt_8 (List.mem_of_getElem? (i := 85) rfl) rfl
theorem wd_8_105 : (Jvm.Cond.methodLink "InkBankModel" (177 : Nat) ({ cls := "InkBankModel", name := "written", desc := "(II)I" } : Jvm.MethodName)) ∈ TT := tt_8 (List.mem_of_getElem? (i := 105) rfl) rfl
theorem wd_8_123 : (Jvm.Cond.code ({ cls := "InkBankModel", name := "letterFor", desc := "(I)I" } : Jvm.MethodName) prog_9_method_81_code (1 : Nat) (Option.some Jvm.ClassFile.FieldType.int)) ∈ TT := tt_8 (List.mem_of_getElem? (i := 123) rfl) rfl
theorem wd_8_124 : (Jvm.Cond.methodLink "InkBankModel" (180 : Nat) ({ cls := "InkBankModel", name := "put", desc := "(II)I" } : Jvm.MethodName)) ∈ TT := tt_8 (List.mem_of_getElem? (i := 124) rfl) rfl
theorem wd_8_132 : (Jvm.Cond.methodLink "InkBankModel" (183 : Nat) ({ cls := "java/lang/Math", name := "abs", desc := "(I)I" } : Jvm.MethodName)) ∈ TT := tt_8 (List.mem_of_getElem? (i := 132) rfl) rfl
theorem wd_8_133 : (Jvm.Cond.static ({ cls := "java/lang/Math", name := "abs", desc := "(I)I" } : Jvm.MethodName)) ∈ TT := tt_8 (List.mem_of_getElem? (i := 133) rfl) rfl
theorem wd_8_134 : (Jvm.Cond.code ({ cls := "java/lang/Math", name := "abs", desc := "(I)I" } : Jvm.MethodName) prog_24_method_59_code (1 : Nat) (Option.some Jvm.ClassFile.FieldType.int)) ∈ TT := tt_8 (List.mem_of_getElem? (i := 134) rfl) rfl
theorem wd_8_147 : (Jvm.Cond.methodLink "InkBankModel" (242 : Nat) ({ cls := "InkBankModel", name := "readsAll", desc := "()V" } : Jvm.MethodName)) ∈ TT := tt_8 (List.mem_of_getElem? (i := 147) rfl) rfl
theorem wd_8_161 : (Jvm.Cond.code ({ cls := "InkBankModel", name := "startOf", desc := "(I)I" } : Jvm.MethodName) prog_9_method_90_code (1 : Nat) (Option.some Jvm.ClassFile.FieldType.int)) ∈ TT := tt_8 (List.mem_of_getElem? (i := 161) rfl) rfl
theorem wd_8_164 : (Jvm.Cond.methodLink "InkBankModel" (213 : Nat) ({ cls := "InkBankModel", name := "digit", desc := "()I" } : Jvm.MethodName)) ∈ TT := tt_8 (List.mem_of_getElem? (i := 164) rfl) rfl
theorem wd_8_168 : (Jvm.Cond.methodLink "InkBankModel" (210 : Nat) ({ cls := "InkBankModel", name := "reads", desc := "(II)I" } : Jvm.MethodName)) ∈ TT := tt_8 (List.mem_of_getElem? (i := 168) rfl) rfl
theorem cd_J0_charAt_5068e : Card yJ0_charAt_5068e cJ0_charAt_5068e 2 (some .char) 1 := ⟨wd_6_13, wd_1_10, by decide, by decide, by decide +kernel⟩
theorem cv_J0_charAt_5068e : CardV yJ0_charAt_5068e := ⟨wd_6_11, wd_6_12⟩
theorem cd_J0_checkIndex_df160 : Card yJ0_checkIndex_df160 cJ0_checkIndex_df160 2 none 2 := ⟨wd_6_23, wd_1_10, by decide, by decide, by decide +kernel⟩
theorem cd_J0_coder_7d493 : Card yJ0_coder_7d493 cJ0_coder_7d493 1 (some .byte) 0 := ⟨wd_5_88, wd_1_10, by decide, by decide, by decide +kernel⟩
theorem cv_J0_coder_7d493 : CardV yJ0_coder_7d493 := ⟨wd_5_86, wd_5_87⟩
theorem cd_J0_indexOf_0f7a4 : Card yJ0_indexOf_0f7a4 cJ0_indexOf_0f7a4 2 (some .int) 1 := ⟨wd_6_96, wd_1_10, by decide, by decide, by decide +kernel⟩
theorem cv_J0_indexOf_0f7a4 : CardV yJ0_indexOf_0f7a4 := ⟨wd_6_94, wd_6_95⟩
theorem cd_J0_indexOf_7cf53 : Card yJ0_indexOf_7cf53 cJ0_indexOf_7cf53 3 (some .int) 2 := ⟨wd_6_100, wd_1_10, by decide, by decide, by decide +kernel⟩
theorem cv_J0_indexOf_7cf53 : CardV yJ0_indexOf_7cf53 := ⟨wd_6_98, wd_6_99⟩
theorem cd_J0_isEmpty_aae02 : Card yJ0_isEmpty_aae02 cJ0_isEmpty_aae02 1 (some .boolean) 0 := ⟨wd_6_167, wd_1_10, by decide, by decide, by decide +kernel⟩
theorem cv_J0_isEmpty_aae02 : CardV yJ0_isEmpty_aae02 := ⟨wd_6_165, wd_6_166⟩
theorem cd_J0_isLatin1_aae02 : Card yJ0_isLatin1_aae02 cJ0_isLatin1_aae02 1 (some .boolean) 0 := ⟨wd_6_17, wd_1_10, by decide, by decide, by decide +kernel⟩
theorem cv_J0_isLatin1_aae02 : CardV yJ0_isLatin1_aae02 := ⟨wd_6_15, wd_6_16⟩
theorem cd_J0_length_8abf5 : Card yJ0_length_8abf5 cJ0_length_8abf5 1 (some .int) 0 := ⟨wd_5_84, wd_1_10, by decide, by decide, by decide +kernel⟩
theorem cv_J0_length_8abf5 : CardV yJ0_length_8abf5 := ⟨wd_5_82, wd_5_83⟩
theorem cd_J1_canEncode_9a6ad : Card yJ1_canEncode_9a6ad cJ1_canEncode_9a6ad 1 (some .boolean) 1 := ⟨wd_6_107, wd_1_29, by decide, by decide, by decide +kernel⟩
theorem cd_J1_charAt_3b067 : Card yJ1_charAt_3b067 cJ1_charAt_3b067 2 (some .char) 2 := ⟨wd_6_20, wd_1_29, by decide, by decide, by decide +kernel⟩
theorem cd_J1_indexOfChar_4cfef : Card yJ1_indexOfChar_4cfef cJ1_indexOfChar_4cfef 6 (some .int) 4 := ⟨wd_6_112, wd_1_29, by decide, by decide, by decide +kernel⟩
theorem cd_J1_indexOf_4cfef : Card yJ1_indexOf_4cfef cJ1_indexOf_4cfef 4 (some .int) 4 := ⟨wd_6_104, wd_1_29, by decide, by decide, by decide +kernel⟩
theorem cd_J3_checkIndex_8e157 : Card yJ3_checkIndex_8e157 cJ3_checkIndex_8e157 3 (some .int) 3 := ⟨wd_6_26, wd_1_28, by decide, by decide, by decide +kernel⟩
theorem cd_J9_floorMod_7cf53 : Card yJ9_floorMod_7cf53 cJ9_floorMod_7cf53 3 (some .int) 2 := ⟨wd_3_49, wd_1_21, by decide, by decide, by decide +kernel⟩
theorem cd_X3_endDaysFault : Card yX3_endDaysFault cX3_endDaysFault 2 (some .int) 1 := ⟨wd_4_27, wd_1_2, by decide, by decide, by decide +kernel⟩
theorem cv_X3_endDaysFault : CardV yX3_endDaysFault := ⟨wd_4_25, wd_4_26⟩
theorem cd_X4_formOf : Card yX4_formOf cX4_formOf 1 (some (.object "java/lang/String")) 1 := ⟨wd_6_141, wd_1_7, by decide, by decide, by decide +kernel⟩
theorem cd_X6_isIn : Card yX6_isIn cX6_isIn 3 (some .boolean) 3 := ⟨wd_2_150, wd_1_1, by decide, by decide, by decide +kernel⟩
theorem cd_X6_raise : Card yX6_raise cX6_raise 1 none 1 := ⟨wd_2_153, wd_1_1, by decide, by decide, by decide +kernel⟩
theorem cd_X7_accountAt : Card yX7_accountAt cX7_accountAt 1 (some .int) 1 := ⟨wd_7_95, wd_1_12, by decide, by decide, by decide +kernel⟩
theorem cd_X7_isAmount : Card yX7_isAmount cX7_isAmount 1 (some .boolean) 1 := ⟨wd_7_114, wd_1_12, by decide, by decide, by decide +kernel⟩
theorem cd_X7_isIn : Card yX7_isIn cX7_isIn 3 (some .boolean) 3 := ⟨wd_7_92, wd_1_12, by decide, by decide, by decide +kernel⟩
theorem cd_X7_letterFor : Card yX7_letterFor cX7_letterFor 1 (some .int) 1 := ⟨wd_8_123, wd_1_12, by decide, by decide, by decide +kernel⟩
theorem cd_X7_startOf : Card yX7_startOf cX7_startOf 1 (some .int) 1 := ⟨wd_8_161, wd_1_12, by decide, by decide, by decide +kernel⟩
