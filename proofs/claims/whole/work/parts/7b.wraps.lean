def wr (t : List Nat) (z : Nat × Int32 × StB) (O : StO) : Int32 × StB × StO := if z.1 = 0 then (0, z.2.2, (z.2.1.toInt64, O.2)) else (Int32.ofNat (t.idxOf z.1 + 1), z.2.2, O)
def wrZ (t : List Nat) (z : Nat × Int32 × StB) (O : StO) : Int32 × StB × StO := if z.1 = 0 then (0, z.2.2, (if z.2.1 = 0 then 0 else 1, O.2)) else (Int32.ofNat (t.idxOf z.1 + 1), z.2.2, O)
def wrD (t : List Nat) (z : Nat × UInt64 × StB) (O : StO) : Int32 × StB × StO := if z.1 = 0 then (0, z.2.2, (O.1, z.2.1)) else (Int32.ofNat (t.idxOf z.1 + 1), z.2.2, O)
theorem we_2_138 : (Jvm.Cond.classLink "InkBankLaw" (13 : Nat) "java/lang/IllegalArgumentException") ∈ TT := tt_2 (List.mem_of_getElem? (i := 138) rfl) rfl
theorem we_2_139 : (Jvm.Cond.classLink "InkBankLaw" (15 : Nat) "java/lang/IllegalStateException") ∈ TT := tt_2 (List.mem_of_getElem? (i := 139) rfl) rfl
theorem we_2_140 : (Jvm.Cond.methodLink "InkBankLaw" (7 : Nat) ({ cls := "InkBank", name := "open", desc := "(I)I" } : Jvm.MethodName)) ∈ TT := tt_2 (List.mem_of_getElem? (i := 140) rfl) rfl
theorem we_2_141 : (Jvm.Cond.instanceMethod ({ cls := "InkBank", name := "open", desc := "(I)I" } : Jvm.MethodName)) ∈ TT := tt_2 (List.mem_of_getElem? (i := 141) rfl) rfl
theorem we_2_142 : (Jvm.Cond.selects "InkBank" ({ cls := "InkBank", name := "open", desc := "(I)I" } : Jvm.MethodName) ({ cls := "InkBank", name := "open", desc := "(I)I" } : Jvm.MethodName)) ∈ TT := tt_2 (List.mem_of_getElem? (i := 142) rfl) rfl
theorem we_2_143 : (Jvm.Cond.code ({ cls := "InkBank", name := "open", desc := "(I)I" } : Jvm.MethodName) prog_1_method_2_code (2 : Nat) (Option.some Jvm.ClassFile.FieldType.int)) ∈ TT := tt_2 (List.mem_of_getElem? (i := 143) rfl) rfl
theorem we_3_61 : (Jvm.Cond.classLink "InkBankLaw" (21 : Nat) "java/lang/IndexOutOfBoundsException") ∈ TT := tt_3 (List.mem_of_getElem? (i := 61) rfl) rfl
theorem we_3_93 : (Jvm.Cond.methodLink "InkBankLaw" (17 : Nat) ({ cls := "InkBank", name := "deposit", desc := "(II)I" } : Jvm.MethodName)) ∈ TT := tt_3 (List.mem_of_getElem? (i := 93) rfl) rfl
theorem we_3_94 : (Jvm.Cond.instanceMethod ({ cls := "InkBank", name := "deposit", desc := "(II)I" } : Jvm.MethodName)) ∈ TT := tt_3 (List.mem_of_getElem? (i := 94) rfl) rfl
theorem we_3_95 : (Jvm.Cond.selects "InkBank" ({ cls := "InkBank", name := "deposit", desc := "(II)I" } : Jvm.MethodName) ({ cls := "InkBank", name := "deposit", desc := "(II)I" } : Jvm.MethodName)) ∈ TT := tt_3 (List.mem_of_getElem? (i := 95) rfl) rfl
theorem we_3_96 : (Jvm.Cond.code ({ cls := "InkBank", name := "deposit", desc := "(II)I" } : Jvm.MethodName) prog_1_method_3_code (3 : Nat) (Option.some Jvm.ClassFile.FieldType.int)) ∈ TT := tt_3 (List.mem_of_getElem? (i := 96) rfl) rfl
theorem we_3_122 : (Jvm.Cond.methodLink "InkBankLaw" (23 : Nat) ({ cls := "InkBank", name := "withdraw", desc := "(II)I" } : Jvm.MethodName)) ∈ TT := tt_3 (List.mem_of_getElem? (i := 122) rfl) rfl
theorem we_3_123 : (Jvm.Cond.instanceMethod ({ cls := "InkBank", name := "withdraw", desc := "(II)I" } : Jvm.MethodName)) ∈ TT := tt_3 (List.mem_of_getElem? (i := 123) rfl) rfl
theorem we_3_124 : (Jvm.Cond.selects "InkBank" ({ cls := "InkBank", name := "withdraw", desc := "(II)I" } : Jvm.MethodName) ({ cls := "InkBank", name := "withdraw", desc := "(II)I" } : Jvm.MethodName)) ∈ TT := tt_3 (List.mem_of_getElem? (i := 124) rfl) rfl
theorem we_3_125 : (Jvm.Cond.code ({ cls := "InkBank", name := "withdraw", desc := "(II)I" } : Jvm.MethodName) prog_1_method_4_code (3 : Nat) (Option.some Jvm.ClassFile.FieldType.int)) ∈ TT := tt_3 (List.mem_of_getElem? (i := 125) rfl) rfl
theorem we_3_141 : (Jvm.Cond.classLink "InkBankLaw" (29 : Nat) "java/lang/UnsupportedOperationException") ∈ TT := tt_3 (List.mem_of_getElem? (i := 141) rfl) rfl
theorem we_3_142 : (Jvm.Cond.methodLink "InkBankLaw" (26 : Nat) ({ cls := "InkBank", name := "setLimit", desc := "(II)I" } : Jvm.MethodName)) ∈ TT := tt_3 (List.mem_of_getElem? (i := 142) rfl) rfl
theorem we_3_143 : (Jvm.Cond.instanceMethod ({ cls := "InkBank", name := "setLimit", desc := "(II)I" } : Jvm.MethodName)) ∈ TT := tt_3 (List.mem_of_getElem? (i := 143) rfl) rfl
theorem we_3_144 : (Jvm.Cond.selects "InkBank" ({ cls := "InkBank", name := "setLimit", desc := "(II)I" } : Jvm.MethodName) ({ cls := "InkBank", name := "setLimit", desc := "(II)I" } : Jvm.MethodName)) ∈ TT := tt_3 (List.mem_of_getElem? (i := 144) rfl) rfl
theorem we_3_145 : (Jvm.Cond.code ({ cls := "InkBank", name := "setLimit", desc := "(II)I" } : Jvm.MethodName) prog_1_method_5_code (3 : Nat) (Option.some Jvm.ClassFile.FieldType.int)) ∈ TT := tt_3 (List.mem_of_getElem? (i := 145) rfl) rfl
theorem we_3_157 : (Jvm.Cond.methodLink "InkBankLaw" (31 : Nat) ({ cls := "InkBank", name := "kindOf", desc := "(I)I" } : Jvm.MethodName)) ∈ TT := tt_3 (List.mem_of_getElem? (i := 157) rfl) rfl
theorem we_3_158 : (Jvm.Cond.instanceMethod ({ cls := "InkBank", name := "kindOf", desc := "(I)I" } : Jvm.MethodName)) ∈ TT := tt_3 (List.mem_of_getElem? (i := 158) rfl) rfl
theorem we_3_159 : (Jvm.Cond.selects "InkBank" ({ cls := "InkBank", name := "kindOf", desc := "(I)I" } : Jvm.MethodName) ({ cls := "InkBank", name := "kindOf", desc := "(I)I" } : Jvm.MethodName)) ∈ TT := tt_3 (List.mem_of_getElem? (i := 159) rfl) rfl
theorem we_3_160 : (Jvm.Cond.code ({ cls := "InkBank", name := "kindOf", desc := "(I)I" } : Jvm.MethodName) prog_1_method_7_code (2 : Nat) (Option.some Jvm.ClassFile.FieldType.int)) ∈ TT := tt_3 (List.mem_of_getElem? (i := 160) rfl) rfl
theorem we_3_169 : (Jvm.Cond.methodLink "InkBankLaw" (34 : Nat) ({ cls := "InkBank", name := "balanceOf", desc := "(I)I" } : Jvm.MethodName)) ∈ TT := tt_3 (List.mem_of_getElem? (i := 169) rfl) rfl
theorem we_3_170 : (Jvm.Cond.instanceMethod ({ cls := "InkBank", name := "balanceOf", desc := "(I)I" } : Jvm.MethodName)) ∈ TT := tt_3 (List.mem_of_getElem? (i := 170) rfl) rfl
theorem we_3_171 : (Jvm.Cond.selects "InkBank" ({ cls := "InkBank", name := "balanceOf", desc := "(I)I" } : Jvm.MethodName) ({ cls := "InkBank", name := "balanceOf", desc := "(I)I" } : Jvm.MethodName)) ∈ TT := tt_3 (List.mem_of_getElem? (i := 171) rfl) rfl
theorem we_3_172 : (Jvm.Cond.code ({ cls := "InkBank", name := "balanceOf", desc := "(I)I" } : Jvm.MethodName) prog_1_method_8_code (2 : Nat) (Option.some Jvm.ClassFile.FieldType.int)) ∈ TT := tt_3 (List.mem_of_getElem? (i := 172) rfl) rfl
theorem we_3_176 : (Jvm.Cond.methodLink "InkBankLaw" (37 : Nat) ({ cls := "InkBank", name := "limitOf", desc := "(I)I" } : Jvm.MethodName)) ∈ TT := tt_3 (List.mem_of_getElem? (i := 176) rfl) rfl
theorem we_3_177 : (Jvm.Cond.instanceMethod ({ cls := "InkBank", name := "limitOf", desc := "(I)I" } : Jvm.MethodName)) ∈ TT := tt_3 (List.mem_of_getElem? (i := 177) rfl) rfl
theorem we_3_178 : (Jvm.Cond.selects "InkBank" ({ cls := "InkBank", name := "limitOf", desc := "(I)I" } : Jvm.MethodName) ({ cls := "InkBank", name := "limitOf", desc := "(I)I" } : Jvm.MethodName)) ∈ TT := tt_3 (List.mem_of_getElem? (i := 178) rfl) rfl
theorem we_3_179 : (Jvm.Cond.code ({ cls := "InkBank", name := "limitOf", desc := "(I)I" } : Jvm.MethodName) prog_1_method_9_code (2 : Nat) (Option.some Jvm.ClassFile.FieldType.int)) ∈ TT := tt_3 (List.mem_of_getElem? (i := 179) rfl) rfl
theorem we_3_183 : (Jvm.Cond.methodLink "InkBankLaw" (40 : Nat) ({ cls := "InkBank", name := "availableIn", desc := "(I)I" } : Jvm.MethodName)) ∈ TT := tt_3 (List.mem_of_getElem? (i := 183) rfl) rfl
theorem we_3_184 : (Jvm.Cond.instanceMethod ({ cls := "InkBank", name := "availableIn", desc := "(I)I" } : Jvm.MethodName)) ∈ TT := tt_3 (List.mem_of_getElem? (i := 184) rfl) rfl
theorem we_3_185 : (Jvm.Cond.selects "InkBank" ({ cls := "InkBank", name := "availableIn", desc := "(I)I" } : Jvm.MethodName) ({ cls := "InkBank", name := "availableIn", desc := "(I)I" } : Jvm.MethodName)) ∈ TT := tt_3 (List.mem_of_getElem? (i := 185) rfl) rfl
theorem we_3_186 : (Jvm.Cond.code ({ cls := "InkBank", name := "availableIn", desc := "(I)I" } : Jvm.MethodName) prog_1_method_10_code (2 : Nat) (Option.some Jvm.ClassFile.FieldType.int)) ∈ TT := tt_3 (List.mem_of_getElem? (i := 186) rfl) rfl
theorem we_3_191 : (Jvm.Cond.methodLink "InkBankLaw" (43 : Nat) ({ cls := "InkBank", name := "wasTouched", desc := "(I)Z" } : Jvm.MethodName)) ∈ TT := tt_3 (List.mem_of_getElem? (i := 191) rfl) rfl
theorem we_3_192 : (Jvm.Cond.instanceMethod ({ cls := "InkBank", name := "wasTouched", desc := "(I)Z" } : Jvm.MethodName)) ∈ TT := tt_3 (List.mem_of_getElem? (i := 192) rfl) rfl
theorem we_3_193 : (Jvm.Cond.selects "InkBank" ({ cls := "InkBank", name := "wasTouched", desc := "(I)Z" } : Jvm.MethodName) ({ cls := "InkBank", name := "wasTouched", desc := "(I)Z" } : Jvm.MethodName)) ∈ TT := tt_3 (List.mem_of_getElem? (i := 193) rfl) rfl
theorem we_3_194 : (Jvm.Cond.code ({ cls := "InkBank", name := "wasTouched", desc := "(I)Z" } : Jvm.MethodName) prog_1_method_11_code (2 : Nat) (Option.some Jvm.ClassFile.FieldType.boolean)) ∈ TT := tt_3 (List.mem_of_getElem? (i := 194) rfl) rfl
theorem we_3_198 : (Jvm.Cond.methodLink "InkBankLaw" (47 : Nat) ({ cls := "InkBank", name := "interestOf", desc := "(I)I" } : Jvm.MethodName)) ∈ TT := tt_3 (List.mem_of_getElem? (i := 198) rfl) rfl
theorem we_3_199 : (Jvm.Cond.instanceMethod ({ cls := "InkBank", name := "interestOf", desc := "(I)I" } : Jvm.MethodName)) ∈ TT := tt_3 (List.mem_of_getElem? (i := 199) rfl) rfl
theorem we_3_200 : (Jvm.Cond.selects "InkBank" ({ cls := "InkBank", name := "interestOf", desc := "(I)I" } : Jvm.MethodName) ({ cls := "InkBank", name := "interestOf", desc := "(I)I" } : Jvm.MethodName)) ∈ TT := tt_3 (List.mem_of_getElem? (i := 200) rfl) rfl
theorem we_3_201 : (Jvm.Cond.code ({ cls := "InkBank", name := "interestOf", desc := "(I)I" } : Jvm.MethodName) prog_1_method_12_code (2 : Nat) (Option.some Jvm.ClassFile.FieldType.int)) ∈ TT := tt_3 (List.mem_of_getElem? (i := 201) rfl) rfl
theorem we_3_218 : (Jvm.Cond.classLink "InkBankLaw" (53 : Nat) "java/util/NoSuchElementException") ∈ TT := tt_3 (List.mem_of_getElem? (i := 218) rfl) rfl
theorem we_3_219 : (Jvm.Cond.methodLink "InkBankLaw" (50 : Nat) ({ cls := "InkBank", name := "accountAtRank", desc := "(I)I" } : Jvm.MethodName)) ∈ TT := tt_3 (List.mem_of_getElem? (i := 219) rfl) rfl
theorem we_3_220 : (Jvm.Cond.instanceMethod ({ cls := "InkBank", name := "accountAtRank", desc := "(I)I" } : Jvm.MethodName)) ∈ TT := tt_3 (List.mem_of_getElem? (i := 220) rfl) rfl
theorem we_3_221 : (Jvm.Cond.selects "InkBank" ({ cls := "InkBank", name := "accountAtRank", desc := "(I)I" } : Jvm.MethodName) ({ cls := "InkBank", name := "accountAtRank", desc := "(I)I" } : Jvm.MethodName)) ∈ TT := tt_3 (List.mem_of_getElem? (i := 221) rfl) rfl
theorem we_3_222 : (Jvm.Cond.code ({ cls := "InkBank", name := "accountAtRank", desc := "(I)I" } : Jvm.MethodName) prog_1_method_13_code (2 : Nat) (Option.some Jvm.ClassFile.FieldType.int)) ∈ TT := tt_3 (List.mem_of_getElem? (i := 222) rfl) rfl
theorem we_3_234 : (Jvm.Cond.classLink "InkBankLaw" (59 : Nat) "java/lang/ArithmeticException") ∈ TT := tt_3 (List.mem_of_getElem? (i := 234) rfl) rfl
theorem we_4_8 : (Jvm.Cond.methodLink "InkBankLaw" (55 : Nat) ({ cls := "InkBank", name := "meanBalance", desc := "()D" } : Jvm.MethodName)) ∈ TT := tt_4 (List.mem_of_getElem? (i := 8) rfl) rfl
theorem we_4_9 : (Jvm.Cond.instanceMethod ({ cls := "InkBank", name := "meanBalance", desc := "()D" } : Jvm.MethodName)) ∈ TT := tt_4 (List.mem_of_getElem? (i := 9) rfl) rfl
theorem we_4_10 : (Jvm.Cond.selects "InkBank" ({ cls := "InkBank", name := "meanBalance", desc := "()D" } : Jvm.MethodName) ({ cls := "InkBank", name := "meanBalance", desc := "()D" } : Jvm.MethodName)) ∈ TT := tt_4 (List.mem_of_getElem? (i := 10) rfl) rfl
theorem we_4_11 : (Jvm.Cond.code ({ cls := "InkBank", name := "meanBalance", desc := "()D" } : Jvm.MethodName) prog_1_method_14_code (1 : Nat) (Option.some Jvm.ClassFile.FieldType.double)) ∈ TT := tt_4 (List.mem_of_getElem? (i := 11) rfl) rfl
theorem we_4_20 : (Jvm.Cond.methodLink "InkBankLaw" (61 : Nat) ({ cls := "InkBank", name := "endDays", desc := "(I)I" } : Jvm.MethodName)) ∈ TT := tt_4 (List.mem_of_getElem? (i := 20) rfl) rfl
theorem we_4_21 : (Jvm.Cond.instanceMethod ({ cls := "InkBank", name := "endDays", desc := "(I)I" } : Jvm.MethodName)) ∈ TT := tt_4 (List.mem_of_getElem? (i := 21) rfl) rfl
theorem we_4_22 : (Jvm.Cond.selects "InkBank" ({ cls := "InkBank", name := "endDays", desc := "(I)I" } : Jvm.MethodName) ({ cls := "InkBank", name := "endDays", desc := "(I)I" } : Jvm.MethodName)) ∈ TT := tt_4 (List.mem_of_getElem? (i := 22) rfl) rfl
theorem we_4_23 : (Jvm.Cond.code ({ cls := "InkBank", name := "endDays", desc := "(I)I" } : Jvm.MethodName) prog_1_method_22_code (2 : Nat) (Option.some Jvm.ClassFile.FieldType.int)) ∈ TT := tt_4 (List.mem_of_getElem? (i := 23) rfl) rfl
theorem we_4_62 : (Jvm.Cond.methodLink "InkBankLaw" (64 : Nat) ({ cls := "InkBank", name := "balanceAfter", desc := "(II)I" } : Jvm.MethodName)) ∈ TT := tt_4 (List.mem_of_getElem? (i := 62) rfl) rfl
theorem we_4_63 : (Jvm.Cond.instanceMethod ({ cls := "InkBank", name := "balanceAfter", desc := "(II)I" } : Jvm.MethodName)) ∈ TT := tt_4 (List.mem_of_getElem? (i := 63) rfl) rfl
theorem we_4_64 : (Jvm.Cond.selects "InkBank" ({ cls := "InkBank", name := "balanceAfter", desc := "(II)I" } : Jvm.MethodName) ({ cls := "InkBank", name := "balanceAfter", desc := "(II)I" } : Jvm.MethodName)) ∈ TT := tt_4 (List.mem_of_getElem? (i := 64) rfl) rfl
theorem we_4_65 : (Jvm.Cond.code ({ cls := "InkBank", name := "balanceAfter", desc := "(II)I" } : Jvm.MethodName) prog_1_method_23_code (3 : Nat) (Option.some Jvm.ClassFile.FieldType.int)) ∈ TT := tt_4 (List.mem_of_getElem? (i := 65) rfl) rfl
theorem we_4_73 : (Jvm.Cond.methodLink "InkBankLaw" (67 : Nat) ({ cls := "InkBank", name := "seal", desc := "(IIII)I" } : Jvm.MethodName)) ∈ TT := tt_4 (List.mem_of_getElem? (i := 73) rfl) rfl
theorem we_4_74 : (Jvm.Cond.instanceMethod ({ cls := "InkBank", name := "seal", desc := "(IIII)I" } : Jvm.MethodName)) ∈ TT := tt_4 (List.mem_of_getElem? (i := 74) rfl) rfl
theorem we_4_75 : (Jvm.Cond.selects "InkBank" ({ cls := "InkBank", name := "seal", desc := "(IIII)I" } : Jvm.MethodName) ({ cls := "InkBank", name := "seal", desc := "(IIII)I" } : Jvm.MethodName)) ∈ TT := tt_4 (List.mem_of_getElem? (i := 75) rfl) rfl
theorem we_4_76 : (Jvm.Cond.code ({ cls := "InkBank", name := "seal", desc := "(IIII)I" } : Jvm.MethodName) prog_1_method_24_code (5 : Nat) (Option.some Jvm.ClassFile.FieldType.int)) ∈ TT := tt_4 (List.mem_of_getElem? (i := 76) rfl) rfl
theorem we_4_88 : (Jvm.Cond.methodLink "InkBankLaw" (71 : Nat) ({ cls := "InkBank", name := "cancel", desc := "(I)I" } : Jvm.MethodName)) ∈ TT := tt_4 (List.mem_of_getElem? (i := 88) rfl) rfl
theorem we_4_89 : (Jvm.Cond.instanceMethod ({ cls := "InkBank", name := "cancel", desc := "(I)I" } : Jvm.MethodName)) ∈ TT := tt_4 (List.mem_of_getElem? (i := 89) rfl) rfl
theorem we_4_90 : (Jvm.Cond.selects "InkBank" ({ cls := "InkBank", name := "cancel", desc := "(I)I" } : Jvm.MethodName) ({ cls := "InkBank", name := "cancel", desc := "(I)I" } : Jvm.MethodName)) ∈ TT := tt_4 (List.mem_of_getElem? (i := 90) rfl) rfl
theorem we_4_91 : (Jvm.Cond.code ({ cls := "InkBank", name := "cancel", desc := "(I)I" } : Jvm.MethodName) prog_1_method_25_code (2 : Nat) (Option.some Jvm.ClassFile.FieldType.int)) ∈ TT := tt_4 (List.mem_of_getElem? (i := 91) rfl) rfl
theorem we_4_107 : (Jvm.Cond.methodLink "InkBankLaw" (74 : Nat) ({ cls := "InkBank", name := "transferAt", desc := "(I)I" } : Jvm.MethodName)) ∈ TT := tt_4 (List.mem_of_getElem? (i := 107) rfl) rfl
theorem we_4_108 : (Jvm.Cond.instanceMethod ({ cls := "InkBank", name := "transferAt", desc := "(I)I" } : Jvm.MethodName)) ∈ TT := tt_4 (List.mem_of_getElem? (i := 108) rfl) rfl
theorem we_4_109 : (Jvm.Cond.selects "InkBank" ({ cls := "InkBank", name := "transferAt", desc := "(I)I" } : Jvm.MethodName) ({ cls := "InkBank", name := "transferAt", desc := "(I)I" } : Jvm.MethodName)) ∈ TT := tt_4 (List.mem_of_getElem? (i := 109) rfl) rfl
theorem we_4_110 : (Jvm.Cond.code ({ cls := "InkBank", name := "transferAt", desc := "(I)I" } : Jvm.MethodName) prog_1_method_27_code (2 : Nat) (Option.some Jvm.ClassFile.FieldType.int)) ∈ TT := tt_4 (List.mem_of_getElem? (i := 110) rfl) rfl
theorem we_4_122 : (Jvm.Cond.methodLink "InkBankLaw" (77 : Nat) ({ cls := "InkBank", name := "senderOf", desc := "(I)I" } : Jvm.MethodName)) ∈ TT := tt_4 (List.mem_of_getElem? (i := 122) rfl) rfl
theorem we_4_123 : (Jvm.Cond.instanceMethod ({ cls := "InkBank", name := "senderOf", desc := "(I)I" } : Jvm.MethodName)) ∈ TT := tt_4 (List.mem_of_getElem? (i := 123) rfl) rfl
theorem we_4_124 : (Jvm.Cond.selects "InkBank" ({ cls := "InkBank", name := "senderOf", desc := "(I)I" } : Jvm.MethodName) ({ cls := "InkBank", name := "senderOf", desc := "(I)I" } : Jvm.MethodName)) ∈ TT := tt_4 (List.mem_of_getElem? (i := 124) rfl) rfl
theorem we_4_125 : (Jvm.Cond.code ({ cls := "InkBank", name := "senderOf", desc := "(I)I" } : Jvm.MethodName) prog_1_method_28_code (2 : Nat) (Option.some Jvm.ClassFile.FieldType.int)) ∈ TT := tt_4 (List.mem_of_getElem? (i := 125) rfl) rfl
theorem we_4_134 : (Jvm.Cond.methodLink "InkBankLaw" (80 : Nat) ({ cls := "InkBank", name := "receiverOf", desc := "(I)I" } : Jvm.MethodName)) ∈ TT := tt_4 (List.mem_of_getElem? (i := 134) rfl) rfl
theorem we_4_135 : (Jvm.Cond.instanceMethod ({ cls := "InkBank", name := "receiverOf", desc := "(I)I" } : Jvm.MethodName)) ∈ TT := tt_4 (List.mem_of_getElem? (i := 135) rfl) rfl
theorem we_4_136 : (Jvm.Cond.selects "InkBank" ({ cls := "InkBank", name := "receiverOf", desc := "(I)I" } : Jvm.MethodName) ({ cls := "InkBank", name := "receiverOf", desc := "(I)I" } : Jvm.MethodName)) ∈ TT := tt_4 (List.mem_of_getElem? (i := 136) rfl) rfl
theorem we_4_137 : (Jvm.Cond.code ({ cls := "InkBank", name := "receiverOf", desc := "(I)I" } : Jvm.MethodName) prog_1_method_29_code (2 : Nat) (Option.some Jvm.ClassFile.FieldType.int)) ∈ TT := tt_4 (List.mem_of_getElem? (i := 137) rfl) rfl
theorem we_4_141 : (Jvm.Cond.methodLink "InkBankLaw" (83 : Nat) ({ cls := "InkBank", name := "amountOf", desc := "(I)I" } : Jvm.MethodName)) ∈ TT := tt_4 (List.mem_of_getElem? (i := 141) rfl) rfl
theorem we_4_142 : (Jvm.Cond.instanceMethod ({ cls := "InkBank", name := "amountOf", desc := "(I)I" } : Jvm.MethodName)) ∈ TT := tt_4 (List.mem_of_getElem? (i := 142) rfl) rfl
theorem we_4_143 : (Jvm.Cond.selects "InkBank" ({ cls := "InkBank", name := "amountOf", desc := "(I)I" } : Jvm.MethodName) ({ cls := "InkBank", name := "amountOf", desc := "(I)I" } : Jvm.MethodName)) ∈ TT := tt_4 (List.mem_of_getElem? (i := 143) rfl) rfl
theorem we_4_144 : (Jvm.Cond.code ({ cls := "InkBank", name := "amountOf", desc := "(I)I" } : Jvm.MethodName) prog_1_method_30_code (2 : Nat) (Option.some Jvm.ClassFile.FieldType.int)) ∈ TT := tt_4 (List.mem_of_getElem? (i := 144) rfl) rfl
theorem we_4_148 : (Jvm.Cond.methodLink "InkBankLaw" (86 : Nat) ({ cls := "InkBank", name := "daysUntilDue", desc := "(I)I" } : Jvm.MethodName)) ∈ TT := tt_4 (List.mem_of_getElem? (i := 148) rfl) rfl
theorem we_4_149 : (Jvm.Cond.instanceMethod ({ cls := "InkBank", name := "daysUntilDue", desc := "(I)I" } : Jvm.MethodName)) ∈ TT := tt_4 (List.mem_of_getElem? (i := 149) rfl) rfl
theorem we_4_150 : (Jvm.Cond.selects "InkBank" ({ cls := "InkBank", name := "daysUntilDue", desc := "(I)I" } : Jvm.MethodName) ({ cls := "InkBank", name := "daysUntilDue", desc := "(I)I" } : Jvm.MethodName)) ∈ TT := tt_4 (List.mem_of_getElem? (i := 150) rfl) rfl
theorem we_4_151 : (Jvm.Cond.code ({ cls := "InkBank", name := "daysUntilDue", desc := "(I)I" } : Jvm.MethodName) prog_1_method_31_code (2 : Nat) (Option.some Jvm.ClassFile.FieldType.int)) ∈ TT := tt_4 (List.mem_of_getElem? (i := 151) rfl) rfl
theorem we_4_155 : (Jvm.Cond.methodLink "InkBankLaw" (89 : Nat) ({ cls := "InkBank", name := "wouldBounce", desc := "(I)Z" } : Jvm.MethodName)) ∈ TT := tt_4 (List.mem_of_getElem? (i := 155) rfl) rfl
theorem we_4_156 : (Jvm.Cond.instanceMethod ({ cls := "InkBank", name := "wouldBounce", desc := "(I)Z" } : Jvm.MethodName)) ∈ TT := tt_4 (List.mem_of_getElem? (i := 156) rfl) rfl
theorem we_4_157 : (Jvm.Cond.selects "InkBank" ({ cls := "InkBank", name := "wouldBounce", desc := "(I)Z" } : Jvm.MethodName) ({ cls := "InkBank", name := "wouldBounce", desc := "(I)Z" } : Jvm.MethodName)) ∈ TT := tt_4 (List.mem_of_getElem? (i := 157) rfl) rfl
theorem we_4_158 : (Jvm.Cond.code ({ cls := "InkBank", name := "wouldBounce", desc := "(I)Z" } : Jvm.MethodName) prog_1_method_32_code (3 : Nat) (Option.some Jvm.ClassFile.FieldType.boolean)) ∈ TT := tt_4 (List.mem_of_getElem? (i := 158) rfl) rfl
theorem we_4_167 : (Jvm.Cond.methodLink "InkBankLaw" (92 : Nat) ({ cls := "InkBank", name := "netOf", desc := "(I)I" } : Jvm.MethodName)) ∈ TT := tt_4 (List.mem_of_getElem? (i := 167) rfl) rfl
theorem we_4_168 : (Jvm.Cond.instanceMethod ({ cls := "InkBank", name := "netOf", desc := "(I)I" } : Jvm.MethodName)) ∈ TT := tt_4 (List.mem_of_getElem? (i := 168) rfl) rfl
theorem we_4_169 : (Jvm.Cond.selects "InkBank" ({ cls := "InkBank", name := "netOf", desc := "(I)I" } : Jvm.MethodName) ({ cls := "InkBank", name := "netOf", desc := "(I)I" } : Jvm.MethodName)) ∈ TT := tt_4 (List.mem_of_getElem? (i := 169) rfl) rfl
theorem we_4_170 : (Jvm.Cond.code ({ cls := "InkBank", name := "netOf", desc := "(I)I" } : Jvm.MethodName) prog_1_method_34_code (2 : Nat) (Option.some Jvm.ClassFile.FieldType.int)) ∈ TT := tt_4 (List.mem_of_getElem? (i := 170) rfl) rfl
theorem we_4_178 : (Jvm.Cond.methodLink "InkBankLaw" (95 : Nat) ({ cls := "InkBank", name := "netByTable", desc := "(I)I" } : Jvm.MethodName)) ∈ TT := tt_4 (List.mem_of_getElem? (i := 178) rfl) rfl
theorem we_4_179 : (Jvm.Cond.instanceMethod ({ cls := "InkBank", name := "netByTable", desc := "(I)I" } : Jvm.MethodName)) ∈ TT := tt_4 (List.mem_of_getElem? (i := 179) rfl) rfl
theorem we_4_180 : (Jvm.Cond.selects "InkBank" ({ cls := "InkBank", name := "netByTable", desc := "(I)I" } : Jvm.MethodName) ({ cls := "InkBank", name := "netByTable", desc := "(I)I" } : Jvm.MethodName)) ∈ TT := tt_4 (List.mem_of_getElem? (i := 180) rfl) rfl
theorem we_4_181 : (Jvm.Cond.code ({ cls := "InkBank", name := "netByTable", desc := "(I)I" } : Jvm.MethodName) prog_1_method_35_code (4 : Nat) (Option.some Jvm.ClassFile.FieldType.int)) ∈ TT := tt_4 (List.mem_of_getElem? (i := 181) rfl) rfl
theorem we_4_189 : (Jvm.Cond.methodLink "InkBankLaw" (98 : Nat) ({ cls := "InkBank", name := "leadsTo", desc := "(II)Z" } : Jvm.MethodName)) ∈ TT := tt_4 (List.mem_of_getElem? (i := 189) rfl) rfl
theorem we_4_190 : (Jvm.Cond.instanceMethod ({ cls := "InkBank", name := "leadsTo", desc := "(II)Z" } : Jvm.MethodName)) ∈ TT := tt_4 (List.mem_of_getElem? (i := 190) rfl) rfl
theorem we_4_191 : (Jvm.Cond.selects "InkBank" ({ cls := "InkBank", name := "leadsTo", desc := "(II)Z" } : Jvm.MethodName) ({ cls := "InkBank", name := "leadsTo", desc := "(II)Z" } : Jvm.MethodName)) ∈ TT := tt_4 (List.mem_of_getElem? (i := 191) rfl) rfl
theorem we_4_192 : (Jvm.Cond.code ({ cls := "InkBank", name := "leadsTo", desc := "(II)Z" } : Jvm.MethodName) prog_1_method_36_code (3 : Nat) (Option.some Jvm.ClassFile.FieldType.boolean)) ∈ TT := tt_4 (List.mem_of_getElem? (i := 192) rfl) rfl
theorem we_4_200 : (Jvm.Cond.methodLink "InkBankLaw" (102 : Nat) ({ cls := "InkBank", name := "movementKind", desc := "(I)C" } : Jvm.MethodName)) ∈ TT := tt_4 (List.mem_of_getElem? (i := 200) rfl) rfl
theorem we_4_201 : (Jvm.Cond.instanceMethod ({ cls := "InkBank", name := "movementKind", desc := "(I)C" } : Jvm.MethodName)) ∈ TT := tt_4 (List.mem_of_getElem? (i := 201) rfl) rfl
theorem we_4_202 : (Jvm.Cond.selects "InkBank" ({ cls := "InkBank", name := "movementKind", desc := "(I)C" } : Jvm.MethodName) ({ cls := "InkBank", name := "movementKind", desc := "(I)C" } : Jvm.MethodName)) ∈ TT := tt_4 (List.mem_of_getElem? (i := 202) rfl) rfl
theorem we_4_203 : (Jvm.Cond.code ({ cls := "InkBank", name := "movementKind", desc := "(I)C" } : Jvm.MethodName) prog_1_method_38_code (2 : Nat) (Option.some Jvm.ClassFile.FieldType.char)) ∈ TT := tt_4 (List.mem_of_getElem? (i := 203) rfl) rfl
theorem we_4_215 : (Jvm.Cond.methodLink "InkBankLaw" (106 : Nat) ({ cls := "InkBank", name := "movementAmount", desc := "(I)I" } : Jvm.MethodName)) ∈ TT := tt_4 (List.mem_of_getElem? (i := 215) rfl) rfl
theorem we_4_216 : (Jvm.Cond.instanceMethod ({ cls := "InkBank", name := "movementAmount", desc := "(I)I" } : Jvm.MethodName)) ∈ TT := tt_4 (List.mem_of_getElem? (i := 216) rfl) rfl
theorem we_4_217 : (Jvm.Cond.selects "InkBank" ({ cls := "InkBank", name := "movementAmount", desc := "(I)I" } : Jvm.MethodName) ({ cls := "InkBank", name := "movementAmount", desc := "(I)I" } : Jvm.MethodName)) ∈ TT := tt_4 (List.mem_of_getElem? (i := 217) rfl) rfl
theorem we_4_218 : (Jvm.Cond.code ({ cls := "InkBank", name := "movementAmount", desc := "(I)I" } : Jvm.MethodName) prog_1_method_39_code (2 : Nat) (Option.some Jvm.ClassFile.FieldType.int)) ∈ TT := tt_4 (List.mem_of_getElem? (i := 218) rfl) rfl
theorem we_4_222 : (Jvm.Cond.methodLink "InkBankLaw" (109 : Nat) ({ cls := "InkBank", name := "movementAccount", desc := "(I)I" } : Jvm.MethodName)) ∈ TT := tt_4 (List.mem_of_getElem? (i := 222) rfl) rfl
theorem we_4_223 : (Jvm.Cond.instanceMethod ({ cls := "InkBank", name := "movementAccount", desc := "(I)I" } : Jvm.MethodName)) ∈ TT := tt_4 (List.mem_of_getElem? (i := 223) rfl) rfl
theorem we_4_224 : (Jvm.Cond.selects "InkBank" ({ cls := "InkBank", name := "movementAccount", desc := "(I)I" } : Jvm.MethodName) ({ cls := "InkBank", name := "movementAccount", desc := "(I)I" } : Jvm.MethodName)) ∈ TT := tt_4 (List.mem_of_getElem? (i := 224) rfl) rfl
theorem we_4_225 : (Jvm.Cond.code ({ cls := "InkBank", name := "movementAccount", desc := "(I)I" } : Jvm.MethodName) prog_1_method_40_code (2 : Nat) (Option.some Jvm.ClassFile.FieldType.int)) ∈ TT := tt_4 (List.mem_of_getElem? (i := 225) rfl) rfl
theorem we_4_229 : (Jvm.Cond.methodLink "InkBankLaw" (112 : Nat) ({ cls := "InkBank", name := "writeStatement", desc := "(I)I" } : Jvm.MethodName)) ∈ TT := tt_4 (List.mem_of_getElem? (i := 229) rfl) rfl
theorem we_4_230 : (Jvm.Cond.instanceMethod ({ cls := "InkBank", name := "writeStatement", desc := "(I)I" } : Jvm.MethodName)) ∈ TT := tt_4 (List.mem_of_getElem? (i := 230) rfl) rfl
theorem we_4_231 : (Jvm.Cond.selects "InkBank" ({ cls := "InkBank", name := "writeStatement", desc := "(I)I" } : Jvm.MethodName) ({ cls := "InkBank", name := "writeStatement", desc := "(I)I" } : Jvm.MethodName)) ∈ TT := tt_4 (List.mem_of_getElem? (i := 231) rfl) rfl
theorem we_4_232 : (Jvm.Cond.code ({ cls := "InkBank", name := "writeStatement", desc := "(I)I" } : Jvm.MethodName) prog_1_method_41_code (3 : Nat) (Option.some Jvm.ClassFile.FieldType.int)) ∈ TT := tt_4 (List.mem_of_getElem? (i := 232) rfl) rfl
theorem we_6_52 : (Jvm.Cond.methodLink "InkBankLaw" (115 : Nat) ({ cls := "InkBank", name := "statementAt", desc := "(I)C" } : Jvm.MethodName)) ∈ TT := tt_6 (List.mem_of_getElem? (i := 52) rfl) rfl
theorem we_6_53 : (Jvm.Cond.instanceMethod ({ cls := "InkBank", name := "statementAt", desc := "(I)C" } : Jvm.MethodName)) ∈ TT := tt_6 (List.mem_of_getElem? (i := 53) rfl) rfl
theorem we_6_54 : (Jvm.Cond.selects "InkBank" ({ cls := "InkBank", name := "statementAt", desc := "(I)C" } : Jvm.MethodName) ({ cls := "InkBank", name := "statementAt", desc := "(I)C" } : Jvm.MethodName)) ∈ TT := tt_6 (List.mem_of_getElem? (i := 54) rfl) rfl
theorem we_6_55 : (Jvm.Cond.code ({ cls := "InkBank", name := "statementAt", desc := "(I)C" } : Jvm.MethodName) prog_1_method_42_code (2 : Nat) (Option.some Jvm.ClassFile.FieldType.char)) ∈ TT := tt_6 (List.mem_of_getElem? (i := 55) rfl) rfl
theorem we_6_69 : (Jvm.Cond.methodLink "InkBankLaw" (118 : Nat) ({ cls := "InkBank", name := "type", desc := "(C)I" } : Jvm.MethodName)) ∈ TT := tt_6 (List.mem_of_getElem? (i := 69) rfl) rfl
theorem we_6_70 : (Jvm.Cond.instanceMethod ({ cls := "InkBank", name := "type", desc := "(C)I" } : Jvm.MethodName)) ∈ TT := tt_6 (List.mem_of_getElem? (i := 70) rfl) rfl
theorem we_6_71 : (Jvm.Cond.selects "InkBank" ({ cls := "InkBank", name := "type", desc := "(C)I" } : Jvm.MethodName) ({ cls := "InkBank", name := "type", desc := "(C)I" } : Jvm.MethodName)) ∈ TT := tt_6 (List.mem_of_getElem? (i := 71) rfl) rfl
theorem we_6_72 : (Jvm.Cond.code ({ cls := "InkBank", name := "type", desc := "(C)I" } : Jvm.MethodName) prog_1_method_43_code (2 : Nat) (Option.some Jvm.ClassFile.FieldType.int)) ∈ TT := tt_6 (List.mem_of_getElem? (i := 72) rfl) rfl
theorem we_6_80 : (Jvm.Cond.methodLink "InkBankLaw" (122 : Nat) ({ cls := "InkBank", name := "execute", desc := "()I" } : Jvm.MethodName)) ∈ TT := tt_6 (List.mem_of_getElem? (i := 80) rfl) rfl
theorem we_6_81 : (Jvm.Cond.instanceMethod ({ cls := "InkBank", name := "execute", desc := "()I" } : Jvm.MethodName)) ∈ TT := tt_6 (List.mem_of_getElem? (i := 81) rfl) rfl
theorem we_6_82 : (Jvm.Cond.selects "InkBank" ({ cls := "InkBank", name := "execute", desc := "()I" } : Jvm.MethodName) ({ cls := "InkBank", name := "execute", desc := "()I" } : Jvm.MethodName)) ∈ TT := tt_6 (List.mem_of_getElem? (i := 82) rfl) rfl
theorem we_6_83 : (Jvm.Cond.code ({ cls := "InkBank", name := "execute", desc := "()I" } : Jvm.MethodName) prog_1_method_44_code (3 : Nat) (Option.some Jvm.ClassFile.FieldType.int)) ∈ TT := tt_6 (List.mem_of_getElem? (i := 83) rfl) rfl
theorem we_6_192 : (Jvm.Cond.methodLink "InkBankLaw" (126 : Nat) ({ cls := "InkBank", name := "errorPosition", desc := "()I" } : Jvm.MethodName)) ∈ TT := tt_6 (List.mem_of_getElem? (i := 192) rfl) rfl
theorem we_6_193 : (Jvm.Cond.instanceMethod ({ cls := "InkBank", name := "errorPosition", desc := "()I" } : Jvm.MethodName)) ∈ TT := tt_6 (List.mem_of_getElem? (i := 193) rfl) rfl
theorem we_6_194 : (Jvm.Cond.selects "InkBank" ({ cls := "InkBank", name := "errorPosition", desc := "()I" } : Jvm.MethodName) ({ cls := "InkBank", name := "errorPosition", desc := "()I" } : Jvm.MethodName)) ∈ TT := tt_6 (List.mem_of_getElem? (i := 194) rfl) rfl
theorem we_6_195 : (Jvm.Cond.code ({ cls := "InkBank", name := "errorPosition", desc := "()I" } : Jvm.MethodName) prog_1_method_45_code (1 : Nat) (Option.some Jvm.ClassFile.FieldType.int)) ∈ TT := tt_6 (List.mem_of_getElem? (i := 195) rfl) rfl
theorem we_6_199 : (Jvm.Cond.methodLink "InkBankLaw" (129 : Nat) ({ cls := "InkBank", name := "failedCommand", desc := "()I" } : Jvm.MethodName)) ∈ TT := tt_6 (List.mem_of_getElem? (i := 199) rfl) rfl
theorem we_6_200 : (Jvm.Cond.instanceMethod ({ cls := "InkBank", name := "failedCommand", desc := "()I" } : Jvm.MethodName)) ∈ TT := tt_6 (List.mem_of_getElem? (i := 200) rfl) rfl
theorem we_6_201 : (Jvm.Cond.selects "InkBank" ({ cls := "InkBank", name := "failedCommand", desc := "()I" } : Jvm.MethodName) ({ cls := "InkBank", name := "failedCommand", desc := "()I" } : Jvm.MethodName)) ∈ TT := tt_6 (List.mem_of_getElem? (i := 201) rfl) rfl
theorem we_6_202 : (Jvm.Cond.code ({ cls := "InkBank", name := "failedCommand", desc := "()I" } : Jvm.MethodName) prog_1_method_46_code (1 : Nat) (Option.some Jvm.ClassFile.FieldType.int)) ∈ TT := tt_6 (List.mem_of_getElem? (i := 202) rfl) rfl
theorem we_6_206 : (Jvm.Cond.methodLink "InkBankLaw" (132 : Nat) ({ cls := "InkBank", name := "undo", desc := "()I" } : Jvm.MethodName)) ∈ TT := tt_6 (List.mem_of_getElem? (i := 206) rfl) rfl
theorem we_6_207 : (Jvm.Cond.instanceMethod ({ cls := "InkBank", name := "undo", desc := "()I" } : Jvm.MethodName)) ∈ TT := tt_6 (List.mem_of_getElem? (i := 207) rfl) rfl
theorem we_6_208 : (Jvm.Cond.selects "InkBank" ({ cls := "InkBank", name := "undo", desc := "()I" } : Jvm.MethodName) ({ cls := "InkBank", name := "undo", desc := "()I" } : Jvm.MethodName)) ∈ TT := tt_6 (List.mem_of_getElem? (i := 208) rfl) rfl
theorem we_6_209 : (Jvm.Cond.code ({ cls := "InkBank", name := "undo", desc := "()I" } : Jvm.MethodName) prog_1_method_47_code (1 : Nat) (Option.some Jvm.ClassFile.FieldType.int)) ∈ TT := tt_6 (List.mem_of_getElem? (i := 209) rfl) rfl
theorem we_6_217 : (Jvm.Cond.methodLink "InkBankLaw" (135 : Nat) ({ cls := "InkBank", name := "restore", desc := "()I" } : Jvm.MethodName)) ∈ TT := tt_6 (List.mem_of_getElem? (i := 217) rfl) rfl
theorem we_6_218 : (Jvm.Cond.instanceMethod ({ cls := "InkBank", name := "restore", desc := "()I" } : Jvm.MethodName)) ∈ TT := tt_6 (List.mem_of_getElem? (i := 218) rfl) rfl
theorem we_6_219 : (Jvm.Cond.selects "InkBank" ({ cls := "InkBank", name := "restore", desc := "()I" } : Jvm.MethodName) ({ cls := "InkBank", name := "restore", desc := "()I" } : Jvm.MethodName)) ∈ TT := tt_6 (List.mem_of_getElem? (i := 219) rfl) rfl
theorem we_6_220 : (Jvm.Cond.code ({ cls := "InkBank", name := "restore", desc := "()I" } : Jvm.MethodName) prog_1_method_49_code (1 : Nat) (Option.some Jvm.ClassFile.FieldType.int)) ∈ TT := tt_6 (List.mem_of_getElem? (i := 220) rfl) rfl
set_option maxHeartbeats 4000000 in
set_option maxRecDepth 100000 in
theorem lc_open {l : Launch} {A : Nat → Prop} {G : GT} {ad : Nat → Nat} (gl : Gl l A ad) (B : StB) (M : StM) (O : StO) (x0 : Int32)  (hok : ok_X6_open B x0) (z : Nat × Int32 × StB) (hz : z = f_X6_open B x0) (hx : z.1 = 0 ∨ z.1 = 2 ∨ z.1 = 4 ) (R0 : Int32 × StB × StO) (hR : R0 = wr [2, 4] z O) : Met l yL_open (wofH yL_open cL_open 4 (some .int) [(0, 9, 12, 13), (0, 9, 15, 15)]) (rmd 16 4 24) (va_Pc [.ref (ad 176), .int x0, .ref (ad 202)] (PW G A ad B M O)) (QI G A ad R0.1 R0.2.1 M R0.2.2) 4 24 A := by
  have hM := c_X6_open (G := G) gl B M O x0 hok
  rw [← hz] at hM
  refine xw_body (own := "InkBankLaw") (ls := [(0, .ref (ad 176)), (1, .int x0), (2, .ref (ad 202))]) (by decide) rfl gl (Nat.le_of_ble_eq_true rfl) rfl ?_
  intro p e s m args below meth c C htab
  refine x_aload_n C 2 dL_open_0 rfl rfl ?_
  refine x_iconst C (v := 0) dL_open_1 (by decide) ?_
  refine x_aload_n C 0 dL_open_2 rfl rfl ?_
  refine x_iload_n C 1 dL_open_3 rfl rfl ?_
  refine xw_cIV C (as := [.int x0]) (rest := [.int 0, .ref (ad 202)]) (ci := 10) (T := TX6) (N := 10) (n := 1) hM e_I rfl ⟨we_2_141, we_2_142⟩ ⟨we_2_143, we_1_1, by decide, by decide, by decide +kernel⟩ we_2_140 ⟨(Nat.le_of_ble_eq_true rfl), (Nat.le_of_ble_eq_true rfl)⟩ ⟨(Nat.le_of_ble_eq_true rfl), (Nat.le_of_ble_eq_true rfl)⟩ rfl rfl (Nat.le_of_ble_eq_true rfl) dL_open_4 (fun hne q => ?_) (fun h0 => ?_)
  · rcases hx with h | h | h
    · exact absurd h hne
    · have e1 : R0 = (1, z.2.2, O) := by rw [hR]; unfold wr; rw [if_neg hne, h]; rfl
      subst e1
      rw [h]
      refine xc_catch C (name := "java/lang/IllegalArgumentException") [] { startPc := 0, endPc := 9, handlerPc := 12, catchType := 13 } [{ startPc := 0, endPc := 9, handlerPc := 15, catchType := 15 }] (htab.trans rfl) (fun _ h9 => by cases h9) (by decide) (by decide) we_2_138 (by decide) ?_
      refine x_astore_n C dL_open_12 rfl (by decide) rfl ?_
      refine x_iconst C (v := 1) dL_open_13 (by decide) ?_
      exact x_iret C rfl rfl dL_open_14
    · have e1 : R0 = (2, z.2.2, O) := by rw [hR]; unfold wr; rw [if_neg hne, h]; rfl
      subst e1
      rw [h]
      refine xc_catch C (name := "java/lang/IllegalStateException") [{ startPc := 0, endPc := 9, handlerPc := 12, catchType := 13 }] { startPc := 0, endPc := 9, handlerPc := 15, catchType := 15 } [] (htab.trans rfl) (List.forall_mem_cons.mpr ⟨⟨by decide, "java/lang/IllegalArgumentException", we_2_138, by decide⟩, (fun _ h9 => by cases h9)⟩) (by decide) (by decide) we_2_139 (by decide) ?_
      refine x_astore_n C dL_open_15 rfl (by decide) rfl ?_
      refine x_iconst C (v := 2) dL_open_16 (by decide) ?_
      exact x_iret C rfl rfl dL_open_17
  · have e1 : R0 = (0, z.2.2, (z.2.1.toInt64, O.2)) := by rw [hR]; unfold wr; rw [if_pos h0]
    subst e1
    refine x_i2l C dL_open_7 ?_
    refine x_last C dL_open_8 ?_
    refine x_goto C dL_open_9 (tgt := 18) (by decide) ?_
    refine x_iconst C (v := 0) dL_open_18 (by decide) ?_
    exact x_iret C rfl rfl dL_open_19
set_option maxHeartbeats 4000000 in
set_option maxRecDepth 100000 in
theorem lc_deposit {l : Launch} {A : Nat → Prop} {G : GT} {ad : Nat → Nat} (gl : Gl l A ad) (B : StB) (M : StM) (O : StO) (x0 : Int32) (x1 : Int32)  (hok : ok_X6_deposit B x0 x1) (z : Nat × Int32 × StB) (hz : z = f_X6_deposit B x0 x1) (hx : z.1 = 0 ∨ z.1 = 1 ∨ z.1 = 2 ∨ z.1 = 4 ) (R0 : Int32 × StB × StO) (hR : R0 = wr [1, 2, 4] z O) : Met l yL_deposit (wofH yL_deposit cL_deposit 5 (some .int) [(0, 10, 13, 21), (0, 10, 17, 13), (0, 10, 21, 15)]) (rmd 16 4 24) (va_Pc [.ref (ad 176), .int x0, .int x1, .ref (ad 202)] (PW G A ad B M O)) (QI G A ad R0.1 R0.2.1 M R0.2.2) 4 24 A := by
  have hM := c_X6_deposit (G := G) gl B M O x0 x1 hok
  rw [← hz] at hM
  refine xw_body (own := "InkBankLaw") (ls := [(0, .ref (ad 176)), (1, .int x0), (2, .int x1), (3, .ref (ad 202))]) (by decide) rfl gl (Nat.le_of_ble_eq_true rfl) rfl ?_
  intro p e s m args below meth c C htab
  refine x_aload_n C 3 dL_deposit_0 rfl rfl ?_
  refine x_iconst C (v := 0) dL_deposit_1 (by decide) ?_
  refine x_aload_n C 0 dL_deposit_2 rfl rfl ?_
  refine x_iload_n C 1 dL_deposit_3 rfl rfl ?_
  refine x_iload_n C 2 dL_deposit_4 rfl rfl ?_
  refine xw_cIV C (as := [.int x0, .int x1]) (rest := [.int 0, .ref (ad 202)]) (ci := 10) (T := TX6) (N := 10) (n := 2) hM e_I rfl ⟨we_3_94, we_3_95⟩ ⟨we_3_96, we_1_1, by decide, by decide, by decide +kernel⟩ we_3_93 ⟨(Nat.le_of_ble_eq_true rfl), (Nat.le_of_ble_eq_true rfl)⟩ ⟨(Nat.le_of_ble_eq_true rfl), (Nat.le_of_ble_eq_true rfl)⟩ rfl rfl (Nat.le_of_ble_eq_true rfl) dL_deposit_5 (fun hne q => ?_) (fun h0 => ?_)
  · rcases hx with h | h | h | h
    · exact absurd h hne
    · have e1 : R0 = (1, z.2.2, O) := by rw [hR]; unfold wr; rw [if_neg hne, h]; rfl
      subst e1
      rw [h]
      refine xc_catch C (name := "java/lang/IndexOutOfBoundsException") [] { startPc := 0, endPc := 10, handlerPc := 13, catchType := 21 } [{ startPc := 0, endPc := 10, handlerPc := 17, catchType := 13 }, { startPc := 0, endPc := 10, handlerPc := 21, catchType := 15 }] (htab.trans rfl) (fun _ h9 => by cases h9) (by decide) (by decide) we_3_61 (by decide) ?_
      refine x_astore C dL_deposit_13 (by decide) rfl ?_
      refine x_iconst C (v := 1) dL_deposit_15 (by decide) ?_
      exact x_iret C rfl rfl dL_deposit_16
    · have e1 : R0 = (2, z.2.2, O) := by rw [hR]; unfold wr; rw [if_neg hne, h]; rfl
      subst e1
      rw [h]
      refine xc_catch C (name := "java/lang/IllegalArgumentException") [{ startPc := 0, endPc := 10, handlerPc := 13, catchType := 21 }] { startPc := 0, endPc := 10, handlerPc := 17, catchType := 13 } [{ startPc := 0, endPc := 10, handlerPc := 21, catchType := 15 }] (htab.trans rfl) (List.forall_mem_cons.mpr ⟨⟨by decide, "java/lang/IndexOutOfBoundsException", we_3_61, by decide⟩, (fun _ h9 => by cases h9)⟩) (by decide) (by decide) we_2_138 (by decide) ?_
      refine x_astore C dL_deposit_17 (by decide) rfl ?_
      refine x_iconst C (v := 2) dL_deposit_19 (by decide) ?_
      exact x_iret C rfl rfl dL_deposit_20
    · have e1 : R0 = (3, z.2.2, O) := by rw [hR]; unfold wr; rw [if_neg hne, h]; rfl
      subst e1
      rw [h]
      refine xc_catch C (name := "java/lang/IllegalStateException") [{ startPc := 0, endPc := 10, handlerPc := 13, catchType := 21 }, { startPc := 0, endPc := 10, handlerPc := 17, catchType := 13 }] { startPc := 0, endPc := 10, handlerPc := 21, catchType := 15 } [] (htab.trans rfl) (List.forall_mem_cons.mpr ⟨⟨by decide, "java/lang/IndexOutOfBoundsException", we_3_61, by decide⟩, (List.forall_mem_cons.mpr ⟨⟨by decide, "java/lang/IllegalArgumentException", we_2_138, by decide⟩, (fun _ h9 => by cases h9)⟩)⟩) (by decide) (by decide) we_2_139 (by decide) ?_
      refine x_astore C dL_deposit_21 (by decide) rfl ?_
      refine x_iconst C (v := 3) dL_deposit_23 (by decide) ?_
      exact x_iret C rfl rfl dL_deposit_24
  · have e1 : R0 = (0, z.2.2, (z.2.1.toInt64, O.2)) := by rw [hR]; unfold wr; rw [if_pos h0]
    subst e1
    refine x_i2l C dL_deposit_8 ?_
    refine x_last C dL_deposit_9 ?_
    refine x_goto C dL_deposit_10 (tgt := 25) (by decide) ?_
    refine x_iconst C (v := 0) dL_deposit_25 (by decide) ?_
    exact x_iret C rfl rfl dL_deposit_26
set_option maxHeartbeats 4000000 in
set_option maxRecDepth 100000 in
theorem lc_withdraw {l : Launch} {A : Nat → Prop} {G : GT} {ad : Nat → Nat} (gl : Gl l A ad) (B : StB) (M : StM) (O : StO) (x0 : Int32) (x1 : Int32)  (hok : ok_X6_withdraw B x0 x1) (z : Nat × Int32 × StB) (hz : z = f_X6_withdraw B x0 x1) (hx : z.1 = 0 ∨ z.1 = 1 ∨ z.1 = 2 ∨ z.1 = 4 ) (R0 : Int32 × StB × StO) (hR : R0 = wr [1, 2, 4] z O) : Met l yL_withdraw (wofH yL_withdraw cL_withdraw 5 (some .int) [(0, 10, 13, 21), (0, 10, 17, 13), (0, 10, 21, 15)]) (rmd 16 4 24) (va_Pc [.ref (ad 176), .int x0, .int x1, .ref (ad 202)] (PW G A ad B M O)) (QI G A ad R0.1 R0.2.1 M R0.2.2) 4 24 A := by
  have hM := c_X6_withdraw (G := G) gl B M O x0 x1 hok
  rw [← hz] at hM
  refine xw_body (own := "InkBankLaw") (ls := [(0, .ref (ad 176)), (1, .int x0), (2, .int x1), (3, .ref (ad 202))]) (by decide) rfl gl (Nat.le_of_ble_eq_true rfl) rfl ?_
  intro p e s m args below meth c C htab
  refine x_aload_n C 3 dL_withdraw_0 rfl rfl ?_
  refine x_iconst C (v := 0) dL_withdraw_1 (by decide) ?_
  refine x_aload_n C 0 dL_withdraw_2 rfl rfl ?_
  refine x_iload_n C 1 dL_withdraw_3 rfl rfl ?_
  refine x_iload_n C 2 dL_withdraw_4 rfl rfl ?_
  refine xw_cIV C (as := [.int x0, .int x1]) (rest := [.int 0, .ref (ad 202)]) (ci := 10) (T := TX6) (N := 10) (n := 2) hM e_I rfl ⟨we_3_123, we_3_124⟩ ⟨we_3_125, we_1_1, by decide, by decide, by decide +kernel⟩ we_3_122 ⟨(Nat.le_of_ble_eq_true rfl), (Nat.le_of_ble_eq_true rfl)⟩ ⟨(Nat.le_of_ble_eq_true rfl), (Nat.le_of_ble_eq_true rfl)⟩ rfl rfl (Nat.le_of_ble_eq_true rfl) dL_withdraw_5 (fun hne q => ?_) (fun h0 => ?_)
  · rcases hx with h | h | h | h
    · exact absurd h hne
    · have e1 : R0 = (1, z.2.2, O) := by rw [hR]; unfold wr; rw [if_neg hne, h]; rfl
      subst e1
      rw [h]
      refine xc_catch C (name := "java/lang/IndexOutOfBoundsException") [] { startPc := 0, endPc := 10, handlerPc := 13, catchType := 21 } [{ startPc := 0, endPc := 10, handlerPc := 17, catchType := 13 }, { startPc := 0, endPc := 10, handlerPc := 21, catchType := 15 }] (htab.trans rfl) (fun _ h9 => by cases h9) (by decide) (by decide) we_3_61 (by decide) ?_
      refine x_astore C dL_withdraw_13 (by decide) rfl ?_
      refine x_iconst C (v := 1) dL_withdraw_15 (by decide) ?_
      exact x_iret C rfl rfl dL_withdraw_16
    · have e1 : R0 = (2, z.2.2, O) := by rw [hR]; unfold wr; rw [if_neg hne, h]; rfl
      subst e1
      rw [h]
      refine xc_catch C (name := "java/lang/IllegalArgumentException") [{ startPc := 0, endPc := 10, handlerPc := 13, catchType := 21 }] { startPc := 0, endPc := 10, handlerPc := 17, catchType := 13 } [{ startPc := 0, endPc := 10, handlerPc := 21, catchType := 15 }] (htab.trans rfl) (List.forall_mem_cons.mpr ⟨⟨by decide, "java/lang/IndexOutOfBoundsException", we_3_61, by decide⟩, (fun _ h9 => by cases h9)⟩) (by decide) (by decide) we_2_138 (by decide) ?_
      refine x_astore C dL_withdraw_17 (by decide) rfl ?_
      refine x_iconst C (v := 2) dL_withdraw_19 (by decide) ?_
      exact x_iret C rfl rfl dL_withdraw_20
    · have e1 : R0 = (3, z.2.2, O) := by rw [hR]; unfold wr; rw [if_neg hne, h]; rfl
      subst e1
      rw [h]
      refine xc_catch C (name := "java/lang/IllegalStateException") [{ startPc := 0, endPc := 10, handlerPc := 13, catchType := 21 }, { startPc := 0, endPc := 10, handlerPc := 17, catchType := 13 }] { startPc := 0, endPc := 10, handlerPc := 21, catchType := 15 } [] (htab.trans rfl) (List.forall_mem_cons.mpr ⟨⟨by decide, "java/lang/IndexOutOfBoundsException", we_3_61, by decide⟩, (List.forall_mem_cons.mpr ⟨⟨by decide, "java/lang/IllegalArgumentException", we_2_138, by decide⟩, (fun _ h9 => by cases h9)⟩)⟩) (by decide) (by decide) we_2_139 (by decide) ?_
      refine x_astore C dL_withdraw_21 (by decide) rfl ?_
      refine x_iconst C (v := 3) dL_withdraw_23 (by decide) ?_
      exact x_iret C rfl rfl dL_withdraw_24
  · have e1 : R0 = (0, z.2.2, (z.2.1.toInt64, O.2)) := by rw [hR]; unfold wr; rw [if_pos h0]
    subst e1
    refine x_i2l C dL_withdraw_8 ?_
    refine x_last C dL_withdraw_9 ?_
    refine x_goto C dL_withdraw_10 (tgt := 25) (by decide) ?_
    refine x_iconst C (v := 0) dL_withdraw_25 (by decide) ?_
    exact x_iret C rfl rfl dL_withdraw_26
set_option maxHeartbeats 4000000 in
set_option maxRecDepth 100000 in
theorem lc_setLimit {l : Launch} {A : Nat → Prop} {G : GT} {ad : Nat → Nat} (gl : Gl l A ad) (B : StB) (M : StM) (O : StO) (x0 : Int32) (x1 : Int32)  (hok : ok_X6_setLimit B x0 x1) (z : Nat × Int32 × StB) (hz : z = f_X6_setLimit B x0 x1) (hx : z.1 = 0 ∨ z.1 = 1 ∨ z.1 = 2 ∨ z.1 = 3 ∨ z.1 = 4 ) (R0 : Int32 × StB × StO) (hR : R0 = wr [1, 2, 3, 4] z O) : Met l yL_setLimit (wofH yL_setLimit cL_setLimit 5 (some .int) [(0, 10, 13, 21), (0, 10, 17, 13), (0, 10, 21, 29), (0, 10, 25, 15)]) (rmd 16 4 24) (va_Pc [.ref (ad 176), .int x0, .int x1, .ref (ad 202)] (PW G A ad B M O)) (QI G A ad R0.1 R0.2.1 M R0.2.2) 4 24 A := by
  have hM := c_X6_setLimit (G := G) gl B M O x0 x1 hok
  rw [← hz] at hM
  refine xw_body (own := "InkBankLaw") (ls := [(0, .ref (ad 176)), (1, .int x0), (2, .int x1), (3, .ref (ad 202))]) (by decide) rfl gl (Nat.le_of_ble_eq_true rfl) rfl ?_
  intro p e s m args below meth c C htab
  refine x_aload_n C 3 dL_setLimit_0 rfl rfl ?_
  refine x_iconst C (v := 0) dL_setLimit_1 (by decide) ?_
  refine x_aload_n C 0 dL_setLimit_2 rfl rfl ?_
  refine x_iload_n C 1 dL_setLimit_3 rfl rfl ?_
  refine x_iload_n C 2 dL_setLimit_4 rfl rfl ?_
  refine xw_cIV C (as := [.int x0, .int x1]) (rest := [.int 0, .ref (ad 202)]) (ci := 10) (T := TX6) (N := 10) (n := 2) hM e_I rfl ⟨we_3_143, we_3_144⟩ ⟨we_3_145, we_1_1, by decide, by decide, by decide +kernel⟩ we_3_142 ⟨(Nat.le_of_ble_eq_true rfl), (Nat.le_of_ble_eq_true rfl)⟩ ⟨(Nat.le_of_ble_eq_true rfl), (Nat.le_of_ble_eq_true rfl)⟩ rfl rfl (Nat.le_of_ble_eq_true rfl) dL_setLimit_5 (fun hne q => ?_) (fun h0 => ?_)
  · rcases hx with h | h | h | h | h
    · exact absurd h hne
    · have e1 : R0 = (1, z.2.2, O) := by rw [hR]; unfold wr; rw [if_neg hne, h]; rfl
      subst e1
      rw [h]
      refine xc_catch C (name := "java/lang/IndexOutOfBoundsException") [] { startPc := 0, endPc := 10, handlerPc := 13, catchType := 21 } [{ startPc := 0, endPc := 10, handlerPc := 17, catchType := 13 }, { startPc := 0, endPc := 10, handlerPc := 21, catchType := 29 }, { startPc := 0, endPc := 10, handlerPc := 25, catchType := 15 }] (htab.trans rfl) (fun _ h9 => by cases h9) (by decide) (by decide) we_3_61 (by decide) ?_
      refine x_astore C dL_setLimit_13 (by decide) rfl ?_
      refine x_iconst C (v := 1) dL_setLimit_15 (by decide) ?_
      exact x_iret C rfl rfl dL_setLimit_16
    · have e1 : R0 = (2, z.2.2, O) := by rw [hR]; unfold wr; rw [if_neg hne, h]; rfl
      subst e1
      rw [h]
      refine xc_catch C (name := "java/lang/IllegalArgumentException") [{ startPc := 0, endPc := 10, handlerPc := 13, catchType := 21 }] { startPc := 0, endPc := 10, handlerPc := 17, catchType := 13 } [{ startPc := 0, endPc := 10, handlerPc := 21, catchType := 29 }, { startPc := 0, endPc := 10, handlerPc := 25, catchType := 15 }] (htab.trans rfl) (List.forall_mem_cons.mpr ⟨⟨by decide, "java/lang/IndexOutOfBoundsException", we_3_61, by decide⟩, (fun _ h9 => by cases h9)⟩) (by decide) (by decide) we_2_138 (by decide) ?_
      refine x_astore C dL_setLimit_17 (by decide) rfl ?_
      refine x_iconst C (v := 2) dL_setLimit_19 (by decide) ?_
      exact x_iret C rfl rfl dL_setLimit_20
    · have e1 : R0 = (3, z.2.2, O) := by rw [hR]; unfold wr; rw [if_neg hne, h]; rfl
      subst e1
      rw [h]
      refine xc_catch C (name := "java/lang/UnsupportedOperationException") [{ startPc := 0, endPc := 10, handlerPc := 13, catchType := 21 }, { startPc := 0, endPc := 10, handlerPc := 17, catchType := 13 }] { startPc := 0, endPc := 10, handlerPc := 21, catchType := 29 } [{ startPc := 0, endPc := 10, handlerPc := 25, catchType := 15 }] (htab.trans rfl) (List.forall_mem_cons.mpr ⟨⟨by decide, "java/lang/IndexOutOfBoundsException", we_3_61, by decide⟩, (List.forall_mem_cons.mpr ⟨⟨by decide, "java/lang/IllegalArgumentException", we_2_138, by decide⟩, (fun _ h9 => by cases h9)⟩)⟩) (by decide) (by decide) we_3_141 (by decide) ?_
      refine x_astore C dL_setLimit_21 (by decide) rfl ?_
      refine x_iconst C (v := 3) dL_setLimit_23 (by decide) ?_
      exact x_iret C rfl rfl dL_setLimit_24
    · have e1 : R0 = (4, z.2.2, O) := by rw [hR]; unfold wr; rw [if_neg hne, h]; rfl
      subst e1
      rw [h]
      refine xc_catch C (name := "java/lang/IllegalStateException") [{ startPc := 0, endPc := 10, handlerPc := 13, catchType := 21 }, { startPc := 0, endPc := 10, handlerPc := 17, catchType := 13 }, { startPc := 0, endPc := 10, handlerPc := 21, catchType := 29 }] { startPc := 0, endPc := 10, handlerPc := 25, catchType := 15 } [] (htab.trans rfl) (List.forall_mem_cons.mpr ⟨⟨by decide, "java/lang/IndexOutOfBoundsException", we_3_61, by decide⟩, (List.forall_mem_cons.mpr ⟨⟨by decide, "java/lang/IllegalArgumentException", we_2_138, by decide⟩, (List.forall_mem_cons.mpr ⟨⟨by decide, "java/lang/UnsupportedOperationException", we_3_141, by decide⟩, (fun _ h9 => by cases h9)⟩)⟩)⟩) (by decide) (by decide) we_2_139 (by decide) ?_
      refine x_astore C dL_setLimit_25 (by decide) rfl ?_
      refine x_iconst C (v := 4) dL_setLimit_27 (by decide) ?_
      exact x_iret C rfl rfl dL_setLimit_28
  · have e1 : R0 = (0, z.2.2, (z.2.1.toInt64, O.2)) := by rw [hR]; unfold wr; rw [if_pos h0]
    subst e1
    refine x_i2l C dL_setLimit_8 ?_
    refine x_last C dL_setLimit_9 ?_
    refine x_goto C dL_setLimit_10 (tgt := 29) (by decide) ?_
    refine x_iconst C (v := 0) dL_setLimit_29 (by decide) ?_
    exact x_iret C rfl rfl dL_setLimit_30
set_option maxHeartbeats 4000000 in
set_option maxRecDepth 100000 in
theorem lc_kindOf {l : Launch} {A : Nat → Prop} {G : GT} {ad : Nat → Nat} (gl : Gl l A ad) (B : StB) (M : StM) (O : StO) (x0 : Int32)  (hok : ok_X6_kindOf B x0) (z : Nat × Int32 × StB) (hz : z = f_X6_kindOf B x0) (hx : z.1 = 0 ∨ z.1 = 1 ) (R0 : Int32 × StB × StO) (hR : R0 = wr [1] z O) : Met l yL_kindOf (wofH yL_kindOf cL_kindOf 4 (some .int) [(0, 9, 12, 21)]) (rmd 16 4 24) (va_Pc [.ref (ad 176), .int x0, .ref (ad 202)] (PW G A ad B M O)) (QI G A ad R0.1 R0.2.1 M R0.2.2) 4 24 A := by
  have hM := c_X6_kindOf (G := G) gl B M O x0 hok
  rw [← hz] at hM
  refine xw_body (own := "InkBankLaw") (ls := [(0, .ref (ad 176)), (1, .int x0), (2, .ref (ad 202))]) (by decide) rfl gl (Nat.le_of_ble_eq_true rfl) rfl ?_
  intro p e s m args below meth c C htab
  refine x_aload_n C 2 dL_kindOf_0 rfl rfl ?_
  refine x_iconst C (v := 0) dL_kindOf_1 (by decide) ?_
  refine x_aload_n C 0 dL_kindOf_2 rfl rfl ?_
  refine x_iload_n C 1 dL_kindOf_3 rfl rfl ?_
  refine xw_cIV C (as := [.int x0]) (rest := [.int 0, .ref (ad 202)]) (ci := 10) (T := TX6) (N := 10) (n := 1) hM e_I rfl ⟨we_3_158, we_3_159⟩ ⟨we_3_160, we_1_1, by decide, by decide, by decide +kernel⟩ we_3_157 ⟨(Nat.le_of_ble_eq_true rfl), (Nat.le_of_ble_eq_true rfl)⟩ ⟨(Nat.le_of_ble_eq_true rfl), (Nat.le_of_ble_eq_true rfl)⟩ rfl rfl (Nat.le_of_ble_eq_true rfl) dL_kindOf_4 (fun hne q => ?_) (fun h0 => ?_)
  · rcases hx with h | h
    · exact absurd h hne
    · have e1 : R0 = (1, z.2.2, O) := by rw [hR]; unfold wr; rw [if_neg hne, h]; rfl
      subst e1
      rw [h]
      refine xc_catch C (name := "java/lang/IndexOutOfBoundsException") [] { startPc := 0, endPc := 9, handlerPc := 12, catchType := 21 } [] (htab.trans rfl) (fun _ h9 => by cases h9) (by decide) (by decide) we_3_61 (by decide) ?_
      refine x_astore_n C dL_kindOf_12 rfl (by decide) rfl ?_
      refine x_iconst C (v := 1) dL_kindOf_13 (by decide) ?_
      exact x_iret C rfl rfl dL_kindOf_14
  · have e1 : R0 = (0, z.2.2, (z.2.1.toInt64, O.2)) := by rw [hR]; unfold wr; rw [if_pos h0]
    subst e1
    refine x_i2l C dL_kindOf_7 ?_
    refine x_last C dL_kindOf_8 ?_
    refine x_goto C dL_kindOf_9 (tgt := 15) (by decide) ?_
    refine x_iconst C (v := 0) dL_kindOf_15 (by decide) ?_
    exact x_iret C rfl rfl dL_kindOf_16
set_option maxHeartbeats 4000000 in
set_option maxRecDepth 100000 in
theorem lc_balanceOf {l : Launch} {A : Nat → Prop} {G : GT} {ad : Nat → Nat} (gl : Gl l A ad) (B : StB) (M : StM) (O : StO) (x0 : Int32)  (hok : ok_X6_balanceOf B x0) (z : Nat × Int32 × StB) (hz : z = f_X6_balanceOf B x0) (hx : z.1 = 0 ∨ z.1 = 1 ) (R0 : Int32 × StB × StO) (hR : R0 = wr [1] z O) : Met l yL_balanceOf (wofH yL_balanceOf cL_balanceOf 4 (some .int) [(0, 9, 12, 21)]) (rmd 16 4 24) (va_Pc [.ref (ad 176), .int x0, .ref (ad 202)] (PW G A ad B M O)) (QI G A ad R0.1 R0.2.1 M R0.2.2) 4 24 A := by
  have hM := c_X6_balanceOf (G := G) gl B M O x0 hok
  rw [← hz] at hM
  refine xw_body (own := "InkBankLaw") (ls := [(0, .ref (ad 176)), (1, .int x0), (2, .ref (ad 202))]) (by decide) rfl gl (Nat.le_of_ble_eq_true rfl) rfl ?_
  intro p e s m args below meth c C htab
  refine x_aload_n C 2 dL_balanceOf_0 rfl rfl ?_
  refine x_iconst C (v := 0) dL_balanceOf_1 (by decide) ?_
  refine x_aload_n C 0 dL_balanceOf_2 rfl rfl ?_
  refine x_iload_n C 1 dL_balanceOf_3 rfl rfl ?_
  refine xw_cIV C (as := [.int x0]) (rest := [.int 0, .ref (ad 202)]) (ci := 10) (T := TX6) (N := 10) (n := 1) hM e_I rfl ⟨we_3_170, we_3_171⟩ ⟨we_3_172, we_1_1, by decide, by decide, by decide +kernel⟩ we_3_169 ⟨(Nat.le_of_ble_eq_true rfl), (Nat.le_of_ble_eq_true rfl)⟩ ⟨(Nat.le_of_ble_eq_true rfl), (Nat.le_of_ble_eq_true rfl)⟩ rfl rfl (Nat.le_of_ble_eq_true rfl) dL_balanceOf_4 (fun hne q => ?_) (fun h0 => ?_)
  · rcases hx with h | h
    · exact absurd h hne
    · have e1 : R0 = (1, z.2.2, O) := by rw [hR]; unfold wr; rw [if_neg hne, h]; rfl
      subst e1
      rw [h]
      refine xc_catch C (name := "java/lang/IndexOutOfBoundsException") [] { startPc := 0, endPc := 9, handlerPc := 12, catchType := 21 } [] (htab.trans rfl) (fun _ h9 => by cases h9) (by decide) (by decide) we_3_61 (by decide) ?_
      refine x_astore_n C dL_balanceOf_12 rfl (by decide) rfl ?_
      refine x_iconst C (v := 1) dL_balanceOf_13 (by decide) ?_
      exact x_iret C rfl rfl dL_balanceOf_14
  · have e1 : R0 = (0, z.2.2, (z.2.1.toInt64, O.2)) := by rw [hR]; unfold wr; rw [if_pos h0]
    subst e1
    refine x_i2l C dL_balanceOf_7 ?_
    refine x_last C dL_balanceOf_8 ?_
    refine x_goto C dL_balanceOf_9 (tgt := 15) (by decide) ?_
    refine x_iconst C (v := 0) dL_balanceOf_15 (by decide) ?_
    exact x_iret C rfl rfl dL_balanceOf_16
set_option maxHeartbeats 4000000 in
set_option maxRecDepth 100000 in
theorem lc_limitOf {l : Launch} {A : Nat → Prop} {G : GT} {ad : Nat → Nat} (gl : Gl l A ad) (B : StB) (M : StM) (O : StO) (x0 : Int32)  (hok : ok_X6_limitOf B x0) (z : Nat × Int32 × StB) (hz : z = f_X6_limitOf B x0) (hx : z.1 = 0 ∨ z.1 = 1 ) (R0 : Int32 × StB × StO) (hR : R0 = wr [1] z O) : Met l yL_limitOf (wofH yL_limitOf cL_limitOf 4 (some .int) [(0, 9, 12, 21)]) (rmd 16 4 24) (va_Pc [.ref (ad 176), .int x0, .ref (ad 202)] (PW G A ad B M O)) (QI G A ad R0.1 R0.2.1 M R0.2.2) 4 24 A := by
  have hM := c_X6_limitOf (G := G) gl B M O x0 hok
  rw [← hz] at hM
  refine xw_body (own := "InkBankLaw") (ls := [(0, .ref (ad 176)), (1, .int x0), (2, .ref (ad 202))]) (by decide) rfl gl (Nat.le_of_ble_eq_true rfl) rfl ?_
  intro p e s m args below meth c C htab
  refine x_aload_n C 2 dL_limitOf_0 rfl rfl ?_
  refine x_iconst C (v := 0) dL_limitOf_1 (by decide) ?_
  refine x_aload_n C 0 dL_limitOf_2 rfl rfl ?_
  refine x_iload_n C 1 dL_limitOf_3 rfl rfl ?_
  refine xw_cIV C (as := [.int x0]) (rest := [.int 0, .ref (ad 202)]) (ci := 10) (T := TX6) (N := 10) (n := 1) hM e_I rfl ⟨we_3_177, we_3_178⟩ ⟨we_3_179, we_1_1, by decide, by decide, by decide +kernel⟩ we_3_176 ⟨(Nat.le_of_ble_eq_true rfl), (Nat.le_of_ble_eq_true rfl)⟩ ⟨(Nat.le_of_ble_eq_true rfl), (Nat.le_of_ble_eq_true rfl)⟩ rfl rfl (Nat.le_of_ble_eq_true rfl) dL_limitOf_4 (fun hne q => ?_) (fun h0 => ?_)
  · rcases hx with h | h
    · exact absurd h hne
    · have e1 : R0 = (1, z.2.2, O) := by rw [hR]; unfold wr; rw [if_neg hne, h]; rfl
      subst e1
      rw [h]
      refine xc_catch C (name := "java/lang/IndexOutOfBoundsException") [] { startPc := 0, endPc := 9, handlerPc := 12, catchType := 21 } [] (htab.trans rfl) (fun _ h9 => by cases h9) (by decide) (by decide) we_3_61 (by decide) ?_
      refine x_astore_n C dL_limitOf_12 rfl (by decide) rfl ?_
      refine x_iconst C (v := 1) dL_limitOf_13 (by decide) ?_
      exact x_iret C rfl rfl dL_limitOf_14
  · have e1 : R0 = (0, z.2.2, (z.2.1.toInt64, O.2)) := by rw [hR]; unfold wr; rw [if_pos h0]
    subst e1
    refine x_i2l C dL_limitOf_7 ?_
    refine x_last C dL_limitOf_8 ?_
    refine x_goto C dL_limitOf_9 (tgt := 15) (by decide) ?_
    refine x_iconst C (v := 0) dL_limitOf_15 (by decide) ?_
    exact x_iret C rfl rfl dL_limitOf_16
set_option maxHeartbeats 4000000 in
set_option maxRecDepth 100000 in
theorem lc_availableIn {l : Launch} {A : Nat → Prop} {G : GT} {ad : Nat → Nat} (gl : Gl l A ad) (B : StB) (M : StM) (O : StO) (x0 : Int32)  (hok : ok_X6_availableIn B x0) (z : Nat × Int32 × StB) (hz : z = f_X6_availableIn B x0) (hx : z.1 = 0 ∨ z.1 = 1 ) (R0 : Int32 × StB × StO) (hR : R0 = wr [1] z O) : Met l yL_availableIn (wofH yL_availableIn cL_availableIn 4 (some .int) [(0, 9, 12, 21)]) (rmd 16 4 24) (va_Pc [.ref (ad 176), .int x0, .ref (ad 202)] (PW G A ad B M O)) (QI G A ad R0.1 R0.2.1 M R0.2.2) 4 24 A := by
  have hM := c_X6_availableIn (G := G) gl B M O x0 hok
  rw [← hz] at hM
  refine xw_body (own := "InkBankLaw") (ls := [(0, .ref (ad 176)), (1, .int x0), (2, .ref (ad 202))]) (by decide) rfl gl (Nat.le_of_ble_eq_true rfl) rfl ?_
  intro p e s m args below meth c C htab
  refine x_aload_n C 2 dL_availableIn_0 rfl rfl ?_
  refine x_iconst C (v := 0) dL_availableIn_1 (by decide) ?_
  refine x_aload_n C 0 dL_availableIn_2 rfl rfl ?_
  refine x_iload_n C 1 dL_availableIn_3 rfl rfl ?_
  refine xw_cIV C (as := [.int x0]) (rest := [.int 0, .ref (ad 202)]) (ci := 10) (T := TX6) (N := 10) (n := 1) hM e_I rfl ⟨we_3_184, we_3_185⟩ ⟨we_3_186, we_1_1, by decide, by decide, by decide +kernel⟩ we_3_183 ⟨(Nat.le_of_ble_eq_true rfl), (Nat.le_of_ble_eq_true rfl)⟩ ⟨(Nat.le_of_ble_eq_true rfl), (Nat.le_of_ble_eq_true rfl)⟩ rfl rfl (Nat.le_of_ble_eq_true rfl) dL_availableIn_4 (fun hne q => ?_) (fun h0 => ?_)
  · rcases hx with h | h
    · exact absurd h hne
    · have e1 : R0 = (1, z.2.2, O) := by rw [hR]; unfold wr; rw [if_neg hne, h]; rfl
      subst e1
      rw [h]
      refine xc_catch C (name := "java/lang/IndexOutOfBoundsException") [] { startPc := 0, endPc := 9, handlerPc := 12, catchType := 21 } [] (htab.trans rfl) (fun _ h9 => by cases h9) (by decide) (by decide) we_3_61 (by decide) ?_
      refine x_astore_n C dL_availableIn_12 rfl (by decide) rfl ?_
      refine x_iconst C (v := 1) dL_availableIn_13 (by decide) ?_
      exact x_iret C rfl rfl dL_availableIn_14
  · have e1 : R0 = (0, z.2.2, (z.2.1.toInt64, O.2)) := by rw [hR]; unfold wr; rw [if_pos h0]
    subst e1
    refine x_i2l C dL_availableIn_7 ?_
    refine x_last C dL_availableIn_8 ?_
    refine x_goto C dL_availableIn_9 (tgt := 15) (by decide) ?_
    refine x_iconst C (v := 0) dL_availableIn_15 (by decide) ?_
    exact x_iret C rfl rfl dL_availableIn_16
set_option maxHeartbeats 4000000 in
set_option maxRecDepth 100000 in
theorem lc_wasTouched {l : Launch} {A : Nat → Prop} {G : GT} {ad : Nat → Nat} (gl : Gl l A ad) (B : StB) (M : StM) (O : StO) (x0 : Int32)  (hok : ok_X6_wasTouched B x0) (z : Nat × Int32 × StB) (hz : z = f_X6_wasTouched B x0) (hx : z.1 = 0 ∨ z.1 = 1 ) (R0 : Int32 × StB × StO) (hR : R0 = wrZ [1] z O) : Met l yL_wasTouched (wofH yL_wasTouched cL_wasTouched 4 (some .int) [(0, 16, 19, 21)]) (rmd 16 4 24) (va_Pc [.ref (ad 176), .int x0, .ref (ad 202)] (PW G A ad B M O)) (QI G A ad R0.1 R0.2.1 M R0.2.2) 4 24 A := by
  have hM := c_X6_wasTouched (G := G) gl B M O x0 hok
  rw [← hz] at hM
  refine xw_body (own := "InkBankLaw") (ls := [(0, .ref (ad 176)), (1, .int x0), (2, .ref (ad 202))]) (by decide) rfl gl (Nat.le_of_ble_eq_true rfl) rfl ?_
  intro p e s m args below meth c C htab
  refine x_aload_n C 2 dL_wasTouched_0 rfl rfl ?_
  refine x_iconst C (v := 0) dL_wasTouched_1 (by decide) ?_
  refine x_aload_n C 0 dL_wasTouched_2 rfl rfl ?_
  refine x_iload_n C 1 dL_wasTouched_3 rfl rfl ?_
  refine xw_cIV C (as := [.int x0]) (rest := [.int 0, .ref (ad 202)]) (ci := 10) (T := TX6) (N := 10) (n := 1) hM e_I rfl ⟨we_3_192, we_3_193⟩ ⟨we_3_194, we_1_1, by decide, by decide, by decide +kernel⟩ we_3_191 ⟨(Nat.le_of_ble_eq_true rfl), (Nat.le_of_ble_eq_true rfl)⟩ ⟨(Nat.le_of_ble_eq_true rfl), (Nat.le_of_ble_eq_true rfl)⟩ rfl rfl (Nat.le_of_ble_eq_true rfl) dL_wasTouched_4 (fun hne q => ?_) (fun h0 => ?_)
  · rcases hx with h | h
    · exact absurd h hne
    · have e1 : R0 = (1, z.2.2, O) := by rw [hR]; unfold wrZ; rw [if_neg hne, h]; rfl
      subst e1
      rw [h]
      refine xc_catch C (name := "java/lang/IndexOutOfBoundsException") [] { startPc := 0, endPc := 16, handlerPc := 19, catchType := 21 } [] (htab.trans rfl) (fun _ h9 => by cases h9) (by decide) (by decide) we_3_61 (by decide) ?_
      refine x_astore_n C dL_wasTouched_19 rfl (by decide) rfl ?_
      refine x_iconst C (v := 1) dL_wasTouched_20 (by decide) ?_
      exact x_iret C rfl rfl dL_wasTouched_21
  · skip
    refine x_if_eq C dL_wasTouched_7 (tgt := 14) (by decide) (fun hc => ?_) (fun hc => ?_)
    · have e1 : R0 = (0, z.2.2, (0, O.2)) := by rw [hR]; unfold wrZ; rw [if_pos h0, if_pos hc]
      subst e1
      refine x_lconst C (v := 0) dL_wasTouched_14 (by decide) ?_
      refine x_last C dL_wasTouched_15 ?_
      refine x_goto C dL_wasTouched_16 (tgt := 22) (by decide) ?_
      refine x_iconst C (v := 0) dL_wasTouched_22 (by decide) ?_
      exact x_iret C rfl rfl dL_wasTouched_23
    · have e1 : R0 = (0, z.2.2, (1, O.2)) := by rw [hR]; unfold wrZ; rw [if_pos h0, if_neg hc]
      subst e1
      refine x_lconst C (v := 1) dL_wasTouched_10 (by decide) ?_
      refine x_goto C dL_wasTouched_11 (tgt := 15) (by decide) ?_
      refine x_last C dL_wasTouched_15 ?_
      refine x_goto C dL_wasTouched_16 (tgt := 22) (by decide) ?_
      refine x_iconst C (v := 0) dL_wasTouched_22 (by decide) ?_
      exact x_iret C rfl rfl dL_wasTouched_23
set_option maxHeartbeats 4000000 in
set_option maxRecDepth 100000 in
theorem lc_interestOf {l : Launch} {A : Nat → Prop} {G : GT} {ad : Nat → Nat} (gl : Gl l A ad) (B : StB) (M : StM) (O : StO) (x0 : Int32)  (hok : ok_X6_interestOf B x0) (z : Nat × Int32 × StB) (hz : z = f_X6_interestOf B x0) (hx : z.1 = 0 ∨ z.1 = 1 ) (R0 : Int32 × StB × StO) (hR : R0 = wr [1] z O) : Met l yL_interestOf (wofH yL_interestOf cL_interestOf 4 (some .int) [(0, 9, 12, 21)]) (rmd 16 4 24) (va_Pc [.ref (ad 176), .int x0, .ref (ad 202)] (PW G A ad B M O)) (QI G A ad R0.1 R0.2.1 M R0.2.2) 4 24 A := by
  have hM := c_X6_interestOf (G := G) gl B M O x0 hok
  rw [← hz] at hM
  refine xw_body (own := "InkBankLaw") (ls := [(0, .ref (ad 176)), (1, .int x0), (2, .ref (ad 202))]) (by decide) rfl gl (Nat.le_of_ble_eq_true rfl) rfl ?_
  intro p e s m args below meth c C htab
  refine x_aload_n C 2 dL_interestOf_0 rfl rfl ?_
  refine x_iconst C (v := 0) dL_interestOf_1 (by decide) ?_
  refine x_aload_n C 0 dL_interestOf_2 rfl rfl ?_
  refine x_iload_n C 1 dL_interestOf_3 rfl rfl ?_
  refine xw_cIV C (as := [.int x0]) (rest := [.int 0, .ref (ad 202)]) (ci := 10) (T := TX6) (N := 10) (n := 1) hM e_I rfl ⟨we_3_199, we_3_200⟩ ⟨we_3_201, we_1_1, by decide, by decide, by decide +kernel⟩ we_3_198 ⟨(Nat.le_of_ble_eq_true rfl), (Nat.le_of_ble_eq_true rfl)⟩ ⟨(Nat.le_of_ble_eq_true rfl), (Nat.le_of_ble_eq_true rfl)⟩ rfl rfl (Nat.le_of_ble_eq_true rfl) dL_interestOf_4 (fun hne q => ?_) (fun h0 => ?_)
  · rcases hx with h | h
    · exact absurd h hne
    · have e1 : R0 = (1, z.2.2, O) := by rw [hR]; unfold wr; rw [if_neg hne, h]; rfl
      subst e1
      rw [h]
      refine xc_catch C (name := "java/lang/IndexOutOfBoundsException") [] { startPc := 0, endPc := 9, handlerPc := 12, catchType := 21 } [] (htab.trans rfl) (fun _ h9 => by cases h9) (by decide) (by decide) we_3_61 (by decide) ?_
      refine x_astore_n C dL_interestOf_12 rfl (by decide) rfl ?_
      refine x_iconst C (v := 1) dL_interestOf_13 (by decide) ?_
      exact x_iret C rfl rfl dL_interestOf_14
  · have e1 : R0 = (0, z.2.2, (z.2.1.toInt64, O.2)) := by rw [hR]; unfold wr; rw [if_pos h0]
    subst e1
    refine x_i2l C dL_interestOf_7 ?_
    refine x_last C dL_interestOf_8 ?_
    refine x_goto C dL_interestOf_9 (tgt := 15) (by decide) ?_
    refine x_iconst C (v := 0) dL_interestOf_15 (by decide) ?_
    exact x_iret C rfl rfl dL_interestOf_16
set_option maxHeartbeats 4000000 in
set_option maxRecDepth 100000 in
theorem lc_accountAtRank {l : Launch} {A : Nat → Prop} {G : GT} {ad : Nat → Nat} (gl : Gl l A ad) (B : StB) (M : StM) (O : StO) (x0 : Int32)  (hok : ok_X6_accountAtRank B x0) (z : Nat × Int32 × StB) (hz : z = f_X6_accountAtRank B x0) (hx : z.1 = 0 ∨ z.1 = 5 ) (R0 : Int32 × StB × StO) (hR : R0 = wr [5] z O) : Met l yL_accountAtRank (wofH yL_accountAtRank cL_accountAtRank 4 (some .int) [(0, 9, 12, 53)]) (rmd 16 4 24) (va_Pc [.ref (ad 176), .int x0, .ref (ad 202)] (PW G A ad B M O)) (QI G A ad R0.1 R0.2.1 M R0.2.2) 4 24 A := by
  have hM := c_X6_accountAtRank (G := G) gl B M O x0 hok
  rw [← hz] at hM
  refine xw_body (own := "InkBankLaw") (ls := [(0, .ref (ad 176)), (1, .int x0), (2, .ref (ad 202))]) (by decide) rfl gl (Nat.le_of_ble_eq_true rfl) rfl ?_
  intro p e s m args below meth c C htab
  refine x_aload_n C 2 dL_accountAtRank_0 rfl rfl ?_
  refine x_iconst C (v := 0) dL_accountAtRank_1 (by decide) ?_
  refine x_aload_n C 0 dL_accountAtRank_2 rfl rfl ?_
  refine x_iload_n C 1 dL_accountAtRank_3 rfl rfl ?_
  refine xw_cIV C (as := [.int x0]) (rest := [.int 0, .ref (ad 202)]) (ci := 10) (T := TX6) (N := 10) (n := 1) hM e_I rfl ⟨we_3_220, we_3_221⟩ ⟨we_3_222, we_1_1, by decide, by decide, by decide +kernel⟩ we_3_219 ⟨(Nat.le_of_ble_eq_true rfl), (Nat.le_of_ble_eq_true rfl)⟩ ⟨(Nat.le_of_ble_eq_true rfl), (Nat.le_of_ble_eq_true rfl)⟩ rfl rfl (Nat.le_of_ble_eq_true rfl) dL_accountAtRank_4 (fun hne q => ?_) (fun h0 => ?_)
  · rcases hx with h | h
    · exact absurd h hne
    · have e1 : R0 = (1, z.2.2, O) := by rw [hR]; unfold wr; rw [if_neg hne, h]; rfl
      subst e1
      rw [h]
      refine xc_catch C (name := "java/util/NoSuchElementException") [] { startPc := 0, endPc := 9, handlerPc := 12, catchType := 53 } [] (htab.trans rfl) (fun _ h9 => by cases h9) (by decide) (by decide) we_3_218 (by decide) ?_
      refine x_astore_n C dL_accountAtRank_12 rfl (by decide) rfl ?_
      refine x_iconst C (v := 1) dL_accountAtRank_13 (by decide) ?_
      exact x_iret C rfl rfl dL_accountAtRank_14
  · have e1 : R0 = (0, z.2.2, (z.2.1.toInt64, O.2)) := by rw [hR]; unfold wr; rw [if_pos h0]
    subst e1
    refine x_i2l C dL_accountAtRank_7 ?_
    refine x_last C dL_accountAtRank_8 ?_
    refine x_goto C dL_accountAtRank_9 (tgt := 15) (by decide) ?_
    refine x_iconst C (v := 0) dL_accountAtRank_15 (by decide) ?_
    exact x_iret C rfl rfl dL_accountAtRank_16
set_option maxHeartbeats 4000000 in
set_option maxRecDepth 100000 in
theorem lc_meanBalance {l : Launch} {A : Nat → Prop} {G : GT} {ad : Nat → Nat} (gl : Gl l A ad) (B : StB) (M : StM) (O : StO)  (hok : ok_X6_meanBalance B) (z : Nat × UInt64 × StB) (hz : z = f_X6_meanBalance B) (hx : z.1 = 0 ∨ z.1 = 6 ) (R0 : Int32 × StB × StO) (hR : R0 = wrD [6] z O) : Met l yL_meanBalance (wofH yL_meanBalance cL_meanBalance 3 (some .int) [(0, 7, 10, 59)]) (rmd 16 4 24) (va_Pc [.ref (ad 176), .ref (ad 203)] (PW G A ad B M O)) (QI G A ad R0.1 R0.2.1 M R0.2.2) 4 24 A := by
  have hM := c_X6_meanBalance (G := G) gl B M O  hok
  rw [← hz] at hM
  refine xw_body (own := "InkBankLaw") (ls := [(0, .ref (ad 176)), (1, .ref (ad 203))]) (by decide) rfl gl (Nat.le_of_ble_eq_true rfl) rfl ?_
  intro p e s m args below meth c C htab
  refine x_aload_n C 1 dL_meanBalance_0 rfl rfl ?_
  refine x_iconst C (v := 0) dL_meanBalance_1 (by decide) ?_
  refine x_aload_n C 0 dL_meanBalance_2 rfl rfl ?_
  refine xw_cDV C (as := []) (rest := [.int 0, .ref (ad 203)]) (ci := 10) (T := TX6) (N := 10) (n := 0) hM e_I rfl ⟨we_4_9, we_4_10⟩ ⟨we_4_11, we_1_1, by decide, by decide, by decide +kernel⟩ we_4_8 ⟨(Nat.le_of_ble_eq_true rfl), (Nat.le_of_ble_eq_true rfl)⟩ ⟨(Nat.le_of_ble_eq_true rfl), (Nat.le_of_ble_eq_true rfl)⟩ rfl rfl (Nat.le_of_ble_eq_true rfl) dL_meanBalance_3 (fun hne q => ?_) (fun h0 => ?_)
  · rcases hx with h | h
    · exact absurd h hne
    · have e1 : R0 = (1, z.2.2, O) := by rw [hR]; unfold wrD; rw [if_neg hne, h]; rfl
      subst e1
      rw [h]
      refine xc_catch C (name := "java/lang/ArithmeticException") [] { startPc := 0, endPc := 7, handlerPc := 10, catchType := 59 } [] (htab.trans rfl) (fun _ h9 => by cases h9) (by decide) (by decide) we_3_234 (by decide) ?_
      refine x_astore_n C dL_meanBalance_10 rfl (by decide) rfl ?_
      refine x_iconst C (v := 1) dL_meanBalance_11 (by decide) ?_
      exact x_iret C rfl rfl dL_meanBalance_12
  · have e1 : R0 = (0, z.2.2, (O.1, z.2.1)) := by rw [hR]; unfold wrD; rw [if_pos h0]
    subst e1
    refine x_dast C dL_meanBalance_6 ?_
    refine x_goto C dL_meanBalance_7 (tgt := 13) (by decide) ?_
    refine x_iconst C (v := 0) dL_meanBalance_13 (by decide) ?_
    exact x_iret C rfl rfl dL_meanBalance_14
set_option maxHeartbeats 4000000 in
set_option maxRecDepth 100000 in
theorem lc_endDays {l : Launch} {A : Nat → Prop} {G : GT} {ad : Nat → Nat} (gl : Gl l A ad) (B : StB) (M : StM) (O : StO) (x0 : Int32)  (hok : ok_X6_endDays B x0) (z : Nat × Int32 × StB) (hz : z = f_X6_endDays B x0) (hx : z.1 = 0 ∨ z.1 = 2 ) (R0 : Int32 × StB × StO) (hR : R0 = wr [2] z O) : Met l yL_endDays (wofH yL_endDays cL_endDays 4 (some .int) [(0, 9, 12, 13)]) (rmd 16 4 24) (va_Pc [.ref (ad 176), .int x0, .ref (ad 202)] (PW G A ad B M O)) (QI G A ad R0.1 R0.2.1 M R0.2.2) 4 24 A := by
  have hM := c_X6_endDays (G := G) gl B M O x0 hok
  rw [← hz] at hM
  refine xw_body (own := "InkBankLaw") (ls := [(0, .ref (ad 176)), (1, .int x0), (2, .ref (ad 202))]) (by decide) rfl gl (Nat.le_of_ble_eq_true rfl) rfl ?_
  intro p e s m args below meth c C htab
  refine x_aload_n C 2 dL_endDays_0 rfl rfl ?_
  refine x_iconst C (v := 0) dL_endDays_1 (by decide) ?_
  refine x_aload_n C 0 dL_endDays_2 rfl rfl ?_
  refine x_iload_n C 1 dL_endDays_3 rfl rfl ?_
  refine xw_cIV C (as := [.int x0]) (rest := [.int 0, .ref (ad 202)]) (ci := 10) (T := TX6) (N := 10) (n := 1) hM e_I rfl ⟨we_4_21, we_4_22⟩ ⟨we_4_23, we_1_1, by decide, by decide, by decide +kernel⟩ we_4_20 ⟨(Nat.le_of_ble_eq_true rfl), (Nat.le_of_ble_eq_true rfl)⟩ ⟨(Nat.le_of_ble_eq_true rfl), (Nat.le_of_ble_eq_true rfl)⟩ rfl rfl (Nat.le_of_ble_eq_true rfl) dL_endDays_4 (fun hne q => ?_) (fun h0 => ?_)
  · rcases hx with h | h
    · exact absurd h hne
    · have e1 : R0 = (1, z.2.2, O) := by rw [hR]; unfold wr; rw [if_neg hne, h]; rfl
      subst e1
      rw [h]
      refine xc_catch C (name := "java/lang/IllegalArgumentException") [] { startPc := 0, endPc := 9, handlerPc := 12, catchType := 13 } [] (htab.trans rfl) (fun _ h9 => by cases h9) (by decide) (by decide) we_2_138 (by decide) ?_
      refine x_astore_n C dL_endDays_12 rfl (by decide) rfl ?_
      refine x_iconst C (v := 1) dL_endDays_13 (by decide) ?_
      exact x_iret C rfl rfl dL_endDays_14
  · have e1 : R0 = (0, z.2.2, (z.2.1.toInt64, O.2)) := by rw [hR]; unfold wr; rw [if_pos h0]
    subst e1
    refine x_i2l C dL_endDays_7 ?_
    refine x_last C dL_endDays_8 ?_
    refine x_goto C dL_endDays_9 (tgt := 15) (by decide) ?_
    refine x_iconst C (v := 0) dL_endDays_15 (by decide) ?_
    exact x_iret C rfl rfl dL_endDays_16
set_option maxHeartbeats 4000000 in
set_option maxRecDepth 100000 in
theorem lc_balanceAfter {l : Launch} {A : Nat → Prop} {G : GT} {ad : Nat → Nat} (gl : Gl l A ad) (B : StB) (M : StM) (O : StO) (x0 : Int32) (x1 : Int32)  (hok : ok_X6_balanceAfter B x0 x1) (z : Nat × Int32 × StB) (hz : z = f_X6_balanceAfter B x0 x1) (hx : z.1 = 0 ∨ z.1 = 1 ∨ z.1 = 2 ) (R0 : Int32 × StB × StO) (hR : R0 = wr [1, 2] z O) : Met l yL_balanceAfter (wofH yL_balanceAfter cL_balanceAfter 5 (some .int) [(0, 10, 13, 21), (0, 10, 17, 13)]) (rmd 16 4 24) (va_Pc [.ref (ad 176), .int x0, .int x1, .ref (ad 202)] (PW G A ad B M O)) (QI G A ad R0.1 R0.2.1 M R0.2.2) 4 24 A := by
  have hM := c_X6_balanceAfter (G := G) gl B M O x0 x1 hok
  rw [← hz] at hM
  refine xw_body (own := "InkBankLaw") (ls := [(0, .ref (ad 176)), (1, .int x0), (2, .int x1), (3, .ref (ad 202))]) (by decide) rfl gl (Nat.le_of_ble_eq_true rfl) rfl ?_
  intro p e s m args below meth c C htab
  refine x_aload_n C 3 dL_balanceAfter_0 rfl rfl ?_
  refine x_iconst C (v := 0) dL_balanceAfter_1 (by decide) ?_
  refine x_aload_n C 0 dL_balanceAfter_2 rfl rfl ?_
  refine x_iload_n C 1 dL_balanceAfter_3 rfl rfl ?_
  refine x_iload_n C 2 dL_balanceAfter_4 rfl rfl ?_
  refine xw_cIV C (as := [.int x0, .int x1]) (rest := [.int 0, .ref (ad 202)]) (ci := 10) (T := TX6) (N := 10) (n := 2) hM e_I rfl ⟨we_4_63, we_4_64⟩ ⟨we_4_65, we_1_1, by decide, by decide, by decide +kernel⟩ we_4_62 ⟨(Nat.le_of_ble_eq_true rfl), (Nat.le_of_ble_eq_true rfl)⟩ ⟨(Nat.le_of_ble_eq_true rfl), (Nat.le_of_ble_eq_true rfl)⟩ rfl rfl (Nat.le_of_ble_eq_true rfl) dL_balanceAfter_5 (fun hne q => ?_) (fun h0 => ?_)
  · rcases hx with h | h | h
    · exact absurd h hne
    · have e1 : R0 = (1, z.2.2, O) := by rw [hR]; unfold wr; rw [if_neg hne, h]; rfl
      subst e1
      rw [h]
      refine xc_catch C (name := "java/lang/IndexOutOfBoundsException") [] { startPc := 0, endPc := 10, handlerPc := 13, catchType := 21 } [{ startPc := 0, endPc := 10, handlerPc := 17, catchType := 13 }] (htab.trans rfl) (fun _ h9 => by cases h9) (by decide) (by decide) we_3_61 (by decide) ?_
      refine x_astore C dL_balanceAfter_13 (by decide) rfl ?_
      refine x_iconst C (v := 1) dL_balanceAfter_15 (by decide) ?_
      exact x_iret C rfl rfl dL_balanceAfter_16
    · have e1 : R0 = (2, z.2.2, O) := by rw [hR]; unfold wr; rw [if_neg hne, h]; rfl
      subst e1
      rw [h]
      refine xc_catch C (name := "java/lang/IllegalArgumentException") [{ startPc := 0, endPc := 10, handlerPc := 13, catchType := 21 }] { startPc := 0, endPc := 10, handlerPc := 17, catchType := 13 } [] (htab.trans rfl) (List.forall_mem_cons.mpr ⟨⟨by decide, "java/lang/IndexOutOfBoundsException", we_3_61, by decide⟩, (fun _ h9 => by cases h9)⟩) (by decide) (by decide) we_2_138 (by decide) ?_
      refine x_astore C dL_balanceAfter_17 (by decide) rfl ?_
      refine x_iconst C (v := 2) dL_balanceAfter_19 (by decide) ?_
      exact x_iret C rfl rfl dL_balanceAfter_20
  · have e1 : R0 = (0, z.2.2, (z.2.1.toInt64, O.2)) := by rw [hR]; unfold wr; rw [if_pos h0]
    subst e1
    refine x_i2l C dL_balanceAfter_8 ?_
    refine x_last C dL_balanceAfter_9 ?_
    refine x_goto C dL_balanceAfter_10 (tgt := 21) (by decide) ?_
    refine x_iconst C (v := 0) dL_balanceAfter_21 (by decide) ?_
    exact x_iret C rfl rfl dL_balanceAfter_22
set_option maxHeartbeats 4000000 in
set_option maxRecDepth 100000 in
theorem lc_seal {l : Launch} {A : Nat → Prop} {G : GT} {ad : Nat → Nat} (gl : Gl l A ad) (B : StB) (M : StM) (O : StO) (x0 : Int32) (x1 : Int32) (x2 : Int32) (x3 : Int32)  (hok : ok_X6_seal B x0 x1 x2 x3) (z : Nat × Int32 × StB) (hz : z = f_X6_seal B x0 x1 x2 x3) (hx : z.1 = 0 ∨ z.1 = 1 ∨ z.1 = 2 ∨ z.1 = 4 ) (R0 : Int32 × StB × StO) (hR : R0 = wr [1, 2, 4] z O) : Met l yL_seal (wofH yL_seal cL_seal 7 (some .int) [(0, 14, 17, 21), (0, 14, 21, 13), (0, 14, 25, 15)]) (rmd 16 4 24) (va_Pc [.ref (ad 176), .int x0, .int x1, .int x2, .int x3, .ref (ad 202)] (PW G A ad B M O)) (QI G A ad R0.1 R0.2.1 M R0.2.2) 4 24 A := by
  have hM := c_X6_seal (G := G) gl B M O x0 x1 x2 x3 hok
  rw [← hz] at hM
  refine xw_body (own := "InkBankLaw") (ls := [(0, .ref (ad 176)), (1, .int x0), (2, .int x1), (3, .int x2), (4, .int x3), (5, .ref (ad 202))]) (by decide) rfl gl (Nat.le_of_ble_eq_true rfl) rfl ?_
  intro p e s m args below meth c C htab
  refine x_aload C 5 dL_seal_0 rfl ?_
  refine x_iconst C (v := 0) dL_seal_2 (by decide) ?_
  refine x_aload_n C 0 dL_seal_3 rfl rfl ?_
  refine x_iload_n C 1 dL_seal_4 rfl rfl ?_
  refine x_iload_n C 2 dL_seal_5 rfl rfl ?_
  refine x_iload_n C 3 dL_seal_6 rfl rfl ?_
  refine x_iload C 4 dL_seal_7 rfl ?_
  refine xw_cIV C (as := [.int x0, .int x1, .int x2, .int x3]) (rest := [.int 0, .ref (ad 202)]) (ci := 10) (T := TX6) (N := 10) (n := 4) hM e_I rfl ⟨we_4_74, we_4_75⟩ ⟨we_4_76, we_1_1, by decide, by decide, by decide +kernel⟩ we_4_73 ⟨(Nat.le_of_ble_eq_true rfl), (Nat.le_of_ble_eq_true rfl)⟩ ⟨(Nat.le_of_ble_eq_true rfl), (Nat.le_of_ble_eq_true rfl)⟩ rfl rfl (Nat.le_of_ble_eq_true rfl) dL_seal_9 (fun hne q => ?_) (fun h0 => ?_)
  · rcases hx with h | h | h | h
    · exact absurd h hne
    · have e1 : R0 = (1, z.2.2, O) := by rw [hR]; unfold wr; rw [if_neg hne, h]; rfl
      subst e1
      rw [h]
      refine xc_catch C (name := "java/lang/IndexOutOfBoundsException") [] { startPc := 0, endPc := 14, handlerPc := 17, catchType := 21 } [{ startPc := 0, endPc := 14, handlerPc := 21, catchType := 13 }, { startPc := 0, endPc := 14, handlerPc := 25, catchType := 15 }] (htab.trans rfl) (fun _ h9 => by cases h9) (by decide) (by decide) we_3_61 (by decide) ?_
      refine x_astore C dL_seal_17 (by decide) rfl ?_
      refine x_iconst C (v := 1) dL_seal_19 (by decide) ?_
      exact x_iret C rfl rfl dL_seal_20
    · have e1 : R0 = (2, z.2.2, O) := by rw [hR]; unfold wr; rw [if_neg hne, h]; rfl
      subst e1
      rw [h]
      refine xc_catch C (name := "java/lang/IllegalArgumentException") [{ startPc := 0, endPc := 14, handlerPc := 17, catchType := 21 }] { startPc := 0, endPc := 14, handlerPc := 21, catchType := 13 } [{ startPc := 0, endPc := 14, handlerPc := 25, catchType := 15 }] (htab.trans rfl) (List.forall_mem_cons.mpr ⟨⟨by decide, "java/lang/IndexOutOfBoundsException", we_3_61, by decide⟩, (fun _ h9 => by cases h9)⟩) (by decide) (by decide) we_2_138 (by decide) ?_
      refine x_astore C dL_seal_21 (by decide) rfl ?_
      refine x_iconst C (v := 2) dL_seal_23 (by decide) ?_
      exact x_iret C rfl rfl dL_seal_24
    · have e1 : R0 = (3, z.2.2, O) := by rw [hR]; unfold wr; rw [if_neg hne, h]; rfl
      subst e1
      rw [h]
      refine xc_catch C (name := "java/lang/IllegalStateException") [{ startPc := 0, endPc := 14, handlerPc := 17, catchType := 21 }, { startPc := 0, endPc := 14, handlerPc := 21, catchType := 13 }] { startPc := 0, endPc := 14, handlerPc := 25, catchType := 15 } [] (htab.trans rfl) (List.forall_mem_cons.mpr ⟨⟨by decide, "java/lang/IndexOutOfBoundsException", we_3_61, by decide⟩, (List.forall_mem_cons.mpr ⟨⟨by decide, "java/lang/IllegalArgumentException", we_2_138, by decide⟩, (fun _ h9 => by cases h9)⟩)⟩) (by decide) (by decide) we_2_139 (by decide) ?_
      refine x_astore C dL_seal_25 (by decide) rfl ?_
      refine x_iconst C (v := 3) dL_seal_27 (by decide) ?_
      exact x_iret C rfl rfl dL_seal_28
  · have e1 : R0 = (0, z.2.2, (z.2.1.toInt64, O.2)) := by rw [hR]; unfold wr; rw [if_pos h0]
    subst e1
    refine x_i2l C dL_seal_12 ?_
    refine x_last C dL_seal_13 ?_
    refine x_goto C dL_seal_14 (tgt := 29) (by decide) ?_
    refine x_iconst C (v := 0) dL_seal_29 (by decide) ?_
    exact x_iret C rfl rfl dL_seal_30
set_option maxHeartbeats 4000000 in
set_option maxRecDepth 100000 in
theorem lc_cancel {l : Launch} {A : Nat → Prop} {G : GT} {ad : Nat → Nat} (gl : Gl l A ad) (B : StB) (M : StM) (O : StO) (x0 : Int32)  (hok : ok_X6_cancel B x0) (z : Nat × Int32 × StB) (hz : z = f_X6_cancel B x0) (hx : z.1 = 0 ∨ z.1 = 5 ) (R0 : Int32 × StB × StO) (hR : R0 = wr [5] z O) : Met l yL_cancel (wofH yL_cancel cL_cancel 4 (some .int) [(0, 9, 12, 53)]) (rmd 16 4 24) (va_Pc [.ref (ad 176), .int x0, .ref (ad 202)] (PW G A ad B M O)) (QI G A ad R0.1 R0.2.1 M R0.2.2) 4 24 A := by
  have hM := c_X6_cancel (G := G) gl B M O x0 hok
  rw [← hz] at hM
  refine xw_body (own := "InkBankLaw") (ls := [(0, .ref (ad 176)), (1, .int x0), (2, .ref (ad 202))]) (by decide) rfl gl (Nat.le_of_ble_eq_true rfl) rfl ?_
  intro p e s m args below meth c C htab
  refine x_aload_n C 2 dL_cancel_0 rfl rfl ?_
  refine x_iconst C (v := 0) dL_cancel_1 (by decide) ?_
  refine x_aload_n C 0 dL_cancel_2 rfl rfl ?_
  refine x_iload_n C 1 dL_cancel_3 rfl rfl ?_
  refine xw_cIV C (as := [.int x0]) (rest := [.int 0, .ref (ad 202)]) (ci := 10) (T := TX6) (N := 10) (n := 1) hM e_I rfl ⟨we_4_89, we_4_90⟩ ⟨we_4_91, we_1_1, by decide, by decide, by decide +kernel⟩ we_4_88 ⟨(Nat.le_of_ble_eq_true rfl), (Nat.le_of_ble_eq_true rfl)⟩ ⟨(Nat.le_of_ble_eq_true rfl), (Nat.le_of_ble_eq_true rfl)⟩ rfl rfl (Nat.le_of_ble_eq_true rfl) dL_cancel_4 (fun hne q => ?_) (fun h0 => ?_)
  · rcases hx with h | h
    · exact absurd h hne
    · have e1 : R0 = (1, z.2.2, O) := by rw [hR]; unfold wr; rw [if_neg hne, h]; rfl
      subst e1
      rw [h]
      refine xc_catch C (name := "java/util/NoSuchElementException") [] { startPc := 0, endPc := 9, handlerPc := 12, catchType := 53 } [] (htab.trans rfl) (fun _ h9 => by cases h9) (by decide) (by decide) we_3_218 (by decide) ?_
      refine x_astore_n C dL_cancel_12 rfl (by decide) rfl ?_
      refine x_iconst C (v := 1) dL_cancel_13 (by decide) ?_
      exact x_iret C rfl rfl dL_cancel_14
  · have e1 : R0 = (0, z.2.2, (z.2.1.toInt64, O.2)) := by rw [hR]; unfold wr; rw [if_pos h0]
    subst e1
    refine x_i2l C dL_cancel_7 ?_
    refine x_last C dL_cancel_8 ?_
    refine x_goto C dL_cancel_9 (tgt := 15) (by decide) ?_
    refine x_iconst C (v := 0) dL_cancel_15 (by decide) ?_
    exact x_iret C rfl rfl dL_cancel_16
set_option maxHeartbeats 4000000 in
set_option maxRecDepth 100000 in
theorem lc_transferAt {l : Launch} {A : Nat → Prop} {G : GT} {ad : Nat → Nat} (gl : Gl l A ad) (B : StB) (M : StM) (O : StO) (x0 : Int32)  (hok : ok_X6_transferAt B x0) (z : Nat × Int32 × StB) (hz : z = f_X6_transferAt B x0) (hx : z.1 = 0 ∨ z.1 = 1 ) (R0 : Int32 × StB × StO) (hR : R0 = wr [1] z O) : Met l yL_transferAt (wofH yL_transferAt cL_transferAt 4 (some .int) [(0, 9, 12, 21)]) (rmd 16 4 24) (va_Pc [.ref (ad 176), .int x0, .ref (ad 202)] (PW G A ad B M O)) (QI G A ad R0.1 R0.2.1 M R0.2.2) 4 24 A := by
  have hM := c_X6_transferAt (G := G) gl B M O x0 hok
  rw [← hz] at hM
  refine xw_body (own := "InkBankLaw") (ls := [(0, .ref (ad 176)), (1, .int x0), (2, .ref (ad 202))]) (by decide) rfl gl (Nat.le_of_ble_eq_true rfl) rfl ?_
  intro p e s m args below meth c C htab
  refine x_aload_n C 2 dL_transferAt_0 rfl rfl ?_
  refine x_iconst C (v := 0) dL_transferAt_1 (by decide) ?_
  refine x_aload_n C 0 dL_transferAt_2 rfl rfl ?_
  refine x_iload_n C 1 dL_transferAt_3 rfl rfl ?_
  refine xw_cIV C (as := [.int x0]) (rest := [.int 0, .ref (ad 202)]) (ci := 10) (T := TX6) (N := 10) (n := 1) hM e_I rfl ⟨we_4_108, we_4_109⟩ ⟨we_4_110, we_1_1, by decide, by decide, by decide +kernel⟩ we_4_107 ⟨(Nat.le_of_ble_eq_true rfl), (Nat.le_of_ble_eq_true rfl)⟩ ⟨(Nat.le_of_ble_eq_true rfl), (Nat.le_of_ble_eq_true rfl)⟩ rfl rfl (Nat.le_of_ble_eq_true rfl) dL_transferAt_4 (fun hne q => ?_) (fun h0 => ?_)
  · rcases hx with h | h
    · exact absurd h hne
    · have e1 : R0 = (1, z.2.2, O) := by rw [hR]; unfold wr; rw [if_neg hne, h]; rfl
      subst e1
      rw [h]
      refine xc_catch C (name := "java/lang/IndexOutOfBoundsException") [] { startPc := 0, endPc := 9, handlerPc := 12, catchType := 21 } [] (htab.trans rfl) (fun _ h9 => by cases h9) (by decide) (by decide) we_3_61 (by decide) ?_
      refine x_astore_n C dL_transferAt_12 rfl (by decide) rfl ?_
      refine x_iconst C (v := 1) dL_transferAt_13 (by decide) ?_
      exact x_iret C rfl rfl dL_transferAt_14
  · have e1 : R0 = (0, z.2.2, (z.2.1.toInt64, O.2)) := by rw [hR]; unfold wr; rw [if_pos h0]
    subst e1
    refine x_i2l C dL_transferAt_7 ?_
    refine x_last C dL_transferAt_8 ?_
    refine x_goto C dL_transferAt_9 (tgt := 15) (by decide) ?_
    refine x_iconst C (v := 0) dL_transferAt_15 (by decide) ?_
    exact x_iret C rfl rfl dL_transferAt_16
set_option maxHeartbeats 4000000 in
set_option maxRecDepth 100000 in
theorem lc_senderOf {l : Launch} {A : Nat → Prop} {G : GT} {ad : Nat → Nat} (gl : Gl l A ad) (B : StB) (M : StM) (O : StO) (x0 : Int32)  (hok : ok_X6_senderOf B x0) (z : Nat × Int32 × StB) (hz : z = f_X6_senderOf B x0) (hx : z.1 = 0 ∨ z.1 = 5 ) (R0 : Int32 × StB × StO) (hR : R0 = wr [5] z O) : Met l yL_senderOf (wofH yL_senderOf cL_senderOf 4 (some .int) [(0, 9, 12, 53)]) (rmd 16 4 24) (va_Pc [.ref (ad 176), .int x0, .ref (ad 202)] (PW G A ad B M O)) (QI G A ad R0.1 R0.2.1 M R0.2.2) 4 24 A := by
  have hM := c_X6_senderOf (G := G) gl B M O x0 hok
  rw [← hz] at hM
  refine xw_body (own := "InkBankLaw") (ls := [(0, .ref (ad 176)), (1, .int x0), (2, .ref (ad 202))]) (by decide) rfl gl (Nat.le_of_ble_eq_true rfl) rfl ?_
  intro p e s m args below meth c C htab
  refine x_aload_n C 2 dL_senderOf_0 rfl rfl ?_
  refine x_iconst C (v := 0) dL_senderOf_1 (by decide) ?_
  refine x_aload_n C 0 dL_senderOf_2 rfl rfl ?_
  refine x_iload_n C 1 dL_senderOf_3 rfl rfl ?_
  refine xw_cIV C (as := [.int x0]) (rest := [.int 0, .ref (ad 202)]) (ci := 10) (T := TX6) (N := 10) (n := 1) hM e_I rfl ⟨we_4_123, we_4_124⟩ ⟨we_4_125, we_1_1, by decide, by decide, by decide +kernel⟩ we_4_122 ⟨(Nat.le_of_ble_eq_true rfl), (Nat.le_of_ble_eq_true rfl)⟩ ⟨(Nat.le_of_ble_eq_true rfl), (Nat.le_of_ble_eq_true rfl)⟩ rfl rfl (Nat.le_of_ble_eq_true rfl) dL_senderOf_4 (fun hne q => ?_) (fun h0 => ?_)
  · rcases hx with h | h
    · exact absurd h hne
    · have e1 : R0 = (1, z.2.2, O) := by rw [hR]; unfold wr; rw [if_neg hne, h]; rfl
      subst e1
      rw [h]
      refine xc_catch C (name := "java/util/NoSuchElementException") [] { startPc := 0, endPc := 9, handlerPc := 12, catchType := 53 } [] (htab.trans rfl) (fun _ h9 => by cases h9) (by decide) (by decide) we_3_218 (by decide) ?_
      refine x_astore_n C dL_senderOf_12 rfl (by decide) rfl ?_
      refine x_iconst C (v := 1) dL_senderOf_13 (by decide) ?_
      exact x_iret C rfl rfl dL_senderOf_14
  · have e1 : R0 = (0, z.2.2, (z.2.1.toInt64, O.2)) := by rw [hR]; unfold wr; rw [if_pos h0]
    subst e1
    refine x_i2l C dL_senderOf_7 ?_
    refine x_last C dL_senderOf_8 ?_
    refine x_goto C dL_senderOf_9 (tgt := 15) (by decide) ?_
    refine x_iconst C (v := 0) dL_senderOf_15 (by decide) ?_
    exact x_iret C rfl rfl dL_senderOf_16
set_option maxHeartbeats 4000000 in
set_option maxRecDepth 100000 in
theorem lc_receiverOf {l : Launch} {A : Nat → Prop} {G : GT} {ad : Nat → Nat} (gl : Gl l A ad) (B : StB) (M : StM) (O : StO) (x0 : Int32)  (hok : ok_X6_receiverOf B x0) (z : Nat × Int32 × StB) (hz : z = f_X6_receiverOf B x0) (hx : z.1 = 0 ∨ z.1 = 5 ) (R0 : Int32 × StB × StO) (hR : R0 = wr [5] z O) : Met l yL_receiverOf (wofH yL_receiverOf cL_receiverOf 4 (some .int) [(0, 9, 12, 53)]) (rmd 16 4 24) (va_Pc [.ref (ad 176), .int x0, .ref (ad 202)] (PW G A ad B M O)) (QI G A ad R0.1 R0.2.1 M R0.2.2) 4 24 A := by
  have hM := c_X6_receiverOf (G := G) gl B M O x0 hok
  rw [← hz] at hM
  refine xw_body (own := "InkBankLaw") (ls := [(0, .ref (ad 176)), (1, .int x0), (2, .ref (ad 202))]) (by decide) rfl gl (Nat.le_of_ble_eq_true rfl) rfl ?_
  intro p e s m args below meth c C htab
  refine x_aload_n C 2 dL_receiverOf_0 rfl rfl ?_
  refine x_iconst C (v := 0) dL_receiverOf_1 (by decide) ?_
  refine x_aload_n C 0 dL_receiverOf_2 rfl rfl ?_
  refine x_iload_n C 1 dL_receiverOf_3 rfl rfl ?_
  refine xw_cIV C (as := [.int x0]) (rest := [.int 0, .ref (ad 202)]) (ci := 10) (T := TX6) (N := 10) (n := 1) hM e_I rfl ⟨we_4_135, we_4_136⟩ ⟨we_4_137, we_1_1, by decide, by decide, by decide +kernel⟩ we_4_134 ⟨(Nat.le_of_ble_eq_true rfl), (Nat.le_of_ble_eq_true rfl)⟩ ⟨(Nat.le_of_ble_eq_true rfl), (Nat.le_of_ble_eq_true rfl)⟩ rfl rfl (Nat.le_of_ble_eq_true rfl) dL_receiverOf_4 (fun hne q => ?_) (fun h0 => ?_)
  · rcases hx with h | h
    · exact absurd h hne
    · have e1 : R0 = (1, z.2.2, O) := by rw [hR]; unfold wr; rw [if_neg hne, h]; rfl
      subst e1
      rw [h]
      refine xc_catch C (name := "java/util/NoSuchElementException") [] { startPc := 0, endPc := 9, handlerPc := 12, catchType := 53 } [] (htab.trans rfl) (fun _ h9 => by cases h9) (by decide) (by decide) we_3_218 (by decide) ?_
      refine x_astore_n C dL_receiverOf_12 rfl (by decide) rfl ?_
      refine x_iconst C (v := 1) dL_receiverOf_13 (by decide) ?_
      exact x_iret C rfl rfl dL_receiverOf_14
  · have e1 : R0 = (0, z.2.2, (z.2.1.toInt64, O.2)) := by rw [hR]; unfold wr; rw [if_pos h0]
    subst e1
    refine x_i2l C dL_receiverOf_7 ?_
    refine x_last C dL_receiverOf_8 ?_
    refine x_goto C dL_receiverOf_9 (tgt := 15) (by decide) ?_
    refine x_iconst C (v := 0) dL_receiverOf_15 (by decide) ?_
    exact x_iret C rfl rfl dL_receiverOf_16
set_option maxHeartbeats 4000000 in
set_option maxRecDepth 100000 in
theorem lc_amountOf {l : Launch} {A : Nat → Prop} {G : GT} {ad : Nat → Nat} (gl : Gl l A ad) (B : StB) (M : StM) (O : StO) (x0 : Int32)  (hok : ok_X6_amountOf B x0) (z : Nat × Int32 × StB) (hz : z = f_X6_amountOf B x0) (hx : z.1 = 0 ∨ z.1 = 5 ) (R0 : Int32 × StB × StO) (hR : R0 = wr [5] z O) : Met l yL_amountOf (wofH yL_amountOf cL_amountOf 4 (some .int) [(0, 9, 12, 53)]) (rmd 16 4 24) (va_Pc [.ref (ad 176), .int x0, .ref (ad 202)] (PW G A ad B M O)) (QI G A ad R0.1 R0.2.1 M R0.2.2) 4 24 A := by
  have hM := c_X6_amountOf (G := G) gl B M O x0 hok
  rw [← hz] at hM
  refine xw_body (own := "InkBankLaw") (ls := [(0, .ref (ad 176)), (1, .int x0), (2, .ref (ad 202))]) (by decide) rfl gl (Nat.le_of_ble_eq_true rfl) rfl ?_
  intro p e s m args below meth c C htab
  refine x_aload_n C 2 dL_amountOf_0 rfl rfl ?_
  refine x_iconst C (v := 0) dL_amountOf_1 (by decide) ?_
  refine x_aload_n C 0 dL_amountOf_2 rfl rfl ?_
  refine x_iload_n C 1 dL_amountOf_3 rfl rfl ?_
  refine xw_cIV C (as := [.int x0]) (rest := [.int 0, .ref (ad 202)]) (ci := 10) (T := TX6) (N := 10) (n := 1) hM e_I rfl ⟨we_4_142, we_4_143⟩ ⟨we_4_144, we_1_1, by decide, by decide, by decide +kernel⟩ we_4_141 ⟨(Nat.le_of_ble_eq_true rfl), (Nat.le_of_ble_eq_true rfl)⟩ ⟨(Nat.le_of_ble_eq_true rfl), (Nat.le_of_ble_eq_true rfl)⟩ rfl rfl (Nat.le_of_ble_eq_true rfl) dL_amountOf_4 (fun hne q => ?_) (fun h0 => ?_)
  · rcases hx with h | h
    · exact absurd h hne
    · have e1 : R0 = (1, z.2.2, O) := by rw [hR]; unfold wr; rw [if_neg hne, h]; rfl
      subst e1
      rw [h]
      refine xc_catch C (name := "java/util/NoSuchElementException") [] { startPc := 0, endPc := 9, handlerPc := 12, catchType := 53 } [] (htab.trans rfl) (fun _ h9 => by cases h9) (by decide) (by decide) we_3_218 (by decide) ?_
      refine x_astore_n C dL_amountOf_12 rfl (by decide) rfl ?_
      refine x_iconst C (v := 1) dL_amountOf_13 (by decide) ?_
      exact x_iret C rfl rfl dL_amountOf_14
  · have e1 : R0 = (0, z.2.2, (z.2.1.toInt64, O.2)) := by rw [hR]; unfold wr; rw [if_pos h0]
    subst e1
    refine x_i2l C dL_amountOf_7 ?_
    refine x_last C dL_amountOf_8 ?_
    refine x_goto C dL_amountOf_9 (tgt := 15) (by decide) ?_
    refine x_iconst C (v := 0) dL_amountOf_15 (by decide) ?_
    exact x_iret C rfl rfl dL_amountOf_16
set_option maxHeartbeats 4000000 in
set_option maxRecDepth 100000 in
theorem lc_daysUntilDue {l : Launch} {A : Nat → Prop} {G : GT} {ad : Nat → Nat} (gl : Gl l A ad) (B : StB) (M : StM) (O : StO) (x0 : Int32)  (hok : ok_X6_daysUntilDue B x0) (z : Nat × Int32 × StB) (hz : z = f_X6_daysUntilDue B x0) (hx : z.1 = 0 ∨ z.1 = 5 ) (R0 : Int32 × StB × StO) (hR : R0 = wr [5] z O) : Met l yL_daysUntilDue (wofH yL_daysUntilDue cL_daysUntilDue 4 (some .int) [(0, 9, 12, 53)]) (rmd 16 4 24) (va_Pc [.ref (ad 176), .int x0, .ref (ad 202)] (PW G A ad B M O)) (QI G A ad R0.1 R0.2.1 M R0.2.2) 4 24 A := by
  have hM := c_X6_daysUntilDue (G := G) gl B M O x0 hok
  rw [← hz] at hM
  refine xw_body (own := "InkBankLaw") (ls := [(0, .ref (ad 176)), (1, .int x0), (2, .ref (ad 202))]) (by decide) rfl gl (Nat.le_of_ble_eq_true rfl) rfl ?_
  intro p e s m args below meth c C htab
  refine x_aload_n C 2 dL_daysUntilDue_0 rfl rfl ?_
  refine x_iconst C (v := 0) dL_daysUntilDue_1 (by decide) ?_
  refine x_aload_n C 0 dL_daysUntilDue_2 rfl rfl ?_
  refine x_iload_n C 1 dL_daysUntilDue_3 rfl rfl ?_
  refine xw_cIV C (as := [.int x0]) (rest := [.int 0, .ref (ad 202)]) (ci := 10) (T := TX6) (N := 10) (n := 1) hM e_I rfl ⟨we_4_149, we_4_150⟩ ⟨we_4_151, we_1_1, by decide, by decide, by decide +kernel⟩ we_4_148 ⟨(Nat.le_of_ble_eq_true rfl), (Nat.le_of_ble_eq_true rfl)⟩ ⟨(Nat.le_of_ble_eq_true rfl), (Nat.le_of_ble_eq_true rfl)⟩ rfl rfl (Nat.le_of_ble_eq_true rfl) dL_daysUntilDue_4 (fun hne q => ?_) (fun h0 => ?_)
  · rcases hx with h | h
    · exact absurd h hne
    · have e1 : R0 = (1, z.2.2, O) := by rw [hR]; unfold wr; rw [if_neg hne, h]; rfl
      subst e1
      rw [h]
      refine xc_catch C (name := "java/util/NoSuchElementException") [] { startPc := 0, endPc := 9, handlerPc := 12, catchType := 53 } [] (htab.trans rfl) (fun _ h9 => by cases h9) (by decide) (by decide) we_3_218 (by decide) ?_
      refine x_astore_n C dL_daysUntilDue_12 rfl (by decide) rfl ?_
      refine x_iconst C (v := 1) dL_daysUntilDue_13 (by decide) ?_
      exact x_iret C rfl rfl dL_daysUntilDue_14
  · have e1 : R0 = (0, z.2.2, (z.2.1.toInt64, O.2)) := by rw [hR]; unfold wr; rw [if_pos h0]
    subst e1
    refine x_i2l C dL_daysUntilDue_7 ?_
    refine x_last C dL_daysUntilDue_8 ?_
    refine x_goto C dL_daysUntilDue_9 (tgt := 15) (by decide) ?_
    refine x_iconst C (v := 0) dL_daysUntilDue_15 (by decide) ?_
    exact x_iret C rfl rfl dL_daysUntilDue_16
set_option maxHeartbeats 4000000 in
set_option maxRecDepth 100000 in
theorem lc_wouldBounce {l : Launch} {A : Nat → Prop} {G : GT} {ad : Nat → Nat} (gl : Gl l A ad) (B : StB) (M : StM) (O : StO) (x0 : Int32)  (hok : ok_X6_wouldBounce B x0) (z : Nat × Int32 × StB) (hz : z = f_X6_wouldBounce B x0) (hx : z.1 = 0 ∨ z.1 = 5 ) (R0 : Int32 × StB × StO) (hR : R0 = wrZ [5] z O) : Met l yL_wouldBounce (wofH yL_wouldBounce cL_wouldBounce 4 (some .int) [(0, 16, 19, 53)]) (rmd 16 4 24) (va_Pc [.ref (ad 176), .int x0, .ref (ad 202)] (PW G A ad B M O)) (QI G A ad R0.1 R0.2.1 M R0.2.2) 4 24 A := by
  have hM := c_X6_wouldBounce (G := G) gl B M O x0 hok
  rw [← hz] at hM
  refine xw_body (own := "InkBankLaw") (ls := [(0, .ref (ad 176)), (1, .int x0), (2, .ref (ad 202))]) (by decide) rfl gl (Nat.le_of_ble_eq_true rfl) rfl ?_
  intro p e s m args below meth c C htab
  refine x_aload_n C 2 dL_wouldBounce_0 rfl rfl ?_
  refine x_iconst C (v := 0) dL_wouldBounce_1 (by decide) ?_
  refine x_aload_n C 0 dL_wouldBounce_2 rfl rfl ?_
  refine x_iload_n C 1 dL_wouldBounce_3 rfl rfl ?_
  refine xw_cIV C (as := [.int x0]) (rest := [.int 0, .ref (ad 202)]) (ci := 10) (T := TX6) (N := 10) (n := 1) hM e_I rfl ⟨we_4_156, we_4_157⟩ ⟨we_4_158, we_1_1, by decide, by decide, by decide +kernel⟩ we_4_155 ⟨(Nat.le_of_ble_eq_true rfl), (Nat.le_of_ble_eq_true rfl)⟩ ⟨(Nat.le_of_ble_eq_true rfl), (Nat.le_of_ble_eq_true rfl)⟩ rfl rfl (Nat.le_of_ble_eq_true rfl) dL_wouldBounce_4 (fun hne q => ?_) (fun h0 => ?_)
  · rcases hx with h | h
    · exact absurd h hne
    · have e1 : R0 = (1, z.2.2, O) := by rw [hR]; unfold wrZ; rw [if_neg hne, h]; rfl
      subst e1
      rw [h]
      refine xc_catch C (name := "java/util/NoSuchElementException") [] { startPc := 0, endPc := 16, handlerPc := 19, catchType := 53 } [] (htab.trans rfl) (fun _ h9 => by cases h9) (by decide) (by decide) we_3_218 (by decide) ?_
      refine x_astore_n C dL_wouldBounce_19 rfl (by decide) rfl ?_
      refine x_iconst C (v := 1) dL_wouldBounce_20 (by decide) ?_
      exact x_iret C rfl rfl dL_wouldBounce_21
  · skip
    refine x_if_eq C dL_wouldBounce_7 (tgt := 14) (by decide) (fun hc => ?_) (fun hc => ?_)
    · have e1 : R0 = (0, z.2.2, (0, O.2)) := by rw [hR]; unfold wrZ; rw [if_pos h0, if_pos hc]
      subst e1
      refine x_lconst C (v := 0) dL_wouldBounce_14 (by decide) ?_
      refine x_last C dL_wouldBounce_15 ?_
      refine x_goto C dL_wouldBounce_16 (tgt := 22) (by decide) ?_
      refine x_iconst C (v := 0) dL_wouldBounce_22 (by decide) ?_
      exact x_iret C rfl rfl dL_wouldBounce_23
    · have e1 : R0 = (0, z.2.2, (1, O.2)) := by rw [hR]; unfold wrZ; rw [if_pos h0, if_neg hc]
      subst e1
      refine x_lconst C (v := 1) dL_wouldBounce_10 (by decide) ?_
      refine x_goto C dL_wouldBounce_11 (tgt := 15) (by decide) ?_
      refine x_last C dL_wouldBounce_15 ?_
      refine x_goto C dL_wouldBounce_16 (tgt := 22) (by decide) ?_
      refine x_iconst C (v := 0) dL_wouldBounce_22 (by decide) ?_
      exact x_iret C rfl rfl dL_wouldBounce_23
set_option maxHeartbeats 4000000 in
set_option maxRecDepth 100000 in
theorem lc_netOf {l : Launch} {A : Nat → Prop} {G : GT} {ad : Nat → Nat} (gl : Gl l A ad) (B : StB) (M : StM) (O : StO) (x0 : Int32)  (hok : ok_X6_netOf B x0) (z : Nat × Int32 × StB) (hz : z = f_X6_netOf B x0) (hx : z.1 = 0 ∨ z.1 = 1 ) (R0 : Int32 × StB × StO) (hR : R0 = wr [1] z O) : Met l yL_netOf (wofH yL_netOf cL_netOf 4 (some .int) [(0, 9, 12, 21)]) (rmd 16 4 24) (va_Pc [.ref (ad 176), .int x0, .ref (ad 202)] (PW G A ad B M O)) (QI G A ad R0.1 R0.2.1 M R0.2.2) 4 24 A := by
  have hM := c_X6_netOf (G := G) gl B M O x0 hok
  rw [← hz] at hM
  refine xw_body (own := "InkBankLaw") (ls := [(0, .ref (ad 176)), (1, .int x0), (2, .ref (ad 202))]) (by decide) rfl gl (Nat.le_of_ble_eq_true rfl) rfl ?_
  intro p e s m args below meth c C htab
  refine x_aload_n C 2 dL_netOf_0 rfl rfl ?_
  refine x_iconst C (v := 0) dL_netOf_1 (by decide) ?_
  refine x_aload_n C 0 dL_netOf_2 rfl rfl ?_
  refine x_iload_n C 1 dL_netOf_3 rfl rfl ?_
  refine xw_cIV C (as := [.int x0]) (rest := [.int 0, .ref (ad 202)]) (ci := 10) (T := TX6) (N := 10) (n := 1) hM e_I rfl ⟨we_4_168, we_4_169⟩ ⟨we_4_170, we_1_1, by decide, by decide, by decide +kernel⟩ we_4_167 ⟨(Nat.le_of_ble_eq_true rfl), (Nat.le_of_ble_eq_true rfl)⟩ ⟨(Nat.le_of_ble_eq_true rfl), (Nat.le_of_ble_eq_true rfl)⟩ rfl rfl (Nat.le_of_ble_eq_true rfl) dL_netOf_4 (fun hne q => ?_) (fun h0 => ?_)
  · rcases hx with h | h
    · exact absurd h hne
    · have e1 : R0 = (1, z.2.2, O) := by rw [hR]; unfold wr; rw [if_neg hne, h]; rfl
      subst e1
      rw [h]
      refine xc_catch C (name := "java/lang/IndexOutOfBoundsException") [] { startPc := 0, endPc := 9, handlerPc := 12, catchType := 21 } [] (htab.trans rfl) (fun _ h9 => by cases h9) (by decide) (by decide) we_3_61 (by decide) ?_
      refine x_astore_n C dL_netOf_12 rfl (by decide) rfl ?_
      refine x_iconst C (v := 1) dL_netOf_13 (by decide) ?_
      exact x_iret C rfl rfl dL_netOf_14
  · have e1 : R0 = (0, z.2.2, (z.2.1.toInt64, O.2)) := by rw [hR]; unfold wr; rw [if_pos h0]
    subst e1
    refine x_i2l C dL_netOf_7 ?_
    refine x_last C dL_netOf_8 ?_
    refine x_goto C dL_netOf_9 (tgt := 15) (by decide) ?_
    refine x_iconst C (v := 0) dL_netOf_15 (by decide) ?_
    exact x_iret C rfl rfl dL_netOf_16
set_option maxHeartbeats 4000000 in
set_option maxRecDepth 100000 in
theorem lc_netByTable {l : Launch} {A : Nat → Prop} {G : GT} {ad : Nat → Nat} (gl : Gl l A ad) (B : StB) (M : StM) (O : StO) (x0 : Int32)  (hok : ok_X6_netByTable B x0) (z : Nat × Int32 × StB) (hz : z = f_X6_netByTable B x0) (hx : z.1 = 0 ∨ z.1 = 1 ) (R0 : Int32 × StB × StO) (hR : R0 = wr [1] z O) : Met l yL_netByTable (wofH yL_netByTable cL_netByTable 4 (some .int) [(0, 9, 12, 21)]) (rmd 16 4 24) (va_Pc [.ref (ad 176), .int x0, .ref (ad 202)] (PW G A ad B M O)) (QI G A ad R0.1 R0.2.1 M R0.2.2) 4 24 A := by
  have hM := c_X6_netByTable (G := G) gl B M O x0 hok
  rw [← hz] at hM
  refine xw_body (own := "InkBankLaw") (ls := [(0, .ref (ad 176)), (1, .int x0), (2, .ref (ad 202))]) (by decide) rfl gl (Nat.le_of_ble_eq_true rfl) rfl ?_
  intro p e s m args below meth c C htab
  refine x_aload_n C 2 dL_netByTable_0 rfl rfl ?_
  refine x_iconst C (v := 0) dL_netByTable_1 (by decide) ?_
  refine x_aload_n C 0 dL_netByTable_2 rfl rfl ?_
  refine x_iload_n C 1 dL_netByTable_3 rfl rfl ?_
  refine xw_cIV C (as := [.int x0]) (rest := [.int 0, .ref (ad 202)]) (ci := 10) (T := TX6) (N := 10) (n := 1) hM e_I rfl ⟨we_4_179, we_4_180⟩ ⟨we_4_181, we_1_1, by decide, by decide, by decide +kernel⟩ we_4_178 ⟨(Nat.le_of_ble_eq_true rfl), (Nat.le_of_ble_eq_true rfl)⟩ ⟨(Nat.le_of_ble_eq_true rfl), (Nat.le_of_ble_eq_true rfl)⟩ rfl rfl (Nat.le_of_ble_eq_true rfl) dL_netByTable_4 (fun hne q => ?_) (fun h0 => ?_)
  · rcases hx with h | h
    · exact absurd h hne
    · have e1 : R0 = (1, z.2.2, O) := by rw [hR]; unfold wr; rw [if_neg hne, h]; rfl
      subst e1
      rw [h]
      refine xc_catch C (name := "java/lang/IndexOutOfBoundsException") [] { startPc := 0, endPc := 9, handlerPc := 12, catchType := 21 } [] (htab.trans rfl) (fun _ h9 => by cases h9) (by decide) (by decide) we_3_61 (by decide) ?_
      refine x_astore_n C dL_netByTable_12 rfl (by decide) rfl ?_
      refine x_iconst C (v := 1) dL_netByTable_13 (by decide) ?_
      exact x_iret C rfl rfl dL_netByTable_14
  · have e1 : R0 = (0, z.2.2, (z.2.1.toInt64, O.2)) := by rw [hR]; unfold wr; rw [if_pos h0]
    subst e1
    refine x_i2l C dL_netByTable_7 ?_
    refine x_last C dL_netByTable_8 ?_
    refine x_goto C dL_netByTable_9 (tgt := 15) (by decide) ?_
    refine x_iconst C (v := 0) dL_netByTable_15 (by decide) ?_
    exact x_iret C rfl rfl dL_netByTable_16
set_option maxHeartbeats 4000000 in
set_option maxRecDepth 100000 in
theorem lc_leadsTo {l : Launch} {A : Nat → Prop} {G : GT} {ad : Nat → Nat} (gl : Gl l A ad) (B : StB) (M : StM) (O : StO) (x0 : Int32) (x1 : Int32)  (hok : ok_X6_leadsTo B x0 x1) (z : Nat × Int32 × StB) (hz : z = f_X6_leadsTo B x0 x1) (hx : z.1 = 0 ∨ z.1 = 1 ) (R0 : Int32 × StB × StO) (hR : R0 = wrZ [1] z O) : Met l yL_leadsTo (wofH yL_leadsTo cL_leadsTo 5 (some .int) [(0, 17, 20, 21)]) (rmd 16 4 24) (va_Pc [.ref (ad 176), .int x0, .int x1, .ref (ad 202)] (PW G A ad B M O)) (QI G A ad R0.1 R0.2.1 M R0.2.2) 4 24 A := by
  have hM := c_X6_leadsTo (G := G) gl B M O x0 x1 hok
  rw [← hz] at hM
  refine xw_body (own := "InkBankLaw") (ls := [(0, .ref (ad 176)), (1, .int x0), (2, .int x1), (3, .ref (ad 202))]) (by decide) rfl gl (Nat.le_of_ble_eq_true rfl) rfl ?_
  intro p e s m args below meth c C htab
  refine x_aload_n C 3 dL_leadsTo_0 rfl rfl ?_
  refine x_iconst C (v := 0) dL_leadsTo_1 (by decide) ?_
  refine x_aload_n C 0 dL_leadsTo_2 rfl rfl ?_
  refine x_iload_n C 1 dL_leadsTo_3 rfl rfl ?_
  refine x_iload_n C 2 dL_leadsTo_4 rfl rfl ?_
  refine xw_cIV C (as := [.int x0, .int x1]) (rest := [.int 0, .ref (ad 202)]) (ci := 10) (T := TX6) (N := 10) (n := 2) hM e_I rfl ⟨we_4_190, we_4_191⟩ ⟨we_4_192, we_1_1, by decide, by decide, by decide +kernel⟩ we_4_189 ⟨(Nat.le_of_ble_eq_true rfl), (Nat.le_of_ble_eq_true rfl)⟩ ⟨(Nat.le_of_ble_eq_true rfl), (Nat.le_of_ble_eq_true rfl)⟩ rfl rfl (Nat.le_of_ble_eq_true rfl) dL_leadsTo_5 (fun hne q => ?_) (fun h0 => ?_)
  · rcases hx with h | h
    · exact absurd h hne
    · have e1 : R0 = (1, z.2.2, O) := by rw [hR]; unfold wrZ; rw [if_neg hne, h]; rfl
      subst e1
      rw [h]
      refine xc_catch C (name := "java/lang/IndexOutOfBoundsException") [] { startPc := 0, endPc := 17, handlerPc := 20, catchType := 21 } [] (htab.trans rfl) (fun _ h9 => by cases h9) (by decide) (by decide) we_3_61 (by decide) ?_
      refine x_astore C dL_leadsTo_20 (by decide) rfl ?_
      refine x_iconst C (v := 1) dL_leadsTo_22 (by decide) ?_
      exact x_iret C rfl rfl dL_leadsTo_23
  · skip
    refine x_if_eq C dL_leadsTo_8 (tgt := 15) (by decide) (fun hc => ?_) (fun hc => ?_)
    · have e1 : R0 = (0, z.2.2, (0, O.2)) := by rw [hR]; unfold wrZ; rw [if_pos h0, if_pos hc]
      subst e1
      refine x_lconst C (v := 0) dL_leadsTo_15 (by decide) ?_
      refine x_last C dL_leadsTo_16 ?_
      refine x_goto C dL_leadsTo_17 (tgt := 24) (by decide) ?_
      refine x_iconst C (v := 0) dL_leadsTo_24 (by decide) ?_
      exact x_iret C rfl rfl dL_leadsTo_25
    · have e1 : R0 = (0, z.2.2, (1, O.2)) := by rw [hR]; unfold wrZ; rw [if_pos h0, if_neg hc]
      subst e1
      refine x_lconst C (v := 1) dL_leadsTo_11 (by decide) ?_
      refine x_goto C dL_leadsTo_12 (tgt := 16) (by decide) ?_
      refine x_last C dL_leadsTo_16 ?_
      refine x_goto C dL_leadsTo_17 (tgt := 24) (by decide) ?_
      refine x_iconst C (v := 0) dL_leadsTo_24 (by decide) ?_
      exact x_iret C rfl rfl dL_leadsTo_25
set_option maxHeartbeats 4000000 in
set_option maxRecDepth 100000 in
theorem lc_movementKind {l : Launch} {A : Nat → Prop} {G : GT} {ad : Nat → Nat} (gl : Gl l A ad) (B : StB) (M : StM) (O : StO) (x0 : Int32)  (hok : ok_X6_movementKind B x0) (z : Nat × Int32 × StB) (hz : z = f_X6_movementKind B x0) (hx : z.1 = 0 ∨ z.1 = 5 ) (R0 : Int32 × StB × StO) (hR : R0 = wr [5] z O) : Met l yL_movementKind (wofH yL_movementKind cL_movementKind 4 (some .int) [(0, 9, 12, 53)]) (rmd 16 4 24) (va_Pc [.ref (ad 176), .int x0, .ref (ad 202)] (PW G A ad B M O)) (QI G A ad R0.1 R0.2.1 M R0.2.2) 4 24 A := by
  have hM := c_X6_movementKind (G := G) gl B M O x0 hok
  rw [← hz] at hM
  refine xw_body (own := "InkBankLaw") (ls := [(0, .ref (ad 176)), (1, .int x0), (2, .ref (ad 202))]) (by decide) rfl gl (Nat.le_of_ble_eq_true rfl) rfl ?_
  intro p e s m args below meth c C htab
  refine x_aload_n C 2 dL_movementKind_0 rfl rfl ?_
  refine x_iconst C (v := 0) dL_movementKind_1 (by decide) ?_
  refine x_aload_n C 0 dL_movementKind_2 rfl rfl ?_
  refine x_iload_n C 1 dL_movementKind_3 rfl rfl ?_
  refine xw_cIV C (as := [.int x0]) (rest := [.int 0, .ref (ad 202)]) (ci := 10) (T := TX6) (N := 10) (n := 1) hM e_I rfl ⟨we_4_201, we_4_202⟩ ⟨we_4_203, we_1_1, by decide, by decide, by decide +kernel⟩ we_4_200 ⟨(Nat.le_of_ble_eq_true rfl), (Nat.le_of_ble_eq_true rfl)⟩ ⟨(Nat.le_of_ble_eq_true rfl), (Nat.le_of_ble_eq_true rfl)⟩ rfl rfl (Nat.le_of_ble_eq_true rfl) dL_movementKind_4 (fun hne q => ?_) (fun h0 => ?_)
  · rcases hx with h | h
    · exact absurd h hne
    · have e1 : R0 = (1, z.2.2, O) := by rw [hR]; unfold wr; rw [if_neg hne, h]; rfl
      subst e1
      rw [h]
      refine xc_catch C (name := "java/util/NoSuchElementException") [] { startPc := 0, endPc := 9, handlerPc := 12, catchType := 53 } [] (htab.trans rfl) (fun _ h9 => by cases h9) (by decide) (by decide) we_3_218 (by decide) ?_
      refine x_astore_n C dL_movementKind_12 rfl (by decide) rfl ?_
      refine x_iconst C (v := 1) dL_movementKind_13 (by decide) ?_
      exact x_iret C rfl rfl dL_movementKind_14
  · have e1 : R0 = (0, z.2.2, (z.2.1.toInt64, O.2)) := by rw [hR]; unfold wr; rw [if_pos h0]
    subst e1
    refine x_i2l C dL_movementKind_7 ?_
    refine x_last C dL_movementKind_8 ?_
    refine x_goto C dL_movementKind_9 (tgt := 15) (by decide) ?_
    refine x_iconst C (v := 0) dL_movementKind_15 (by decide) ?_
    exact x_iret C rfl rfl dL_movementKind_16
set_option maxHeartbeats 4000000 in
set_option maxRecDepth 100000 in
theorem lc_movementAmount {l : Launch} {A : Nat → Prop} {G : GT} {ad : Nat → Nat} (gl : Gl l A ad) (B : StB) (M : StM) (O : StO) (x0 : Int32)  (hok : ok_X6_movementAmount B x0) (z : Nat × Int32 × StB) (hz : z = f_X6_movementAmount B x0) (hx : z.1 = 0 ∨ z.1 = 5 ) (R0 : Int32 × StB × StO) (hR : R0 = wr [5] z O) : Met l yL_movementAmount (wofH yL_movementAmount cL_movementAmount 4 (some .int) [(0, 9, 12, 53)]) (rmd 16 4 24) (va_Pc [.ref (ad 176), .int x0, .ref (ad 202)] (PW G A ad B M O)) (QI G A ad R0.1 R0.2.1 M R0.2.2) 4 24 A := by
  have hM := c_X6_movementAmount (G := G) gl B M O x0 hok
  rw [← hz] at hM
  refine xw_body (own := "InkBankLaw") (ls := [(0, .ref (ad 176)), (1, .int x0), (2, .ref (ad 202))]) (by decide) rfl gl (Nat.le_of_ble_eq_true rfl) rfl ?_
  intro p e s m args below meth c C htab
  refine x_aload_n C 2 dL_movementAmount_0 rfl rfl ?_
  refine x_iconst C (v := 0) dL_movementAmount_1 (by decide) ?_
  refine x_aload_n C 0 dL_movementAmount_2 rfl rfl ?_
  refine x_iload_n C 1 dL_movementAmount_3 rfl rfl ?_
  refine xw_cIV C (as := [.int x0]) (rest := [.int 0, .ref (ad 202)]) (ci := 10) (T := TX6) (N := 10) (n := 1) hM e_I rfl ⟨we_4_216, we_4_217⟩ ⟨we_4_218, we_1_1, by decide, by decide, by decide +kernel⟩ we_4_215 ⟨(Nat.le_of_ble_eq_true rfl), (Nat.le_of_ble_eq_true rfl)⟩ ⟨(Nat.le_of_ble_eq_true rfl), (Nat.le_of_ble_eq_true rfl)⟩ rfl rfl (Nat.le_of_ble_eq_true rfl) dL_movementAmount_4 (fun hne q => ?_) (fun h0 => ?_)
  · rcases hx with h | h
    · exact absurd h hne
    · have e1 : R0 = (1, z.2.2, O) := by rw [hR]; unfold wr; rw [if_neg hne, h]; rfl
      subst e1
      rw [h]
      refine xc_catch C (name := "java/util/NoSuchElementException") [] { startPc := 0, endPc := 9, handlerPc := 12, catchType := 53 } [] (htab.trans rfl) (fun _ h9 => by cases h9) (by decide) (by decide) we_3_218 (by decide) ?_
      refine x_astore_n C dL_movementAmount_12 rfl (by decide) rfl ?_
      refine x_iconst C (v := 1) dL_movementAmount_13 (by decide) ?_
      exact x_iret C rfl rfl dL_movementAmount_14
  · have e1 : R0 = (0, z.2.2, (z.2.1.toInt64, O.2)) := by rw [hR]; unfold wr; rw [if_pos h0]
    subst e1
    refine x_i2l C dL_movementAmount_7 ?_
    refine x_last C dL_movementAmount_8 ?_
    refine x_goto C dL_movementAmount_9 (tgt := 15) (by decide) ?_
    refine x_iconst C (v := 0) dL_movementAmount_15 (by decide) ?_
    exact x_iret C rfl rfl dL_movementAmount_16
set_option maxHeartbeats 4000000 in
set_option maxRecDepth 100000 in
theorem lc_movementAccount {l : Launch} {A : Nat → Prop} {G : GT} {ad : Nat → Nat} (gl : Gl l A ad) (B : StB) (M : StM) (O : StO) (x0 : Int32)  (hok : ok_X6_movementAccount B x0) (z : Nat × Int32 × StB) (hz : z = f_X6_movementAccount B x0) (hx : z.1 = 0 ∨ z.1 = 5 ) (R0 : Int32 × StB × StO) (hR : R0 = wr [5] z O) : Met l yL_movementAccount (wofH yL_movementAccount cL_movementAccount 4 (some .int) [(0, 9, 12, 53)]) (rmd 16 4 24) (va_Pc [.ref (ad 176), .int x0, .ref (ad 202)] (PW G A ad B M O)) (QI G A ad R0.1 R0.2.1 M R0.2.2) 4 24 A := by
  have hM := c_X6_movementAccount (G := G) gl B M O x0 hok
  rw [← hz] at hM
  refine xw_body (own := "InkBankLaw") (ls := [(0, .ref (ad 176)), (1, .int x0), (2, .ref (ad 202))]) (by decide) rfl gl (Nat.le_of_ble_eq_true rfl) rfl ?_
  intro p e s m args below meth c C htab
  refine x_aload_n C 2 dL_movementAccount_0 rfl rfl ?_
  refine x_iconst C (v := 0) dL_movementAccount_1 (by decide) ?_
  refine x_aload_n C 0 dL_movementAccount_2 rfl rfl ?_
  refine x_iload_n C 1 dL_movementAccount_3 rfl rfl ?_
  refine xw_cIV C (as := [.int x0]) (rest := [.int 0, .ref (ad 202)]) (ci := 10) (T := TX6) (N := 10) (n := 1) hM e_I rfl ⟨we_4_223, we_4_224⟩ ⟨we_4_225, we_1_1, by decide, by decide, by decide +kernel⟩ we_4_222 ⟨(Nat.le_of_ble_eq_true rfl), (Nat.le_of_ble_eq_true rfl)⟩ ⟨(Nat.le_of_ble_eq_true rfl), (Nat.le_of_ble_eq_true rfl)⟩ rfl rfl (Nat.le_of_ble_eq_true rfl) dL_movementAccount_4 (fun hne q => ?_) (fun h0 => ?_)
  · rcases hx with h | h
    · exact absurd h hne
    · have e1 : R0 = (1, z.2.2, O) := by rw [hR]; unfold wr; rw [if_neg hne, h]; rfl
      subst e1
      rw [h]
      refine xc_catch C (name := "java/util/NoSuchElementException") [] { startPc := 0, endPc := 9, handlerPc := 12, catchType := 53 } [] (htab.trans rfl) (fun _ h9 => by cases h9) (by decide) (by decide) we_3_218 (by decide) ?_
      refine x_astore_n C dL_movementAccount_12 rfl (by decide) rfl ?_
      refine x_iconst C (v := 1) dL_movementAccount_13 (by decide) ?_
      exact x_iret C rfl rfl dL_movementAccount_14
  · have e1 : R0 = (0, z.2.2, (z.2.1.toInt64, O.2)) := by rw [hR]; unfold wr; rw [if_pos h0]
    subst e1
    refine x_i2l C dL_movementAccount_7 ?_
    refine x_last C dL_movementAccount_8 ?_
    refine x_goto C dL_movementAccount_9 (tgt := 15) (by decide) ?_
    refine x_iconst C (v := 0) dL_movementAccount_15 (by decide) ?_
    exact x_iret C rfl rfl dL_movementAccount_16
set_option maxHeartbeats 4000000 in
set_option maxRecDepth 100000 in
theorem lc_writeStatement {l : Launch} {A : Nat → Prop} {G : GT} {ad : Nat → Nat} (gl : Gl l A ad) (B : StB) (M : StM) (O : StO) (x0 : Int32)  (hok : ok_X6_writeStatement B x0) (z : Nat × Int32 × StB) (hz : z = f_X6_writeStatement B x0) (hx : z.1 = 0 ∨ z.1 = 1 ) (R0 : Int32 × StB × StO) (hR : R0 = wr [1] z O) : Met l yL_writeStatement (wofH yL_writeStatement cL_writeStatement 4 (some .int) [(0, 9, 12, 21)]) (rmd 16 4 24) (va_Pc [.ref (ad 176), .int x0, .ref (ad 202)] (PW G A ad B M O)) (QI G A ad R0.1 R0.2.1 M R0.2.2) 4 24 A := by
  have hM := c_X6_writeStatement (G := G) gl B M O x0 hok
  rw [← hz] at hM
  refine xw_body (own := "InkBankLaw") (ls := [(0, .ref (ad 176)), (1, .int x0), (2, .ref (ad 202))]) (by decide) rfl gl (Nat.le_of_ble_eq_true rfl) rfl ?_
  intro p e s m args below meth c C htab
  refine x_aload_n C 2 dL_writeStatement_0 rfl rfl ?_
  refine x_iconst C (v := 0) dL_writeStatement_1 (by decide) ?_
  refine x_aload_n C 0 dL_writeStatement_2 rfl rfl ?_
  refine x_iload_n C 1 dL_writeStatement_3 rfl rfl ?_
  refine xw_cIV C (as := [.int x0]) (rest := [.int 0, .ref (ad 202)]) (ci := 10) (T := TX6) (N := 10) (n := 1) hM e_I rfl ⟨we_4_230, we_4_231⟩ ⟨we_4_232, we_1_1, by decide, by decide, by decide +kernel⟩ we_4_229 ⟨(Nat.le_of_ble_eq_true rfl), (Nat.le_of_ble_eq_true rfl)⟩ ⟨(Nat.le_of_ble_eq_true rfl), (Nat.le_of_ble_eq_true rfl)⟩ rfl rfl (Nat.le_of_ble_eq_true rfl) dL_writeStatement_4 (fun hne q => ?_) (fun h0 => ?_)
  · rcases hx with h | h
    · exact absurd h hne
    · have e1 : R0 = (1, z.2.2, O) := by rw [hR]; unfold wr; rw [if_neg hne, h]; rfl
      subst e1
      rw [h]
      refine xc_catch C (name := "java/lang/IndexOutOfBoundsException") [] { startPc := 0, endPc := 9, handlerPc := 12, catchType := 21 } [] (htab.trans rfl) (fun _ h9 => by cases h9) (by decide) (by decide) we_3_61 (by decide) ?_
      refine x_astore_n C dL_writeStatement_12 rfl (by decide) rfl ?_
      refine x_iconst C (v := 1) dL_writeStatement_13 (by decide) ?_
      exact x_iret C rfl rfl dL_writeStatement_14
  · have e1 : R0 = (0, z.2.2, (z.2.1.toInt64, O.2)) := by rw [hR]; unfold wr; rw [if_pos h0]
    subst e1
    refine x_i2l C dL_writeStatement_7 ?_
    refine x_last C dL_writeStatement_8 ?_
    refine x_goto C dL_writeStatement_9 (tgt := 15) (by decide) ?_
    refine x_iconst C (v := 0) dL_writeStatement_15 (by decide) ?_
    exact x_iret C rfl rfl dL_writeStatement_16
set_option maxHeartbeats 4000000 in
set_option maxRecDepth 100000 in
theorem lc_statementAt {l : Launch} {A : Nat → Prop} {G : GT} {ad : Nat → Nat} (gl : Gl l A ad) (B : StB) (M : StM) (O : StO) (x0 : Int32)  (hok : ok_X6_statementAt B x0) (z : Nat × Int32 × StB) (hz : z = f_X6_statementAt B x0) (hx : z.1 = 0 ∨ z.1 = 1 ) (R0 : Int32 × StB × StO) (hR : R0 = wr [1] z O) : Met l yL_statementAt (wofH yL_statementAt cL_statementAt 4 (some .int) [(0, 9, 12, 21)]) (rmd 16 4 24) (va_Pc [.ref (ad 176), .int x0, .ref (ad 202)] (PW G A ad B M O)) (QI G A ad R0.1 R0.2.1 M R0.2.2) 4 24 A := by
  have hM := c_X6_statementAt (G := G) gl B M O x0 hok
  rw [← hz] at hM
  refine xw_body (own := "InkBankLaw") (ls := [(0, .ref (ad 176)), (1, .int x0), (2, .ref (ad 202))]) (by decide) rfl gl (Nat.le_of_ble_eq_true rfl) rfl ?_
  intro p e s m args below meth c C htab
  refine x_aload_n C 2 dL_statementAt_0 rfl rfl ?_
  refine x_iconst C (v := 0) dL_statementAt_1 (by decide) ?_
  refine x_aload_n C 0 dL_statementAt_2 rfl rfl ?_
  refine x_iload_n C 1 dL_statementAt_3 rfl rfl ?_
  refine xw_cIV C (as := [.int x0]) (rest := [.int 0, .ref (ad 202)]) (ci := 10) (T := TX6) (N := 10) (n := 1) hM e_I rfl ⟨we_6_53, we_6_54⟩ ⟨we_6_55, we_1_1, by decide, by decide, by decide +kernel⟩ we_6_52 ⟨(Nat.le_of_ble_eq_true rfl), (Nat.le_of_ble_eq_true rfl)⟩ ⟨(Nat.le_of_ble_eq_true rfl), (Nat.le_of_ble_eq_true rfl)⟩ rfl rfl (Nat.le_of_ble_eq_true rfl) dL_statementAt_4 (fun hne q => ?_) (fun h0 => ?_)
  · rcases hx with h | h
    · exact absurd h hne
    · have e1 : R0 = (1, z.2.2, O) := by rw [hR]; unfold wr; rw [if_neg hne, h]; rfl
      subst e1
      rw [h]
      refine xc_catch C (name := "java/lang/IndexOutOfBoundsException") [] { startPc := 0, endPc := 9, handlerPc := 12, catchType := 21 } [] (htab.trans rfl) (fun _ h9 => by cases h9) (by decide) (by decide) we_3_61 (by decide) ?_
      refine x_astore_n C dL_statementAt_12 rfl (by decide) rfl ?_
      refine x_iconst C (v := 1) dL_statementAt_13 (by decide) ?_
      exact x_iret C rfl rfl dL_statementAt_14
  · have e1 : R0 = (0, z.2.2, (z.2.1.toInt64, O.2)) := by rw [hR]; unfold wr; rw [if_pos h0]
    subst e1
    refine x_i2l C dL_statementAt_7 ?_
    refine x_last C dL_statementAt_8 ?_
    refine x_goto C dL_statementAt_9 (tgt := 15) (by decide) ?_
    refine x_iconst C (v := 0) dL_statementAt_15 (by decide) ?_
    exact x_iret C rfl rfl dL_statementAt_16
set_option maxHeartbeats 4000000 in
set_option maxRecDepth 100000 in
theorem lc_type {l : Launch} {A : Nat → Prop} {G : GT} {ad : Nat → Nat} (gl : Gl l A ad) (B : StB) (M : StM) (O : StO) (x0 : Int32)  (hok : ok_X6_type B x0) (z : Nat × Int32 × StB) (hz : z = f_X6_type B x0) (hx : z.1 = 0 ∨ z.1 = 2 ∨ z.1 = 4 ) (R0 : Int32 × StB × StO) (hR : R0 = wr [2, 4] z O) : Met l yL_type (wofH yL_type cL_type 4 (some .int) [(0, 9, 12, 13), (0, 9, 15, 15)]) (rmd 16 4 24) (va_Pc [.ref (ad 176), .int x0, .ref (ad 202)] (PW G A ad B M O)) (QI G A ad R0.1 R0.2.1 M R0.2.2) 4 24 A := by
  have hM := c_X6_type (G := G) gl B M O x0 hok
  rw [← hz] at hM
  refine xw_body (own := "InkBankLaw") (ls := [(0, .ref (ad 176)), (1, .int x0), (2, .ref (ad 202))]) (by decide) rfl gl (Nat.le_of_ble_eq_true rfl) rfl ?_
  intro p e s m args below meth c C htab
  refine x_aload_n C 2 dL_type_0 rfl rfl ?_
  refine x_iconst C (v := 0) dL_type_1 (by decide) ?_
  refine x_aload_n C 0 dL_type_2 rfl rfl ?_
  refine x_iload_n C 1 dL_type_3 rfl rfl ?_
  refine xw_cIV C (as := [.int x0]) (rest := [.int 0, .ref (ad 202)]) (ci := 10) (T := TX6) (N := 10) (n := 1) hM e_I rfl ⟨we_6_70, we_6_71⟩ ⟨we_6_72, we_1_1, by decide, by decide, by decide +kernel⟩ we_6_69 ⟨(Nat.le_of_ble_eq_true rfl), (Nat.le_of_ble_eq_true rfl)⟩ ⟨(Nat.le_of_ble_eq_true rfl), (Nat.le_of_ble_eq_true rfl)⟩ rfl rfl (Nat.le_of_ble_eq_true rfl) dL_type_4 (fun hne q => ?_) (fun h0 => ?_)
  · rcases hx with h | h | h
    · exact absurd h hne
    · have e1 : R0 = (1, z.2.2, O) := by rw [hR]; unfold wr; rw [if_neg hne, h]; rfl
      subst e1
      rw [h]
      refine xc_catch C (name := "java/lang/IllegalArgumentException") [] { startPc := 0, endPc := 9, handlerPc := 12, catchType := 13 } [{ startPc := 0, endPc := 9, handlerPc := 15, catchType := 15 }] (htab.trans rfl) (fun _ h9 => by cases h9) (by decide) (by decide) we_2_138 (by decide) ?_
      refine x_astore_n C dL_type_12 rfl (by decide) rfl ?_
      refine x_iconst C (v := 1) dL_type_13 (by decide) ?_
      exact x_iret C rfl rfl dL_type_14
    · have e1 : R0 = (2, z.2.2, O) := by rw [hR]; unfold wr; rw [if_neg hne, h]; rfl
      subst e1
      rw [h]
      refine xc_catch C (name := "java/lang/IllegalStateException") [{ startPc := 0, endPc := 9, handlerPc := 12, catchType := 13 }] { startPc := 0, endPc := 9, handlerPc := 15, catchType := 15 } [] (htab.trans rfl) (List.forall_mem_cons.mpr ⟨⟨by decide, "java/lang/IllegalArgumentException", we_2_138, by decide⟩, (fun _ h9 => by cases h9)⟩) (by decide) (by decide) we_2_139 (by decide) ?_
      refine x_astore_n C dL_type_15 rfl (by decide) rfl ?_
      refine x_iconst C (v := 2) dL_type_16 (by decide) ?_
      exact x_iret C rfl rfl dL_type_17
  · have e1 : R0 = (0, z.2.2, (z.2.1.toInt64, O.2)) := by rw [hR]; unfold wr; rw [if_pos h0]
    subst e1
    refine x_i2l C dL_type_7 ?_
    refine x_last C dL_type_8 ?_
    refine x_goto C dL_type_9 (tgt := 18) (by decide) ?_
    refine x_iconst C (v := 0) dL_type_18 (by decide) ?_
    exact x_iret C rfl rfl dL_type_19
set_option maxHeartbeats 4000000 in
set_option maxRecDepth 100000 in
theorem lc_execute {l : Launch} {A : Nat → Prop} {G : GT} {ad : Nat → Nat} (gl : Gl l A ad) (B : StB) (M : StM) (O : StO)  (hok : ok_X6_execute B) (z : Nat × Int32 × StB) (hz : z = f_X6_execute B) (hx : z.1 = 0 ∨ z.1 = 2 ∨ z.1 = 4 ) (R0 : Int32 × StB × StO) (hR : R0 = wr [2, 4] z O) : Met l yL_execute (wofH yL_execute cL_execute 3 (some .int) [(0, 8, 11, 13), (0, 8, 14, 15)]) (rmd 16 4 24) (va_Pc [.ref (ad 176), .ref (ad 202)] (PW G A ad B M O)) (QI G A ad R0.1 R0.2.1 M R0.2.2) 4 24 A := by
  have hM := c_X6_execute (G := G) gl B M O  hok
  rw [← hz] at hM
  refine xw_body (own := "InkBankLaw") (ls := [(0, .ref (ad 176)), (1, .ref (ad 202))]) (by decide) rfl gl (Nat.le_of_ble_eq_true rfl) rfl ?_
  intro p e s m args below meth c C htab
  refine x_aload_n C 1 dL_execute_0 rfl rfl ?_
  refine x_iconst C (v := 0) dL_execute_1 (by decide) ?_
  refine x_aload_n C 0 dL_execute_2 rfl rfl ?_
  refine xw_cIV C (as := []) (rest := [.int 0, .ref (ad 202)]) (ci := 10) (T := TX6) (N := 10) (n := 0) hM e_I rfl ⟨we_6_81, we_6_82⟩ ⟨we_6_83, we_1_1, by decide, by decide, by decide +kernel⟩ we_6_80 ⟨(Nat.le_of_ble_eq_true rfl), (Nat.le_of_ble_eq_true rfl)⟩ ⟨(Nat.le_of_ble_eq_true rfl), (Nat.le_of_ble_eq_true rfl)⟩ rfl rfl (Nat.le_of_ble_eq_true rfl) dL_execute_3 (fun hne q => ?_) (fun h0 => ?_)
  · rcases hx with h | h | h
    · exact absurd h hne
    · have e1 : R0 = (1, z.2.2, O) := by rw [hR]; unfold wr; rw [if_neg hne, h]; rfl
      subst e1
      rw [h]
      refine xc_catch C (name := "java/lang/IllegalArgumentException") [] { startPc := 0, endPc := 8, handlerPc := 11, catchType := 13 } [{ startPc := 0, endPc := 8, handlerPc := 14, catchType := 15 }] (htab.trans rfl) (fun _ h9 => by cases h9) (by decide) (by decide) we_2_138 (by decide) ?_
      refine x_astore_n C dL_execute_11 rfl (by decide) rfl ?_
      refine x_iconst C (v := 1) dL_execute_12 (by decide) ?_
      exact x_iret C rfl rfl dL_execute_13
    · have e1 : R0 = (2, z.2.2, O) := by rw [hR]; unfold wr; rw [if_neg hne, h]; rfl
      subst e1
      rw [h]
      refine xc_catch C (name := "java/lang/IllegalStateException") [{ startPc := 0, endPc := 8, handlerPc := 11, catchType := 13 }] { startPc := 0, endPc := 8, handlerPc := 14, catchType := 15 } [] (htab.trans rfl) (List.forall_mem_cons.mpr ⟨⟨by decide, "java/lang/IllegalArgumentException", we_2_138, by decide⟩, (fun _ h9 => by cases h9)⟩) (by decide) (by decide) we_2_139 (by decide) ?_
      refine x_astore_n C dL_execute_14 rfl (by decide) rfl ?_
      refine x_iconst C (v := 2) dL_execute_15 (by decide) ?_
      exact x_iret C rfl rfl dL_execute_16
  · have e1 : R0 = (0, z.2.2, (z.2.1.toInt64, O.2)) := by rw [hR]; unfold wr; rw [if_pos h0]
    subst e1
    refine x_i2l C dL_execute_6 ?_
    refine x_last C dL_execute_7 ?_
    refine x_goto C dL_execute_8 (tgt := 17) (by decide) ?_
    refine x_iconst C (v := 0) dL_execute_17 (by decide) ?_
    exact x_iret C rfl rfl dL_execute_18
set_option maxHeartbeats 4000000 in
set_option maxRecDepth 100000 in
theorem lc_errorPosition {l : Launch} {A : Nat → Prop} {G : GT} {ad : Nat → Nat} (gl : Gl l A ad) (B : StB) (M : StM) (O : StO)   (z : Nat × Int32 × StB) (hz : z = f_X6_errorPosition B) (hx : z.1 = 0 ∨ z.1 = 5 ) (R0 : Int32 × StB × StO) (hR : R0 = wr [5] z O) : Met l yL_errorPosition (wofH yL_errorPosition cL_errorPosition 3 (some .int) [(0, 8, 11, 53)]) (rmd 16 4 24) (va_Pc [.ref (ad 176), .ref (ad 202)] (PW G A ad B M O)) (QI G A ad R0.1 R0.2.1 M R0.2.2) 4 24 A := by
  have hM := c_X6_errorPosition (G := G) gl B M O  
  rw [← hz] at hM
  refine xw_body (own := "InkBankLaw") (ls := [(0, .ref (ad 176)), (1, .ref (ad 202))]) (by decide) rfl gl (Nat.le_of_ble_eq_true rfl) rfl ?_
  intro p e s m args below meth c C htab
  refine x_aload_n C 1 dL_errorPosition_0 rfl rfl ?_
  refine x_iconst C (v := 0) dL_errorPosition_1 (by decide) ?_
  refine x_aload_n C 0 dL_errorPosition_2 rfl rfl ?_
  refine xw_cIV C (as := []) (rest := [.int 0, .ref (ad 202)]) (ci := 10) (T := TX6) (N := 10) (n := 0) hM e_I rfl ⟨we_6_193, we_6_194⟩ ⟨we_6_195, we_1_1, by decide, by decide, by decide +kernel⟩ we_6_192 ⟨(Nat.le_of_ble_eq_true rfl), (Nat.le_of_ble_eq_true rfl)⟩ ⟨(Nat.le_of_ble_eq_true rfl), (Nat.le_of_ble_eq_true rfl)⟩ rfl rfl (Nat.le_of_ble_eq_true rfl) dL_errorPosition_3 (fun hne q => ?_) (fun h0 => ?_)
  · rcases hx with h | h
    · exact absurd h hne
    · have e1 : R0 = (1, z.2.2, O) := by rw [hR]; unfold wr; rw [if_neg hne, h]; rfl
      subst e1
      rw [h]
      refine xc_catch C (name := "java/util/NoSuchElementException") [] { startPc := 0, endPc := 8, handlerPc := 11, catchType := 53 } [] (htab.trans rfl) (fun _ h9 => by cases h9) (by decide) (by decide) we_3_218 (by decide) ?_
      refine x_astore_n C dL_errorPosition_11 rfl (by decide) rfl ?_
      refine x_iconst C (v := 1) dL_errorPosition_12 (by decide) ?_
      exact x_iret C rfl rfl dL_errorPosition_13
  · have e1 : R0 = (0, z.2.2, (z.2.1.toInt64, O.2)) := by rw [hR]; unfold wr; rw [if_pos h0]
    subst e1
    refine x_i2l C dL_errorPosition_6 ?_
    refine x_last C dL_errorPosition_7 ?_
    refine x_goto C dL_errorPosition_8 (tgt := 14) (by decide) ?_
    refine x_iconst C (v := 0) dL_errorPosition_14 (by decide) ?_
    exact x_iret C rfl rfl dL_errorPosition_15
set_option maxHeartbeats 4000000 in
set_option maxRecDepth 100000 in
theorem lc_failedCommand {l : Launch} {A : Nat → Prop} {G : GT} {ad : Nat → Nat} (gl : Gl l A ad) (B : StB) (M : StM) (O : StO)   (z : Nat × Int32 × StB) (hz : z = f_X6_failedCommand B) (hx : z.1 = 0 ∨ z.1 = 5 ) (R0 : Int32 × StB × StO) (hR : R0 = wr [5] z O) : Met l yL_failedCommand (wofH yL_failedCommand cL_failedCommand 3 (some .int) [(0, 8, 11, 53)]) (rmd 16 4 24) (va_Pc [.ref (ad 176), .ref (ad 202)] (PW G A ad B M O)) (QI G A ad R0.1 R0.2.1 M R0.2.2) 4 24 A := by
  have hM := c_X6_failedCommand (G := G) gl B M O  
  rw [← hz] at hM
  refine xw_body (own := "InkBankLaw") (ls := [(0, .ref (ad 176)), (1, .ref (ad 202))]) (by decide) rfl gl (Nat.le_of_ble_eq_true rfl) rfl ?_
  intro p e s m args below meth c C htab
  refine x_aload_n C 1 dL_failedCommand_0 rfl rfl ?_
  refine x_iconst C (v := 0) dL_failedCommand_1 (by decide) ?_
  refine x_aload_n C 0 dL_failedCommand_2 rfl rfl ?_
  refine xw_cIV C (as := []) (rest := [.int 0, .ref (ad 202)]) (ci := 10) (T := TX6) (N := 10) (n := 0) hM e_I rfl ⟨we_6_200, we_6_201⟩ ⟨we_6_202, we_1_1, by decide, by decide, by decide +kernel⟩ we_6_199 ⟨(Nat.le_of_ble_eq_true rfl), (Nat.le_of_ble_eq_true rfl)⟩ ⟨(Nat.le_of_ble_eq_true rfl), (Nat.le_of_ble_eq_true rfl)⟩ rfl rfl (Nat.le_of_ble_eq_true rfl) dL_failedCommand_3 (fun hne q => ?_) (fun h0 => ?_)
  · rcases hx with h | h
    · exact absurd h hne
    · have e1 : R0 = (1, z.2.2, O) := by rw [hR]; unfold wr; rw [if_neg hne, h]; rfl
      subst e1
      rw [h]
      refine xc_catch C (name := "java/util/NoSuchElementException") [] { startPc := 0, endPc := 8, handlerPc := 11, catchType := 53 } [] (htab.trans rfl) (fun _ h9 => by cases h9) (by decide) (by decide) we_3_218 (by decide) ?_
      refine x_astore_n C dL_failedCommand_11 rfl (by decide) rfl ?_
      refine x_iconst C (v := 1) dL_failedCommand_12 (by decide) ?_
      exact x_iret C rfl rfl dL_failedCommand_13
  · have e1 : R0 = (0, z.2.2, (z.2.1.toInt64, O.2)) := by rw [hR]; unfold wr; rw [if_pos h0]
    subst e1
    refine x_i2l C dL_failedCommand_6 ?_
    refine x_last C dL_failedCommand_7 ?_
    refine x_goto C dL_failedCommand_8 (tgt := 14) (by decide) ?_
    refine x_iconst C (v := 0) dL_failedCommand_14 (by decide) ?_
    exact x_iret C rfl rfl dL_failedCommand_15
set_option maxHeartbeats 4000000 in
set_option maxRecDepth 100000 in
theorem lc_undo {l : Launch} {A : Nat → Prop} {G : GT} {ad : Nat → Nat} (gl : Gl l A ad) (B : StB) (M : StM) (O : StO)  (hok : ok_X6_undo B) (z : Nat × Int32 × StB) (hz : z = f_X6_undo B) (hx : z.1 = 0 ∨ z.1 = 4 ) (R0 : Int32 × StB × StO) (hR : R0 = wr [4] z O) : Met l yL_undo (wofH yL_undo cL_undo 3 (some .int) [(0, 8, 11, 15)]) (rmd 16 4 24) (va_Pc [.ref (ad 176), .ref (ad 202)] (PW G A ad B M O)) (QI G A ad R0.1 R0.2.1 M R0.2.2) 4 24 A := by
  have hM := c_X6_undo (G := G) gl B M O  hok
  rw [← hz] at hM
  refine xw_body (own := "InkBankLaw") (ls := [(0, .ref (ad 176)), (1, .ref (ad 202))]) (by decide) rfl gl (Nat.le_of_ble_eq_true rfl) rfl ?_
  intro p e s m args below meth c C htab
  refine x_aload_n C 1 dL_undo_0 rfl rfl ?_
  refine x_iconst C (v := 0) dL_undo_1 (by decide) ?_
  refine x_aload_n C 0 dL_undo_2 rfl rfl ?_
  refine xw_cIV C (as := []) (rest := [.int 0, .ref (ad 202)]) (ci := 10) (T := TX6) (N := 10) (n := 0) hM e_I rfl ⟨we_6_207, we_6_208⟩ ⟨we_6_209, we_1_1, by decide, by decide, by decide +kernel⟩ we_6_206 ⟨(Nat.le_of_ble_eq_true rfl), (Nat.le_of_ble_eq_true rfl)⟩ ⟨(Nat.le_of_ble_eq_true rfl), (Nat.le_of_ble_eq_true rfl)⟩ rfl rfl (Nat.le_of_ble_eq_true rfl) dL_undo_3 (fun hne q => ?_) (fun h0 => ?_)
  · rcases hx with h | h
    · exact absurd h hne
    · have e1 : R0 = (1, z.2.2, O) := by rw [hR]; unfold wr; rw [if_neg hne, h]; rfl
      subst e1
      rw [h]
      refine xc_catch C (name := "java/lang/IllegalStateException") [] { startPc := 0, endPc := 8, handlerPc := 11, catchType := 15 } [] (htab.trans rfl) (fun _ h9 => by cases h9) (by decide) (by decide) we_2_139 (by decide) ?_
      refine x_astore_n C dL_undo_11 rfl (by decide) rfl ?_
      refine x_iconst C (v := 1) dL_undo_12 (by decide) ?_
      exact x_iret C rfl rfl dL_undo_13
  · have e1 : R0 = (0, z.2.2, (z.2.1.toInt64, O.2)) := by rw [hR]; unfold wr; rw [if_pos h0]
    subst e1
    refine x_i2l C dL_undo_6 ?_
    refine x_last C dL_undo_7 ?_
    refine x_goto C dL_undo_8 (tgt := 14) (by decide) ?_
    refine x_iconst C (v := 0) dL_undo_14 (by decide) ?_
    exact x_iret C rfl rfl dL_undo_15
set_option maxHeartbeats 4000000 in
set_option maxRecDepth 100000 in
theorem lc_restore {l : Launch} {A : Nat → Prop} {G : GT} {ad : Nat → Nat} (gl : Gl l A ad) (B : StB) (M : StM) (O : StO)  (hok : ok_X6_restore B) (z : Nat × Int32 × StB) (hz : z = f_X6_restore B) (hx : z.1 = 0 ∨ z.1 = 4 ) (R0 : Int32 × StB × StO) (hR : R0 = wr [4] z O) : Met l yL_restore (wofH yL_restore cL_restore 3 (some .int) [(0, 8, 11, 15)]) (rmd 16 4 24) (va_Pc [.ref (ad 176), .ref (ad 202)] (PW G A ad B M O)) (QI G A ad R0.1 R0.2.1 M R0.2.2) 4 24 A := by
  have hM := c_X6_restore (G := G) gl B M O  hok
  rw [← hz] at hM
  refine xw_body (own := "InkBankLaw") (ls := [(0, .ref (ad 176)), (1, .ref (ad 202))]) (by decide) rfl gl (Nat.le_of_ble_eq_true rfl) rfl ?_
  intro p e s m args below meth c C htab
  refine x_aload_n C 1 dL_restore_0 rfl rfl ?_
  refine x_iconst C (v := 0) dL_restore_1 (by decide) ?_
  refine x_aload_n C 0 dL_restore_2 rfl rfl ?_
  refine xw_cIV C (as := []) (rest := [.int 0, .ref (ad 202)]) (ci := 10) (T := TX6) (N := 10) (n := 0) hM e_I rfl ⟨we_6_218, we_6_219⟩ ⟨we_6_220, we_1_1, by decide, by decide, by decide +kernel⟩ we_6_217 ⟨(Nat.le_of_ble_eq_true rfl), (Nat.le_of_ble_eq_true rfl)⟩ ⟨(Nat.le_of_ble_eq_true rfl), (Nat.le_of_ble_eq_true rfl)⟩ rfl rfl (Nat.le_of_ble_eq_true rfl) dL_restore_3 (fun hne q => ?_) (fun h0 => ?_)
  · rcases hx with h | h
    · exact absurd h hne
    · have e1 : R0 = (1, z.2.2, O) := by rw [hR]; unfold wr; rw [if_neg hne, h]; rfl
      subst e1
      rw [h]
      refine xc_catch C (name := "java/lang/IllegalStateException") [] { startPc := 0, endPc := 8, handlerPc := 11, catchType := 15 } [] (htab.trans rfl) (fun _ h9 => by cases h9) (by decide) (by decide) we_2_139 (by decide) ?_
      refine x_astore_n C dL_restore_11 rfl (by decide) rfl ?_
      refine x_iconst C (v := 1) dL_restore_12 (by decide) ?_
      exact x_iret C rfl rfl dL_restore_13
  · have e1 : R0 = (0, z.2.2, (z.2.1.toInt64, O.2)) := by rw [hR]; unfold wr; rw [if_pos h0]
    subst e1
    refine x_i2l C dL_restore_6 ?_
    refine x_last C dL_restore_7 ?_
    refine x_goto C dL_restore_8 (tgt := 14) (by decide) ?_
    refine x_iconst C (v := 0) dL_restore_14 (by decide) ?_
    exact x_iret C rfl rfl dL_restore_15
