theorem we_1_0 : (Jvm.Cond.initialized "InkBankLaw") ∈ TT := tt_1 (List.mem_of_getElem? (i := 0) rfl) rfl
theorem we_2_63 : (Jvm.Cond.methodLink "InkBankLaw" (161 : Nat) ({ cls := "InkBank", name := "accountCount", desc := "()I" } : Jvm.MethodName)) ∈ TT := tt_2 (List.mem_of_getElem? (i := 63) rfl) rfl
theorem we_2_67 : (Jvm.Cond.methodLink "InkBankLaw" (190 : Nat) ({ cls := "InkBank", name := "bankBalance", desc := "()I" } : Jvm.MethodName)) ∈ TT := tt_2 (List.mem_of_getElem? (i := 67) rfl) rfl
theorem we_2_71 : (Jvm.Cond.methodLink "InkBankLaw" (194 : Nat) ({ cls := "InkBank", name := "totalInk", desc := "()J" } : Jvm.MethodName)) ∈ TT := tt_2 (List.mem_of_getElem? (i := 71) rfl) rfl
theorem we_2_79 : (Jvm.Cond.methodLink "InkBankLaw" (199 : Nat) ({ cls := "InkBank", name := "totalInkByMovements", desc := "()J" } : Jvm.MethodName)) ∈ TT := tt_2 (List.mem_of_getElem? (i := 79) rfl) rfl
theorem we_2_83 : (Jvm.Cond.methodLink "InkBankLaw" (203 : Nat) ({ cls := "InkBank", name := "transferredInk", desc := "()J" } : Jvm.MethodName)) ∈ TT := tt_2 (List.mem_of_getElem? (i := 83) rfl) rfl
theorem we_2_87 : (Jvm.Cond.methodLink "InkBankLaw" (207 : Nat) ({ cls := "InkBank", name := "interestPaid", desc := "()J" } : Jvm.MethodName)) ∈ TT := tt_2 (List.mem_of_getElem? (i := 87) rfl) rfl
theorem we_2_91 : (Jvm.Cond.methodLink "InkBankLaw" (211 : Nat) ({ cls := "InkBank", name := "chargesPaid", desc := "()J" } : Jvm.MethodName)) ∈ TT := tt_2 (List.mem_of_getElem? (i := 91) rfl) rfl
theorem we_2_95 : (Jvm.Cond.methodLink "InkBankLaw" (215 : Nat) ({ cls := "InkBank", name := "day", desc := "()I" } : Jvm.MethodName)) ∈ TT := tt_2 (List.mem_of_getElem? (i := 95) rfl) rfl
theorem we_2_99 : (Jvm.Cond.methodLink "InkBankLaw" (232 : Nat) ({ cls := "InkBank", name := "transferCount", desc := "()I" } : Jvm.MethodName)) ∈ TT := tt_2 (List.mem_of_getElem? (i := 99) rfl) rfl
theorem we_2_103 : (Jvm.Cond.methodLink "InkBankLaw" (254 : Nat) ({ cls := "InkBank", name := "bounceCount", desc := "()I" } : Jvm.MethodName)) ∈ TT := tt_2 (List.mem_of_getElem? (i := 103) rfl) rfl
theorem we_2_107 : (Jvm.Cond.methodLink "InkBankLaw" (267 : Nat) ({ cls := "InkBank", name := "journalLength", desc := "()I" } : Jvm.MethodName)) ∈ TT := tt_2 (List.mem_of_getElem? (i := 107) rfl) rfl
theorem we_2_111 : (Jvm.Cond.methodLink "InkBankLaw" (303 : Nat) ({ cls := "InkBank", name := "save", desc := "()I" } : Jvm.MethodName)) ∈ TT := tt_2 (List.mem_of_getElem? (i := 111) rfl) rfl
theorem we_2_135 : (Jvm.Cond.methodLink "InkBankLaw" (142 : Nat) ({ cls := "InkBankLaw", name := "open", desc := "(LInkBank;I[J)I" } : Jvm.MethodName)) ∈ TT := tt_2 (List.mem_of_getElem? (i := 135) rfl) rfl
theorem we_2_136 : (Jvm.Cond.static ({ cls := "InkBankLaw", name := "open", desc := "(LInkBank;I[J)I" } : Jvm.MethodName)) ∈ TT := tt_2 (List.mem_of_getElem? (i := 136) rfl) rfl
theorem we_2_137 : (Jvm.Cond.codeWith ({ cls := "InkBankLaw", name := "open", desc := "(LInkBank;I[J)I" } : Jvm.MethodName) method_3_code (4 : Nat) (Option.some Jvm.ClassFile.FieldType.int) [((0 : Nat), (9 : Nat), (12 : Nat), (13 : Nat)), ((0 : Nat), (9 : Nat), (15 : Nat), (15 : Nat))]) ∈ TT := tt_2 (List.mem_of_getElem? (i := 137) rfl) rfl
theorem we_3_58 : (Jvm.Cond.methodLink "InkBankLaw" (151 : Nat) ({ cls := "InkBankLaw", name := "deposit", desc := "(LInkBank;II[J)I" } : Jvm.MethodName)) ∈ TT := tt_3 (List.mem_of_getElem? (i := 58) rfl) rfl
theorem we_3_59 : (Jvm.Cond.static ({ cls := "InkBankLaw", name := "deposit", desc := "(LInkBank;II[J)I" } : Jvm.MethodName)) ∈ TT := tt_3 (List.mem_of_getElem? (i := 59) rfl) rfl
theorem we_3_60 : (Jvm.Cond.codeWith ({ cls := "InkBankLaw", name := "deposit", desc := "(LInkBank;II[J)I" } : Jvm.MethodName) method_4_code (5 : Nat) (Option.some Jvm.ClassFile.FieldType.int) [((0 : Nat), (10 : Nat), (13 : Nat), (21 : Nat)), ((0 : Nat), (10 : Nat), (17 : Nat), (13 : Nat)), ((0 : Nat), (10 : Nat), (21 : Nat), (15 : Nat))]) ∈ TT := tt_3 (List.mem_of_getElem? (i := 60) rfl) rfl
theorem we_3_119 : (Jvm.Cond.methodLink "InkBankLaw" (155 : Nat) ({ cls := "InkBankLaw", name := "withdraw", desc := "(LInkBank;II[J)I" } : Jvm.MethodName)) ∈ TT := tt_3 (List.mem_of_getElem? (i := 119) rfl) rfl
theorem we_3_120 : (Jvm.Cond.static ({ cls := "InkBankLaw", name := "withdraw", desc := "(LInkBank;II[J)I" } : Jvm.MethodName)) ∈ TT := tt_3 (List.mem_of_getElem? (i := 120) rfl) rfl
theorem we_3_121 : (Jvm.Cond.codeWith ({ cls := "InkBankLaw", name := "withdraw", desc := "(LInkBank;II[J)I" } : Jvm.MethodName) method_5_code (5 : Nat) (Option.some Jvm.ClassFile.FieldType.int) [((0 : Nat), (10 : Nat), (13 : Nat), (21 : Nat)), ((0 : Nat), (10 : Nat), (17 : Nat), (13 : Nat)), ((0 : Nat), (10 : Nat), (21 : Nat), (15 : Nat))]) ∈ TT := tt_3 (List.mem_of_getElem? (i := 121) rfl) rfl
theorem we_3_138 : (Jvm.Cond.methodLink "InkBankLaw" (158 : Nat) ({ cls := "InkBankLaw", name := "setLimit", desc := "(LInkBank;II[J)I" } : Jvm.MethodName)) ∈ TT := tt_3 (List.mem_of_getElem? (i := 138) rfl) rfl
theorem we_3_139 : (Jvm.Cond.static ({ cls := "InkBankLaw", name := "setLimit", desc := "(LInkBank;II[J)I" } : Jvm.MethodName)) ∈ TT := tt_3 (List.mem_of_getElem? (i := 139) rfl) rfl
theorem we_3_140 : (Jvm.Cond.codeWith ({ cls := "InkBankLaw", name := "setLimit", desc := "(LInkBank;II[J)I" } : Jvm.MethodName) method_6_code (5 : Nat) (Option.some Jvm.ClassFile.FieldType.int) [((0 : Nat), (10 : Nat), (13 : Nat), (21 : Nat)), ((0 : Nat), (10 : Nat), (17 : Nat), (13 : Nat)), ((0 : Nat), (10 : Nat), (21 : Nat), (29 : Nat)), ((0 : Nat), (10 : Nat), (25 : Nat), (15 : Nat))]) ∈ TT := tt_3 (List.mem_of_getElem? (i := 140) rfl) rfl
theorem we_3_154 : (Jvm.Cond.methodLink "InkBankLaw" (165 : Nat) ({ cls := "InkBankLaw", name := "kindOf", desc := "(LInkBank;I[J)I" } : Jvm.MethodName)) ∈ TT := tt_3 (List.mem_of_getElem? (i := 154) rfl) rfl
theorem we_3_155 : (Jvm.Cond.static ({ cls := "InkBankLaw", name := "kindOf", desc := "(LInkBank;I[J)I" } : Jvm.MethodName)) ∈ TT := tt_3 (List.mem_of_getElem? (i := 155) rfl) rfl
theorem we_3_156 : (Jvm.Cond.codeWith ({ cls := "InkBankLaw", name := "kindOf", desc := "(LInkBank;I[J)I" } : Jvm.MethodName) method_7_code (4 : Nat) (Option.some Jvm.ClassFile.FieldType.int) [((0 : Nat), (9 : Nat), (12 : Nat), (21 : Nat))]) ∈ TT := tt_3 (List.mem_of_getElem? (i := 156) rfl) rfl
theorem we_3_166 : (Jvm.Cond.methodLink "InkBankLaw" (168 : Nat) ({ cls := "InkBankLaw", name := "balanceOf", desc := "(LInkBank;I[J)I" } : Jvm.MethodName)) ∈ TT := tt_3 (List.mem_of_getElem? (i := 166) rfl) rfl
theorem we_3_167 : (Jvm.Cond.static ({ cls := "InkBankLaw", name := "balanceOf", desc := "(LInkBank;I[J)I" } : Jvm.MethodName)) ∈ TT := tt_3 (List.mem_of_getElem? (i := 167) rfl) rfl
theorem we_3_168 : (Jvm.Cond.codeWith ({ cls := "InkBankLaw", name := "balanceOf", desc := "(LInkBank;I[J)I" } : Jvm.MethodName) method_8_code (4 : Nat) (Option.some Jvm.ClassFile.FieldType.int) [((0 : Nat), (9 : Nat), (12 : Nat), (21 : Nat))]) ∈ TT := tt_3 (List.mem_of_getElem? (i := 168) rfl) rfl
theorem we_3_173 : (Jvm.Cond.methodLink "InkBankLaw" (171 : Nat) ({ cls := "InkBankLaw", name := "limitOf", desc := "(LInkBank;I[J)I" } : Jvm.MethodName)) ∈ TT := tt_3 (List.mem_of_getElem? (i := 173) rfl) rfl
theorem we_3_174 : (Jvm.Cond.static ({ cls := "InkBankLaw", name := "limitOf", desc := "(LInkBank;I[J)I" } : Jvm.MethodName)) ∈ TT := tt_3 (List.mem_of_getElem? (i := 174) rfl) rfl
theorem we_3_175 : (Jvm.Cond.codeWith ({ cls := "InkBankLaw", name := "limitOf", desc := "(LInkBank;I[J)I" } : Jvm.MethodName) method_9_code (4 : Nat) (Option.some Jvm.ClassFile.FieldType.int) [((0 : Nat), (9 : Nat), (12 : Nat), (21 : Nat))]) ∈ TT := tt_3 (List.mem_of_getElem? (i := 175) rfl) rfl
theorem we_3_180 : (Jvm.Cond.methodLink "InkBankLaw" (174 : Nat) ({ cls := "InkBankLaw", name := "availableIn", desc := "(LInkBank;I[J)I" } : Jvm.MethodName)) ∈ TT := tt_3 (List.mem_of_getElem? (i := 180) rfl) rfl
theorem we_3_181 : (Jvm.Cond.static ({ cls := "InkBankLaw", name := "availableIn", desc := "(LInkBank;I[J)I" } : Jvm.MethodName)) ∈ TT := tt_3 (List.mem_of_getElem? (i := 181) rfl) rfl
theorem we_3_182 : (Jvm.Cond.codeWith ({ cls := "InkBankLaw", name := "availableIn", desc := "(LInkBank;I[J)I" } : Jvm.MethodName) method_10_code (4 : Nat) (Option.some Jvm.ClassFile.FieldType.int) [((0 : Nat), (9 : Nat), (12 : Nat), (21 : Nat))]) ∈ TT := tt_3 (List.mem_of_getElem? (i := 182) rfl) rfl
theorem we_3_188 : (Jvm.Cond.methodLink "InkBankLaw" (177 : Nat) ({ cls := "InkBankLaw", name := "wasTouched", desc := "(LInkBank;I[J)I" } : Jvm.MethodName)) ∈ TT := tt_3 (List.mem_of_getElem? (i := 188) rfl) rfl
theorem we_3_189 : (Jvm.Cond.static ({ cls := "InkBankLaw", name := "wasTouched", desc := "(LInkBank;I[J)I" } : Jvm.MethodName)) ∈ TT := tt_3 (List.mem_of_getElem? (i := 189) rfl) rfl
theorem we_3_190 : (Jvm.Cond.codeWith ({ cls := "InkBankLaw", name := "wasTouched", desc := "(LInkBank;I[J)I" } : Jvm.MethodName) method_11_code (4 : Nat) (Option.some Jvm.ClassFile.FieldType.int) [((0 : Nat), (16 : Nat), (19 : Nat), (21 : Nat))]) ∈ TT := tt_3 (List.mem_of_getElem? (i := 190) rfl) rfl
theorem we_3_195 : (Jvm.Cond.methodLink "InkBankLaw" (180 : Nat) ({ cls := "InkBankLaw", name := "interestOf", desc := "(LInkBank;I[J)I" } : Jvm.MethodName)) ∈ TT := tt_3 (List.mem_of_getElem? (i := 195) rfl) rfl
theorem we_3_196 : (Jvm.Cond.static ({ cls := "InkBankLaw", name := "interestOf", desc := "(LInkBank;I[J)I" } : Jvm.MethodName)) ∈ TT := tt_3 (List.mem_of_getElem? (i := 196) rfl) rfl
theorem we_3_197 : (Jvm.Cond.codeWith ({ cls := "InkBankLaw", name := "interestOf", desc := "(LInkBank;I[J)I" } : Jvm.MethodName) method_12_code (4 : Nat) (Option.some Jvm.ClassFile.FieldType.int) [((0 : Nat), (9 : Nat), (12 : Nat), (21 : Nat))]) ∈ TT := tt_3 (List.mem_of_getElem? (i := 197) rfl) rfl
theorem we_3_215 : (Jvm.Cond.methodLink "InkBankLaw" (183 : Nat) ({ cls := "InkBankLaw", name := "accountAtRank", desc := "(LInkBank;I[J)I" } : Jvm.MethodName)) ∈ TT := tt_3 (List.mem_of_getElem? (i := 215) rfl) rfl
theorem we_3_216 : (Jvm.Cond.static ({ cls := "InkBankLaw", name := "accountAtRank", desc := "(LInkBank;I[J)I" } : Jvm.MethodName)) ∈ TT := tt_3 (List.mem_of_getElem? (i := 216) rfl) rfl
theorem we_3_217 : (Jvm.Cond.codeWith ({ cls := "InkBankLaw", name := "accountAtRank", desc := "(LInkBank;I[J)I" } : Jvm.MethodName) method_13_code (4 : Nat) (Option.some Jvm.ClassFile.FieldType.int) [((0 : Nat), (9 : Nat), (12 : Nat), (53 : Nat))]) ∈ TT := tt_3 (List.mem_of_getElem? (i := 217) rfl) rfl
theorem we_3_231 : (Jvm.Cond.methodLink "InkBankLaw" (186 : Nat) ({ cls := "InkBankLaw", name := "meanBalance", desc := "(LInkBank;[D)I" } : Jvm.MethodName)) ∈ TT := tt_3 (List.mem_of_getElem? (i := 231) rfl) rfl
theorem we_3_232 : (Jvm.Cond.static ({ cls := "InkBankLaw", name := "meanBalance", desc := "(LInkBank;[D)I" } : Jvm.MethodName)) ∈ TT := tt_3 (List.mem_of_getElem? (i := 232) rfl) rfl
theorem we_3_233 : (Jvm.Cond.codeWith ({ cls := "InkBankLaw", name := "meanBalance", desc := "(LInkBank;[D)I" } : Jvm.MethodName) method_14_code (3 : Nat) (Option.some Jvm.ClassFile.FieldType.int) [((0 : Nat), (7 : Nat), (10 : Nat), (59 : Nat))]) ∈ TT := tt_3 (List.mem_of_getElem? (i := 233) rfl) rfl
theorem we_4_17 : (Jvm.Cond.methodLink "InkBankLaw" (219 : Nat) ({ cls := "InkBankLaw", name := "endDays", desc := "(LInkBank;I[J)I" } : Jvm.MethodName)) ∈ TT := tt_4 (List.mem_of_getElem? (i := 17) rfl) rfl
theorem we_4_18 : (Jvm.Cond.static ({ cls := "InkBankLaw", name := "endDays", desc := "(LInkBank;I[J)I" } : Jvm.MethodName)) ∈ TT := tt_4 (List.mem_of_getElem? (i := 18) rfl) rfl
theorem we_4_19 : (Jvm.Cond.codeWith ({ cls := "InkBankLaw", name := "endDays", desc := "(LInkBank;I[J)I" } : Jvm.MethodName) method_15_code (4 : Nat) (Option.some Jvm.ClassFile.FieldType.int) [((0 : Nat), (9 : Nat), (12 : Nat), (13 : Nat))]) ∈ TT := tt_4 (List.mem_of_getElem? (i := 19) rfl) rfl
theorem we_4_59 : (Jvm.Cond.methodLink "InkBankLaw" (222 : Nat) ({ cls := "InkBankLaw", name := "balanceAfter", desc := "(LInkBank;II[J)I" } : Jvm.MethodName)) ∈ TT := tt_4 (List.mem_of_getElem? (i := 59) rfl) rfl
theorem we_4_60 : (Jvm.Cond.static ({ cls := "InkBankLaw", name := "balanceAfter", desc := "(LInkBank;II[J)I" } : Jvm.MethodName)) ∈ TT := tt_4 (List.mem_of_getElem? (i := 60) rfl) rfl
theorem we_4_61 : (Jvm.Cond.codeWith ({ cls := "InkBankLaw", name := "balanceAfter", desc := "(LInkBank;II[J)I" } : Jvm.MethodName) method_16_code (5 : Nat) (Option.some Jvm.ClassFile.FieldType.int) [((0 : Nat), (10 : Nat), (13 : Nat), (21 : Nat)), ((0 : Nat), (10 : Nat), (17 : Nat), (13 : Nat))]) ∈ TT := tt_4 (List.mem_of_getElem? (i := 61) rfl) rfl
theorem we_4_70 : (Jvm.Cond.methodLink "InkBankLaw" (225 : Nat) ({ cls := "InkBankLaw", name := "seal", desc := "(LInkBank;IIII[J)I" } : Jvm.MethodName)) ∈ TT := tt_4 (List.mem_of_getElem? (i := 70) rfl) rfl
theorem we_4_71 : (Jvm.Cond.static ({ cls := "InkBankLaw", name := "seal", desc := "(LInkBank;IIII[J)I" } : Jvm.MethodName)) ∈ TT := tt_4 (List.mem_of_getElem? (i := 71) rfl) rfl
theorem we_4_72 : (Jvm.Cond.codeWith ({ cls := "InkBankLaw", name := "seal", desc := "(LInkBank;IIII[J)I" } : Jvm.MethodName) method_17_code (7 : Nat) (Option.some Jvm.ClassFile.FieldType.int) [((0 : Nat), (14 : Nat), (17 : Nat), (21 : Nat)), ((0 : Nat), (14 : Nat), (21 : Nat), (13 : Nat)), ((0 : Nat), (14 : Nat), (25 : Nat), (15 : Nat))]) ∈ TT := tt_4 (List.mem_of_getElem? (i := 72) rfl) rfl
theorem we_4_85 : (Jvm.Cond.methodLink "InkBankLaw" (229 : Nat) ({ cls := "InkBankLaw", name := "cancel", desc := "(LInkBank;I[J)I" } : Jvm.MethodName)) ∈ TT := tt_4 (List.mem_of_getElem? (i := 85) rfl) rfl
theorem we_4_86 : (Jvm.Cond.static ({ cls := "InkBankLaw", name := "cancel", desc := "(LInkBank;I[J)I" } : Jvm.MethodName)) ∈ TT := tt_4 (List.mem_of_getElem? (i := 86) rfl) rfl
theorem we_4_87 : (Jvm.Cond.codeWith ({ cls := "InkBankLaw", name := "cancel", desc := "(LInkBank;I[J)I" } : Jvm.MethodName) method_18_code (4 : Nat) (Option.some Jvm.ClassFile.FieldType.int) [((0 : Nat), (9 : Nat), (12 : Nat), (53 : Nat))]) ∈ TT := tt_4 (List.mem_of_getElem? (i := 87) rfl) rfl
theorem we_4_104 : (Jvm.Cond.methodLink "InkBankLaw" (236 : Nat) ({ cls := "InkBankLaw", name := "transferAt", desc := "(LInkBank;I[J)I" } : Jvm.MethodName)) ∈ TT := tt_4 (List.mem_of_getElem? (i := 104) rfl) rfl
theorem we_4_105 : (Jvm.Cond.static ({ cls := "InkBankLaw", name := "transferAt", desc := "(LInkBank;I[J)I" } : Jvm.MethodName)) ∈ TT := tt_4 (List.mem_of_getElem? (i := 105) rfl) rfl
theorem we_4_106 : (Jvm.Cond.codeWith ({ cls := "InkBankLaw", name := "transferAt", desc := "(LInkBank;I[J)I" } : Jvm.MethodName) method_19_code (4 : Nat) (Option.some Jvm.ClassFile.FieldType.int) [((0 : Nat), (9 : Nat), (12 : Nat), (21 : Nat))]) ∈ TT := tt_4 (List.mem_of_getElem? (i := 106) rfl) rfl
theorem we_4_119 : (Jvm.Cond.methodLink "InkBankLaw" (239 : Nat) ({ cls := "InkBankLaw", name := "senderOf", desc := "(LInkBank;I[J)I" } : Jvm.MethodName)) ∈ TT := tt_4 (List.mem_of_getElem? (i := 119) rfl) rfl
theorem we_4_120 : (Jvm.Cond.static ({ cls := "InkBankLaw", name := "senderOf", desc := "(LInkBank;I[J)I" } : Jvm.MethodName)) ∈ TT := tt_4 (List.mem_of_getElem? (i := 120) rfl) rfl
theorem we_4_121 : (Jvm.Cond.codeWith ({ cls := "InkBankLaw", name := "senderOf", desc := "(LInkBank;I[J)I" } : Jvm.MethodName) method_20_code (4 : Nat) (Option.some Jvm.ClassFile.FieldType.int) [((0 : Nat), (9 : Nat), (12 : Nat), (53 : Nat))]) ∈ TT := tt_4 (List.mem_of_getElem? (i := 121) rfl) rfl
theorem we_4_131 : (Jvm.Cond.methodLink "InkBankLaw" (242 : Nat) ({ cls := "InkBankLaw", name := "receiverOf", desc := "(LInkBank;I[J)I" } : Jvm.MethodName)) ∈ TT := tt_4 (List.mem_of_getElem? (i := 131) rfl) rfl
theorem we_4_132 : (Jvm.Cond.static ({ cls := "InkBankLaw", name := "receiverOf", desc := "(LInkBank;I[J)I" } : Jvm.MethodName)) ∈ TT := tt_4 (List.mem_of_getElem? (i := 132) rfl) rfl
theorem we_4_133 : (Jvm.Cond.codeWith ({ cls := "InkBankLaw", name := "receiverOf", desc := "(LInkBank;I[J)I" } : Jvm.MethodName) method_21_code (4 : Nat) (Option.some Jvm.ClassFile.FieldType.int) [((0 : Nat), (9 : Nat), (12 : Nat), (53 : Nat))]) ∈ TT := tt_4 (List.mem_of_getElem? (i := 133) rfl) rfl
theorem we_4_138 : (Jvm.Cond.methodLink "InkBankLaw" (245 : Nat) ({ cls := "InkBankLaw", name := "amountOf", desc := "(LInkBank;I[J)I" } : Jvm.MethodName)) ∈ TT := tt_4 (List.mem_of_getElem? (i := 138) rfl) rfl
theorem we_4_139 : (Jvm.Cond.static ({ cls := "InkBankLaw", name := "amountOf", desc := "(LInkBank;I[J)I" } : Jvm.MethodName)) ∈ TT := tt_4 (List.mem_of_getElem? (i := 139) rfl) rfl
theorem we_4_140 : (Jvm.Cond.codeWith ({ cls := "InkBankLaw", name := "amountOf", desc := "(LInkBank;I[J)I" } : Jvm.MethodName) method_22_code (4 : Nat) (Option.some Jvm.ClassFile.FieldType.int) [((0 : Nat), (9 : Nat), (12 : Nat), (53 : Nat))]) ∈ TT := tt_4 (List.mem_of_getElem? (i := 140) rfl) rfl
theorem we_4_145 : (Jvm.Cond.methodLink "InkBankLaw" (248 : Nat) ({ cls := "InkBankLaw", name := "daysUntilDue", desc := "(LInkBank;I[J)I" } : Jvm.MethodName)) ∈ TT := tt_4 (List.mem_of_getElem? (i := 145) rfl) rfl
theorem we_4_146 : (Jvm.Cond.static ({ cls := "InkBankLaw", name := "daysUntilDue", desc := "(LInkBank;I[J)I" } : Jvm.MethodName)) ∈ TT := tt_4 (List.mem_of_getElem? (i := 146) rfl) rfl
theorem we_4_147 : (Jvm.Cond.codeWith ({ cls := "InkBankLaw", name := "daysUntilDue", desc := "(LInkBank;I[J)I" } : Jvm.MethodName) method_23_code (4 : Nat) (Option.some Jvm.ClassFile.FieldType.int) [((0 : Nat), (9 : Nat), (12 : Nat), (53 : Nat))]) ∈ TT := tt_4 (List.mem_of_getElem? (i := 147) rfl) rfl
theorem we_4_152 : (Jvm.Cond.methodLink "InkBankLaw" (251 : Nat) ({ cls := "InkBankLaw", name := "wouldBounce", desc := "(LInkBank;I[J)I" } : Jvm.MethodName)) ∈ TT := tt_4 (List.mem_of_getElem? (i := 152) rfl) rfl
theorem we_4_153 : (Jvm.Cond.static ({ cls := "InkBankLaw", name := "wouldBounce", desc := "(LInkBank;I[J)I" } : Jvm.MethodName)) ∈ TT := tt_4 (List.mem_of_getElem? (i := 153) rfl) rfl
theorem we_4_154 : (Jvm.Cond.codeWith ({ cls := "InkBankLaw", name := "wouldBounce", desc := "(LInkBank;I[J)I" } : Jvm.MethodName) method_24_code (4 : Nat) (Option.some Jvm.ClassFile.FieldType.int) [((0 : Nat), (16 : Nat), (19 : Nat), (53 : Nat))]) ∈ TT := tt_4 (List.mem_of_getElem? (i := 154) rfl) rfl
theorem we_4_164 : (Jvm.Cond.methodLink "InkBankLaw" (258 : Nat) ({ cls := "InkBankLaw", name := "netOf", desc := "(LInkBank;I[J)I" } : Jvm.MethodName)) ∈ TT := tt_4 (List.mem_of_getElem? (i := 164) rfl) rfl
theorem we_4_165 : (Jvm.Cond.static ({ cls := "InkBankLaw", name := "netOf", desc := "(LInkBank;I[J)I" } : Jvm.MethodName)) ∈ TT := tt_4 (List.mem_of_getElem? (i := 165) rfl) rfl
theorem we_4_166 : (Jvm.Cond.codeWith ({ cls := "InkBankLaw", name := "netOf", desc := "(LInkBank;I[J)I" } : Jvm.MethodName) method_25_code (4 : Nat) (Option.some Jvm.ClassFile.FieldType.int) [((0 : Nat), (9 : Nat), (12 : Nat), (21 : Nat))]) ∈ TT := tt_4 (List.mem_of_getElem? (i := 166) rfl) rfl
theorem we_4_175 : (Jvm.Cond.methodLink "InkBankLaw" (261 : Nat) ({ cls := "InkBankLaw", name := "netByTable", desc := "(LInkBank;I[J)I" } : Jvm.MethodName)) ∈ TT := tt_4 (List.mem_of_getElem? (i := 175) rfl) rfl
theorem we_4_176 : (Jvm.Cond.static ({ cls := "InkBankLaw", name := "netByTable", desc := "(LInkBank;I[J)I" } : Jvm.MethodName)) ∈ TT := tt_4 (List.mem_of_getElem? (i := 176) rfl) rfl
theorem we_4_177 : (Jvm.Cond.codeWith ({ cls := "InkBankLaw", name := "netByTable", desc := "(LInkBank;I[J)I" } : Jvm.MethodName) method_26_code (4 : Nat) (Option.some Jvm.ClassFile.FieldType.int) [((0 : Nat), (9 : Nat), (12 : Nat), (21 : Nat))]) ∈ TT := tt_4 (List.mem_of_getElem? (i := 177) rfl) rfl
theorem we_4_186 : (Jvm.Cond.methodLink "InkBankLaw" (264 : Nat) ({ cls := "InkBankLaw", name := "leadsTo", desc := "(LInkBank;II[J)I" } : Jvm.MethodName)) ∈ TT := tt_4 (List.mem_of_getElem? (i := 186) rfl) rfl
theorem we_4_187 : (Jvm.Cond.static ({ cls := "InkBankLaw", name := "leadsTo", desc := "(LInkBank;II[J)I" } : Jvm.MethodName)) ∈ TT := tt_4 (List.mem_of_getElem? (i := 187) rfl) rfl
theorem we_4_188 : (Jvm.Cond.codeWith ({ cls := "InkBankLaw", name := "leadsTo", desc := "(LInkBank;II[J)I" } : Jvm.MethodName) method_27_code (5 : Nat) (Option.some Jvm.ClassFile.FieldType.int) [((0 : Nat), (17 : Nat), (20 : Nat), (21 : Nat))]) ∈ TT := tt_4 (List.mem_of_getElem? (i := 188) rfl) rfl
theorem we_4_197 : (Jvm.Cond.methodLink "InkBankLaw" (271 : Nat) ({ cls := "InkBankLaw", name := "movementKind", desc := "(LInkBank;I[J)I" } : Jvm.MethodName)) ∈ TT := tt_4 (List.mem_of_getElem? (i := 197) rfl) rfl
theorem we_4_198 : (Jvm.Cond.static ({ cls := "InkBankLaw", name := "movementKind", desc := "(LInkBank;I[J)I" } : Jvm.MethodName)) ∈ TT := tt_4 (List.mem_of_getElem? (i := 198) rfl) rfl
theorem we_4_199 : (Jvm.Cond.codeWith ({ cls := "InkBankLaw", name := "movementKind", desc := "(LInkBank;I[J)I" } : Jvm.MethodName) method_28_code (4 : Nat) (Option.some Jvm.ClassFile.FieldType.int) [((0 : Nat), (9 : Nat), (12 : Nat), (53 : Nat))]) ∈ TT := tt_4 (List.mem_of_getElem? (i := 199) rfl) rfl
theorem we_4_212 : (Jvm.Cond.methodLink "InkBankLaw" (274 : Nat) ({ cls := "InkBankLaw", name := "movementAmount", desc := "(LInkBank;I[J)I" } : Jvm.MethodName)) ∈ TT := tt_4 (List.mem_of_getElem? (i := 212) rfl) rfl
theorem we_4_213 : (Jvm.Cond.static ({ cls := "InkBankLaw", name := "movementAmount", desc := "(LInkBank;I[J)I" } : Jvm.MethodName)) ∈ TT := tt_4 (List.mem_of_getElem? (i := 213) rfl) rfl
theorem we_4_214 : (Jvm.Cond.codeWith ({ cls := "InkBankLaw", name := "movementAmount", desc := "(LInkBank;I[J)I" } : Jvm.MethodName) method_29_code (4 : Nat) (Option.some Jvm.ClassFile.FieldType.int) [((0 : Nat), (9 : Nat), (12 : Nat), (53 : Nat))]) ∈ TT := tt_4 (List.mem_of_getElem? (i := 214) rfl) rfl
theorem we_4_219 : (Jvm.Cond.methodLink "InkBankLaw" (277 : Nat) ({ cls := "InkBankLaw", name := "movementAccount", desc := "(LInkBank;I[J)I" } : Jvm.MethodName)) ∈ TT := tt_4 (List.mem_of_getElem? (i := 219) rfl) rfl
theorem we_4_220 : (Jvm.Cond.static ({ cls := "InkBankLaw", name := "movementAccount", desc := "(LInkBank;I[J)I" } : Jvm.MethodName)) ∈ TT := tt_4 (List.mem_of_getElem? (i := 220) rfl) rfl
theorem we_4_221 : (Jvm.Cond.codeWith ({ cls := "InkBankLaw", name := "movementAccount", desc := "(LInkBank;I[J)I" } : Jvm.MethodName) method_30_code (4 : Nat) (Option.some Jvm.ClassFile.FieldType.int) [((0 : Nat), (9 : Nat), (12 : Nat), (53 : Nat))]) ∈ TT := tt_4 (List.mem_of_getElem? (i := 221) rfl) rfl
theorem we_4_226 : (Jvm.Cond.methodLink "InkBankLaw" (280 : Nat) ({ cls := "InkBankLaw", name := "writeStatement", desc := "(LInkBank;I[J)I" } : Jvm.MethodName)) ∈ TT := tt_4 (List.mem_of_getElem? (i := 226) rfl) rfl
theorem we_4_227 : (Jvm.Cond.static ({ cls := "InkBankLaw", name := "writeStatement", desc := "(LInkBank;I[J)I" } : Jvm.MethodName)) ∈ TT := tt_4 (List.mem_of_getElem? (i := 227) rfl) rfl
theorem we_4_228 : (Jvm.Cond.codeWith ({ cls := "InkBankLaw", name := "writeStatement", desc := "(LInkBank;I[J)I" } : Jvm.MethodName) method_31_code (4 : Nat) (Option.some Jvm.ClassFile.FieldType.int) [((0 : Nat), (9 : Nat), (12 : Nat), (21 : Nat))]) ∈ TT := tt_4 (List.mem_of_getElem? (i := 228) rfl) rfl
theorem we_6_49 : (Jvm.Cond.methodLink "InkBankLaw" (283 : Nat) ({ cls := "InkBankLaw", name := "statementAt", desc := "(LInkBank;I[J)I" } : Jvm.MethodName)) ∈ TT := tt_6 (List.mem_of_getElem? (i := 49) rfl) rfl
theorem we_6_50 : (Jvm.Cond.static ({ cls := "InkBankLaw", name := "statementAt", desc := "(LInkBank;I[J)I" } : Jvm.MethodName)) ∈ TT := tt_6 (List.mem_of_getElem? (i := 50) rfl) rfl
theorem we_6_51 : (Jvm.Cond.codeWith ({ cls := "InkBankLaw", name := "statementAt", desc := "(LInkBank;I[J)I" } : Jvm.MethodName) method_32_code (4 : Nat) (Option.some Jvm.ClassFile.FieldType.int) [((0 : Nat), (9 : Nat), (12 : Nat), (21 : Nat))]) ∈ TT := tt_6 (List.mem_of_getElem? (i := 51) rfl) rfl
theorem we_6_66 : (Jvm.Cond.methodLink "InkBankLaw" (286 : Nat) ({ cls := "InkBankLaw", name := "type", desc := "(LInkBank;C[J)I" } : Jvm.MethodName)) ∈ TT := tt_6 (List.mem_of_getElem? (i := 66) rfl) rfl
theorem we_6_67 : (Jvm.Cond.static ({ cls := "InkBankLaw", name := "type", desc := "(LInkBank;C[J)I" } : Jvm.MethodName)) ∈ TT := tt_6 (List.mem_of_getElem? (i := 67) rfl) rfl
theorem we_6_68 : (Jvm.Cond.codeWith ({ cls := "InkBankLaw", name := "type", desc := "(LInkBank;C[J)I" } : Jvm.MethodName) method_33_code (4 : Nat) (Option.some Jvm.ClassFile.FieldType.int) [((0 : Nat), (9 : Nat), (12 : Nat), (13 : Nat)), ((0 : Nat), (9 : Nat), (15 : Nat), (15 : Nat))]) ∈ TT := tt_6 (List.mem_of_getElem? (i := 68) rfl) rfl
theorem we_6_77 : (Jvm.Cond.methodLink "InkBankLaw" (290 : Nat) ({ cls := "InkBankLaw", name := "execute", desc := "(LInkBank;[J)I" } : Jvm.MethodName)) ∈ TT := tt_6 (List.mem_of_getElem? (i := 77) rfl) rfl
theorem we_6_78 : (Jvm.Cond.static ({ cls := "InkBankLaw", name := "execute", desc := "(LInkBank;[J)I" } : Jvm.MethodName)) ∈ TT := tt_6 (List.mem_of_getElem? (i := 78) rfl) rfl
theorem we_6_79 : (Jvm.Cond.codeWith ({ cls := "InkBankLaw", name := "execute", desc := "(LInkBank;[J)I" } : Jvm.MethodName) method_34_code (3 : Nat) (Option.some Jvm.ClassFile.FieldType.int) [((0 : Nat), (8 : Nat), (11 : Nat), (13 : Nat)), ((0 : Nat), (8 : Nat), (14 : Nat), (15 : Nat))]) ∈ TT := tt_6 (List.mem_of_getElem? (i := 79) rfl) rfl
theorem we_6_189 : (Jvm.Cond.methodLink "InkBankLaw" (294 : Nat) ({ cls := "InkBankLaw", name := "errorPosition", desc := "(LInkBank;[J)I" } : Jvm.MethodName)) ∈ TT := tt_6 (List.mem_of_getElem? (i := 189) rfl) rfl
theorem we_6_190 : (Jvm.Cond.static ({ cls := "InkBankLaw", name := "errorPosition", desc := "(LInkBank;[J)I" } : Jvm.MethodName)) ∈ TT := tt_6 (List.mem_of_getElem? (i := 190) rfl) rfl
theorem we_6_191 : (Jvm.Cond.codeWith ({ cls := "InkBankLaw", name := "errorPosition", desc := "(LInkBank;[J)I" } : Jvm.MethodName) method_35_code (3 : Nat) (Option.some Jvm.ClassFile.FieldType.int) [((0 : Nat), (8 : Nat), (11 : Nat), (53 : Nat))]) ∈ TT := tt_6 (List.mem_of_getElem? (i := 191) rfl) rfl
theorem we_6_196 : (Jvm.Cond.methodLink "InkBankLaw" (297 : Nat) ({ cls := "InkBankLaw", name := "failedCommand", desc := "(LInkBank;[J)I" } : Jvm.MethodName)) ∈ TT := tt_6 (List.mem_of_getElem? (i := 196) rfl) rfl
theorem we_6_197 : (Jvm.Cond.static ({ cls := "InkBankLaw", name := "failedCommand", desc := "(LInkBank;[J)I" } : Jvm.MethodName)) ∈ TT := tt_6 (List.mem_of_getElem? (i := 197) rfl) rfl
theorem we_6_198 : (Jvm.Cond.codeWith ({ cls := "InkBankLaw", name := "failedCommand", desc := "(LInkBank;[J)I" } : Jvm.MethodName) method_36_code (3 : Nat) (Option.some Jvm.ClassFile.FieldType.int) [((0 : Nat), (8 : Nat), (11 : Nat), (53 : Nat))]) ∈ TT := tt_6 (List.mem_of_getElem? (i := 198) rfl) rfl
theorem we_6_203 : (Jvm.Cond.methodLink "InkBankLaw" (300 : Nat) ({ cls := "InkBankLaw", name := "undo", desc := "(LInkBank;[J)I" } : Jvm.MethodName)) ∈ TT := tt_6 (List.mem_of_getElem? (i := 203) rfl) rfl
theorem we_6_204 : (Jvm.Cond.static ({ cls := "InkBankLaw", name := "undo", desc := "(LInkBank;[J)I" } : Jvm.MethodName)) ∈ TT := tt_6 (List.mem_of_getElem? (i := 204) rfl) rfl
theorem we_6_205 : (Jvm.Cond.codeWith ({ cls := "InkBankLaw", name := "undo", desc := "(LInkBank;[J)I" } : Jvm.MethodName) method_37_code (3 : Nat) (Option.some Jvm.ClassFile.FieldType.int) [((0 : Nat), (8 : Nat), (11 : Nat), (15 : Nat))]) ∈ TT := tt_6 (List.mem_of_getElem? (i := 205) rfl) rfl
theorem we_6_214 : (Jvm.Cond.methodLink "InkBankLaw" (307 : Nat) ({ cls := "InkBankLaw", name := "restore", desc := "(LInkBank;[J)I" } : Jvm.MethodName)) ∈ TT := tt_6 (List.mem_of_getElem? (i := 214) rfl) rfl
theorem we_6_215 : (Jvm.Cond.static ({ cls := "InkBankLaw", name := "restore", desc := "(LInkBank;[J)I" } : Jvm.MethodName)) ∈ TT := tt_6 (List.mem_of_getElem? (i := 215) rfl) rfl
theorem we_6_216 : (Jvm.Cond.codeWith ({ cls := "InkBankLaw", name := "restore", desc := "(LInkBank;[J)I" } : Jvm.MethodName) method_38_code (3 : Nat) (Option.some Jvm.ClassFile.FieldType.int) [((0 : Nat), (8 : Nat), (11 : Nat), (15 : Nat))]) ∈ TT := tt_6 (List.mem_of_getElem? (i := 216) rfl) rfl
theorem we_7_51 : (Jvm.Cond.methodLink "InkBankLaw" (148 : Nat) ({ cls := "InkBankModel", name := "thrown", desc := "()I" } : Jvm.MethodName)) ∈ TT := tt_7 (List.mem_of_getElem? (i := 51) rfl) rfl
theorem we_7_55 : (Jvm.Cond.methodLink "InkBankLaw" (302 : Nat) ({ cls := "InkBankModel", name := "undo", desc := "()I" } : Jvm.MethodName)) ∈ TT := tt_7 (List.mem_of_getElem? (i := 55) rfl) rfl
theorem we_7_70 : (Jvm.Cond.methodLink "InkBankLaw" (306 : Nat) ({ cls := "InkBankModel", name := "save", desc := "()I" } : Jvm.MethodName)) ∈ TT := tt_7 (List.mem_of_getElem? (i := 70) rfl) rfl
theorem we_7_74 : (Jvm.Cond.methodLink "InkBankLaw" (309 : Nat) ({ cls := "InkBankModel", name := "restore", desc := "()I" } : Jvm.MethodName)) ∈ TT := tt_7 (List.mem_of_getElem? (i := 74) rfl) rfl
theorem we_7_78 : (Jvm.Cond.methodLink "InkBankLaw" (147 : Nat) ({ cls := "InkBankModel", name := "open", desc := "(I)I" } : Jvm.MethodName)) ∈ TT := tt_7 (List.mem_of_getElem? (i := 78) rfl) rfl
theorem we_7_104 : (Jvm.Cond.methodLink "InkBankLaw" (154 : Nat) ({ cls := "InkBankModel", name := "deposit", desc := "(II)I" } : Jvm.MethodName)) ∈ TT := tt_7 (List.mem_of_getElem? (i := 104) rfl) rfl
theorem we_7_132 : (Jvm.Cond.methodLink "InkBankLaw" (157 : Nat) ({ cls := "InkBankModel", name := "withdraw", desc := "(II)I" } : Jvm.MethodName)) ∈ TT := tt_7 (List.mem_of_getElem? (i := 132) rfl) rfl
theorem we_7_140 : (Jvm.Cond.methodLink "InkBankLaw" (160 : Nat) ({ cls := "InkBankModel", name := "setLimit", desc := "(II)I" } : Jvm.MethodName)) ∈ TT := tt_7 (List.mem_of_getElem? (i := 140) rfl) rfl
theorem we_7_148 : (Jvm.Cond.methodLink "InkBankLaw" (228 : Nat) ({ cls := "InkBankModel", name := "seal", desc := "(IIII)I" } : Jvm.MethodName)) ∈ TT := tt_7 (List.mem_of_getElem? (i := 148) rfl) rfl
theorem we_7_156 : (Jvm.Cond.methodLink "InkBankLaw" (231 : Nat) ({ cls := "InkBankModel", name := "cancel", desc := "(I)I" } : Jvm.MethodName)) ∈ TT := tt_7 (List.mem_of_getElem? (i := 156) rfl) rfl
theorem we_7_176 : (Jvm.Cond.methodLink "InkBankLaw" (221 : Nat) ({ cls := "InkBankModel", name := "endDays", desc := "(I)I" } : Jvm.MethodName)) ∈ TT := tt_7 (List.mem_of_getElem? (i := 176) rfl) rfl
theorem we_7_209 : (Jvm.Cond.methodLink "InkBankLaw" (164 : Nat) ({ cls := "InkBankModel", name := "accountCount", desc := "()I" } : Jvm.MethodName)) ∈ TT := tt_7 (List.mem_of_getElem? (i := 209) rfl) rfl
theorem we_7_213 : (Jvm.Cond.methodLink "InkBankLaw" (167 : Nat) ({ cls := "InkBankModel", name := "kindOf", desc := "(I)I" } : Jvm.MethodName)) ∈ TT := tt_7 (List.mem_of_getElem? (i := 213) rfl) rfl
theorem we_7_221 : (Jvm.Cond.methodLink "InkBankLaw" (170 : Nat) ({ cls := "InkBankModel", name := "balanceOf", desc := "(I)I" } : Jvm.MethodName)) ∈ TT := tt_7 (List.mem_of_getElem? (i := 221) rfl) rfl
theorem we_7_225 : (Jvm.Cond.methodLink "InkBankLaw" (173 : Nat) ({ cls := "InkBankModel", name := "limitOf", desc := "(I)I" } : Jvm.MethodName)) ∈ TT := tt_7 (List.mem_of_getElem? (i := 225) rfl) rfl
theorem we_7_229 : (Jvm.Cond.methodLink "InkBankLaw" (176 : Nat) ({ cls := "InkBankModel", name := "availableIn", desc := "(I)I" } : Jvm.MethodName)) ∈ TT := tt_7 (List.mem_of_getElem? (i := 229) rfl) rfl
theorem we_7_233 : (Jvm.Cond.methodLink "InkBankLaw" (179 : Nat) ({ cls := "InkBankModel", name := "wasTouched", desc := "(I)Z" } : Jvm.MethodName)) ∈ TT := tt_7 (List.mem_of_getElem? (i := 233) rfl) rfl
theorem we_7_237 : (Jvm.Cond.methodLink "InkBankLaw" (182 : Nat) ({ cls := "InkBankModel", name := "interestOf", desc := "(I)I" } : Jvm.MethodName)) ∈ TT := tt_7 (List.mem_of_getElem? (i := 237) rfl) rfl
theorem we_8_1 : (Jvm.Cond.methodLink "InkBankLaw" (185 : Nat) ({ cls := "InkBankModel", name := "accountAtRank", desc := "(I)I" } : Jvm.MethodName)) ∈ TT := tt_8 (List.mem_of_getElem? (i := 1) rfl) rfl
theorem we_8_5 : (Jvm.Cond.methodLink "InkBankLaw" (189 : Nat) ({ cls := "InkBankModel", name := "meanBalance", desc := "()D" } : Jvm.MethodName)) ∈ TT := tt_8 (List.mem_of_getElem? (i := 5) rfl) rfl
theorem we_8_13 : (Jvm.Cond.methodLink "InkBankLaw" (193 : Nat) ({ cls := "InkBankModel", name := "bankBalance", desc := "()I" } : Jvm.MethodName)) ∈ TT := tt_8 (List.mem_of_getElem? (i := 13) rfl) rfl
theorem we_8_17 : (Jvm.Cond.methodLink "InkBankLaw" (198 : Nat) ({ cls := "InkBankModel", name := "totalInk", desc := "()J" } : Jvm.MethodName)) ∈ TT := tt_8 (List.mem_of_getElem? (i := 17) rfl) rfl
theorem we_8_21 : (Jvm.Cond.methodLink "InkBankLaw" (202 : Nat) ({ cls := "InkBankModel", name := "totalInkByMovements", desc := "()J" } : Jvm.MethodName)) ∈ TT := tt_8 (List.mem_of_getElem? (i := 21) rfl) rfl
theorem we_8_25 : (Jvm.Cond.methodLink "InkBankLaw" (206 : Nat) ({ cls := "InkBankModel", name := "transferredInk", desc := "()J" } : Jvm.MethodName)) ∈ TT := tt_8 (List.mem_of_getElem? (i := 25) rfl) rfl
theorem we_8_29 : (Jvm.Cond.methodLink "InkBankLaw" (210 : Nat) ({ cls := "InkBankModel", name := "interestPaid", desc := "()J" } : Jvm.MethodName)) ∈ TT := tt_8 (List.mem_of_getElem? (i := 29) rfl) rfl
theorem we_8_33 : (Jvm.Cond.methodLink "InkBankLaw" (214 : Nat) ({ cls := "InkBankModel", name := "chargesPaid", desc := "()J" } : Jvm.MethodName)) ∈ TT := tt_8 (List.mem_of_getElem? (i := 33) rfl) rfl
theorem we_8_37 : (Jvm.Cond.methodLink "InkBankLaw" (218 : Nat) ({ cls := "InkBankModel", name := "day", desc := "()I" } : Jvm.MethodName)) ∈ TT := tt_8 (List.mem_of_getElem? (i := 37) rfl) rfl
theorem we_8_41 : (Jvm.Cond.methodLink "InkBankLaw" (224 : Nat) ({ cls := "InkBankModel", name := "balanceAfter", desc := "(II)I" } : Jvm.MethodName)) ∈ TT := tt_8 (List.mem_of_getElem? (i := 41) rfl) rfl
theorem we_8_45 : (Jvm.Cond.methodLink "InkBankLaw" (235 : Nat) ({ cls := "InkBankModel", name := "transferCount", desc := "()I" } : Jvm.MethodName)) ∈ TT := tt_8 (List.mem_of_getElem? (i := 45) rfl) rfl
theorem we_8_49 : (Jvm.Cond.methodLink "InkBankLaw" (238 : Nat) ({ cls := "InkBankModel", name := "transferAt", desc := "(I)I" } : Jvm.MethodName)) ∈ TT := tt_8 (List.mem_of_getElem? (i := 49) rfl) rfl
theorem we_8_53 : (Jvm.Cond.methodLink "InkBankLaw" (241 : Nat) ({ cls := "InkBankModel", name := "senderOf", desc := "(I)I" } : Jvm.MethodName)) ∈ TT := tt_8 (List.mem_of_getElem? (i := 53) rfl) rfl
theorem we_8_61 : (Jvm.Cond.methodLink "InkBankLaw" (244 : Nat) ({ cls := "InkBankModel", name := "receiverOf", desc := "(I)I" } : Jvm.MethodName)) ∈ TT := tt_8 (List.mem_of_getElem? (i := 61) rfl) rfl
theorem we_8_65 : (Jvm.Cond.methodLink "InkBankLaw" (247 : Nat) ({ cls := "InkBankModel", name := "amountOf", desc := "(I)I" } : Jvm.MethodName)) ∈ TT := tt_8 (List.mem_of_getElem? (i := 65) rfl) rfl
theorem we_8_69 : (Jvm.Cond.methodLink "InkBankLaw" (250 : Nat) ({ cls := "InkBankModel", name := "daysUntilDue", desc := "(I)I" } : Jvm.MethodName)) ∈ TT := tt_8 (List.mem_of_getElem? (i := 69) rfl) rfl
theorem we_8_73 : (Jvm.Cond.methodLink "InkBankLaw" (253 : Nat) ({ cls := "InkBankModel", name := "wouldBounce", desc := "(I)Z" } : Jvm.MethodName)) ∈ TT := tt_8 (List.mem_of_getElem? (i := 73) rfl) rfl
theorem we_8_77 : (Jvm.Cond.methodLink "InkBankLaw" (257 : Nat) ({ cls := "InkBankModel", name := "bounceCount", desc := "()I" } : Jvm.MethodName)) ∈ TT := tt_8 (List.mem_of_getElem? (i := 77) rfl) rfl
theorem we_8_81 : (Jvm.Cond.methodLink "InkBankLaw" (260 : Nat) ({ cls := "InkBankModel", name := "netOf", desc := "(I)I" } : Jvm.MethodName)) ∈ TT := tt_8 (List.mem_of_getElem? (i := 81) rfl) rfl
theorem we_8_89 : (Jvm.Cond.methodLink "InkBankLaw" (263 : Nat) ({ cls := "InkBankModel", name := "netByTable", desc := "(I)I" } : Jvm.MethodName)) ∈ TT := tt_8 (List.mem_of_getElem? (i := 89) rfl) rfl
theorem we_8_93 : (Jvm.Cond.methodLink "InkBankLaw" (266 : Nat) ({ cls := "InkBankModel", name := "leadsTo", desc := "(II)Z" } : Jvm.MethodName)) ∈ TT := tt_8 (List.mem_of_getElem? (i := 93) rfl) rfl
theorem we_8_97 : (Jvm.Cond.methodLink "InkBankLaw" (270 : Nat) ({ cls := "InkBankModel", name := "journalLength", desc := "()I" } : Jvm.MethodName)) ∈ TT := tt_8 (List.mem_of_getElem? (i := 97) rfl) rfl
theorem we_8_101 : (Jvm.Cond.methodLink "InkBankLaw" (273 : Nat) ({ cls := "InkBankModel", name := "movementKind", desc := "(I)C" } : Jvm.MethodName)) ∈ TT := tt_8 (List.mem_of_getElem? (i := 101) rfl) rfl
theorem we_8_109 : (Jvm.Cond.methodLink "InkBankLaw" (276 : Nat) ({ cls := "InkBankModel", name := "movementAmount", desc := "(I)I" } : Jvm.MethodName)) ∈ TT := tt_8 (List.mem_of_getElem? (i := 109) rfl) rfl
theorem we_8_113 : (Jvm.Cond.methodLink "InkBankLaw" (279 : Nat) ({ cls := "InkBankModel", name := "movementAccount", desc := "(I)I" } : Jvm.MethodName)) ∈ TT := tt_8 (List.mem_of_getElem? (i := 113) rfl) rfl
theorem we_8_117 : (Jvm.Cond.methodLink "InkBankLaw" (282 : Nat) ({ cls := "InkBankModel", name := "writeStatement", desc := "(I)I" } : Jvm.MethodName)) ∈ TT := tt_8 (List.mem_of_getElem? (i := 117) rfl) rfl
theorem we_8_135 : (Jvm.Cond.methodLink "InkBankLaw" (285 : Nat) ({ cls := "InkBankModel", name := "statementAt", desc := "(I)C" } : Jvm.MethodName)) ∈ TT := tt_8 (List.mem_of_getElem? (i := 135) rfl) rfl
theorem we_8_139 : (Jvm.Cond.methodLink "InkBankLaw" (289 : Nat) ({ cls := "InkBankModel", name := "type", desc := "(C)I" } : Jvm.MethodName)) ∈ TT := tt_8 (List.mem_of_getElem? (i := 139) rfl) rfl
theorem we_8_143 : (Jvm.Cond.methodLink "InkBankLaw" (293 : Nat) ({ cls := "InkBankModel", name := "execute", desc := "()I" } : Jvm.MethodName)) ∈ TT := tt_8 (List.mem_of_getElem? (i := 143) rfl) rfl
theorem we_8_188 : (Jvm.Cond.methodLink "InkBankLaw" (296 : Nat) ({ cls := "InkBankModel", name := "errorPosition", desc := "()I" } : Jvm.MethodName)) ∈ TT := tt_8 (List.mem_of_getElem? (i := 188) rfl) rfl
theorem we_8_192 : (Jvm.Cond.methodLink "InkBankLaw" (299 : Nat) ({ cls := "InkBankModel", name := "failedCommand", desc := "()I" } : Jvm.MethodName)) ∈ TT := tt_8 (List.mem_of_getElem? (i := 192) rfl) rfl
section LC
variable {p : Program} {l : Launch} {e : Env} {R : Room} {s : State} {m : MethodId} {args : Array Value} {below : List Frame} {meth : Method} {c : Code} {cells slots : Nat} {Q : State → Prop}
variable {A : Nat → Prop} {G : GT} {ad : Nat → Nat} {B : StB} {M : StM} {O : StO} {b L : Nat} {xs : Nat → Int32}
def okc_0 (B : StB) (M : StM) (O : StO) (y1 : Int32)  : Prop := ok_X6_open B y1 ∧ ((f_X6_open B y1).1 = 0 ∨ (f_X6_open B y1).1 = 2 ∨ (f_X6_open B y1).1 = 4 ) ∧ ok_X7_open M y1 ∧ f_X7_thrown ((f_X7_open M y1)).2 = (wr [2, 4] (f_X6_open B y1) O).1 ∧ ((wr [2, 4] (f_X6_open B y1) O).1 = 0 → (wr [2, 4] (f_X6_open B y1) O).2.2.1 = ((f_X7_open M y1)).1.toInt64)
def stB_0 (B : StB) (M : StM) (O : StO) (y1 : Int32)  : StB := (wr [2, 4] (f_X6_open B y1) O).2.1
def stM_0 (B : StB) (M : StM) (O : StO) (y1 : Int32)  : StM := ((f_X7_open M y1)).2
def stO_0 (B : StB) (M : StM) (O : StO) (y1 : Int32)  : StO := (wr [2, 4] (f_X6_open B y1) O).2.2
set_option maxHeartbeats 4000000 in
set_option maxRecDepth 100000 in
theorem law_c0 (C : CX p l s m args meth c A G ad cL_law "InkBankLaw" 9 (some .boolean)) (hX : va_X b L xs s s.heap ∧ b < s.heap.size ∧ ¬ A b) (hR : 60 ≤ R.frames ∧ 4000 ≤ R.locals) (hf : cells + 8 ≤ R.cells ∧ slots + 48 ≤ R.slots) {i : Int32} (hin : ∀ k : Int32, k = 1 ∨ k = 2 ∨ k = 3 ∨ k = 4 → vp_in (i + k) L) {y1 : Int32}  (hy1 : xs (ix (i + 1)) = y1) (hok : okc_0 B M O y1) (k : X p l e R s m args below meth c A G ad 9 (cells + 8) (slots + 48) Q (stB_0 B M O y1) (stM_0 B M O y1) (stO_0 B M O y1) [(5, .int i), (0, .ref b), (1, .ref (ad 176)), (2, .ref (ad 193)), (3, .ref (ad 202)), (4, .ref (ad 203))] 2497 []) : X p l e R s m args below meth c A G ad 9 cells slots Q B M O [(5, .int i), (0, .ref b), (1, .ref (ad 176)), (2, .ref (ad 193)), (3, .ref (ad 202)), (4, .ref (ad 203))] 252 [] := by
  obtain ⟨h1, h2, h3, h4, h5⟩ := hok
  unfold stB_0 stM_0 stO_0 at k
  have hW := lc_open (G := G) C.2.2.2.2.2.2.2.1 B M O (y1) h1 (f_X6_open B y1) rfl h2 (wr [2, 4] (f_X6_open B y1) O) rfl
  have hM := c_X7_open (G := G) C.2.2.2.2.2.2.2.1 (wr [2, 4] (f_X6_open B y1) O).2.1 M (wr [2, 4] (f_X6_open B y1) O).2.2 (y1) h3
  generalize (wr [2, 4] (f_X6_open B y1) O) = w at h4 h5 hW hM k
  generalize (f_X7_open M y1) = g at h4 h5 hM k
  have hT := c_X7_thrown (G := G) C.2.2.2.2.2.2.2.1 w.2.1 g.2 w.2.2
  refine x_aload_n C 2 dL_law_252 rfl rfl ?_
  refine x_aload_n C 1 dL_law_253 rfl rfl ?_
  refine x_iload C 0 dL_law_254 rfl ?_
  refine x_iconst C (v := 1) dL_law_256 (by decide) ?_
  refine x_iadd C dL_law_257 ?_
  refine x_sld C hX (hin 1 (by decide)) dL_law_258 ?_
  rw [hy1]
  refine x_aload_n C 4 dL_law_259 rfl rfl ?_
  refine x_cWS C (as := [.ref (ad 176), .int y1, .ref (ad 202)]) (rest := []) (n := 3) hW we_2_135 we_2_136 we_1_0 we_2_137 ⟨by decide, by decide, by decide +kernel⟩ ⟨Nat.le_trans (Nat.le_of_ble_eq_true rfl) hR.1, Nat.le_trans (Nat.le_of_ble_eq_true rfl) hR.2⟩ ⟨by have := hf.1; omega, by have := hf.2; omega⟩ rfl rfl (Nat.le_of_ble_eq_true rfl) dL_law_260 ?_
  refine x_istore C dL_law_263 (by decide) rfl ?_
  refine x_aload_n C 4 dL_law_265 rfl rfl ?_
  refine x_aload_n C 2 dL_law_266 rfl rfl ?_
  refine x_iload C 1 dL_law_267 rfl ?_
  refine x_iconst C (v := 1) dL_law_269 (by decide) ?_
  refine x_iadd C dL_law_270 ?_
  refine x_sld C hX (hin 1 (by decide)) dL_law_271 ?_
  rw [hy1]
  refine x_cIV C (as := [.int y1]) (rest := []) hM e_M rfl cv_X7_open cd_X7_open we_7_78 ⟨Nat.le_trans (Nat.le_of_ble_eq_true rfl) hR.1, Nat.le_trans (Nat.le_of_ble_eq_true rfl) hR.2⟩ ⟨by have := hf.1; omega, by have := hf.2; omega⟩ rfl rfl (Nat.le_of_ble_eq_true rfl) dL_law_272 ?_
  refine x_istore C dL_law_275 (by decide) rfl ?_
  refine x_aload_n C 5 dL_law_277 rfl rfl ?_
  refine x_cIV C (as := []) (rest := []) hT e_M rfl cv_X7_thrown cd_X7_thrown we_7_51 ⟨Nat.le_trans (Nat.le_of_ble_eq_true rfl) hR.1, Nat.le_trans (Nat.le_of_ble_eq_true rfl) hR.2⟩ ⟨by have := hf.1; omega, by have := hf.2; omega⟩ rfl rfl (Nat.le_of_ble_eq_true rfl) dL_law_278 ?_
  refine x_iload C 1 dL_law_281 rfl ?_
  refine x_icmp_eq C dL_law_283 (tgt := 288) (by decide) (fun _ => ?_) (fun h9 => absurd h4 h9)
  refine x_iload C 1 dL_law_288 rfl ?_
  refine x_if_ne C dL_law_290 (tgt := 305) (by decide) (fun _ => ?_) (fun h0 => ?_)
  · skip
    refine x_goto C dL_law_305 (tgt := 2497) (by decide) ?_
    refine x_sub [2, 3, 4, 5, 6, 7] (ls2 := [(5, .int i), (0, .ref b), (1, .ref (ad 176)), (2, .ref (ad 193)), (3, .ref (ad 202)), (4, .ref (ad 203))]) rfl ?_
    exact x_wid (by omega) (by omega) k
  · skip
    refine x_aload_n C 6 dL_law_293 rfl rfl ?_
    refine x_iconst C (v := 0) dL_law_294 (by decide) ?_
    refine x_lald C dL_law_295 ?_
    refine x_iload C 0 dL_law_296 rfl ?_
    refine x_i2l C dL_law_298 ?_
    refine x_lcmp C dL_law_299 ?_
    refine x_if_eq C dL_law_300 (tgt := 305) (by decide) (fun _ => ?_) (fun h9 => absurd (by rw [h5 h0]; exact lg_cmp_self _) h9)
    refine x_goto C dL_law_305 (tgt := 2497) (by decide) ?_
    refine x_sub [2, 3, 4, 5, 6, 7] (ls2 := [(5, .int i), (0, .ref b), (1, .ref (ad 176)), (2, .ref (ad 193)), (3, .ref (ad 202)), (4, .ref (ad 203))]) rfl ?_
    exact x_wid (by omega) (by omega) k
def okc_1 (B : StB) (M : StM) (O : StO) (y1 : Int32) (y2 : Int32)  : Prop := ok_X6_deposit B y1 y2 ∧ ((f_X6_deposit B y1 y2).1 = 0 ∨ (f_X6_deposit B y1 y2).1 = 1 ∨ (f_X6_deposit B y1 y2).1 = 2 ∨ (f_X6_deposit B y1 y2).1 = 4 ) ∧ ok_X7_deposit M y1 y2 ∧ f_X7_thrown ((f_X7_deposit M y1 y2)).2 = (wr [1, 2, 4] (f_X6_deposit B y1 y2) O).1 ∧ ((wr [1, 2, 4] (f_X6_deposit B y1 y2) O).1 = 0 → (wr [1, 2, 4] (f_X6_deposit B y1 y2) O).2.2.1 = ((f_X7_deposit M y1 y2)).1.toInt64)
def stB_1 (B : StB) (M : StM) (O : StO) (y1 : Int32) (y2 : Int32)  : StB := (wr [1, 2, 4] (f_X6_deposit B y1 y2) O).2.1
def stM_1 (B : StB) (M : StM) (O : StO) (y1 : Int32) (y2 : Int32)  : StM := ((f_X7_deposit M y1 y2)).2
def stO_1 (B : StB) (M : StM) (O : StO) (y1 : Int32) (y2 : Int32)  : StO := (wr [1, 2, 4] (f_X6_deposit B y1 y2) O).2.2
set_option maxHeartbeats 4000000 in
set_option maxRecDepth 100000 in
theorem law_c1 (C : CX p l s m args meth c A G ad cL_law "InkBankLaw" 9 (some .boolean)) (hX : va_X b L xs s s.heap ∧ b < s.heap.size ∧ ¬ A b) (hR : 60 ≤ R.frames ∧ 4000 ≤ R.locals) (hf : cells + 8 ≤ R.cells ∧ slots + 48 ≤ R.slots) {i : Int32} (hin : ∀ k : Int32, k = 1 ∨ k = 2 ∨ k = 3 ∨ k = 4 → vp_in (i + k) L) {y1 : Int32} {y2 : Int32}  (hy1 : xs (ix (i + 1)) = y1) (hy2 : xs (ix (i + 2)) = y2) (hok : okc_1 B M O y1 y2) (k : X p l e R s m args below meth c A G ad 9 (cells + 8) (slots + 48) Q (stB_1 B M O y1 y2) (stM_1 B M O y1 y2) (stO_1 B M O y1 y2) [(5, .int i), (0, .ref b), (1, .ref (ad 176)), (2, .ref (ad 193)), (3, .ref (ad 202)), (4, .ref (ad 203))] 2497 []) : X p l e R s m args below meth c A G ad 9 cells slots Q B M O [(5, .int i), (0, .ref b), (1, .ref (ad 176)), (2, .ref (ad 193)), (3, .ref (ad 202)), (4, .ref (ad 203))] 308 [] := by
  obtain ⟨h1, h2, h3, h4, h5⟩ := hok
  unfold stB_1 stM_1 stO_1 at k
  have hW := lc_deposit (G := G) C.2.2.2.2.2.2.2.1 B M O (y1) (y2) h1 (f_X6_deposit B y1 y2) rfl h2 (wr [1, 2, 4] (f_X6_deposit B y1 y2) O) rfl
  have hM := c_X7_deposit (G := G) C.2.2.2.2.2.2.2.1 (wr [1, 2, 4] (f_X6_deposit B y1 y2) O).2.1 M (wr [1, 2, 4] (f_X6_deposit B y1 y2) O).2.2 (y1) (y2) h3
  generalize (wr [1, 2, 4] (f_X6_deposit B y1 y2) O) = w at h4 h5 hW hM k
  generalize (f_X7_deposit M y1 y2) = g at h4 h5 hM k
  have hT := c_X7_thrown (G := G) C.2.2.2.2.2.2.2.1 w.2.1 g.2 w.2.2
  refine x_aload_n C 2 dL_law_308 rfl rfl ?_
  refine x_aload_n C 1 dL_law_309 rfl rfl ?_
  refine x_iload C 0 dL_law_310 rfl ?_
  refine x_iconst C (v := 1) dL_law_312 (by decide) ?_
  refine x_iadd C dL_law_313 ?_
  refine x_sld C hX (hin 1 (by decide)) dL_law_314 ?_
  rw [hy1]
  refine x_aload_n C 1 dL_law_315 rfl rfl ?_
  refine x_iload C 0 dL_law_316 rfl ?_
  refine x_iconst C (v := 2) dL_law_318 (by decide) ?_
  refine x_iadd C dL_law_319 ?_
  refine x_sld C hX (hin 2 (by decide)) dL_law_320 ?_
  rw [hy2]
  refine x_aload_n C 4 dL_law_321 rfl rfl ?_
  refine x_cWS C (as := [.ref (ad 176), .int y1, .int y2, .ref (ad 202)]) (rest := []) (n := 4) hW we_3_58 we_3_59 we_1_0 we_3_60 ⟨by decide, by decide, by decide +kernel⟩ ⟨Nat.le_trans (Nat.le_of_ble_eq_true rfl) hR.1, Nat.le_trans (Nat.le_of_ble_eq_true rfl) hR.2⟩ ⟨by have := hf.1; omega, by have := hf.2; omega⟩ rfl rfl (Nat.le_of_ble_eq_true rfl) dL_law_322 ?_
  refine x_istore C dL_law_325 (by decide) rfl ?_
  refine x_aload_n C 4 dL_law_327 rfl rfl ?_
  refine x_aload_n C 2 dL_law_328 rfl rfl ?_
  refine x_iload C 1 dL_law_329 rfl ?_
  refine x_iconst C (v := 1) dL_law_331 (by decide) ?_
  refine x_iadd C dL_law_332 ?_
  refine x_sld C hX (hin 1 (by decide)) dL_law_333 ?_
  rw [hy1]
  refine x_aload_n C 2 dL_law_334 rfl rfl ?_
  refine x_iload C 1 dL_law_335 rfl ?_
  refine x_iconst C (v := 2) dL_law_337 (by decide) ?_
  refine x_iadd C dL_law_338 ?_
  refine x_sld C hX (hin 2 (by decide)) dL_law_339 ?_
  rw [hy2]
  refine x_cIV C (as := [.int y1, .int y2]) (rest := []) hM e_M rfl cv_X7_deposit cd_X7_deposit we_7_104 ⟨Nat.le_trans (Nat.le_of_ble_eq_true rfl) hR.1, Nat.le_trans (Nat.le_of_ble_eq_true rfl) hR.2⟩ ⟨by have := hf.1; omega, by have := hf.2; omega⟩ rfl rfl (Nat.le_of_ble_eq_true rfl) dL_law_340 ?_
  refine x_istore C dL_law_343 (by decide) rfl ?_
  refine x_aload_n C 5 dL_law_345 rfl rfl ?_
  refine x_cIV C (as := []) (rest := []) hT e_M rfl cv_X7_thrown cd_X7_thrown we_7_51 ⟨Nat.le_trans (Nat.le_of_ble_eq_true rfl) hR.1, Nat.le_trans (Nat.le_of_ble_eq_true rfl) hR.2⟩ ⟨by have := hf.1; omega, by have := hf.2; omega⟩ rfl rfl (Nat.le_of_ble_eq_true rfl) dL_law_346 ?_
  refine x_iload C 1 dL_law_349 rfl ?_
  refine x_icmp_eq C dL_law_351 (tgt := 356) (by decide) (fun _ => ?_) (fun h9 => absurd h4 h9)
  refine x_iload C 1 dL_law_356 rfl ?_
  refine x_if_ne C dL_law_358 (tgt := 373) (by decide) (fun _ => ?_) (fun h0 => ?_)
  · skip
    refine x_goto C dL_law_373 (tgt := 2497) (by decide) ?_
    refine x_sub [2, 3, 4, 5, 6, 7] (ls2 := [(5, .int i), (0, .ref b), (1, .ref (ad 176)), (2, .ref (ad 193)), (3, .ref (ad 202)), (4, .ref (ad 203))]) rfl ?_
    exact x_wid (by omega) (by omega) k
  · skip
    refine x_aload_n C 6 dL_law_361 rfl rfl ?_
    refine x_iconst C (v := 0) dL_law_362 (by decide) ?_
    refine x_lald C dL_law_363 ?_
    refine x_iload C 0 dL_law_364 rfl ?_
    refine x_i2l C dL_law_366 ?_
    refine x_lcmp C dL_law_367 ?_
    refine x_if_eq C dL_law_368 (tgt := 373) (by decide) (fun _ => ?_) (fun h9 => absurd (by rw [h5 h0]; exact lg_cmp_self _) h9)
    refine x_goto C dL_law_373 (tgt := 2497) (by decide) ?_
    refine x_sub [2, 3, 4, 5, 6, 7] (ls2 := [(5, .int i), (0, .ref b), (1, .ref (ad 176)), (2, .ref (ad 193)), (3, .ref (ad 202)), (4, .ref (ad 203))]) rfl ?_
    exact x_wid (by omega) (by omega) k
def okc_2 (B : StB) (M : StM) (O : StO) (y1 : Int32) (y2 : Int32)  : Prop := ok_X6_withdraw B y1 y2 ∧ ((f_X6_withdraw B y1 y2).1 = 0 ∨ (f_X6_withdraw B y1 y2).1 = 1 ∨ (f_X6_withdraw B y1 y2).1 = 2 ∨ (f_X6_withdraw B y1 y2).1 = 4 ) ∧ ok_X7_withdraw M y1 y2 ∧ f_X7_thrown ((f_X7_withdraw M y1 y2)).2 = (wr [1, 2, 4] (f_X6_withdraw B y1 y2) O).1 ∧ ((wr [1, 2, 4] (f_X6_withdraw B y1 y2) O).1 = 0 → (wr [1, 2, 4] (f_X6_withdraw B y1 y2) O).2.2.1 = ((f_X7_withdraw M y1 y2)).1.toInt64)
def stB_2 (B : StB) (M : StM) (O : StO) (y1 : Int32) (y2 : Int32)  : StB := (wr [1, 2, 4] (f_X6_withdraw B y1 y2) O).2.1
def stM_2 (B : StB) (M : StM) (O : StO) (y1 : Int32) (y2 : Int32)  : StM := ((f_X7_withdraw M y1 y2)).2
def stO_2 (B : StB) (M : StM) (O : StO) (y1 : Int32) (y2 : Int32)  : StO := (wr [1, 2, 4] (f_X6_withdraw B y1 y2) O).2.2
set_option maxHeartbeats 4000000 in
set_option maxRecDepth 100000 in
theorem law_c2 (C : CX p l s m args meth c A G ad cL_law "InkBankLaw" 9 (some .boolean)) (hX : va_X b L xs s s.heap ∧ b < s.heap.size ∧ ¬ A b) (hR : 60 ≤ R.frames ∧ 4000 ≤ R.locals) (hf : cells + 8 ≤ R.cells ∧ slots + 48 ≤ R.slots) {i : Int32} (hin : ∀ k : Int32, k = 1 ∨ k = 2 ∨ k = 3 ∨ k = 4 → vp_in (i + k) L) {y1 : Int32} {y2 : Int32}  (hy1 : xs (ix (i + 1)) = y1) (hy2 : xs (ix (i + 2)) = y2) (hok : okc_2 B M O y1 y2) (k : X p l e R s m args below meth c A G ad 9 (cells + 8) (slots + 48) Q (stB_2 B M O y1 y2) (stM_2 B M O y1 y2) (stO_2 B M O y1 y2) [(5, .int i), (0, .ref b), (1, .ref (ad 176)), (2, .ref (ad 193)), (3, .ref (ad 202)), (4, .ref (ad 203))] 2497 []) : X p l e R s m args below meth c A G ad 9 cells slots Q B M O [(5, .int i), (0, .ref b), (1, .ref (ad 176)), (2, .ref (ad 193)), (3, .ref (ad 202)), (4, .ref (ad 203))] 376 [] := by
  obtain ⟨h1, h2, h3, h4, h5⟩ := hok
  unfold stB_2 stM_2 stO_2 at k
  have hW := lc_withdraw (G := G) C.2.2.2.2.2.2.2.1 B M O (y1) (y2) h1 (f_X6_withdraw B y1 y2) rfl h2 (wr [1, 2, 4] (f_X6_withdraw B y1 y2) O) rfl
  have hM := c_X7_withdraw (G := G) C.2.2.2.2.2.2.2.1 (wr [1, 2, 4] (f_X6_withdraw B y1 y2) O).2.1 M (wr [1, 2, 4] (f_X6_withdraw B y1 y2) O).2.2 (y1) (y2) h3
  generalize (wr [1, 2, 4] (f_X6_withdraw B y1 y2) O) = w at h4 h5 hW hM k
  generalize (f_X7_withdraw M y1 y2) = g at h4 h5 hM k
  have hT := c_X7_thrown (G := G) C.2.2.2.2.2.2.2.1 w.2.1 g.2 w.2.2
  refine x_aload_n C 2 dL_law_376 rfl rfl ?_
  refine x_aload_n C 1 dL_law_377 rfl rfl ?_
  refine x_iload C 0 dL_law_378 rfl ?_
  refine x_iconst C (v := 1) dL_law_380 (by decide) ?_
  refine x_iadd C dL_law_381 ?_
  refine x_sld C hX (hin 1 (by decide)) dL_law_382 ?_
  rw [hy1]
  refine x_aload_n C 1 dL_law_383 rfl rfl ?_
  refine x_iload C 0 dL_law_384 rfl ?_
  refine x_iconst C (v := 2) dL_law_386 (by decide) ?_
  refine x_iadd C dL_law_387 ?_
  refine x_sld C hX (hin 2 (by decide)) dL_law_388 ?_
  rw [hy2]
  refine x_aload_n C 4 dL_law_389 rfl rfl ?_
  refine x_cWS C (as := [.ref (ad 176), .int y1, .int y2, .ref (ad 202)]) (rest := []) (n := 4) hW we_3_119 we_3_120 we_1_0 we_3_121 ⟨by decide, by decide, by decide +kernel⟩ ⟨Nat.le_trans (Nat.le_of_ble_eq_true rfl) hR.1, Nat.le_trans (Nat.le_of_ble_eq_true rfl) hR.2⟩ ⟨by have := hf.1; omega, by have := hf.2; omega⟩ rfl rfl (Nat.le_of_ble_eq_true rfl) dL_law_390 ?_
  refine x_istore C dL_law_393 (by decide) rfl ?_
  refine x_aload_n C 4 dL_law_395 rfl rfl ?_
  refine x_aload_n C 2 dL_law_396 rfl rfl ?_
  refine x_iload C 1 dL_law_397 rfl ?_
  refine x_iconst C (v := 1) dL_law_399 (by decide) ?_
  refine x_iadd C dL_law_400 ?_
  refine x_sld C hX (hin 1 (by decide)) dL_law_401 ?_
  rw [hy1]
  refine x_aload_n C 2 dL_law_402 rfl rfl ?_
  refine x_iload C 1 dL_law_403 rfl ?_
  refine x_iconst C (v := 2) dL_law_405 (by decide) ?_
  refine x_iadd C dL_law_406 ?_
  refine x_sld C hX (hin 2 (by decide)) dL_law_407 ?_
  rw [hy2]
  refine x_cIV C (as := [.int y1, .int y2]) (rest := []) hM e_M rfl cv_X7_withdraw cd_X7_withdraw we_7_132 ⟨Nat.le_trans (Nat.le_of_ble_eq_true rfl) hR.1, Nat.le_trans (Nat.le_of_ble_eq_true rfl) hR.2⟩ ⟨by have := hf.1; omega, by have := hf.2; omega⟩ rfl rfl (Nat.le_of_ble_eq_true rfl) dL_law_408 ?_
  refine x_istore C dL_law_411 (by decide) rfl ?_
  refine x_aload_n C 5 dL_law_413 rfl rfl ?_
  refine x_cIV C (as := []) (rest := []) hT e_M rfl cv_X7_thrown cd_X7_thrown we_7_51 ⟨Nat.le_trans (Nat.le_of_ble_eq_true rfl) hR.1, Nat.le_trans (Nat.le_of_ble_eq_true rfl) hR.2⟩ ⟨by have := hf.1; omega, by have := hf.2; omega⟩ rfl rfl (Nat.le_of_ble_eq_true rfl) dL_law_414 ?_
  refine x_iload C 1 dL_law_417 rfl ?_
  refine x_icmp_eq C dL_law_419 (tgt := 424) (by decide) (fun _ => ?_) (fun h9 => absurd h4 h9)
  refine x_iload C 1 dL_law_424 rfl ?_
  refine x_if_ne C dL_law_426 (tgt := 441) (by decide) (fun _ => ?_) (fun h0 => ?_)
  · skip
    refine x_goto C dL_law_441 (tgt := 2497) (by decide) ?_
    refine x_sub [2, 3, 4, 5, 6, 7] (ls2 := [(5, .int i), (0, .ref b), (1, .ref (ad 176)), (2, .ref (ad 193)), (3, .ref (ad 202)), (4, .ref (ad 203))]) rfl ?_
    exact x_wid (by omega) (by omega) k
  · skip
    refine x_aload_n C 6 dL_law_429 rfl rfl ?_
    refine x_iconst C (v := 0) dL_law_430 (by decide) ?_
    refine x_lald C dL_law_431 ?_
    refine x_iload C 0 dL_law_432 rfl ?_
    refine x_i2l C dL_law_434 ?_
    refine x_lcmp C dL_law_435 ?_
    refine x_if_eq C dL_law_436 (tgt := 441) (by decide) (fun _ => ?_) (fun h9 => absurd (by rw [h5 h0]; exact lg_cmp_self _) h9)
    refine x_goto C dL_law_441 (tgt := 2497) (by decide) ?_
    refine x_sub [2, 3, 4, 5, 6, 7] (ls2 := [(5, .int i), (0, .ref b), (1, .ref (ad 176)), (2, .ref (ad 193)), (3, .ref (ad 202)), (4, .ref (ad 203))]) rfl ?_
    exact x_wid (by omega) (by omega) k
def okc_3 (B : StB) (M : StM) (O : StO) (y1 : Int32) (y2 : Int32)  : Prop := ok_X6_setLimit B y1 y2 ∧ ((f_X6_setLimit B y1 y2).1 = 0 ∨ (f_X6_setLimit B y1 y2).1 = 1 ∨ (f_X6_setLimit B y1 y2).1 = 2 ∨ (f_X6_setLimit B y1 y2).1 = 3 ∨ (f_X6_setLimit B y1 y2).1 = 4 ) ∧ ok_X7_setLimit M y1 y2 ∧ f_X7_thrown ((f_X7_setLimit M y1 y2)).2 = (wr [1, 2, 3, 4] (f_X6_setLimit B y1 y2) O).1 ∧ ((wr [1, 2, 3, 4] (f_X6_setLimit B y1 y2) O).1 = 0 → (wr [1, 2, 3, 4] (f_X6_setLimit B y1 y2) O).2.2.1 = ((f_X7_setLimit M y1 y2)).1.toInt64)
def stB_3 (B : StB) (M : StM) (O : StO) (y1 : Int32) (y2 : Int32)  : StB := (wr [1, 2, 3, 4] (f_X6_setLimit B y1 y2) O).2.1
def stM_3 (B : StB) (M : StM) (O : StO) (y1 : Int32) (y2 : Int32)  : StM := ((f_X7_setLimit M y1 y2)).2
def stO_3 (B : StB) (M : StM) (O : StO) (y1 : Int32) (y2 : Int32)  : StO := (wr [1, 2, 3, 4] (f_X6_setLimit B y1 y2) O).2.2
set_option maxHeartbeats 4000000 in
set_option maxRecDepth 100000 in
theorem law_c3 (C : CX p l s m args meth c A G ad cL_law "InkBankLaw" 9 (some .boolean)) (hX : va_X b L xs s s.heap ∧ b < s.heap.size ∧ ¬ A b) (hR : 60 ≤ R.frames ∧ 4000 ≤ R.locals) (hf : cells + 8 ≤ R.cells ∧ slots + 48 ≤ R.slots) {i : Int32} (hin : ∀ k : Int32, k = 1 ∨ k = 2 ∨ k = 3 ∨ k = 4 → vp_in (i + k) L) {y1 : Int32} {y2 : Int32}  (hy1 : xs (ix (i + 1)) = y1) (hy2 : xs (ix (i + 2)) = y2) (hok : okc_3 B M O y1 y2) (k : X p l e R s m args below meth c A G ad 9 (cells + 8) (slots + 48) Q (stB_3 B M O y1 y2) (stM_3 B M O y1 y2) (stO_3 B M O y1 y2) [(5, .int i), (0, .ref b), (1, .ref (ad 176)), (2, .ref (ad 193)), (3, .ref (ad 202)), (4, .ref (ad 203))] 2497 []) : X p l e R s m args below meth c A G ad 9 cells slots Q B M O [(5, .int i), (0, .ref b), (1, .ref (ad 176)), (2, .ref (ad 193)), (3, .ref (ad 202)), (4, .ref (ad 203))] 444 [] := by
  obtain ⟨h1, h2, h3, h4, h5⟩ := hok
  unfold stB_3 stM_3 stO_3 at k
  have hW := lc_setLimit (G := G) C.2.2.2.2.2.2.2.1 B M O (y1) (y2) h1 (f_X6_setLimit B y1 y2) rfl h2 (wr [1, 2, 3, 4] (f_X6_setLimit B y1 y2) O) rfl
  have hM := c_X7_setLimit (G := G) C.2.2.2.2.2.2.2.1 (wr [1, 2, 3, 4] (f_X6_setLimit B y1 y2) O).2.1 M (wr [1, 2, 3, 4] (f_X6_setLimit B y1 y2) O).2.2 (y1) (y2) h3
  generalize (wr [1, 2, 3, 4] (f_X6_setLimit B y1 y2) O) = w at h4 h5 hW hM k
  generalize (f_X7_setLimit M y1 y2) = g at h4 h5 hM k
  have hT := c_X7_thrown (G := G) C.2.2.2.2.2.2.2.1 w.2.1 g.2 w.2.2
  refine x_aload_n C 2 dL_law_444 rfl rfl ?_
  refine x_aload_n C 1 dL_law_445 rfl rfl ?_
  refine x_iload C 0 dL_law_446 rfl ?_
  refine x_iconst C (v := 1) dL_law_448 (by decide) ?_
  refine x_iadd C dL_law_449 ?_
  refine x_sld C hX (hin 1 (by decide)) dL_law_450 ?_
  rw [hy1]
  refine x_aload_n C 1 dL_law_451 rfl rfl ?_
  refine x_iload C 0 dL_law_452 rfl ?_
  refine x_iconst C (v := 2) dL_law_454 (by decide) ?_
  refine x_iadd C dL_law_455 ?_
  refine x_sld C hX (hin 2 (by decide)) dL_law_456 ?_
  rw [hy2]
  refine x_aload_n C 4 dL_law_457 rfl rfl ?_
  refine x_cWS C (as := [.ref (ad 176), .int y1, .int y2, .ref (ad 202)]) (rest := []) (n := 4) hW we_3_138 we_3_139 we_1_0 we_3_140 ⟨by decide, by decide, by decide +kernel⟩ ⟨Nat.le_trans (Nat.le_of_ble_eq_true rfl) hR.1, Nat.le_trans (Nat.le_of_ble_eq_true rfl) hR.2⟩ ⟨by have := hf.1; omega, by have := hf.2; omega⟩ rfl rfl (Nat.le_of_ble_eq_true rfl) dL_law_458 ?_
  refine x_istore C dL_law_461 (by decide) rfl ?_
  refine x_aload_n C 4 dL_law_463 rfl rfl ?_
  refine x_aload_n C 2 dL_law_464 rfl rfl ?_
  refine x_iload C 1 dL_law_465 rfl ?_
  refine x_iconst C (v := 1) dL_law_467 (by decide) ?_
  refine x_iadd C dL_law_468 ?_
  refine x_sld C hX (hin 1 (by decide)) dL_law_469 ?_
  rw [hy1]
  refine x_aload_n C 2 dL_law_470 rfl rfl ?_
  refine x_iload C 1 dL_law_471 rfl ?_
  refine x_iconst C (v := 2) dL_law_473 (by decide) ?_
  refine x_iadd C dL_law_474 ?_
  refine x_sld C hX (hin 2 (by decide)) dL_law_475 ?_
  rw [hy2]
  refine x_cIV C (as := [.int y1, .int y2]) (rest := []) hM e_M rfl cv_X7_setLimit cd_X7_setLimit we_7_140 ⟨Nat.le_trans (Nat.le_of_ble_eq_true rfl) hR.1, Nat.le_trans (Nat.le_of_ble_eq_true rfl) hR.2⟩ ⟨by have := hf.1; omega, by have := hf.2; omega⟩ rfl rfl (Nat.le_of_ble_eq_true rfl) dL_law_476 ?_
  refine x_istore C dL_law_479 (by decide) rfl ?_
  refine x_aload_n C 5 dL_law_481 rfl rfl ?_
  refine x_cIV C (as := []) (rest := []) hT e_M rfl cv_X7_thrown cd_X7_thrown we_7_51 ⟨Nat.le_trans (Nat.le_of_ble_eq_true rfl) hR.1, Nat.le_trans (Nat.le_of_ble_eq_true rfl) hR.2⟩ ⟨by have := hf.1; omega, by have := hf.2; omega⟩ rfl rfl (Nat.le_of_ble_eq_true rfl) dL_law_482 ?_
  refine x_iload C 1 dL_law_485 rfl ?_
  refine x_icmp_eq C dL_law_487 (tgt := 492) (by decide) (fun _ => ?_) (fun h9 => absurd h4 h9)
  refine x_iload C 1 dL_law_492 rfl ?_
  refine x_if_ne C dL_law_494 (tgt := 509) (by decide) (fun _ => ?_) (fun h0 => ?_)
  · skip
    refine x_goto C dL_law_509 (tgt := 2497) (by decide) ?_
    refine x_sub [2, 3, 4, 5, 6, 7] (ls2 := [(5, .int i), (0, .ref b), (1, .ref (ad 176)), (2, .ref (ad 193)), (3, .ref (ad 202)), (4, .ref (ad 203))]) rfl ?_
    exact x_wid (by omega) (by omega) k
  · skip
    refine x_aload_n C 6 dL_law_497 rfl rfl ?_
    refine x_iconst C (v := 0) dL_law_498 (by decide) ?_
    refine x_lald C dL_law_499 ?_
    refine x_iload C 0 dL_law_500 rfl ?_
    refine x_i2l C dL_law_502 ?_
    refine x_lcmp C dL_law_503 ?_
    refine x_if_eq C dL_law_504 (tgt := 509) (by decide) (fun _ => ?_) (fun h9 => absurd (by rw [h5 h0]; exact lg_cmp_self _) h9)
    refine x_goto C dL_law_509 (tgt := 2497) (by decide) ?_
    refine x_sub [2, 3, 4, 5, 6, 7] (ls2 := [(5, .int i), (0, .ref b), (1, .ref (ad 176)), (2, .ref (ad 193)), (3, .ref (ad 202)), (4, .ref (ad 203))]) rfl ?_
    exact x_wid (by omega) (by omega) k
def okc_4 (B : StB) (M : StM) (O : StO)  : Prop := True ∧ True ∧ (f_X6_accountCount B) = (f_X7_accountCount M).1
def stB_4 (B : StB) (M : StM) (O : StO)  : StB := B
def stM_4 (B : StB) (M : StM) (O : StO)  : StM := (f_X7_accountCount M).2
def stO_4 (B : StB) (M : StM) (O : StO)  : StO := O
set_option maxHeartbeats 4000000 in
set_option maxRecDepth 100000 in
theorem law_c4 (C : CX p l s m args meth c A G ad cL_law "InkBankLaw" 9 (some .boolean)) (hX : va_X b L xs s s.heap ∧ b < s.heap.size ∧ ¬ A b) (hR : 60 ≤ R.frames ∧ 4000 ≤ R.locals) (hf : cells + 8 ≤ R.cells ∧ slots + 48 ≤ R.slots) {i : Int32} (hin : ∀ k : Int32, k = 1 ∨ k = 2 ∨ k = 3 ∨ k = 4 → vp_in (i + k) L)   (hok : okc_4 B M O ) (k : X p l e R s m args below meth c A G ad 9 (cells + 8) (slots + 48) Q (stB_4 B M O ) (stM_4 B M O ) (stO_4 B M O ) [(5, .int i), (0, .ref b), (1, .ref (ad 176)), (2, .ref (ad 193)), (3, .ref (ad 202)), (4, .ref (ad 203))] 2497 []) : X p l e R s m args below meth c A G ad 9 cells slots Q B M O [(5, .int i), (0, .ref b), (1, .ref (ad 176)), (2, .ref (ad 193)), (3, .ref (ad 202)), (4, .ref (ad 203))] 512 [] := by
  obtain ⟨h1, h2, h3⟩ := hok
  unfold stB_4 stM_4 stO_4 at k
  have hW := c_X6_accountCount (G := G) C.2.2.2.2.2.2.2.1 B M O 
  have hM := c_X7_accountCount (G := G) C.2.2.2.2.2.2.2.1 (B) M O 
  refine x_aload_n C 2 dL_law_512 rfl rfl ?_
  refine x_cIV C (as := []) (rest := []) hW e_I rfl cv_X6_accountCount cd_X6_accountCount we_2_63 ⟨Nat.le_trans (Nat.le_of_ble_eq_true rfl) hR.1, Nat.le_trans (Nat.le_of_ble_eq_true rfl) hR.2⟩ ⟨by have := hf.1; omega, by have := hf.2; omega⟩ rfl rfl (Nat.le_of_ble_eq_true rfl) dL_law_513 ?_
  refine x_aload_n C 3 dL_law_516 rfl rfl ?_
  refine x_cIV C (as := []) (rest := [.int _]) hM e_M rfl cv_X7_accountCount cd_X7_accountCount we_7_209 ⟨Nat.le_trans (Nat.le_of_ble_eq_true rfl) hR.1, Nat.le_trans (Nat.le_of_ble_eq_true rfl) hR.2⟩ ⟨by have := hf.1; omega, by have := hf.2; omega⟩ rfl rfl (Nat.le_of_ble_eq_true rfl) dL_law_517 ?_
  refine x_icmp_eq C dL_law_520 (tgt := 2497) (by decide) (fun _ => ?_) (fun h9 => absurd h3 h9)
  exact x_wid (by omega) (by omega) k
def okc_5 (B : StB) (M : StM) (O : StO) (y1 : Int32)  : Prop := ok_X6_kindOf B y1 ∧ ((f_X6_kindOf B y1).1 = 0 ∨ (f_X6_kindOf B y1).1 = 1 ) ∧ ok_X7_kindOf M y1 ∧ f_X7_thrown ((f_X7_kindOf M y1)).2 = (wr [1] (f_X6_kindOf B y1) O).1 ∧ ((wr [1] (f_X6_kindOf B y1) O).1 = 0 → (wr [1] (f_X6_kindOf B y1) O).2.2.1 = ((f_X7_kindOf M y1)).1.toInt64)
def stB_5 (B : StB) (M : StM) (O : StO) (y1 : Int32)  : StB := (wr [1] (f_X6_kindOf B y1) O).2.1
def stM_5 (B : StB) (M : StM) (O : StO) (y1 : Int32)  : StM := ((f_X7_kindOf M y1)).2
def stO_5 (B : StB) (M : StM) (O : StO) (y1 : Int32)  : StO := (wr [1] (f_X6_kindOf B y1) O).2.2
set_option maxHeartbeats 4000000 in
set_option maxRecDepth 100000 in
theorem law_c5 (C : CX p l s m args meth c A G ad cL_law "InkBankLaw" 9 (some .boolean)) (hX : va_X b L xs s s.heap ∧ b < s.heap.size ∧ ¬ A b) (hR : 60 ≤ R.frames ∧ 4000 ≤ R.locals) (hf : cells + 8 ≤ R.cells ∧ slots + 48 ≤ R.slots) {i : Int32} (hin : ∀ k : Int32, k = 1 ∨ k = 2 ∨ k = 3 ∨ k = 4 → vp_in (i + k) L) {y1 : Int32}  (hy1 : xs (ix (i + 1)) = y1) (hok : okc_5 B M O y1) (k : X p l e R s m args below meth c A G ad 9 (cells + 8) (slots + 48) Q (stB_5 B M O y1) (stM_5 B M O y1) (stO_5 B M O y1) [(5, .int i), (0, .ref b), (1, .ref (ad 176)), (2, .ref (ad 193)), (3, .ref (ad 202)), (4, .ref (ad 203))] 2497 []) : X p l e R s m args below meth c A G ad 9 cells slots Q B M O [(5, .int i), (0, .ref b), (1, .ref (ad 176)), (2, .ref (ad 193)), (3, .ref (ad 202)), (4, .ref (ad 203))] 525 [] := by
  obtain ⟨h1, h2, h3, h4, h5⟩ := hok
  unfold stB_5 stM_5 stO_5 at k
  have hW := lc_kindOf (G := G) C.2.2.2.2.2.2.2.1 B M O (y1) h1 (f_X6_kindOf B y1) rfl h2 (wr [1] (f_X6_kindOf B y1) O) rfl
  have hM := c_X7_kindOf (G := G) C.2.2.2.2.2.2.2.1 (wr [1] (f_X6_kindOf B y1) O).2.1 M (wr [1] (f_X6_kindOf B y1) O).2.2 (y1) h3
  generalize (wr [1] (f_X6_kindOf B y1) O) = w at h4 h5 hW hM k
  generalize (f_X7_kindOf M y1) = g at h4 h5 hM k
  have hT := c_X7_thrown (G := G) C.2.2.2.2.2.2.2.1 w.2.1 g.2 w.2.2
  refine x_aload_n C 2 dL_law_525 rfl rfl ?_
  refine x_aload_n C 1 dL_law_526 rfl rfl ?_
  refine x_iload C 0 dL_law_527 rfl ?_
  refine x_iconst C (v := 1) dL_law_529 (by decide) ?_
  refine x_iadd C dL_law_530 ?_
  refine x_sld C hX (hin 1 (by decide)) dL_law_531 ?_
  rw [hy1]
  refine x_aload_n C 4 dL_law_532 rfl rfl ?_
  refine x_cWS C (as := [.ref (ad 176), .int y1, .ref (ad 202)]) (rest := []) (n := 3) hW we_3_154 we_3_155 we_1_0 we_3_156 ⟨by decide, by decide, by decide +kernel⟩ ⟨Nat.le_trans (Nat.le_of_ble_eq_true rfl) hR.1, Nat.le_trans (Nat.le_of_ble_eq_true rfl) hR.2⟩ ⟨by have := hf.1; omega, by have := hf.2; omega⟩ rfl rfl (Nat.le_of_ble_eq_true rfl) dL_law_533 ?_
  refine x_istore C dL_law_536 (by decide) rfl ?_
  refine x_aload_n C 4 dL_law_538 rfl rfl ?_
  refine x_aload_n C 2 dL_law_539 rfl rfl ?_
  refine x_iload C 1 dL_law_540 rfl ?_
  refine x_iconst C (v := 1) dL_law_542 (by decide) ?_
  refine x_iadd C dL_law_543 ?_
  refine x_sld C hX (hin 1 (by decide)) dL_law_544 ?_
  rw [hy1]
  refine x_cIV C (as := [.int y1]) (rest := []) hM e_M rfl cv_X7_kindOf cd_X7_kindOf we_7_213 ⟨Nat.le_trans (Nat.le_of_ble_eq_true rfl) hR.1, Nat.le_trans (Nat.le_of_ble_eq_true rfl) hR.2⟩ ⟨by have := hf.1; omega, by have := hf.2; omega⟩ rfl rfl (Nat.le_of_ble_eq_true rfl) dL_law_545 ?_
  refine x_istore C dL_law_548 (by decide) rfl ?_
  refine x_aload_n C 5 dL_law_550 rfl rfl ?_
  refine x_cIV C (as := []) (rest := []) hT e_M rfl cv_X7_thrown cd_X7_thrown we_7_51 ⟨Nat.le_trans (Nat.le_of_ble_eq_true rfl) hR.1, Nat.le_trans (Nat.le_of_ble_eq_true rfl) hR.2⟩ ⟨by have := hf.1; omega, by have := hf.2; omega⟩ rfl rfl (Nat.le_of_ble_eq_true rfl) dL_law_551 ?_
  refine x_iload C 1 dL_law_554 rfl ?_
  refine x_icmp_eq C dL_law_556 (tgt := 561) (by decide) (fun _ => ?_) (fun h9 => absurd h4 h9)
  refine x_iload C 1 dL_law_561 rfl ?_
  refine x_if_ne C dL_law_563 (tgt := 578) (by decide) (fun _ => ?_) (fun h0 => ?_)
  · skip
    refine x_goto C dL_law_578 (tgt := 2497) (by decide) ?_
    refine x_sub [2, 3, 4, 5, 6, 7] (ls2 := [(5, .int i), (0, .ref b), (1, .ref (ad 176)), (2, .ref (ad 193)), (3, .ref (ad 202)), (4, .ref (ad 203))]) rfl ?_
    exact x_wid (by omega) (by omega) k
  · skip
    refine x_aload_n C 6 dL_law_566 rfl rfl ?_
    refine x_iconst C (v := 0) dL_law_567 (by decide) ?_
    refine x_lald C dL_law_568 ?_
    refine x_iload C 0 dL_law_569 rfl ?_
    refine x_i2l C dL_law_571 ?_
    refine x_lcmp C dL_law_572 ?_
    refine x_if_eq C dL_law_573 (tgt := 578) (by decide) (fun _ => ?_) (fun h9 => absurd (by rw [h5 h0]; exact lg_cmp_self _) h9)
    refine x_goto C dL_law_578 (tgt := 2497) (by decide) ?_
    refine x_sub [2, 3, 4, 5, 6, 7] (ls2 := [(5, .int i), (0, .ref b), (1, .ref (ad 176)), (2, .ref (ad 193)), (3, .ref (ad 202)), (4, .ref (ad 203))]) rfl ?_
    exact x_wid (by omega) (by omega) k
def okc_6 (B : StB) (M : StM) (O : StO) (y1 : Int32)  : Prop := ok_X6_balanceOf B y1 ∧ ((f_X6_balanceOf B y1).1 = 0 ∨ (f_X6_balanceOf B y1).1 = 1 ) ∧ ok_X7_balanceOf M y1 ∧ f_X7_thrown ((f_X7_balanceOf M y1)).2 = (wr [1] (f_X6_balanceOf B y1) O).1 ∧ ((wr [1] (f_X6_balanceOf B y1) O).1 = 0 → (wr [1] (f_X6_balanceOf B y1) O).2.2.1 = ((f_X7_balanceOf M y1)).1.toInt64)
def stB_6 (B : StB) (M : StM) (O : StO) (y1 : Int32)  : StB := (wr [1] (f_X6_balanceOf B y1) O).2.1
def stM_6 (B : StB) (M : StM) (O : StO) (y1 : Int32)  : StM := ((f_X7_balanceOf M y1)).2
def stO_6 (B : StB) (M : StM) (O : StO) (y1 : Int32)  : StO := (wr [1] (f_X6_balanceOf B y1) O).2.2
set_option maxHeartbeats 4000000 in
set_option maxRecDepth 100000 in
theorem law_c6 (C : CX p l s m args meth c A G ad cL_law "InkBankLaw" 9 (some .boolean)) (hX : va_X b L xs s s.heap ∧ b < s.heap.size ∧ ¬ A b) (hR : 60 ≤ R.frames ∧ 4000 ≤ R.locals) (hf : cells + 8 ≤ R.cells ∧ slots + 48 ≤ R.slots) {i : Int32} (hin : ∀ k : Int32, k = 1 ∨ k = 2 ∨ k = 3 ∨ k = 4 → vp_in (i + k) L) {y1 : Int32}  (hy1 : xs (ix (i + 1)) = y1) (hok : okc_6 B M O y1) (k : X p l e R s m args below meth c A G ad 9 (cells + 8) (slots + 48) Q (stB_6 B M O y1) (stM_6 B M O y1) (stO_6 B M O y1) [(5, .int i), (0, .ref b), (1, .ref (ad 176)), (2, .ref (ad 193)), (3, .ref (ad 202)), (4, .ref (ad 203))] 2497 []) : X p l e R s m args below meth c A G ad 9 cells slots Q B M O [(5, .int i), (0, .ref b), (1, .ref (ad 176)), (2, .ref (ad 193)), (3, .ref (ad 202)), (4, .ref (ad 203))] 581 [] := by
  obtain ⟨h1, h2, h3, h4, h5⟩ := hok
  unfold stB_6 stM_6 stO_6 at k
  have hW := lc_balanceOf (G := G) C.2.2.2.2.2.2.2.1 B M O (y1) h1 (f_X6_balanceOf B y1) rfl h2 (wr [1] (f_X6_balanceOf B y1) O) rfl
  have hM := c_X7_balanceOf (G := G) C.2.2.2.2.2.2.2.1 (wr [1] (f_X6_balanceOf B y1) O).2.1 M (wr [1] (f_X6_balanceOf B y1) O).2.2 (y1) h3
  generalize (wr [1] (f_X6_balanceOf B y1) O) = w at h4 h5 hW hM k
  generalize (f_X7_balanceOf M y1) = g at h4 h5 hM k
  have hT := c_X7_thrown (G := G) C.2.2.2.2.2.2.2.1 w.2.1 g.2 w.2.2
  refine x_aload_n C 2 dL_law_581 rfl rfl ?_
  refine x_aload_n C 1 dL_law_582 rfl rfl ?_
  refine x_iload C 0 dL_law_583 rfl ?_
  refine x_iconst C (v := 1) dL_law_585 (by decide) ?_
  refine x_iadd C dL_law_586 ?_
  refine x_sld C hX (hin 1 (by decide)) dL_law_587 ?_
  rw [hy1]
  refine x_aload_n C 4 dL_law_588 rfl rfl ?_
  refine x_cWS C (as := [.ref (ad 176), .int y1, .ref (ad 202)]) (rest := []) (n := 3) hW we_3_166 we_3_167 we_1_0 we_3_168 ⟨by decide, by decide, by decide +kernel⟩ ⟨Nat.le_trans (Nat.le_of_ble_eq_true rfl) hR.1, Nat.le_trans (Nat.le_of_ble_eq_true rfl) hR.2⟩ ⟨by have := hf.1; omega, by have := hf.2; omega⟩ rfl rfl (Nat.le_of_ble_eq_true rfl) dL_law_589 ?_
  refine x_istore C dL_law_592 (by decide) rfl ?_
  refine x_aload_n C 4 dL_law_594 rfl rfl ?_
  refine x_aload_n C 2 dL_law_595 rfl rfl ?_
  refine x_iload C 1 dL_law_596 rfl ?_
  refine x_iconst C (v := 1) dL_law_598 (by decide) ?_
  refine x_iadd C dL_law_599 ?_
  refine x_sld C hX (hin 1 (by decide)) dL_law_600 ?_
  rw [hy1]
  refine x_cIV C (as := [.int y1]) (rest := []) hM e_M rfl cv_X7_balanceOf cd_X7_balanceOf we_7_221 ⟨Nat.le_trans (Nat.le_of_ble_eq_true rfl) hR.1, Nat.le_trans (Nat.le_of_ble_eq_true rfl) hR.2⟩ ⟨by have := hf.1; omega, by have := hf.2; omega⟩ rfl rfl (Nat.le_of_ble_eq_true rfl) dL_law_601 ?_
  refine x_istore C dL_law_604 (by decide) rfl ?_
  refine x_aload_n C 5 dL_law_606 rfl rfl ?_
  refine x_cIV C (as := []) (rest := []) hT e_M rfl cv_X7_thrown cd_X7_thrown we_7_51 ⟨Nat.le_trans (Nat.le_of_ble_eq_true rfl) hR.1, Nat.le_trans (Nat.le_of_ble_eq_true rfl) hR.2⟩ ⟨by have := hf.1; omega, by have := hf.2; omega⟩ rfl rfl (Nat.le_of_ble_eq_true rfl) dL_law_607 ?_
  refine x_iload C 1 dL_law_610 rfl ?_
  refine x_icmp_eq C dL_law_612 (tgt := 617) (by decide) (fun _ => ?_) (fun h9 => absurd h4 h9)
  refine x_iload C 1 dL_law_617 rfl ?_
  refine x_if_ne C dL_law_619 (tgt := 634) (by decide) (fun _ => ?_) (fun h0 => ?_)
  · skip
    refine x_goto C dL_law_634 (tgt := 2497) (by decide) ?_
    refine x_sub [2, 3, 4, 5, 6, 7] (ls2 := [(5, .int i), (0, .ref b), (1, .ref (ad 176)), (2, .ref (ad 193)), (3, .ref (ad 202)), (4, .ref (ad 203))]) rfl ?_
    exact x_wid (by omega) (by omega) k
  · skip
    refine x_aload_n C 6 dL_law_622 rfl rfl ?_
    refine x_iconst C (v := 0) dL_law_623 (by decide) ?_
    refine x_lald C dL_law_624 ?_
    refine x_iload C 0 dL_law_625 rfl ?_
    refine x_i2l C dL_law_627 ?_
    refine x_lcmp C dL_law_628 ?_
    refine x_if_eq C dL_law_629 (tgt := 634) (by decide) (fun _ => ?_) (fun h9 => absurd (by rw [h5 h0]; exact lg_cmp_self _) h9)
    refine x_goto C dL_law_634 (tgt := 2497) (by decide) ?_
    refine x_sub [2, 3, 4, 5, 6, 7] (ls2 := [(5, .int i), (0, .ref b), (1, .ref (ad 176)), (2, .ref (ad 193)), (3, .ref (ad 202)), (4, .ref (ad 203))]) rfl ?_
    exact x_wid (by omega) (by omega) k
def okc_7 (B : StB) (M : StM) (O : StO) (y1 : Int32)  : Prop := ok_X6_limitOf B y1 ∧ ((f_X6_limitOf B y1).1 = 0 ∨ (f_X6_limitOf B y1).1 = 1 ) ∧ ok_X7_limitOf M y1 ∧ f_X7_thrown ((f_X7_limitOf M y1)).2 = (wr [1] (f_X6_limitOf B y1) O).1 ∧ ((wr [1] (f_X6_limitOf B y1) O).1 = 0 → (wr [1] (f_X6_limitOf B y1) O).2.2.1 = ((f_X7_limitOf M y1)).1.toInt64)
def stB_7 (B : StB) (M : StM) (O : StO) (y1 : Int32)  : StB := (wr [1] (f_X6_limitOf B y1) O).2.1
def stM_7 (B : StB) (M : StM) (O : StO) (y1 : Int32)  : StM := ((f_X7_limitOf M y1)).2
def stO_7 (B : StB) (M : StM) (O : StO) (y1 : Int32)  : StO := (wr [1] (f_X6_limitOf B y1) O).2.2
set_option maxHeartbeats 4000000 in
set_option maxRecDepth 100000 in
theorem law_c7 (C : CX p l s m args meth c A G ad cL_law "InkBankLaw" 9 (some .boolean)) (hX : va_X b L xs s s.heap ∧ b < s.heap.size ∧ ¬ A b) (hR : 60 ≤ R.frames ∧ 4000 ≤ R.locals) (hf : cells + 8 ≤ R.cells ∧ slots + 48 ≤ R.slots) {i : Int32} (hin : ∀ k : Int32, k = 1 ∨ k = 2 ∨ k = 3 ∨ k = 4 → vp_in (i + k) L) {y1 : Int32}  (hy1 : xs (ix (i + 1)) = y1) (hok : okc_7 B M O y1) (k : X p l e R s m args below meth c A G ad 9 (cells + 8) (slots + 48) Q (stB_7 B M O y1) (stM_7 B M O y1) (stO_7 B M O y1) [(5, .int i), (0, .ref b), (1, .ref (ad 176)), (2, .ref (ad 193)), (3, .ref (ad 202)), (4, .ref (ad 203))] 2497 []) : X p l e R s m args below meth c A G ad 9 cells slots Q B M O [(5, .int i), (0, .ref b), (1, .ref (ad 176)), (2, .ref (ad 193)), (3, .ref (ad 202)), (4, .ref (ad 203))] 637 [] := by
  obtain ⟨h1, h2, h3, h4, h5⟩ := hok
  unfold stB_7 stM_7 stO_7 at k
  have hW := lc_limitOf (G := G) C.2.2.2.2.2.2.2.1 B M O (y1) h1 (f_X6_limitOf B y1) rfl h2 (wr [1] (f_X6_limitOf B y1) O) rfl
  have hM := c_X7_limitOf (G := G) C.2.2.2.2.2.2.2.1 (wr [1] (f_X6_limitOf B y1) O).2.1 M (wr [1] (f_X6_limitOf B y1) O).2.2 (y1) h3
  generalize (wr [1] (f_X6_limitOf B y1) O) = w at h4 h5 hW hM k
  generalize (f_X7_limitOf M y1) = g at h4 h5 hM k
  have hT := c_X7_thrown (G := G) C.2.2.2.2.2.2.2.1 w.2.1 g.2 w.2.2
  refine x_aload_n C 2 dL_law_637 rfl rfl ?_
  refine x_aload_n C 1 dL_law_638 rfl rfl ?_
  refine x_iload C 0 dL_law_639 rfl ?_
  refine x_iconst C (v := 1) dL_law_641 (by decide) ?_
  refine x_iadd C dL_law_642 ?_
  refine x_sld C hX (hin 1 (by decide)) dL_law_643 ?_
  rw [hy1]
  refine x_aload_n C 4 dL_law_644 rfl rfl ?_
  refine x_cWS C (as := [.ref (ad 176), .int y1, .ref (ad 202)]) (rest := []) (n := 3) hW we_3_173 we_3_174 we_1_0 we_3_175 ⟨by decide, by decide, by decide +kernel⟩ ⟨Nat.le_trans (Nat.le_of_ble_eq_true rfl) hR.1, Nat.le_trans (Nat.le_of_ble_eq_true rfl) hR.2⟩ ⟨by have := hf.1; omega, by have := hf.2; omega⟩ rfl rfl (Nat.le_of_ble_eq_true rfl) dL_law_645 ?_
  refine x_istore C dL_law_648 (by decide) rfl ?_
  refine x_aload_n C 4 dL_law_650 rfl rfl ?_
  refine x_aload_n C 2 dL_law_651 rfl rfl ?_
  refine x_iload C 1 dL_law_652 rfl ?_
  refine x_iconst C (v := 1) dL_law_654 (by decide) ?_
  refine x_iadd C dL_law_655 ?_
  refine x_sld C hX (hin 1 (by decide)) dL_law_656 ?_
  rw [hy1]
  refine x_cIV C (as := [.int y1]) (rest := []) hM e_M rfl cv_X7_limitOf cd_X7_limitOf we_7_225 ⟨Nat.le_trans (Nat.le_of_ble_eq_true rfl) hR.1, Nat.le_trans (Nat.le_of_ble_eq_true rfl) hR.2⟩ ⟨by have := hf.1; omega, by have := hf.2; omega⟩ rfl rfl (Nat.le_of_ble_eq_true rfl) dL_law_657 ?_
  refine x_istore C dL_law_660 (by decide) rfl ?_
  refine x_aload_n C 5 dL_law_662 rfl rfl ?_
  refine x_cIV C (as := []) (rest := []) hT e_M rfl cv_X7_thrown cd_X7_thrown we_7_51 ⟨Nat.le_trans (Nat.le_of_ble_eq_true rfl) hR.1, Nat.le_trans (Nat.le_of_ble_eq_true rfl) hR.2⟩ ⟨by have := hf.1; omega, by have := hf.2; omega⟩ rfl rfl (Nat.le_of_ble_eq_true rfl) dL_law_663 ?_
  refine x_iload C 1 dL_law_666 rfl ?_
  refine x_icmp_eq C dL_law_668 (tgt := 673) (by decide) (fun _ => ?_) (fun h9 => absurd h4 h9)
  refine x_iload C 1 dL_law_673 rfl ?_
  refine x_if_ne C dL_law_675 (tgt := 690) (by decide) (fun _ => ?_) (fun h0 => ?_)
  · skip
    refine x_goto C dL_law_690 (tgt := 2497) (by decide) ?_
    refine x_sub [2, 3, 4, 5, 6, 7] (ls2 := [(5, .int i), (0, .ref b), (1, .ref (ad 176)), (2, .ref (ad 193)), (3, .ref (ad 202)), (4, .ref (ad 203))]) rfl ?_
    exact x_wid (by omega) (by omega) k
  · skip
    refine x_aload_n C 6 dL_law_678 rfl rfl ?_
    refine x_iconst C (v := 0) dL_law_679 (by decide) ?_
    refine x_lald C dL_law_680 ?_
    refine x_iload C 0 dL_law_681 rfl ?_
    refine x_i2l C dL_law_683 ?_
    refine x_lcmp C dL_law_684 ?_
    refine x_if_eq C dL_law_685 (tgt := 690) (by decide) (fun _ => ?_) (fun h9 => absurd (by rw [h5 h0]; exact lg_cmp_self _) h9)
    refine x_goto C dL_law_690 (tgt := 2497) (by decide) ?_
    refine x_sub [2, 3, 4, 5, 6, 7] (ls2 := [(5, .int i), (0, .ref b), (1, .ref (ad 176)), (2, .ref (ad 193)), (3, .ref (ad 202)), (4, .ref (ad 203))]) rfl ?_
    exact x_wid (by omega) (by omega) k
def okc_8 (B : StB) (M : StM) (O : StO) (y1 : Int32)  : Prop := ok_X6_availableIn B y1 ∧ ((f_X6_availableIn B y1).1 = 0 ∨ (f_X6_availableIn B y1).1 = 1 ) ∧ ok_X7_availableIn M y1 ∧ f_X7_thrown ((f_X7_availableIn M y1)).2 = (wr [1] (f_X6_availableIn B y1) O).1 ∧ ((wr [1] (f_X6_availableIn B y1) O).1 = 0 → (wr [1] (f_X6_availableIn B y1) O).2.2.1 = ((f_X7_availableIn M y1)).1.toInt64)
def stB_8 (B : StB) (M : StM) (O : StO) (y1 : Int32)  : StB := (wr [1] (f_X6_availableIn B y1) O).2.1
def stM_8 (B : StB) (M : StM) (O : StO) (y1 : Int32)  : StM := ((f_X7_availableIn M y1)).2
def stO_8 (B : StB) (M : StM) (O : StO) (y1 : Int32)  : StO := (wr [1] (f_X6_availableIn B y1) O).2.2
set_option maxHeartbeats 4000000 in
set_option maxRecDepth 100000 in
theorem law_c8 (C : CX p l s m args meth c A G ad cL_law "InkBankLaw" 9 (some .boolean)) (hX : va_X b L xs s s.heap ∧ b < s.heap.size ∧ ¬ A b) (hR : 60 ≤ R.frames ∧ 4000 ≤ R.locals) (hf : cells + 8 ≤ R.cells ∧ slots + 48 ≤ R.slots) {i : Int32} (hin : ∀ k : Int32, k = 1 ∨ k = 2 ∨ k = 3 ∨ k = 4 → vp_in (i + k) L) {y1 : Int32}  (hy1 : xs (ix (i + 1)) = y1) (hok : okc_8 B M O y1) (k : X p l e R s m args below meth c A G ad 9 (cells + 8) (slots + 48) Q (stB_8 B M O y1) (stM_8 B M O y1) (stO_8 B M O y1) [(5, .int i), (0, .ref b), (1, .ref (ad 176)), (2, .ref (ad 193)), (3, .ref (ad 202)), (4, .ref (ad 203))] 2497 []) : X p l e R s m args below meth c A G ad 9 cells slots Q B M O [(5, .int i), (0, .ref b), (1, .ref (ad 176)), (2, .ref (ad 193)), (3, .ref (ad 202)), (4, .ref (ad 203))] 693 [] := by
  obtain ⟨h1, h2, h3, h4, h5⟩ := hok
  unfold stB_8 stM_8 stO_8 at k
  have hW := lc_availableIn (G := G) C.2.2.2.2.2.2.2.1 B M O (y1) h1 (f_X6_availableIn B y1) rfl h2 (wr [1] (f_X6_availableIn B y1) O) rfl
  have hM := c_X7_availableIn (G := G) C.2.2.2.2.2.2.2.1 (wr [1] (f_X6_availableIn B y1) O).2.1 M (wr [1] (f_X6_availableIn B y1) O).2.2 (y1) h3
  generalize (wr [1] (f_X6_availableIn B y1) O) = w at h4 h5 hW hM k
  generalize (f_X7_availableIn M y1) = g at h4 h5 hM k
  have hT := c_X7_thrown (G := G) C.2.2.2.2.2.2.2.1 w.2.1 g.2 w.2.2
  refine x_aload_n C 2 dL_law_693 rfl rfl ?_
  refine x_aload_n C 1 dL_law_694 rfl rfl ?_
  refine x_iload C 0 dL_law_695 rfl ?_
  refine x_iconst C (v := 1) dL_law_697 (by decide) ?_
  refine x_iadd C dL_law_698 ?_
  refine x_sld C hX (hin 1 (by decide)) dL_law_699 ?_
  rw [hy1]
  refine x_aload_n C 4 dL_law_700 rfl rfl ?_
  refine x_cWS C (as := [.ref (ad 176), .int y1, .ref (ad 202)]) (rest := []) (n := 3) hW we_3_180 we_3_181 we_1_0 we_3_182 ⟨by decide, by decide, by decide +kernel⟩ ⟨Nat.le_trans (Nat.le_of_ble_eq_true rfl) hR.1, Nat.le_trans (Nat.le_of_ble_eq_true rfl) hR.2⟩ ⟨by have := hf.1; omega, by have := hf.2; omega⟩ rfl rfl (Nat.le_of_ble_eq_true rfl) dL_law_701 ?_
  refine x_istore C dL_law_704 (by decide) rfl ?_
  refine x_aload_n C 4 dL_law_706 rfl rfl ?_
  refine x_aload_n C 2 dL_law_707 rfl rfl ?_
  refine x_iload C 1 dL_law_708 rfl ?_
  refine x_iconst C (v := 1) dL_law_710 (by decide) ?_
  refine x_iadd C dL_law_711 ?_
  refine x_sld C hX (hin 1 (by decide)) dL_law_712 ?_
  rw [hy1]
  refine x_cIV C (as := [.int y1]) (rest := []) hM e_M rfl cv_X7_availableIn cd_X7_availableIn we_7_229 ⟨Nat.le_trans (Nat.le_of_ble_eq_true rfl) hR.1, Nat.le_trans (Nat.le_of_ble_eq_true rfl) hR.2⟩ ⟨by have := hf.1; omega, by have := hf.2; omega⟩ rfl rfl (Nat.le_of_ble_eq_true rfl) dL_law_713 ?_
  refine x_istore C dL_law_716 (by decide) rfl ?_
  refine x_aload_n C 5 dL_law_718 rfl rfl ?_
  refine x_cIV C (as := []) (rest := []) hT e_M rfl cv_X7_thrown cd_X7_thrown we_7_51 ⟨Nat.le_trans (Nat.le_of_ble_eq_true rfl) hR.1, Nat.le_trans (Nat.le_of_ble_eq_true rfl) hR.2⟩ ⟨by have := hf.1; omega, by have := hf.2; omega⟩ rfl rfl (Nat.le_of_ble_eq_true rfl) dL_law_719 ?_
  refine x_iload C 1 dL_law_722 rfl ?_
  refine x_icmp_eq C dL_law_724 (tgt := 729) (by decide) (fun _ => ?_) (fun h9 => absurd h4 h9)
  refine x_iload C 1 dL_law_729 rfl ?_
  refine x_if_ne C dL_law_731 (tgt := 746) (by decide) (fun _ => ?_) (fun h0 => ?_)
  · skip
    refine x_goto C dL_law_746 (tgt := 2497) (by decide) ?_
    refine x_sub [2, 3, 4, 5, 6, 7] (ls2 := [(5, .int i), (0, .ref b), (1, .ref (ad 176)), (2, .ref (ad 193)), (3, .ref (ad 202)), (4, .ref (ad 203))]) rfl ?_
    exact x_wid (by omega) (by omega) k
  · skip
    refine x_aload_n C 6 dL_law_734 rfl rfl ?_
    refine x_iconst C (v := 0) dL_law_735 (by decide) ?_
    refine x_lald C dL_law_736 ?_
    refine x_iload C 0 dL_law_737 rfl ?_
    refine x_i2l C dL_law_739 ?_
    refine x_lcmp C dL_law_740 ?_
    refine x_if_eq C dL_law_741 (tgt := 746) (by decide) (fun _ => ?_) (fun h9 => absurd (by rw [h5 h0]; exact lg_cmp_self _) h9)
    refine x_goto C dL_law_746 (tgt := 2497) (by decide) ?_
    refine x_sub [2, 3, 4, 5, 6, 7] (ls2 := [(5, .int i), (0, .ref b), (1, .ref (ad 176)), (2, .ref (ad 193)), (3, .ref (ad 202)), (4, .ref (ad 203))]) rfl ?_
    exact x_wid (by omega) (by omega) k
def okc_9 (B : StB) (M : StM) (O : StO) (y1 : Int32)  : Prop := ok_X6_wasTouched B y1 ∧ ((f_X6_wasTouched B y1).1 = 0 ∨ (f_X6_wasTouched B y1).1 = 1 ) ∧ ok_X7_wasTouched M y1 ∧ f_X7_thrown ((f_X7_wasTouched M y1)).2 = (wrZ [1] (f_X6_wasTouched B y1) O).1 ∧ ((wrZ [1] (f_X6_wasTouched B y1) O).1 = 0 → (wrZ [1] (f_X6_wasTouched B y1) O).2.2.1 = (if ((f_X7_wasTouched M y1)).1 = 0 then (0 : Int64) else 1))
def stB_9 (B : StB) (M : StM) (O : StO) (y1 : Int32)  : StB := (wrZ [1] (f_X6_wasTouched B y1) O).2.1
def stM_9 (B : StB) (M : StM) (O : StO) (y1 : Int32)  : StM := ((f_X7_wasTouched M y1)).2
def stO_9 (B : StB) (M : StM) (O : StO) (y1 : Int32)  : StO := (wrZ [1] (f_X6_wasTouched B y1) O).2.2
set_option maxHeartbeats 4000000 in
set_option maxRecDepth 100000 in
theorem law_c9 (C : CX p l s m args meth c A G ad cL_law "InkBankLaw" 9 (some .boolean)) (hX : va_X b L xs s s.heap ∧ b < s.heap.size ∧ ¬ A b) (hR : 60 ≤ R.frames ∧ 4000 ≤ R.locals) (hf : cells + 8 ≤ R.cells ∧ slots + 48 ≤ R.slots) {i : Int32} (hin : ∀ k : Int32, k = 1 ∨ k = 2 ∨ k = 3 ∨ k = 4 → vp_in (i + k) L) {y1 : Int32}  (hy1 : xs (ix (i + 1)) = y1) (hok : okc_9 B M O y1) (k : X p l e R s m args below meth c A G ad 9 (cells + 8) (slots + 48) Q (stB_9 B M O y1) (stM_9 B M O y1) (stO_9 B M O y1) [(5, .int i), (0, .ref b), (1, .ref (ad 176)), (2, .ref (ad 193)), (3, .ref (ad 202)), (4, .ref (ad 203))] 2497 []) : X p l e R s m args below meth c A G ad 9 cells slots Q B M O [(5, .int i), (0, .ref b), (1, .ref (ad 176)), (2, .ref (ad 193)), (3, .ref (ad 202)), (4, .ref (ad 203))] 749 [] := by
  obtain ⟨h1, h2, h3, h4, h5⟩ := hok
  unfold stB_9 stM_9 stO_9 at k
  have hW := lc_wasTouched (G := G) C.2.2.2.2.2.2.2.1 B M O (y1) h1 (f_X6_wasTouched B y1) rfl h2 (wrZ [1] (f_X6_wasTouched B y1) O) rfl
  have hM := c_X7_wasTouched (G := G) C.2.2.2.2.2.2.2.1 (wrZ [1] (f_X6_wasTouched B y1) O).2.1 M (wrZ [1] (f_X6_wasTouched B y1) O).2.2 (y1) h3
  generalize (wrZ [1] (f_X6_wasTouched B y1) O) = w at h4 h5 hW hM k
  generalize (f_X7_wasTouched M y1) = g at h4 h5 hM k
  have hT := c_X7_thrown (G := G) C.2.2.2.2.2.2.2.1 w.2.1 g.2 w.2.2
  refine x_aload_n C 2 dL_law_749 rfl rfl ?_
  refine x_aload_n C 1 dL_law_750 rfl rfl ?_
  refine x_iload C 0 dL_law_751 rfl ?_
  refine x_iconst C (v := 1) dL_law_753 (by decide) ?_
  refine x_iadd C dL_law_754 ?_
  refine x_sld C hX (hin 1 (by decide)) dL_law_755 ?_
  rw [hy1]
  refine x_aload_n C 4 dL_law_756 rfl rfl ?_
  refine x_cWS C (as := [.ref (ad 176), .int y1, .ref (ad 202)]) (rest := []) (n := 3) hW we_3_188 we_3_189 we_1_0 we_3_190 ⟨by decide, by decide, by decide +kernel⟩ ⟨Nat.le_trans (Nat.le_of_ble_eq_true rfl) hR.1, Nat.le_trans (Nat.le_of_ble_eq_true rfl) hR.2⟩ ⟨by have := hf.1; omega, by have := hf.2; omega⟩ rfl rfl (Nat.le_of_ble_eq_true rfl) dL_law_757 ?_
  refine x_istore C dL_law_760 (by decide) rfl ?_
  refine x_aload_n C 4 dL_law_762 rfl rfl ?_
  refine x_aload_n C 2 dL_law_763 rfl rfl ?_
  refine x_iload C 1 dL_law_764 rfl ?_
  refine x_iconst C (v := 1) dL_law_766 (by decide) ?_
  refine x_iadd C dL_law_767 ?_
  refine x_sld C hX (hin 1 (by decide)) dL_law_768 ?_
  rw [hy1]
  refine x_cIV C (as := [.int y1]) (rest := []) hM e_M rfl cv_X7_wasTouched cd_X7_wasTouched we_7_233 ⟨Nat.le_trans (Nat.le_of_ble_eq_true rfl) hR.1, Nat.le_trans (Nat.le_of_ble_eq_true rfl) hR.2⟩ ⟨by have := hf.1; omega, by have := hf.2; omega⟩ rfl rfl (Nat.le_of_ble_eq_true rfl) dL_law_769 ?_
  refine x_istore C dL_law_772 (by decide) rfl ?_
  refine x_aload_n C 5 dL_law_774 rfl rfl ?_
  refine x_cIV C (as := []) (rest := []) hT e_M rfl cv_X7_thrown cd_X7_thrown we_7_51 ⟨Nat.le_trans (Nat.le_of_ble_eq_true rfl) hR.1, Nat.le_trans (Nat.le_of_ble_eq_true rfl) hR.2⟩ ⟨by have := hf.1; omega, by have := hf.2; omega⟩ rfl rfl (Nat.le_of_ble_eq_true rfl) dL_law_775 ?_
  refine x_iload C 1 dL_law_778 rfl ?_
  refine x_icmp_eq C dL_law_780 (tgt := 785) (by decide) (fun _ => ?_) (fun h9 => absurd h4 h9)
  refine x_iload C 1 dL_law_785 rfl ?_
  refine x_if_ne C dL_law_787 (tgt := 809) (by decide) (fun _ => ?_) (fun h0 => ?_)
  · skip
    refine x_goto C dL_law_809 (tgt := 2497) (by decide) ?_
    refine x_sub [2, 3, 4, 5, 6, 7] (ls2 := [(5, .int i), (0, .ref b), (1, .ref (ad 176)), (2, .ref (ad 193)), (3, .ref (ad 202)), (4, .ref (ad 203))]) rfl ?_
    exact x_wid (by omega) (by omega) k
  · skip
    refine x_aload_n C 6 dL_law_790 rfl rfl ?_
    refine x_iconst C (v := 0) dL_law_791 (by decide) ?_
    refine x_lald C dL_law_792 ?_
    refine x_iload C 0 dL_law_793 rfl ?_
    refine x_if_eq C dL_law_795 (tgt := 802) (by decide) (fun hb => ?_) (fun hb => ?_)
    · skip
      refine x_lconst C (v := 0) dL_law_802 (by decide) ?_
      refine x_lcmp C dL_law_803 ?_
      refine x_if_eq C dL_law_804 (tgt := 809) (by decide) (fun _ => ?_) (fun h9 => absurd (by rw [h5 h0, if_pos hb]; exact lg_cmp_self _) h9)
      refine x_goto C dL_law_809 (tgt := 2497) (by decide) ?_
      refine x_sub [2, 3, 4, 5, 6, 7] (ls2 := [(5, .int i), (0, .ref b), (1, .ref (ad 176)), (2, .ref (ad 193)), (3, .ref (ad 202)), (4, .ref (ad 203))]) rfl ?_
      exact x_wid (by omega) (by omega) k
    · skip
      refine x_lconst C (v := 1) dL_law_798 (by decide) ?_
      refine x_goto C dL_law_799 (tgt := 803) (by decide) ?_
      refine x_lcmp C dL_law_803 ?_
      refine x_if_eq C dL_law_804 (tgt := 809) (by decide) (fun _ => ?_) (fun h9 => absurd (by rw [h5 h0, if_neg hb]; exact lg_cmp_self _) h9)
      refine x_goto C dL_law_809 (tgt := 2497) (by decide) ?_
      refine x_sub [2, 3, 4, 5, 6, 7] (ls2 := [(5, .int i), (0, .ref b), (1, .ref (ad 176)), (2, .ref (ad 193)), (3, .ref (ad 202)), (4, .ref (ad 203))]) rfl ?_
      exact x_wid (by omega) (by omega) k
def okc_10 (B : StB) (M : StM) (O : StO) (y1 : Int32)  : Prop := ok_X6_interestOf B y1 ∧ ((f_X6_interestOf B y1).1 = 0 ∨ (f_X6_interestOf B y1).1 = 1 ) ∧ ok_X7_interestOf M y1 ∧ f_X7_thrown ((f_X7_interestOf M y1)).2 = (wr [1] (f_X6_interestOf B y1) O).1 ∧ ((wr [1] (f_X6_interestOf B y1) O).1 = 0 → (wr [1] (f_X6_interestOf B y1) O).2.2.1 = ((f_X7_interestOf M y1)).1.toInt64)
def stB_10 (B : StB) (M : StM) (O : StO) (y1 : Int32)  : StB := (wr [1] (f_X6_interestOf B y1) O).2.1
def stM_10 (B : StB) (M : StM) (O : StO) (y1 : Int32)  : StM := ((f_X7_interestOf M y1)).2
def stO_10 (B : StB) (M : StM) (O : StO) (y1 : Int32)  : StO := (wr [1] (f_X6_interestOf B y1) O).2.2
set_option maxHeartbeats 4000000 in
set_option maxRecDepth 100000 in
theorem law_c10 (C : CX p l s m args meth c A G ad cL_law "InkBankLaw" 9 (some .boolean)) (hX : va_X b L xs s s.heap ∧ b < s.heap.size ∧ ¬ A b) (hR : 60 ≤ R.frames ∧ 4000 ≤ R.locals) (hf : cells + 8 ≤ R.cells ∧ slots + 48 ≤ R.slots) {i : Int32} (hin : ∀ k : Int32, k = 1 ∨ k = 2 ∨ k = 3 ∨ k = 4 → vp_in (i + k) L) {y1 : Int32}  (hy1 : xs (ix (i + 1)) = y1) (hok : okc_10 B M O y1) (k : X p l e R s m args below meth c A G ad 9 (cells + 8) (slots + 48) Q (stB_10 B M O y1) (stM_10 B M O y1) (stO_10 B M O y1) [(5, .int i), (0, .ref b), (1, .ref (ad 176)), (2, .ref (ad 193)), (3, .ref (ad 202)), (4, .ref (ad 203))] 2497 []) : X p l e R s m args below meth c A G ad 9 cells slots Q B M O [(5, .int i), (0, .ref b), (1, .ref (ad 176)), (2, .ref (ad 193)), (3, .ref (ad 202)), (4, .ref (ad 203))] 812 [] := by
  obtain ⟨h1, h2, h3, h4, h5⟩ := hok
  unfold stB_10 stM_10 stO_10 at k
  have hW := lc_interestOf (G := G) C.2.2.2.2.2.2.2.1 B M O (y1) h1 (f_X6_interestOf B y1) rfl h2 (wr [1] (f_X6_interestOf B y1) O) rfl
  have hM := c_X7_interestOf (G := G) C.2.2.2.2.2.2.2.1 (wr [1] (f_X6_interestOf B y1) O).2.1 M (wr [1] (f_X6_interestOf B y1) O).2.2 (y1) h3
  generalize (wr [1] (f_X6_interestOf B y1) O) = w at h4 h5 hW hM k
  generalize (f_X7_interestOf M y1) = g at h4 h5 hM k
  have hT := c_X7_thrown (G := G) C.2.2.2.2.2.2.2.1 w.2.1 g.2 w.2.2
  refine x_aload_n C 2 dL_law_812 rfl rfl ?_
  refine x_aload_n C 1 dL_law_813 rfl rfl ?_
  refine x_iload C 0 dL_law_814 rfl ?_
  refine x_iconst C (v := 1) dL_law_816 (by decide) ?_
  refine x_iadd C dL_law_817 ?_
  refine x_sld C hX (hin 1 (by decide)) dL_law_818 ?_
  rw [hy1]
  refine x_aload_n C 4 dL_law_819 rfl rfl ?_
  refine x_cWS C (as := [.ref (ad 176), .int y1, .ref (ad 202)]) (rest := []) (n := 3) hW we_3_195 we_3_196 we_1_0 we_3_197 ⟨by decide, by decide, by decide +kernel⟩ ⟨Nat.le_trans (Nat.le_of_ble_eq_true rfl) hR.1, Nat.le_trans (Nat.le_of_ble_eq_true rfl) hR.2⟩ ⟨by have := hf.1; omega, by have := hf.2; omega⟩ rfl rfl (Nat.le_of_ble_eq_true rfl) dL_law_820 ?_
  refine x_istore C dL_law_823 (by decide) rfl ?_
  refine x_aload_n C 4 dL_law_825 rfl rfl ?_
  refine x_aload_n C 2 dL_law_826 rfl rfl ?_
  refine x_iload C 1 dL_law_827 rfl ?_
  refine x_iconst C (v := 1) dL_law_829 (by decide) ?_
  refine x_iadd C dL_law_830 ?_
  refine x_sld C hX (hin 1 (by decide)) dL_law_831 ?_
  rw [hy1]
  refine x_cIV C (as := [.int y1]) (rest := []) hM e_M rfl cv_X7_interestOf cd_X7_interestOf we_7_237 ⟨Nat.le_trans (Nat.le_of_ble_eq_true rfl) hR.1, Nat.le_trans (Nat.le_of_ble_eq_true rfl) hR.2⟩ ⟨by have := hf.1; omega, by have := hf.2; omega⟩ rfl rfl (Nat.le_of_ble_eq_true rfl) dL_law_832 ?_
  refine x_istore C dL_law_835 (by decide) rfl ?_
  refine x_aload_n C 5 dL_law_837 rfl rfl ?_
  refine x_cIV C (as := []) (rest := []) hT e_M rfl cv_X7_thrown cd_X7_thrown we_7_51 ⟨Nat.le_trans (Nat.le_of_ble_eq_true rfl) hR.1, Nat.le_trans (Nat.le_of_ble_eq_true rfl) hR.2⟩ ⟨by have := hf.1; omega, by have := hf.2; omega⟩ rfl rfl (Nat.le_of_ble_eq_true rfl) dL_law_838 ?_
  refine x_iload C 1 dL_law_841 rfl ?_
  refine x_icmp_eq C dL_law_843 (tgt := 848) (by decide) (fun _ => ?_) (fun h9 => absurd h4 h9)
  refine x_iload C 1 dL_law_848 rfl ?_
  refine x_if_ne C dL_law_850 (tgt := 865) (by decide) (fun _ => ?_) (fun h0 => ?_)
  · skip
    refine x_goto C dL_law_865 (tgt := 2497) (by decide) ?_
    refine x_sub [2, 3, 4, 5, 6, 7] (ls2 := [(5, .int i), (0, .ref b), (1, .ref (ad 176)), (2, .ref (ad 193)), (3, .ref (ad 202)), (4, .ref (ad 203))]) rfl ?_
    exact x_wid (by omega) (by omega) k
  · skip
    refine x_aload_n C 6 dL_law_853 rfl rfl ?_
    refine x_iconst C (v := 0) dL_law_854 (by decide) ?_
    refine x_lald C dL_law_855 ?_
    refine x_iload C 0 dL_law_856 rfl ?_
    refine x_i2l C dL_law_858 ?_
    refine x_lcmp C dL_law_859 ?_
    refine x_if_eq C dL_law_860 (tgt := 865) (by decide) (fun _ => ?_) (fun h9 => absurd (by rw [h5 h0]; exact lg_cmp_self _) h9)
    refine x_goto C dL_law_865 (tgt := 2497) (by decide) ?_
    refine x_sub [2, 3, 4, 5, 6, 7] (ls2 := [(5, .int i), (0, .ref b), (1, .ref (ad 176)), (2, .ref (ad 193)), (3, .ref (ad 202)), (4, .ref (ad 203))]) rfl ?_
    exact x_wid (by omega) (by omega) k
def okc_11 (B : StB) (M : StM) (O : StO) (y1 : Int32)  : Prop := ok_X6_accountAtRank B y1 ∧ ((f_X6_accountAtRank B y1).1 = 0 ∨ (f_X6_accountAtRank B y1).1 = 5 ) ∧ ok_X7_accountAtRank M y1 ∧ f_X7_thrown ((f_X7_accountAtRank M y1)).2 = (wr [5] (f_X6_accountAtRank B y1) O).1 ∧ ((wr [5] (f_X6_accountAtRank B y1) O).1 = 0 → (wr [5] (f_X6_accountAtRank B y1) O).2.2.1 = ((f_X7_accountAtRank M y1)).1.toInt64)
def stB_11 (B : StB) (M : StM) (O : StO) (y1 : Int32)  : StB := (wr [5] (f_X6_accountAtRank B y1) O).2.1
def stM_11 (B : StB) (M : StM) (O : StO) (y1 : Int32)  : StM := ((f_X7_accountAtRank M y1)).2
def stO_11 (B : StB) (M : StM) (O : StO) (y1 : Int32)  : StO := (wr [5] (f_X6_accountAtRank B y1) O).2.2
set_option maxHeartbeats 4000000 in
set_option maxRecDepth 100000 in
theorem law_c11 (C : CX p l s m args meth c A G ad cL_law "InkBankLaw" 9 (some .boolean)) (hX : va_X b L xs s s.heap ∧ b < s.heap.size ∧ ¬ A b) (hR : 60 ≤ R.frames ∧ 4000 ≤ R.locals) (hf : cells + 8 ≤ R.cells ∧ slots + 48 ≤ R.slots) {i : Int32} (hin : ∀ k : Int32, k = 1 ∨ k = 2 ∨ k = 3 ∨ k = 4 → vp_in (i + k) L) {y1 : Int32}  (hy1 : xs (ix (i + 1)) = y1) (hok : okc_11 B M O y1) (k : X p l e R s m args below meth c A G ad 9 (cells + 8) (slots + 48) Q (stB_11 B M O y1) (stM_11 B M O y1) (stO_11 B M O y1) [(5, .int i), (0, .ref b), (1, .ref (ad 176)), (2, .ref (ad 193)), (3, .ref (ad 202)), (4, .ref (ad 203))] 2497 []) : X p l e R s m args below meth c A G ad 9 cells slots Q B M O [(5, .int i), (0, .ref b), (1, .ref (ad 176)), (2, .ref (ad 193)), (3, .ref (ad 202)), (4, .ref (ad 203))] 868 [] := by
  obtain ⟨h1, h2, h3, h4, h5⟩ := hok
  unfold stB_11 stM_11 stO_11 at k
  have hW := lc_accountAtRank (G := G) C.2.2.2.2.2.2.2.1 B M O (y1) h1 (f_X6_accountAtRank B y1) rfl h2 (wr [5] (f_X6_accountAtRank B y1) O) rfl
  have hM := c_X7_accountAtRank (G := G) C.2.2.2.2.2.2.2.1 (wr [5] (f_X6_accountAtRank B y1) O).2.1 M (wr [5] (f_X6_accountAtRank B y1) O).2.2 (y1) h3
  generalize (wr [5] (f_X6_accountAtRank B y1) O) = w at h4 h5 hW hM k
  generalize (f_X7_accountAtRank M y1) = g at h4 h5 hM k
  have hT := c_X7_thrown (G := G) C.2.2.2.2.2.2.2.1 w.2.1 g.2 w.2.2
  refine x_aload_n C 2 dL_law_868 rfl rfl ?_
  refine x_aload_n C 1 dL_law_869 rfl rfl ?_
  refine x_iload C 0 dL_law_870 rfl ?_
  refine x_iconst C (v := 1) dL_law_872 (by decide) ?_
  refine x_iadd C dL_law_873 ?_
  refine x_sld C hX (hin 1 (by decide)) dL_law_874 ?_
  rw [hy1]
  refine x_aload_n C 4 dL_law_875 rfl rfl ?_
  refine x_cWS C (as := [.ref (ad 176), .int y1, .ref (ad 202)]) (rest := []) (n := 3) hW we_3_215 we_3_216 we_1_0 we_3_217 ⟨by decide, by decide, by decide +kernel⟩ ⟨Nat.le_trans (Nat.le_of_ble_eq_true rfl) hR.1, Nat.le_trans (Nat.le_of_ble_eq_true rfl) hR.2⟩ ⟨by have := hf.1; omega, by have := hf.2; omega⟩ rfl rfl (Nat.le_of_ble_eq_true rfl) dL_law_876 ?_
  refine x_istore C dL_law_879 (by decide) rfl ?_
  refine x_aload_n C 4 dL_law_881 rfl rfl ?_
  refine x_aload_n C 2 dL_law_882 rfl rfl ?_
  refine x_iload C 1 dL_law_883 rfl ?_
  refine x_iconst C (v := 1) dL_law_885 (by decide) ?_
  refine x_iadd C dL_law_886 ?_
  refine x_sld C hX (hin 1 (by decide)) dL_law_887 ?_
  rw [hy1]
  refine x_cIV C (as := [.int y1]) (rest := []) hM e_M rfl cv_X7_accountAtRank cd_X7_accountAtRank we_8_1 ⟨Nat.le_trans (Nat.le_of_ble_eq_true rfl) hR.1, Nat.le_trans (Nat.le_of_ble_eq_true rfl) hR.2⟩ ⟨by have := hf.1; omega, by have := hf.2; omega⟩ rfl rfl (Nat.le_of_ble_eq_true rfl) dL_law_888 ?_
  refine x_istore C dL_law_891 (by decide) rfl ?_
  refine x_aload_n C 5 dL_law_893 rfl rfl ?_
  refine x_cIV C (as := []) (rest := []) hT e_M rfl cv_X7_thrown cd_X7_thrown we_7_51 ⟨Nat.le_trans (Nat.le_of_ble_eq_true rfl) hR.1, Nat.le_trans (Nat.le_of_ble_eq_true rfl) hR.2⟩ ⟨by have := hf.1; omega, by have := hf.2; omega⟩ rfl rfl (Nat.le_of_ble_eq_true rfl) dL_law_894 ?_
  refine x_iload C 1 dL_law_897 rfl ?_
  refine x_icmp_eq C dL_law_899 (tgt := 904) (by decide) (fun _ => ?_) (fun h9 => absurd h4 h9)
  refine x_iload C 1 dL_law_904 rfl ?_
  refine x_if_ne C dL_law_906 (tgt := 921) (by decide) (fun _ => ?_) (fun h0 => ?_)
  · skip
    refine x_goto C dL_law_921 (tgt := 2497) (by decide) ?_
    refine x_sub [2, 3, 4, 5, 6, 7] (ls2 := [(5, .int i), (0, .ref b), (1, .ref (ad 176)), (2, .ref (ad 193)), (3, .ref (ad 202)), (4, .ref (ad 203))]) rfl ?_
    exact x_wid (by omega) (by omega) k
  · skip
    refine x_aload_n C 6 dL_law_909 rfl rfl ?_
    refine x_iconst C (v := 0) dL_law_910 (by decide) ?_
    refine x_lald C dL_law_911 ?_
    refine x_iload C 0 dL_law_912 rfl ?_
    refine x_i2l C dL_law_914 ?_
    refine x_lcmp C dL_law_915 ?_
    refine x_if_eq C dL_law_916 (tgt := 921) (by decide) (fun _ => ?_) (fun h9 => absurd (by rw [h5 h0]; exact lg_cmp_self _) h9)
    refine x_goto C dL_law_921 (tgt := 2497) (by decide) ?_
    refine x_sub [2, 3, 4, 5, 6, 7] (ls2 := [(5, .int i), (0, .ref b), (1, .ref (ad 176)), (2, .ref (ad 193)), (3, .ref (ad 202)), (4, .ref (ad 203))]) rfl ?_
    exact x_wid (by omega) (by omega) k
def okc_12 (B : StB) (M : StM) (O : StO)  : Prop := ok_X6_meanBalance B ∧ ((f_X6_meanBalance B).1 = 0 ∨ (f_X6_meanBalance B).1 = 6 ) ∧ ok_X7_meanBalance M ∧ f_X7_thrown ((f_X7_meanBalance M)).2 = (wrD [6] (f_X6_meanBalance B) O).1 ∧ ((wrD [6] (f_X6_meanBalance B) O).1 = 0 → (wrD [6] (f_X6_meanBalance B) O).2.2.2 = ((f_X7_meanBalance M)).1 ∧ FP.dcmp ((f_X7_meanBalance M)).1 ((f_X7_meanBalance M)).1 = some .eq)
def stB_12 (B : StB) (M : StM) (O : StO)  : StB := (wrD [6] (f_X6_meanBalance B) O).2.1
def stM_12 (B : StB) (M : StM) (O : StO)  : StM := ((f_X7_meanBalance M)).2
def stO_12 (B : StB) (M : StM) (O : StO)  : StO := (wrD [6] (f_X6_meanBalance B) O).2.2
set_option maxHeartbeats 4000000 in
set_option maxRecDepth 100000 in
theorem law_c12 (C : CX p l s m args meth c A G ad cL_law "InkBankLaw" 9 (some .boolean)) (hX : va_X b L xs s s.heap ∧ b < s.heap.size ∧ ¬ A b) (hR : 60 ≤ R.frames ∧ 4000 ≤ R.locals) (hf : cells + 8 ≤ R.cells ∧ slots + 48 ≤ R.slots) {i : Int32} (hin : ∀ k : Int32, k = 1 ∨ k = 2 ∨ k = 3 ∨ k = 4 → vp_in (i + k) L)   (hok : okc_12 B M O ) (k : X p l e R s m args below meth c A G ad 9 (cells + 8) (slots + 48) Q (stB_12 B M O ) (stM_12 B M O ) (stO_12 B M O ) [(5, .int i), (0, .ref b), (1, .ref (ad 176)), (2, .ref (ad 193)), (3, .ref (ad 202)), (4, .ref (ad 203))] 2497 []) : X p l e R s m args below meth c A G ad 9 cells slots Q B M O [(5, .int i), (0, .ref b), (1, .ref (ad 176)), (2, .ref (ad 193)), (3, .ref (ad 202)), (4, .ref (ad 203))] 924 [] := by
  obtain ⟨h1, h2, h3, h4, h5⟩ := hok
  unfold stB_12 stM_12 stO_12 at k
  have hW := lc_meanBalance (G := G) C.2.2.2.2.2.2.2.1 B M O  h1 (f_X6_meanBalance B) rfl h2 (wrD [6] (f_X6_meanBalance B) O) rfl
  have hM := c_X7_meanBalance (G := G) C.2.2.2.2.2.2.2.1 (wrD [6] (f_X6_meanBalance B) O).2.1 M (wrD [6] (f_X6_meanBalance B) O).2.2  h3
  generalize (wrD [6] (f_X6_meanBalance B) O) = w at h4 h5 hW hM k
  generalize (f_X7_meanBalance M) = g at h4 h5 hM k
  have hT := c_X7_thrown (G := G) C.2.2.2.2.2.2.2.1 w.2.1 g.2 w.2.2
  refine x_aload_n C 2 dL_law_924 rfl rfl ?_
  refine x_aload C 5 dL_law_925 rfl ?_
  refine x_cWS C (as := [.ref (ad 176), .ref (ad 203)]) (rest := []) (n := 2) hW we_3_231 we_3_232 we_1_0 we_3_233 ⟨by decide, by decide, by decide +kernel⟩ ⟨Nat.le_trans (Nat.le_of_ble_eq_true rfl) hR.1, Nat.le_trans (Nat.le_of_ble_eq_true rfl) hR.2⟩ ⟨by have := hf.1; omega, by have := hf.2; omega⟩ rfl rfl (Nat.le_of_ble_eq_true rfl) dL_law_927 ?_
  refine x_istore C dL_law_930 (by decide) rfl ?_
  refine x_aload_n C 4 dL_law_932 rfl rfl ?_
  refine x_cDV C (as := []) (rest := []) hM e_M rfl cv_X7_meanBalance cd_X7_meanBalance we_8_5 ⟨Nat.le_trans (Nat.le_of_ble_eq_true rfl) hR.1, Nat.le_trans (Nat.le_of_ble_eq_true rfl) hR.2⟩ ⟨by have := hf.1; omega, by have := hf.2; omega⟩ rfl rfl (Nat.le_of_ble_eq_true rfl) dL_law_933 ?_
  refine x_dstore C dL_law_936 (by decide) rfl ?_
  refine x_aload_n C 5 dL_law_938 rfl rfl ?_
  refine x_cIV C (as := []) (rest := []) hT e_M rfl cv_X7_thrown cd_X7_thrown we_7_51 ⟨Nat.le_trans (Nat.le_of_ble_eq_true rfl) hR.1, Nat.le_trans (Nat.le_of_ble_eq_true rfl) hR.2⟩ ⟨by have := hf.1; omega, by have := hf.2; omega⟩ rfl rfl (Nat.le_of_ble_eq_true rfl) dL_law_939 ?_
  refine x_iload C 1 dL_law_942 rfl ?_
  refine x_icmp_eq C dL_law_944 (tgt := 949) (by decide) (fun _ => ?_) (fun h9 => absurd h4 h9)
  refine x_iload C 1 dL_law_949 rfl ?_
  refine x_if_ne C dL_law_951 (tgt := 986) (by decide) (fun _ => ?_) (fun h0 => ?_)
  · skip
    refine x_goto C dL_law_986 (tgt := 2497) (by decide) ?_
    refine x_sub [2, 3, 4, 5, 6, 7] (ls2 := [(5, .int i), (0, .ref b), (1, .ref (ad 176)), (2, .ref (ad 193)), (3, .ref (ad 202)), (4, .ref (ad 203))]) rfl ?_
    exact x_wid (by omega) (by omega) k
  · skip
    refine x_aload C 7 dL_law_954 rfl ?_
    refine x_iconst C (v := 0) dL_law_956 (by decide) ?_
    refine x_dald C dL_law_957 ?_
    refine x_dload C 0 dL_law_958 rfl ?_
    refine x_dcmp C dL_law_960 ?_
    refine x_if_eq C dL_law_961 (tgt := 986) (by decide) (fun _ => ?_) (fun h9 => absurd (by obtain ⟨e9, n9⟩ := h5 h0; rw [e9, n9]; rfl) h9)
    refine x_goto C dL_law_986 (tgt := 2497) (by decide) ?_
    refine x_sub [2, 3, 4, 5, 6, 7] (ls2 := [(5, .int i), (0, .ref b), (1, .ref (ad 176)), (2, .ref (ad 193)), (3, .ref (ad 202)), (4, .ref (ad 203))]) rfl ?_
    exact x_wid (by omega) (by omega) k
def okc_13 (B : StB) (M : StM) (O : StO)  : Prop := True ∧ True ∧ (f_X6_bankBalance B) = (f_X7_bankBalance M).1
def stB_13 (B : StB) (M : StM) (O : StO)  : StB := B
def stM_13 (B : StB) (M : StM) (O : StO)  : StM := (f_X7_bankBalance M).2
def stO_13 (B : StB) (M : StM) (O : StO)  : StO := O
set_option maxHeartbeats 4000000 in
set_option maxRecDepth 100000 in
theorem law_c13 (C : CX p l s m args meth c A G ad cL_law "InkBankLaw" 9 (some .boolean)) (hX : va_X b L xs s s.heap ∧ b < s.heap.size ∧ ¬ A b) (hR : 60 ≤ R.frames ∧ 4000 ≤ R.locals) (hf : cells + 8 ≤ R.cells ∧ slots + 48 ≤ R.slots) {i : Int32} (hin : ∀ k : Int32, k = 1 ∨ k = 2 ∨ k = 3 ∨ k = 4 → vp_in (i + k) L)   (hok : okc_13 B M O ) (k : X p l e R s m args below meth c A G ad 9 (cells + 8) (slots + 48) Q (stB_13 B M O ) (stM_13 B M O ) (stO_13 B M O ) [(5, .int i), (0, .ref b), (1, .ref (ad 176)), (2, .ref (ad 193)), (3, .ref (ad 202)), (4, .ref (ad 203))] 2497 []) : X p l e R s m args below meth c A G ad 9 cells slots Q B M O [(5, .int i), (0, .ref b), (1, .ref (ad 176)), (2, .ref (ad 193)), (3, .ref (ad 202)), (4, .ref (ad 203))] 989 [] := by
  obtain ⟨h1, h2, h3⟩ := hok
  unfold stB_13 stM_13 stO_13 at k
  have hW := c_X6_bankBalance (G := G) C.2.2.2.2.2.2.2.1 B M O 
  have hM := c_X7_bankBalance (G := G) C.2.2.2.2.2.2.2.1 (B) M O 
  refine x_aload_n C 2 dL_law_989 rfl rfl ?_
  refine x_cIV C (as := []) (rest := []) hW e_I rfl cv_X6_bankBalance cd_X6_bankBalance we_2_67 ⟨Nat.le_trans (Nat.le_of_ble_eq_true rfl) hR.1, Nat.le_trans (Nat.le_of_ble_eq_true rfl) hR.2⟩ ⟨by have := hf.1; omega, by have := hf.2; omega⟩ rfl rfl (Nat.le_of_ble_eq_true rfl) dL_law_990 ?_
  refine x_aload_n C 3 dL_law_993 rfl rfl ?_
  refine x_cIV C (as := []) (rest := [.int _]) hM e_M rfl cv_X7_bankBalance cd_X7_bankBalance we_8_13 ⟨Nat.le_trans (Nat.le_of_ble_eq_true rfl) hR.1, Nat.le_trans (Nat.le_of_ble_eq_true rfl) hR.2⟩ ⟨by have := hf.1; omega, by have := hf.2; omega⟩ rfl rfl (Nat.le_of_ble_eq_true rfl) dL_law_994 ?_
  refine x_icmp_eq C dL_law_997 (tgt := 2497) (by decide) (fun _ => ?_) (fun h9 => absurd h3 h9)
  exact x_wid (by omega) (by omega) k
def okc_14 (B : StB) (M : StM) (O : StO)  : Prop := ok_X6_totalInk B ∧ ok_X7_totalInk M ∧ (f_X6_totalInk B) = (f_X7_totalInk M).1
def stB_14 (B : StB) (M : StM) (O : StO)  : StB := B
def stM_14 (B : StB) (M : StM) (O : StO)  : StM := (f_X7_totalInk M).2
def stO_14 (B : StB) (M : StM) (O : StO)  : StO := O
set_option maxHeartbeats 4000000 in
set_option maxRecDepth 100000 in
theorem law_c14 (C : CX p l s m args meth c A G ad cL_law "InkBankLaw" 9 (some .boolean)) (hX : va_X b L xs s s.heap ∧ b < s.heap.size ∧ ¬ A b) (hR : 60 ≤ R.frames ∧ 4000 ≤ R.locals) (hf : cells + 8 ≤ R.cells ∧ slots + 48 ≤ R.slots) {i : Int32} (hin : ∀ k : Int32, k = 1 ∨ k = 2 ∨ k = 3 ∨ k = 4 → vp_in (i + k) L)   (hok : okc_14 B M O ) (k : X p l e R s m args below meth c A G ad 9 (cells + 8) (slots + 48) Q (stB_14 B M O ) (stM_14 B M O ) (stO_14 B M O ) [(5, .int i), (0, .ref b), (1, .ref (ad 176)), (2, .ref (ad 193)), (3, .ref (ad 202)), (4, .ref (ad 203))] 2497 []) : X p l e R s m args below meth c A G ad 9 cells slots Q B M O [(5, .int i), (0, .ref b), (1, .ref (ad 176)), (2, .ref (ad 193)), (3, .ref (ad 202)), (4, .ref (ad 203))] 1002 [] := by
  obtain ⟨h1, h2, h3⟩ := hok
  unfold stB_14 stM_14 stO_14 at k
  have hW := c_X6_totalInk (G := G) C.2.2.2.2.2.2.2.1 B M O h1
  have hM := c_X7_totalInk (G := G) C.2.2.2.2.2.2.2.1 (B) M O h2
  refine x_aload_n C 2 dL_law_1002 rfl rfl ?_
  refine x_cLV C (as := []) (rest := []) hW e_I rfl cv_X6_totalInk cd_X6_totalInk we_2_71 ⟨Nat.le_trans (Nat.le_of_ble_eq_true rfl) hR.1, Nat.le_trans (Nat.le_of_ble_eq_true rfl) hR.2⟩ ⟨by have := hf.1; omega, by have := hf.2; omega⟩ rfl rfl (Nat.le_of_ble_eq_true rfl) dL_law_1003 ?_
  refine x_aload_n C 3 dL_law_1006 rfl rfl ?_
  refine x_cLV C (as := []) (rest := [.long _]) hM e_M rfl cv_X7_totalInk cd_X7_totalInk we_8_17 ⟨Nat.le_trans (Nat.le_of_ble_eq_true rfl) hR.1, Nat.le_trans (Nat.le_of_ble_eq_true rfl) hR.2⟩ ⟨by have := hf.1; omega, by have := hf.2; omega⟩ rfl rfl (Nat.le_of_ble_eq_true rfl) dL_law_1007 ?_
  refine x_lcmp C dL_law_1010 ?_
  refine x_if_eq C dL_law_1011 (tgt := 2497) (by decide) (fun _ => ?_) (fun h9 => absurd (by rw [h3]; exact lg_cmp_self _) h9)
  exact x_wid (by omega) (by omega) k
def okc_15 (B : StB) (M : StM) (O : StO)  : Prop := True ∧ True ∧ (f_X6_totalInkByMovements B) = (f_X7_totalInkByMovements M).1
def stB_15 (B : StB) (M : StM) (O : StO)  : StB := B
def stM_15 (B : StB) (M : StM) (O : StO)  : StM := (f_X7_totalInkByMovements M).2
def stO_15 (B : StB) (M : StM) (O : StO)  : StO := O
set_option maxHeartbeats 4000000 in
set_option maxRecDepth 100000 in
theorem law_c15 (C : CX p l s m args meth c A G ad cL_law "InkBankLaw" 9 (some .boolean)) (hX : va_X b L xs s s.heap ∧ b < s.heap.size ∧ ¬ A b) (hR : 60 ≤ R.frames ∧ 4000 ≤ R.locals) (hf : cells + 8 ≤ R.cells ∧ slots + 48 ≤ R.slots) {i : Int32} (hin : ∀ k : Int32, k = 1 ∨ k = 2 ∨ k = 3 ∨ k = 4 → vp_in (i + k) L)   (hok : okc_15 B M O ) (k : X p l e R s m args below meth c A G ad 9 (cells + 8) (slots + 48) Q (stB_15 B M O ) (stM_15 B M O ) (stO_15 B M O ) [(5, .int i), (0, .ref b), (1, .ref (ad 176)), (2, .ref (ad 193)), (3, .ref (ad 202)), (4, .ref (ad 203))] 2497 []) : X p l e R s m args below meth c A G ad 9 cells slots Q B M O [(5, .int i), (0, .ref b), (1, .ref (ad 176)), (2, .ref (ad 193)), (3, .ref (ad 202)), (4, .ref (ad 203))] 1016 [] := by
  obtain ⟨h1, h2, h3⟩ := hok
  unfold stB_15 stM_15 stO_15 at k
  have hW := c_X6_totalInkByMovements (G := G) C.2.2.2.2.2.2.2.1 B M O 
  have hM := c_X7_totalInkByMovements (G := G) C.2.2.2.2.2.2.2.1 (B) M O 
  refine x_aload_n C 2 dL_law_1016 rfl rfl ?_
  refine x_cLV C (as := []) (rest := []) hW e_I rfl cv_X6_totalInkByMovements cd_X6_totalInkByMovements we_2_79 ⟨Nat.le_trans (Nat.le_of_ble_eq_true rfl) hR.1, Nat.le_trans (Nat.le_of_ble_eq_true rfl) hR.2⟩ ⟨by have := hf.1; omega, by have := hf.2; omega⟩ rfl rfl (Nat.le_of_ble_eq_true rfl) dL_law_1017 ?_
  refine x_aload_n C 3 dL_law_1020 rfl rfl ?_
  refine x_cLV C (as := []) (rest := [.long _]) hM e_M rfl cv_X7_totalInkByMovements cd_X7_totalInkByMovements we_8_21 ⟨Nat.le_trans (Nat.le_of_ble_eq_true rfl) hR.1, Nat.le_trans (Nat.le_of_ble_eq_true rfl) hR.2⟩ ⟨by have := hf.1; omega, by have := hf.2; omega⟩ rfl rfl (Nat.le_of_ble_eq_true rfl) dL_law_1021 ?_
  refine x_lcmp C dL_law_1024 ?_
  refine x_if_eq C dL_law_1025 (tgt := 2497) (by decide) (fun _ => ?_) (fun h9 => absurd (by rw [h3]; exact lg_cmp_self _) h9)
  exact x_wid (by omega) (by omega) k
def okc_16 (B : StB) (M : StM) (O : StO)  : Prop := True ∧ True ∧ (f_X6_transferredInk B) = (f_X7_transferredInk M).1
def stB_16 (B : StB) (M : StM) (O : StO)  : StB := B
def stM_16 (B : StB) (M : StM) (O : StO)  : StM := (f_X7_transferredInk M).2
def stO_16 (B : StB) (M : StM) (O : StO)  : StO := O
set_option maxHeartbeats 4000000 in
set_option maxRecDepth 100000 in
theorem law_c16 (C : CX p l s m args meth c A G ad cL_law "InkBankLaw" 9 (some .boolean)) (hX : va_X b L xs s s.heap ∧ b < s.heap.size ∧ ¬ A b) (hR : 60 ≤ R.frames ∧ 4000 ≤ R.locals) (hf : cells + 8 ≤ R.cells ∧ slots + 48 ≤ R.slots) {i : Int32} (hin : ∀ k : Int32, k = 1 ∨ k = 2 ∨ k = 3 ∨ k = 4 → vp_in (i + k) L)   (hok : okc_16 B M O ) (k : X p l e R s m args below meth c A G ad 9 (cells + 8) (slots + 48) Q (stB_16 B M O ) (stM_16 B M O ) (stO_16 B M O ) [(5, .int i), (0, .ref b), (1, .ref (ad 176)), (2, .ref (ad 193)), (3, .ref (ad 202)), (4, .ref (ad 203))] 2497 []) : X p l e R s m args below meth c A G ad 9 cells slots Q B M O [(5, .int i), (0, .ref b), (1, .ref (ad 176)), (2, .ref (ad 193)), (3, .ref (ad 202)), (4, .ref (ad 203))] 1030 [] := by
  obtain ⟨h1, h2, h3⟩ := hok
  unfold stB_16 stM_16 stO_16 at k
  have hW := c_X6_transferredInk (G := G) C.2.2.2.2.2.2.2.1 B M O 
  have hM := c_X7_transferredInk (G := G) C.2.2.2.2.2.2.2.1 (B) M O 
  refine x_aload_n C 2 dL_law_1030 rfl rfl ?_
  refine x_cLV C (as := []) (rest := []) hW e_I rfl cv_X6_transferredInk cd_X6_transferredInk we_2_83 ⟨Nat.le_trans (Nat.le_of_ble_eq_true rfl) hR.1, Nat.le_trans (Nat.le_of_ble_eq_true rfl) hR.2⟩ ⟨by have := hf.1; omega, by have := hf.2; omega⟩ rfl rfl (Nat.le_of_ble_eq_true rfl) dL_law_1031 ?_
  refine x_aload_n C 3 dL_law_1034 rfl rfl ?_
  refine x_cLV C (as := []) (rest := [.long _]) hM e_M rfl cv_X7_transferredInk cd_X7_transferredInk we_8_25 ⟨Nat.le_trans (Nat.le_of_ble_eq_true rfl) hR.1, Nat.le_trans (Nat.le_of_ble_eq_true rfl) hR.2⟩ ⟨by have := hf.1; omega, by have := hf.2; omega⟩ rfl rfl (Nat.le_of_ble_eq_true rfl) dL_law_1035 ?_
  refine x_lcmp C dL_law_1038 ?_
  refine x_if_eq C dL_law_1039 (tgt := 2497) (by decide) (fun _ => ?_) (fun h9 => absurd (by rw [h3]; exact lg_cmp_self _) h9)
  exact x_wid (by omega) (by omega) k
def okc_17 (B : StB) (M : StM) (O : StO)  : Prop := True ∧ True ∧ (f_X6_interestPaid B) = (f_X7_interestPaid M).1
def stB_17 (B : StB) (M : StM) (O : StO)  : StB := B
def stM_17 (B : StB) (M : StM) (O : StO)  : StM := (f_X7_interestPaid M).2
def stO_17 (B : StB) (M : StM) (O : StO)  : StO := O
set_option maxHeartbeats 4000000 in
set_option maxRecDepth 100000 in
theorem law_c17 (C : CX p l s m args meth c A G ad cL_law "InkBankLaw" 9 (some .boolean)) (hX : va_X b L xs s s.heap ∧ b < s.heap.size ∧ ¬ A b) (hR : 60 ≤ R.frames ∧ 4000 ≤ R.locals) (hf : cells + 8 ≤ R.cells ∧ slots + 48 ≤ R.slots) {i : Int32} (hin : ∀ k : Int32, k = 1 ∨ k = 2 ∨ k = 3 ∨ k = 4 → vp_in (i + k) L)   (hok : okc_17 B M O ) (k : X p l e R s m args below meth c A G ad 9 (cells + 8) (slots + 48) Q (stB_17 B M O ) (stM_17 B M O ) (stO_17 B M O ) [(5, .int i), (0, .ref b), (1, .ref (ad 176)), (2, .ref (ad 193)), (3, .ref (ad 202)), (4, .ref (ad 203))] 2497 []) : X p l e R s m args below meth c A G ad 9 cells slots Q B M O [(5, .int i), (0, .ref b), (1, .ref (ad 176)), (2, .ref (ad 193)), (3, .ref (ad 202)), (4, .ref (ad 203))] 1044 [] := by
  obtain ⟨h1, h2, h3⟩ := hok
  unfold stB_17 stM_17 stO_17 at k
  have hW := c_X6_interestPaid (G := G) C.2.2.2.2.2.2.2.1 B M O 
  have hM := c_X7_interestPaid (G := G) C.2.2.2.2.2.2.2.1 (B) M O 
  refine x_aload_n C 2 dL_law_1044 rfl rfl ?_
  refine x_cLV C (as := []) (rest := []) hW e_I rfl cv_X6_interestPaid cd_X6_interestPaid we_2_87 ⟨Nat.le_trans (Nat.le_of_ble_eq_true rfl) hR.1, Nat.le_trans (Nat.le_of_ble_eq_true rfl) hR.2⟩ ⟨by have := hf.1; omega, by have := hf.2; omega⟩ rfl rfl (Nat.le_of_ble_eq_true rfl) dL_law_1045 ?_
  refine x_aload_n C 3 dL_law_1048 rfl rfl ?_
  refine x_cLV C (as := []) (rest := [.long _]) hM e_M rfl cv_X7_interestPaid cd_X7_interestPaid we_8_29 ⟨Nat.le_trans (Nat.le_of_ble_eq_true rfl) hR.1, Nat.le_trans (Nat.le_of_ble_eq_true rfl) hR.2⟩ ⟨by have := hf.1; omega, by have := hf.2; omega⟩ rfl rfl (Nat.le_of_ble_eq_true rfl) dL_law_1049 ?_
  refine x_lcmp C dL_law_1052 ?_
  refine x_if_eq C dL_law_1053 (tgt := 2497) (by decide) (fun _ => ?_) (fun h9 => absurd (by rw [h3]; exact lg_cmp_self _) h9)
  exact x_wid (by omega) (by omega) k
def okc_18 (B : StB) (M : StM) (O : StO)  : Prop := True ∧ True ∧ (f_X6_chargesPaid B) = (f_X7_chargesPaid M).1
def stB_18 (B : StB) (M : StM) (O : StO)  : StB := B
def stM_18 (B : StB) (M : StM) (O : StO)  : StM := (f_X7_chargesPaid M).2
def stO_18 (B : StB) (M : StM) (O : StO)  : StO := O
set_option maxHeartbeats 4000000 in
set_option maxRecDepth 100000 in
theorem law_c18 (C : CX p l s m args meth c A G ad cL_law "InkBankLaw" 9 (some .boolean)) (hX : va_X b L xs s s.heap ∧ b < s.heap.size ∧ ¬ A b) (hR : 60 ≤ R.frames ∧ 4000 ≤ R.locals) (hf : cells + 8 ≤ R.cells ∧ slots + 48 ≤ R.slots) {i : Int32} (hin : ∀ k : Int32, k = 1 ∨ k = 2 ∨ k = 3 ∨ k = 4 → vp_in (i + k) L)   (hok : okc_18 B M O ) (k : X p l e R s m args below meth c A G ad 9 (cells + 8) (slots + 48) Q (stB_18 B M O ) (stM_18 B M O ) (stO_18 B M O ) [(5, .int i), (0, .ref b), (1, .ref (ad 176)), (2, .ref (ad 193)), (3, .ref (ad 202)), (4, .ref (ad 203))] 2497 []) : X p l e R s m args below meth c A G ad 9 cells slots Q B M O [(5, .int i), (0, .ref b), (1, .ref (ad 176)), (2, .ref (ad 193)), (3, .ref (ad 202)), (4, .ref (ad 203))] 1058 [] := by
  obtain ⟨h1, h2, h3⟩ := hok
  unfold stB_18 stM_18 stO_18 at k
  have hW := c_X6_chargesPaid (G := G) C.2.2.2.2.2.2.2.1 B M O 
  have hM := c_X7_chargesPaid (G := G) C.2.2.2.2.2.2.2.1 (B) M O 
  refine x_aload_n C 2 dL_law_1058 rfl rfl ?_
  refine x_cLV C (as := []) (rest := []) hW e_I rfl cv_X6_chargesPaid cd_X6_chargesPaid we_2_91 ⟨Nat.le_trans (Nat.le_of_ble_eq_true rfl) hR.1, Nat.le_trans (Nat.le_of_ble_eq_true rfl) hR.2⟩ ⟨by have := hf.1; omega, by have := hf.2; omega⟩ rfl rfl (Nat.le_of_ble_eq_true rfl) dL_law_1059 ?_
  refine x_aload_n C 3 dL_law_1062 rfl rfl ?_
  refine x_cLV C (as := []) (rest := [.long _]) hM e_M rfl cv_X7_chargesPaid cd_X7_chargesPaid we_8_33 ⟨Nat.le_trans (Nat.le_of_ble_eq_true rfl) hR.1, Nat.le_trans (Nat.le_of_ble_eq_true rfl) hR.2⟩ ⟨by have := hf.1; omega, by have := hf.2; omega⟩ rfl rfl (Nat.le_of_ble_eq_true rfl) dL_law_1063 ?_
  refine x_lcmp C dL_law_1066 ?_
  refine x_if_eq C dL_law_1067 (tgt := 2497) (by decide) (fun _ => ?_) (fun h9 => absurd (by rw [h3]; exact lg_cmp_self _) h9)
  exact x_wid (by omega) (by omega) k
def okc_19 (B : StB) (M : StM) (O : StO)  : Prop := True ∧ True ∧ (f_X6_day B) = (f_X7_day M).1
def stB_19 (B : StB) (M : StM) (O : StO)  : StB := B
def stM_19 (B : StB) (M : StM) (O : StO)  : StM := (f_X7_day M).2
def stO_19 (B : StB) (M : StM) (O : StO)  : StO := O
set_option maxHeartbeats 4000000 in
set_option maxRecDepth 100000 in
theorem law_c19 (C : CX p l s m args meth c A G ad cL_law "InkBankLaw" 9 (some .boolean)) (hX : va_X b L xs s s.heap ∧ b < s.heap.size ∧ ¬ A b) (hR : 60 ≤ R.frames ∧ 4000 ≤ R.locals) (hf : cells + 8 ≤ R.cells ∧ slots + 48 ≤ R.slots) {i : Int32} (hin : ∀ k : Int32, k = 1 ∨ k = 2 ∨ k = 3 ∨ k = 4 → vp_in (i + k) L)   (hok : okc_19 B M O ) (k : X p l e R s m args below meth c A G ad 9 (cells + 8) (slots + 48) Q (stB_19 B M O ) (stM_19 B M O ) (stO_19 B M O ) [(5, .int i), (0, .ref b), (1, .ref (ad 176)), (2, .ref (ad 193)), (3, .ref (ad 202)), (4, .ref (ad 203))] 2497 []) : X p l e R s m args below meth c A G ad 9 cells slots Q B M O [(5, .int i), (0, .ref b), (1, .ref (ad 176)), (2, .ref (ad 193)), (3, .ref (ad 202)), (4, .ref (ad 203))] 1072 [] := by
  obtain ⟨h1, h2, h3⟩ := hok
  unfold stB_19 stM_19 stO_19 at k
  have hW := c_X6_day (G := G) C.2.2.2.2.2.2.2.1 B M O 
  have hM := c_X7_day (G := G) C.2.2.2.2.2.2.2.1 (B) M O 
  refine x_aload_n C 2 dL_law_1072 rfl rfl ?_
  refine x_cIV C (as := []) (rest := []) hW e_I rfl cv_X6_day cd_X6_day we_2_95 ⟨Nat.le_trans (Nat.le_of_ble_eq_true rfl) hR.1, Nat.le_trans (Nat.le_of_ble_eq_true rfl) hR.2⟩ ⟨by have := hf.1; omega, by have := hf.2; omega⟩ rfl rfl (Nat.le_of_ble_eq_true rfl) dL_law_1073 ?_
  refine x_aload_n C 3 dL_law_1076 rfl rfl ?_
  refine x_cIV C (as := []) (rest := [.int _]) hM e_M rfl cv_X7_day cd_X7_day we_8_37 ⟨Nat.le_trans (Nat.le_of_ble_eq_true rfl) hR.1, Nat.le_trans (Nat.le_of_ble_eq_true rfl) hR.2⟩ ⟨by have := hf.1; omega, by have := hf.2; omega⟩ rfl rfl (Nat.le_of_ble_eq_true rfl) dL_law_1077 ?_
  refine x_icmp_eq C dL_law_1080 (tgt := 2497) (by decide) (fun _ => ?_) (fun h9 => absurd h3 h9)
  exact x_wid (by omega) (by omega) k
def okc_20 (B : StB) (M : StM) (O : StO) (y1 : Int32)  : Prop := ok_X6_endDays B y1 ∧ ((f_X6_endDays B y1).1 = 0 ∨ (f_X6_endDays B y1).1 = 2 ) ∧ ok_X7_endDays M y1 ∧ f_X7_thrown ((f_X7_endDays M y1)).2 = (wr [2] (f_X6_endDays B y1) O).1 ∧ ((wr [2] (f_X6_endDays B y1) O).1 = 0 → (wr [2] (f_X6_endDays B y1) O).2.2.1 = ((f_X7_endDays M y1)).1.toInt64)
def stB_20 (B : StB) (M : StM) (O : StO) (y1 : Int32)  : StB := (wr [2] (f_X6_endDays B y1) O).2.1
def stM_20 (B : StB) (M : StM) (O : StO) (y1 : Int32)  : StM := ((f_X7_endDays M y1)).2
def stO_20 (B : StB) (M : StM) (O : StO) (y1 : Int32)  : StO := (wr [2] (f_X6_endDays B y1) O).2.2
set_option maxHeartbeats 4000000 in
set_option maxRecDepth 100000 in
theorem law_c20 (C : CX p l s m args meth c A G ad cL_law "InkBankLaw" 9 (some .boolean)) (hX : va_X b L xs s s.heap ∧ b < s.heap.size ∧ ¬ A b) (hR : 60 ≤ R.frames ∧ 4000 ≤ R.locals) (hf : cells + 8 ≤ R.cells ∧ slots + 48 ≤ R.slots) {i : Int32} (hin : ∀ k : Int32, k = 1 ∨ k = 2 ∨ k = 3 ∨ k = 4 → vp_in (i + k) L) {y1 : Int32}  (hy1 : xs (ix (i + 1)) = y1) (hok : okc_20 B M O y1) (k : X p l e R s m args below meth c A G ad 9 (cells + 8) (slots + 48) Q (stB_20 B M O y1) (stM_20 B M O y1) (stO_20 B M O y1) [(5, .int i), (0, .ref b), (1, .ref (ad 176)), (2, .ref (ad 193)), (3, .ref (ad 202)), (4, .ref (ad 203))] 2497 []) : X p l e R s m args below meth c A G ad 9 cells slots Q B M O [(5, .int i), (0, .ref b), (1, .ref (ad 176)), (2, .ref (ad 193)), (3, .ref (ad 202)), (4, .ref (ad 203))] 1085 [] := by
  obtain ⟨h1, h2, h3, h4, h5⟩ := hok
  unfold stB_20 stM_20 stO_20 at k
  have hW := lc_endDays (G := G) C.2.2.2.2.2.2.2.1 B M O (y1) h1 (f_X6_endDays B y1) rfl h2 (wr [2] (f_X6_endDays B y1) O) rfl
  have hM := c_X7_endDays (G := G) C.2.2.2.2.2.2.2.1 (wr [2] (f_X6_endDays B y1) O).2.1 M (wr [2] (f_X6_endDays B y1) O).2.2 (y1) h3
  generalize (wr [2] (f_X6_endDays B y1) O) = w at h4 h5 hW hM k
  generalize (f_X7_endDays M y1) = g at h4 h5 hM k
  have hT := c_X7_thrown (G := G) C.2.2.2.2.2.2.2.1 w.2.1 g.2 w.2.2
  refine x_aload_n C 2 dL_law_1085 rfl rfl ?_
  refine x_aload_n C 1 dL_law_1086 rfl rfl ?_
  refine x_iload C 0 dL_law_1087 rfl ?_
  refine x_iconst C (v := 1) dL_law_1089 (by decide) ?_
  refine x_iadd C dL_law_1090 ?_
  refine x_sld C hX (hin 1 (by decide)) dL_law_1091 ?_
  rw [hy1]
  refine x_aload_n C 4 dL_law_1092 rfl rfl ?_
  refine x_cWS C (as := [.ref (ad 176), .int y1, .ref (ad 202)]) (rest := []) (n := 3) hW we_4_17 we_4_18 we_1_0 we_4_19 ⟨by decide, by decide, by decide +kernel⟩ ⟨Nat.le_trans (Nat.le_of_ble_eq_true rfl) hR.1, Nat.le_trans (Nat.le_of_ble_eq_true rfl) hR.2⟩ ⟨by have := hf.1; omega, by have := hf.2; omega⟩ rfl rfl (Nat.le_of_ble_eq_true rfl) dL_law_1093 ?_
  refine x_istore C dL_law_1096 (by decide) rfl ?_
  refine x_aload_n C 4 dL_law_1098 rfl rfl ?_
  refine x_aload_n C 2 dL_law_1099 rfl rfl ?_
  refine x_iload C 1 dL_law_1100 rfl ?_
  refine x_iconst C (v := 1) dL_law_1102 (by decide) ?_
  refine x_iadd C dL_law_1103 ?_
  refine x_sld C hX (hin 1 (by decide)) dL_law_1104 ?_
  rw [hy1]
  refine x_cIV C (as := [.int y1]) (rest := []) hM e_M rfl cv_X7_endDays cd_X7_endDays we_7_176 ⟨Nat.le_trans (Nat.le_of_ble_eq_true rfl) hR.1, Nat.le_trans (Nat.le_of_ble_eq_true rfl) hR.2⟩ ⟨by have := hf.1; omega, by have := hf.2; omega⟩ rfl rfl (Nat.le_of_ble_eq_true rfl) dL_law_1105 ?_
  refine x_istore C dL_law_1108 (by decide) rfl ?_
  refine x_aload_n C 5 dL_law_1110 rfl rfl ?_
  refine x_cIV C (as := []) (rest := []) hT e_M rfl cv_X7_thrown cd_X7_thrown we_7_51 ⟨Nat.le_trans (Nat.le_of_ble_eq_true rfl) hR.1, Nat.le_trans (Nat.le_of_ble_eq_true rfl) hR.2⟩ ⟨by have := hf.1; omega, by have := hf.2; omega⟩ rfl rfl (Nat.le_of_ble_eq_true rfl) dL_law_1111 ?_
  refine x_iload C 1 dL_law_1114 rfl ?_
  refine x_icmp_eq C dL_law_1116 (tgt := 1121) (by decide) (fun _ => ?_) (fun h9 => absurd h4 h9)
  refine x_iload C 1 dL_law_1121 rfl ?_
  refine x_if_ne C dL_law_1123 (tgt := 1138) (by decide) (fun _ => ?_) (fun h0 => ?_)
  · skip
    refine x_goto C dL_law_1138 (tgt := 2497) (by decide) ?_
    refine x_sub [2, 3, 4, 5, 6, 7] (ls2 := [(5, .int i), (0, .ref b), (1, .ref (ad 176)), (2, .ref (ad 193)), (3, .ref (ad 202)), (4, .ref (ad 203))]) rfl ?_
    exact x_wid (by omega) (by omega) k
  · skip
    refine x_aload_n C 6 dL_law_1126 rfl rfl ?_
    refine x_iconst C (v := 0) dL_law_1127 (by decide) ?_
    refine x_lald C dL_law_1128 ?_
    refine x_iload C 0 dL_law_1129 rfl ?_
    refine x_i2l C dL_law_1131 ?_
    refine x_lcmp C dL_law_1132 ?_
    refine x_if_eq C dL_law_1133 (tgt := 1138) (by decide) (fun _ => ?_) (fun h9 => absurd (by rw [h5 h0]; exact lg_cmp_self _) h9)
    refine x_goto C dL_law_1138 (tgt := 2497) (by decide) ?_
    refine x_sub [2, 3, 4, 5, 6, 7] (ls2 := [(5, .int i), (0, .ref b), (1, .ref (ad 176)), (2, .ref (ad 193)), (3, .ref (ad 202)), (4, .ref (ad 203))]) rfl ?_
    exact x_wid (by omega) (by omega) k
def okc_21 (B : StB) (M : StM) (O : StO) (y1 : Int32) (y2 : Int32)  : Prop := ok_X6_balanceAfter B y1 y2 ∧ ((f_X6_balanceAfter B y1 y2).1 = 0 ∨ (f_X6_balanceAfter B y1 y2).1 = 1 ∨ (f_X6_balanceAfter B y1 y2).1 = 2 ) ∧ ok_X7_balanceAfter M y1 y2 ∧ f_X7_thrown ((f_X7_balanceAfter M y1 y2)).2 = (wr [1, 2] (f_X6_balanceAfter B y1 y2) O).1 ∧ ((wr [1, 2] (f_X6_balanceAfter B y1 y2) O).1 = 0 → (wr [1, 2] (f_X6_balanceAfter B y1 y2) O).2.2.1 = ((f_X7_balanceAfter M y1 y2)).1.toInt64)
def stB_21 (B : StB) (M : StM) (O : StO) (y1 : Int32) (y2 : Int32)  : StB := (wr [1, 2] (f_X6_balanceAfter B y1 y2) O).2.1
def stM_21 (B : StB) (M : StM) (O : StO) (y1 : Int32) (y2 : Int32)  : StM := ((f_X7_balanceAfter M y1 y2)).2
def stO_21 (B : StB) (M : StM) (O : StO) (y1 : Int32) (y2 : Int32)  : StO := (wr [1, 2] (f_X6_balanceAfter B y1 y2) O).2.2
set_option maxHeartbeats 4000000 in
set_option maxRecDepth 100000 in
theorem law_c21 (C : CX p l s m args meth c A G ad cL_law "InkBankLaw" 9 (some .boolean)) (hX : va_X b L xs s s.heap ∧ b < s.heap.size ∧ ¬ A b) (hR : 60 ≤ R.frames ∧ 4000 ≤ R.locals) (hf : cells + 8 ≤ R.cells ∧ slots + 48 ≤ R.slots) {i : Int32} (hin : ∀ k : Int32, k = 1 ∨ k = 2 ∨ k = 3 ∨ k = 4 → vp_in (i + k) L) {y1 : Int32} {y2 : Int32}  (hy1 : xs (ix (i + 1)) = y1) (hy2 : xs (ix (i + 2)) = y2) (hok : okc_21 B M O y1 y2) (k : X p l e R s m args below meth c A G ad 9 (cells + 8) (slots + 48) Q (stB_21 B M O y1 y2) (stM_21 B M O y1 y2) (stO_21 B M O y1 y2) [(5, .int i), (0, .ref b), (1, .ref (ad 176)), (2, .ref (ad 193)), (3, .ref (ad 202)), (4, .ref (ad 203))] 2497 []) : X p l e R s m args below meth c A G ad 9 cells slots Q B M O [(5, .int i), (0, .ref b), (1, .ref (ad 176)), (2, .ref (ad 193)), (3, .ref (ad 202)), (4, .ref (ad 203))] 1141 [] := by
  obtain ⟨h1, h2, h3, h4, h5⟩ := hok
  unfold stB_21 stM_21 stO_21 at k
  have hW := lc_balanceAfter (G := G) C.2.2.2.2.2.2.2.1 B M O (y1) (y2) h1 (f_X6_balanceAfter B y1 y2) rfl h2 (wr [1, 2] (f_X6_balanceAfter B y1 y2) O) rfl
  have hM := c_X7_balanceAfter (G := G) C.2.2.2.2.2.2.2.1 (wr [1, 2] (f_X6_balanceAfter B y1 y2) O).2.1 M (wr [1, 2] (f_X6_balanceAfter B y1 y2) O).2.2 (y1) (y2) h3
  generalize (wr [1, 2] (f_X6_balanceAfter B y1 y2) O) = w at h4 h5 hW hM k
  generalize (f_X7_balanceAfter M y1 y2) = g at h4 h5 hM k
  have hT := c_X7_thrown (G := G) C.2.2.2.2.2.2.2.1 w.2.1 g.2 w.2.2
  refine x_aload_n C 2 dL_law_1141 rfl rfl ?_
  refine x_aload_n C 1 dL_law_1142 rfl rfl ?_
  refine x_iload C 0 dL_law_1143 rfl ?_
  refine x_iconst C (v := 1) dL_law_1145 (by decide) ?_
  refine x_iadd C dL_law_1146 ?_
  refine x_sld C hX (hin 1 (by decide)) dL_law_1147 ?_
  rw [hy1]
  refine x_aload_n C 1 dL_law_1148 rfl rfl ?_
  refine x_iload C 0 dL_law_1149 rfl ?_
  refine x_iconst C (v := 2) dL_law_1151 (by decide) ?_
  refine x_iadd C dL_law_1152 ?_
  refine x_sld C hX (hin 2 (by decide)) dL_law_1153 ?_
  rw [hy2]
  refine x_aload_n C 4 dL_law_1154 rfl rfl ?_
  refine x_cWS C (as := [.ref (ad 176), .int y1, .int y2, .ref (ad 202)]) (rest := []) (n := 4) hW we_4_59 we_4_60 we_1_0 we_4_61 ⟨by decide, by decide, by decide +kernel⟩ ⟨Nat.le_trans (Nat.le_of_ble_eq_true rfl) hR.1, Nat.le_trans (Nat.le_of_ble_eq_true rfl) hR.2⟩ ⟨by have := hf.1; omega, by have := hf.2; omega⟩ rfl rfl (Nat.le_of_ble_eq_true rfl) dL_law_1155 ?_
  refine x_istore C dL_law_1158 (by decide) rfl ?_
  refine x_aload_n C 4 dL_law_1160 rfl rfl ?_
  refine x_aload_n C 2 dL_law_1161 rfl rfl ?_
  refine x_iload C 1 dL_law_1162 rfl ?_
  refine x_iconst C (v := 1) dL_law_1164 (by decide) ?_
  refine x_iadd C dL_law_1165 ?_
  refine x_sld C hX (hin 1 (by decide)) dL_law_1166 ?_
  rw [hy1]
  refine x_aload_n C 2 dL_law_1167 rfl rfl ?_
  refine x_iload C 1 dL_law_1168 rfl ?_
  refine x_iconst C (v := 2) dL_law_1170 (by decide) ?_
  refine x_iadd C dL_law_1171 ?_
  refine x_sld C hX (hin 2 (by decide)) dL_law_1172 ?_
  rw [hy2]
  refine x_cIV C (as := [.int y1, .int y2]) (rest := []) hM e_M rfl cv_X7_balanceAfter cd_X7_balanceAfter we_8_41 ⟨Nat.le_trans (Nat.le_of_ble_eq_true rfl) hR.1, Nat.le_trans (Nat.le_of_ble_eq_true rfl) hR.2⟩ ⟨by have := hf.1; omega, by have := hf.2; omega⟩ rfl rfl (Nat.le_of_ble_eq_true rfl) dL_law_1173 ?_
  refine x_istore C dL_law_1176 (by decide) rfl ?_
  refine x_aload_n C 5 dL_law_1178 rfl rfl ?_
  refine x_cIV C (as := []) (rest := []) hT e_M rfl cv_X7_thrown cd_X7_thrown we_7_51 ⟨Nat.le_trans (Nat.le_of_ble_eq_true rfl) hR.1, Nat.le_trans (Nat.le_of_ble_eq_true rfl) hR.2⟩ ⟨by have := hf.1; omega, by have := hf.2; omega⟩ rfl rfl (Nat.le_of_ble_eq_true rfl) dL_law_1179 ?_
  refine x_iload C 1 dL_law_1182 rfl ?_
  refine x_icmp_eq C dL_law_1184 (tgt := 1189) (by decide) (fun _ => ?_) (fun h9 => absurd h4 h9)
  refine x_iload C 1 dL_law_1189 rfl ?_
  refine x_if_ne C dL_law_1191 (tgt := 1206) (by decide) (fun _ => ?_) (fun h0 => ?_)
  · skip
    refine x_goto C dL_law_1206 (tgt := 2497) (by decide) ?_
    refine x_sub [2, 3, 4, 5, 6, 7] (ls2 := [(5, .int i), (0, .ref b), (1, .ref (ad 176)), (2, .ref (ad 193)), (3, .ref (ad 202)), (4, .ref (ad 203))]) rfl ?_
    exact x_wid (by omega) (by omega) k
  · skip
    refine x_aload_n C 6 dL_law_1194 rfl rfl ?_
    refine x_iconst C (v := 0) dL_law_1195 (by decide) ?_
    refine x_lald C dL_law_1196 ?_
    refine x_iload C 0 dL_law_1197 rfl ?_
    refine x_i2l C dL_law_1199 ?_
    refine x_lcmp C dL_law_1200 ?_
    refine x_if_eq C dL_law_1201 (tgt := 1206) (by decide) (fun _ => ?_) (fun h9 => absurd (by rw [h5 h0]; exact lg_cmp_self _) h9)
    refine x_goto C dL_law_1206 (tgt := 2497) (by decide) ?_
    refine x_sub [2, 3, 4, 5, 6, 7] (ls2 := [(5, .int i), (0, .ref b), (1, .ref (ad 176)), (2, .ref (ad 193)), (3, .ref (ad 202)), (4, .ref (ad 203))]) rfl ?_
    exact x_wid (by omega) (by omega) k
def okc_22 (B : StB) (M : StM) (O : StO) (y1 : Int32) (y2 : Int32) (y3 : Int32) (y4 : Int32)  : Prop := ok_X6_seal B y1 y2 y3 y4 ∧ ((f_X6_seal B y1 y2 y3 y4).1 = 0 ∨ (f_X6_seal B y1 y2 y3 y4).1 = 1 ∨ (f_X6_seal B y1 y2 y3 y4).1 = 2 ∨ (f_X6_seal B y1 y2 y3 y4).1 = 4 ) ∧ ok_X7_seal M y1 y2 y3 y4 ∧ f_X7_thrown ((f_X7_seal M y1 y2 y3 y4)).2 = (wr [1, 2, 4] (f_X6_seal B y1 y2 y3 y4) O).1 ∧ ((wr [1, 2, 4] (f_X6_seal B y1 y2 y3 y4) O).1 = 0 → (wr [1, 2, 4] (f_X6_seal B y1 y2 y3 y4) O).2.2.1 = ((f_X7_seal M y1 y2 y3 y4)).1.toInt64)
def stB_22 (B : StB) (M : StM) (O : StO) (y1 : Int32) (y2 : Int32) (y3 : Int32) (y4 : Int32)  : StB := (wr [1, 2, 4] (f_X6_seal B y1 y2 y3 y4) O).2.1
def stM_22 (B : StB) (M : StM) (O : StO) (y1 : Int32) (y2 : Int32) (y3 : Int32) (y4 : Int32)  : StM := ((f_X7_seal M y1 y2 y3 y4)).2
def stO_22 (B : StB) (M : StM) (O : StO) (y1 : Int32) (y2 : Int32) (y3 : Int32) (y4 : Int32)  : StO := (wr [1, 2, 4] (f_X6_seal B y1 y2 y3 y4) O).2.2
set_option maxHeartbeats 4000000 in
set_option maxRecDepth 100000 in
theorem law_c22 (C : CX p l s m args meth c A G ad cL_law "InkBankLaw" 9 (some .boolean)) (hX : va_X b L xs s s.heap ∧ b < s.heap.size ∧ ¬ A b) (hR : 60 ≤ R.frames ∧ 4000 ≤ R.locals) (hf : cells + 8 ≤ R.cells ∧ slots + 48 ≤ R.slots) {i : Int32} (hin : ∀ k : Int32, k = 1 ∨ k = 2 ∨ k = 3 ∨ k = 4 → vp_in (i + k) L) {y1 : Int32} {y2 : Int32} {y3 : Int32} {y4 : Int32}  (hy1 : xs (ix (i + 1)) = y1) (hy2 : xs (ix (i + 2)) = y2) (hy3 : xs (ix (i + 3)) = y3) (hy4 : xs (ix (i + 4)) = y4) (hok : okc_22 B M O y1 y2 y3 y4) (k : X p l e R s m args below meth c A G ad 9 (cells + 8) (slots + 48) Q (stB_22 B M O y1 y2 y3 y4) (stM_22 B M O y1 y2 y3 y4) (stO_22 B M O y1 y2 y3 y4) [(5, .int i), (0, .ref b), (1, .ref (ad 176)), (2, .ref (ad 193)), (3, .ref (ad 202)), (4, .ref (ad 203))] 2497 []) : X p l e R s m args below meth c A G ad 9 cells slots Q B M O [(5, .int i), (0, .ref b), (1, .ref (ad 176)), (2, .ref (ad 193)), (3, .ref (ad 202)), (4, .ref (ad 203))] 1209 [] := by
  obtain ⟨h1, h2, h3, h4, h5⟩ := hok
  unfold stB_22 stM_22 stO_22 at k
  have hW := lc_seal (G := G) C.2.2.2.2.2.2.2.1 B M O (y1) (y2) (y3) (y4) h1 (f_X6_seal B y1 y2 y3 y4) rfl h2 (wr [1, 2, 4] (f_X6_seal B y1 y2 y3 y4) O) rfl
  have hM := c_X7_seal (G := G) C.2.2.2.2.2.2.2.1 (wr [1, 2, 4] (f_X6_seal B y1 y2 y3 y4) O).2.1 M (wr [1, 2, 4] (f_X6_seal B y1 y2 y3 y4) O).2.2 (y1) (y2) (y3) (y4) h3
  generalize (wr [1, 2, 4] (f_X6_seal B y1 y2 y3 y4) O) = w at h4 h5 hW hM k
  generalize (f_X7_seal M y1 y2 y3 y4) = g at h4 h5 hM k
  have hT := c_X7_thrown (G := G) C.2.2.2.2.2.2.2.1 w.2.1 g.2 w.2.2
  refine x_aload_n C 2 dL_law_1209 rfl rfl ?_
  refine x_aload_n C 1 dL_law_1210 rfl rfl ?_
  refine x_iload C 0 dL_law_1211 rfl ?_
  refine x_iconst C (v := 1) dL_law_1213 (by decide) ?_
  refine x_iadd C dL_law_1214 ?_
  refine x_sld C hX (hin 1 (by decide)) dL_law_1215 ?_
  rw [hy1]
  refine x_aload_n C 1 dL_law_1216 rfl rfl ?_
  refine x_iload C 0 dL_law_1217 rfl ?_
  refine x_iconst C (v := 2) dL_law_1219 (by decide) ?_
  refine x_iadd C dL_law_1220 ?_
  refine x_sld C hX (hin 2 (by decide)) dL_law_1221 ?_
  rw [hy2]
  refine x_aload_n C 1 dL_law_1222 rfl rfl ?_
  refine x_iload C 0 dL_law_1223 rfl ?_
  refine x_iconst C (v := 3) dL_law_1225 (by decide) ?_
  refine x_iadd C dL_law_1226 ?_
  refine x_sld C hX (hin 3 (by decide)) dL_law_1227 ?_
  rw [hy3]
  refine x_aload_n C 1 dL_law_1228 rfl rfl ?_
  refine x_iload C 0 dL_law_1229 rfl ?_
  refine x_iconst C (v := 4) dL_law_1231 (by decide) ?_
  refine x_iadd C dL_law_1232 ?_
  refine x_sld C hX (hin 4 (by decide)) dL_law_1233 ?_
  rw [hy4]
  refine x_aload_n C 4 dL_law_1234 rfl rfl ?_
  refine x_cWS C (as := [.ref (ad 176), .int y1, .int y2, .int y3, .int y4, .ref (ad 202)]) (rest := []) (n := 6) hW we_4_70 we_4_71 we_1_0 we_4_72 ⟨by decide, by decide, by decide +kernel⟩ ⟨Nat.le_trans (Nat.le_of_ble_eq_true rfl) hR.1, Nat.le_trans (Nat.le_of_ble_eq_true rfl) hR.2⟩ ⟨by have := hf.1; omega, by have := hf.2; omega⟩ rfl rfl (Nat.le_of_ble_eq_true rfl) dL_law_1235 ?_
  refine x_istore C dL_law_1238 (by decide) rfl ?_
  refine x_aload_n C 4 dL_law_1240 rfl rfl ?_
  refine x_aload_n C 2 dL_law_1241 rfl rfl ?_
  refine x_iload C 1 dL_law_1242 rfl ?_
  refine x_iconst C (v := 1) dL_law_1244 (by decide) ?_
  refine x_iadd C dL_law_1245 ?_
  refine x_sld C hX (hin 1 (by decide)) dL_law_1246 ?_
  rw [hy1]
  refine x_aload_n C 2 dL_law_1247 rfl rfl ?_
  refine x_iload C 1 dL_law_1248 rfl ?_
  refine x_iconst C (v := 2) dL_law_1250 (by decide) ?_
  refine x_iadd C dL_law_1251 ?_
  refine x_sld C hX (hin 2 (by decide)) dL_law_1252 ?_
  rw [hy2]
  refine x_aload_n C 2 dL_law_1253 rfl rfl ?_
  refine x_iload C 1 dL_law_1254 rfl ?_
  refine x_iconst C (v := 3) dL_law_1256 (by decide) ?_
  refine x_iadd C dL_law_1257 ?_
  refine x_sld C hX (hin 3 (by decide)) dL_law_1258 ?_
  rw [hy3]
  refine x_aload_n C 2 dL_law_1259 rfl rfl ?_
  refine x_iload C 1 dL_law_1260 rfl ?_
  refine x_iconst C (v := 4) dL_law_1262 (by decide) ?_
  refine x_iadd C dL_law_1263 ?_
  refine x_sld C hX (hin 4 (by decide)) dL_law_1264 ?_
  rw [hy4]
  refine x_cIV C (as := [.int y1, .int y2, .int y3, .int y4]) (rest := []) hM e_M rfl cv_X7_seal cd_X7_seal we_7_148 ⟨Nat.le_trans (Nat.le_of_ble_eq_true rfl) hR.1, Nat.le_trans (Nat.le_of_ble_eq_true rfl) hR.2⟩ ⟨by have := hf.1; omega, by have := hf.2; omega⟩ rfl rfl (Nat.le_of_ble_eq_true rfl) dL_law_1265 ?_
  refine x_istore C dL_law_1268 (by decide) rfl ?_
  refine x_aload_n C 5 dL_law_1270 rfl rfl ?_
  refine x_cIV C (as := []) (rest := []) hT e_M rfl cv_X7_thrown cd_X7_thrown we_7_51 ⟨Nat.le_trans (Nat.le_of_ble_eq_true rfl) hR.1, Nat.le_trans (Nat.le_of_ble_eq_true rfl) hR.2⟩ ⟨by have := hf.1; omega, by have := hf.2; omega⟩ rfl rfl (Nat.le_of_ble_eq_true rfl) dL_law_1271 ?_
  refine x_iload C 1 dL_law_1274 rfl ?_
  refine x_icmp_eq C dL_law_1276 (tgt := 1281) (by decide) (fun _ => ?_) (fun h9 => absurd h4 h9)
  refine x_iload C 1 dL_law_1281 rfl ?_
  refine x_if_ne C dL_law_1283 (tgt := 1298) (by decide) (fun _ => ?_) (fun h0 => ?_)
  · skip
    refine x_goto C dL_law_1298 (tgt := 2497) (by decide) ?_
    refine x_sub [2, 3, 4, 5, 6, 7] (ls2 := [(5, .int i), (0, .ref b), (1, .ref (ad 176)), (2, .ref (ad 193)), (3, .ref (ad 202)), (4, .ref (ad 203))]) rfl ?_
    exact x_wid (by omega) (by omega) k
  · skip
    refine x_aload_n C 6 dL_law_1286 rfl rfl ?_
    refine x_iconst C (v := 0) dL_law_1287 (by decide) ?_
    refine x_lald C dL_law_1288 ?_
    refine x_iload C 0 dL_law_1289 rfl ?_
    refine x_i2l C dL_law_1291 ?_
    refine x_lcmp C dL_law_1292 ?_
    refine x_if_eq C dL_law_1293 (tgt := 1298) (by decide) (fun _ => ?_) (fun h9 => absurd (by rw [h5 h0]; exact lg_cmp_self _) h9)
    refine x_goto C dL_law_1298 (tgt := 2497) (by decide) ?_
    refine x_sub [2, 3, 4, 5, 6, 7] (ls2 := [(5, .int i), (0, .ref b), (1, .ref (ad 176)), (2, .ref (ad 193)), (3, .ref (ad 202)), (4, .ref (ad 203))]) rfl ?_
    exact x_wid (by omega) (by omega) k
def okc_23 (B : StB) (M : StM) (O : StO) (y1 : Int32)  : Prop := ok_X6_cancel B y1 ∧ ((f_X6_cancel B y1).1 = 0 ∨ (f_X6_cancel B y1).1 = 5 ) ∧ ok_X7_cancel M y1 ∧ f_X7_thrown ((f_X7_cancel M y1)).2 = (wr [5] (f_X6_cancel B y1) O).1 ∧ ((wr [5] (f_X6_cancel B y1) O).1 = 0 → (wr [5] (f_X6_cancel B y1) O).2.2.1 = ((f_X7_cancel M y1)).1.toInt64)
def stB_23 (B : StB) (M : StM) (O : StO) (y1 : Int32)  : StB := (wr [5] (f_X6_cancel B y1) O).2.1
def stM_23 (B : StB) (M : StM) (O : StO) (y1 : Int32)  : StM := ((f_X7_cancel M y1)).2
def stO_23 (B : StB) (M : StM) (O : StO) (y1 : Int32)  : StO := (wr [5] (f_X6_cancel B y1) O).2.2
set_option maxHeartbeats 4000000 in
set_option maxRecDepth 100000 in
theorem law_c23 (C : CX p l s m args meth c A G ad cL_law "InkBankLaw" 9 (some .boolean)) (hX : va_X b L xs s s.heap ∧ b < s.heap.size ∧ ¬ A b) (hR : 60 ≤ R.frames ∧ 4000 ≤ R.locals) (hf : cells + 8 ≤ R.cells ∧ slots + 48 ≤ R.slots) {i : Int32} (hin : ∀ k : Int32, k = 1 ∨ k = 2 ∨ k = 3 ∨ k = 4 → vp_in (i + k) L) {y1 : Int32}  (hy1 : xs (ix (i + 1)) = y1) (hok : okc_23 B M O y1) (k : X p l e R s m args below meth c A G ad 9 (cells + 8) (slots + 48) Q (stB_23 B M O y1) (stM_23 B M O y1) (stO_23 B M O y1) [(5, .int i), (0, .ref b), (1, .ref (ad 176)), (2, .ref (ad 193)), (3, .ref (ad 202)), (4, .ref (ad 203))] 2497 []) : X p l e R s m args below meth c A G ad 9 cells slots Q B M O [(5, .int i), (0, .ref b), (1, .ref (ad 176)), (2, .ref (ad 193)), (3, .ref (ad 202)), (4, .ref (ad 203))] 1301 [] := by
  obtain ⟨h1, h2, h3, h4, h5⟩ := hok
  unfold stB_23 stM_23 stO_23 at k
  have hW := lc_cancel (G := G) C.2.2.2.2.2.2.2.1 B M O (y1) h1 (f_X6_cancel B y1) rfl h2 (wr [5] (f_X6_cancel B y1) O) rfl
  have hM := c_X7_cancel (G := G) C.2.2.2.2.2.2.2.1 (wr [5] (f_X6_cancel B y1) O).2.1 M (wr [5] (f_X6_cancel B y1) O).2.2 (y1) h3
  generalize (wr [5] (f_X6_cancel B y1) O) = w at h4 h5 hW hM k
  generalize (f_X7_cancel M y1) = g at h4 h5 hM k
  have hT := c_X7_thrown (G := G) C.2.2.2.2.2.2.2.1 w.2.1 g.2 w.2.2
  refine x_aload_n C 2 dL_law_1301 rfl rfl ?_
  refine x_aload_n C 1 dL_law_1302 rfl rfl ?_
  refine x_iload C 0 dL_law_1303 rfl ?_
  refine x_iconst C (v := 1) dL_law_1305 (by decide) ?_
  refine x_iadd C dL_law_1306 ?_
  refine x_sld C hX (hin 1 (by decide)) dL_law_1307 ?_
  rw [hy1]
  refine x_aload_n C 4 dL_law_1308 rfl rfl ?_
  refine x_cWS C (as := [.ref (ad 176), .int y1, .ref (ad 202)]) (rest := []) (n := 3) hW we_4_85 we_4_86 we_1_0 we_4_87 ⟨by decide, by decide, by decide +kernel⟩ ⟨Nat.le_trans (Nat.le_of_ble_eq_true rfl) hR.1, Nat.le_trans (Nat.le_of_ble_eq_true rfl) hR.2⟩ ⟨by have := hf.1; omega, by have := hf.2; omega⟩ rfl rfl (Nat.le_of_ble_eq_true rfl) dL_law_1309 ?_
  refine x_istore C dL_law_1312 (by decide) rfl ?_
  refine x_aload_n C 4 dL_law_1314 rfl rfl ?_
  refine x_aload_n C 2 dL_law_1315 rfl rfl ?_
  refine x_iload C 1 dL_law_1316 rfl ?_
  refine x_iconst C (v := 1) dL_law_1318 (by decide) ?_
  refine x_iadd C dL_law_1319 ?_
  refine x_sld C hX (hin 1 (by decide)) dL_law_1320 ?_
  rw [hy1]
  refine x_cIV C (as := [.int y1]) (rest := []) hM e_M rfl cv_X7_cancel cd_X7_cancel we_7_156 ⟨Nat.le_trans (Nat.le_of_ble_eq_true rfl) hR.1, Nat.le_trans (Nat.le_of_ble_eq_true rfl) hR.2⟩ ⟨by have := hf.1; omega, by have := hf.2; omega⟩ rfl rfl (Nat.le_of_ble_eq_true rfl) dL_law_1321 ?_
  refine x_istore C dL_law_1324 (by decide) rfl ?_
  refine x_aload_n C 5 dL_law_1326 rfl rfl ?_
  refine x_cIV C (as := []) (rest := []) hT e_M rfl cv_X7_thrown cd_X7_thrown we_7_51 ⟨Nat.le_trans (Nat.le_of_ble_eq_true rfl) hR.1, Nat.le_trans (Nat.le_of_ble_eq_true rfl) hR.2⟩ ⟨by have := hf.1; omega, by have := hf.2; omega⟩ rfl rfl (Nat.le_of_ble_eq_true rfl) dL_law_1327 ?_
  refine x_iload C 1 dL_law_1330 rfl ?_
  refine x_icmp_eq C dL_law_1332 (tgt := 1337) (by decide) (fun _ => ?_) (fun h9 => absurd h4 h9)
  refine x_iload C 1 dL_law_1337 rfl ?_
  refine x_if_ne C dL_law_1339 (tgt := 1354) (by decide) (fun _ => ?_) (fun h0 => ?_)
  · skip
    refine x_goto C dL_law_1354 (tgt := 2497) (by decide) ?_
    refine x_sub [2, 3, 4, 5, 6, 7] (ls2 := [(5, .int i), (0, .ref b), (1, .ref (ad 176)), (2, .ref (ad 193)), (3, .ref (ad 202)), (4, .ref (ad 203))]) rfl ?_
    exact x_wid (by omega) (by omega) k
  · skip
    refine x_aload_n C 6 dL_law_1342 rfl rfl ?_
    refine x_iconst C (v := 0) dL_law_1343 (by decide) ?_
    refine x_lald C dL_law_1344 ?_
    refine x_iload C 0 dL_law_1345 rfl ?_
    refine x_i2l C dL_law_1347 ?_
    refine x_lcmp C dL_law_1348 ?_
    refine x_if_eq C dL_law_1349 (tgt := 1354) (by decide) (fun _ => ?_) (fun h9 => absurd (by rw [h5 h0]; exact lg_cmp_self _) h9)
    refine x_goto C dL_law_1354 (tgt := 2497) (by decide) ?_
    refine x_sub [2, 3, 4, 5, 6, 7] (ls2 := [(5, .int i), (0, .ref b), (1, .ref (ad 176)), (2, .ref (ad 193)), (3, .ref (ad 202)), (4, .ref (ad 203))]) rfl ?_
    exact x_wid (by omega) (by omega) k
def okc_24 (B : StB) (M : StM) (O : StO)  : Prop := True ∧ True ∧ (f_X6_transferCount B) = (f_X7_transferCount M).1
def stB_24 (B : StB) (M : StM) (O : StO)  : StB := B
def stM_24 (B : StB) (M : StM) (O : StO)  : StM := (f_X7_transferCount M).2
def stO_24 (B : StB) (M : StM) (O : StO)  : StO := O
set_option maxHeartbeats 4000000 in
set_option maxRecDepth 100000 in
theorem law_c24 (C : CX p l s m args meth c A G ad cL_law "InkBankLaw" 9 (some .boolean)) (hX : va_X b L xs s s.heap ∧ b < s.heap.size ∧ ¬ A b) (hR : 60 ≤ R.frames ∧ 4000 ≤ R.locals) (hf : cells + 8 ≤ R.cells ∧ slots + 48 ≤ R.slots) {i : Int32} (hin : ∀ k : Int32, k = 1 ∨ k = 2 ∨ k = 3 ∨ k = 4 → vp_in (i + k) L)   (hok : okc_24 B M O ) (k : X p l e R s m args below meth c A G ad 9 (cells + 8) (slots + 48) Q (stB_24 B M O ) (stM_24 B M O ) (stO_24 B M O ) [(5, .int i), (0, .ref b), (1, .ref (ad 176)), (2, .ref (ad 193)), (3, .ref (ad 202)), (4, .ref (ad 203))] 2497 []) : X p l e R s m args below meth c A G ad 9 cells slots Q B M O [(5, .int i), (0, .ref b), (1, .ref (ad 176)), (2, .ref (ad 193)), (3, .ref (ad 202)), (4, .ref (ad 203))] 1357 [] := by
  obtain ⟨h1, h2, h3⟩ := hok
  unfold stB_24 stM_24 stO_24 at k
  have hW := c_X6_transferCount (G := G) C.2.2.2.2.2.2.2.1 B M O 
  have hM := c_X7_transferCount (G := G) C.2.2.2.2.2.2.2.1 (B) M O 
  refine x_aload_n C 2 dL_law_1357 rfl rfl ?_
  refine x_cIV C (as := []) (rest := []) hW e_I rfl cv_X6_transferCount cd_X6_transferCount we_2_99 ⟨Nat.le_trans (Nat.le_of_ble_eq_true rfl) hR.1, Nat.le_trans (Nat.le_of_ble_eq_true rfl) hR.2⟩ ⟨by have := hf.1; omega, by have := hf.2; omega⟩ rfl rfl (Nat.le_of_ble_eq_true rfl) dL_law_1358 ?_
  refine x_aload_n C 3 dL_law_1361 rfl rfl ?_
  refine x_cIV C (as := []) (rest := [.int _]) hM e_M rfl cv_X7_transferCount cd_X7_transferCount we_8_45 ⟨Nat.le_trans (Nat.le_of_ble_eq_true rfl) hR.1, Nat.le_trans (Nat.le_of_ble_eq_true rfl) hR.2⟩ ⟨by have := hf.1; omega, by have := hf.2; omega⟩ rfl rfl (Nat.le_of_ble_eq_true rfl) dL_law_1362 ?_
  refine x_icmp_eq C dL_law_1365 (tgt := 2497) (by decide) (fun _ => ?_) (fun h9 => absurd h3 h9)
  exact x_wid (by omega) (by omega) k
def okc_25 (B : StB) (M : StM) (O : StO) (y1 : Int32)  : Prop := ok_X6_transferAt B y1 ∧ ((f_X6_transferAt B y1).1 = 0 ∨ (f_X6_transferAt B y1).1 = 1 ) ∧ ok_X7_transferAt M y1 ∧ f_X7_thrown ((f_X7_transferAt M y1)).2 = (wr [1] (f_X6_transferAt B y1) O).1 ∧ ((wr [1] (f_X6_transferAt B y1) O).1 = 0 → (wr [1] (f_X6_transferAt B y1) O).2.2.1 = ((f_X7_transferAt M y1)).1.toInt64)
def stB_25 (B : StB) (M : StM) (O : StO) (y1 : Int32)  : StB := (wr [1] (f_X6_transferAt B y1) O).2.1
def stM_25 (B : StB) (M : StM) (O : StO) (y1 : Int32)  : StM := ((f_X7_transferAt M y1)).2
def stO_25 (B : StB) (M : StM) (O : StO) (y1 : Int32)  : StO := (wr [1] (f_X6_transferAt B y1) O).2.2
set_option maxHeartbeats 4000000 in
set_option maxRecDepth 100000 in
theorem law_c25 (C : CX p l s m args meth c A G ad cL_law "InkBankLaw" 9 (some .boolean)) (hX : va_X b L xs s s.heap ∧ b < s.heap.size ∧ ¬ A b) (hR : 60 ≤ R.frames ∧ 4000 ≤ R.locals) (hf : cells + 8 ≤ R.cells ∧ slots + 48 ≤ R.slots) {i : Int32} (hin : ∀ k : Int32, k = 1 ∨ k = 2 ∨ k = 3 ∨ k = 4 → vp_in (i + k) L) {y1 : Int32}  (hy1 : xs (ix (i + 1)) = y1) (hok : okc_25 B M O y1) (k : X p l e R s m args below meth c A G ad 9 (cells + 8) (slots + 48) Q (stB_25 B M O y1) (stM_25 B M O y1) (stO_25 B M O y1) [(5, .int i), (0, .ref b), (1, .ref (ad 176)), (2, .ref (ad 193)), (3, .ref (ad 202)), (4, .ref (ad 203))] 2497 []) : X p l e R s m args below meth c A G ad 9 cells slots Q B M O [(5, .int i), (0, .ref b), (1, .ref (ad 176)), (2, .ref (ad 193)), (3, .ref (ad 202)), (4, .ref (ad 203))] 1370 [] := by
  obtain ⟨h1, h2, h3, h4, h5⟩ := hok
  unfold stB_25 stM_25 stO_25 at k
  have hW := lc_transferAt (G := G) C.2.2.2.2.2.2.2.1 B M O (y1) h1 (f_X6_transferAt B y1) rfl h2 (wr [1] (f_X6_transferAt B y1) O) rfl
  have hM := c_X7_transferAt (G := G) C.2.2.2.2.2.2.2.1 (wr [1] (f_X6_transferAt B y1) O).2.1 M (wr [1] (f_X6_transferAt B y1) O).2.2 (y1) h3
  generalize (wr [1] (f_X6_transferAt B y1) O) = w at h4 h5 hW hM k
  generalize (f_X7_transferAt M y1) = g at h4 h5 hM k
  have hT := c_X7_thrown (G := G) C.2.2.2.2.2.2.2.1 w.2.1 g.2 w.2.2
  refine x_aload_n C 2 dL_law_1370 rfl rfl ?_
  refine x_aload_n C 1 dL_law_1371 rfl rfl ?_
  refine x_iload C 0 dL_law_1372 rfl ?_
  refine x_iconst C (v := 1) dL_law_1374 (by decide) ?_
  refine x_iadd C dL_law_1375 ?_
  refine x_sld C hX (hin 1 (by decide)) dL_law_1376 ?_
  rw [hy1]
  refine x_aload_n C 4 dL_law_1377 rfl rfl ?_
  refine x_cWS C (as := [.ref (ad 176), .int y1, .ref (ad 202)]) (rest := []) (n := 3) hW we_4_104 we_4_105 we_1_0 we_4_106 ⟨by decide, by decide, by decide +kernel⟩ ⟨Nat.le_trans (Nat.le_of_ble_eq_true rfl) hR.1, Nat.le_trans (Nat.le_of_ble_eq_true rfl) hR.2⟩ ⟨by have := hf.1; omega, by have := hf.2; omega⟩ rfl rfl (Nat.le_of_ble_eq_true rfl) dL_law_1378 ?_
  refine x_istore C dL_law_1381 (by decide) rfl ?_
  refine x_aload_n C 4 dL_law_1383 rfl rfl ?_
  refine x_aload_n C 2 dL_law_1384 rfl rfl ?_
  refine x_iload C 1 dL_law_1385 rfl ?_
  refine x_iconst C (v := 1) dL_law_1387 (by decide) ?_
  refine x_iadd C dL_law_1388 ?_
  refine x_sld C hX (hin 1 (by decide)) dL_law_1389 ?_
  rw [hy1]
  refine x_cIV C (as := [.int y1]) (rest := []) hM e_M rfl cv_X7_transferAt cd_X7_transferAt we_8_49 ⟨Nat.le_trans (Nat.le_of_ble_eq_true rfl) hR.1, Nat.le_trans (Nat.le_of_ble_eq_true rfl) hR.2⟩ ⟨by have := hf.1; omega, by have := hf.2; omega⟩ rfl rfl (Nat.le_of_ble_eq_true rfl) dL_law_1390 ?_
  refine x_istore C dL_law_1393 (by decide) rfl ?_
  refine x_aload_n C 5 dL_law_1395 rfl rfl ?_
  refine x_cIV C (as := []) (rest := []) hT e_M rfl cv_X7_thrown cd_X7_thrown we_7_51 ⟨Nat.le_trans (Nat.le_of_ble_eq_true rfl) hR.1, Nat.le_trans (Nat.le_of_ble_eq_true rfl) hR.2⟩ ⟨by have := hf.1; omega, by have := hf.2; omega⟩ rfl rfl (Nat.le_of_ble_eq_true rfl) dL_law_1396 ?_
  refine x_iload C 1 dL_law_1399 rfl ?_
  refine x_icmp_eq C dL_law_1401 (tgt := 1406) (by decide) (fun _ => ?_) (fun h9 => absurd h4 h9)
  refine x_iload C 1 dL_law_1406 rfl ?_
  refine x_if_ne C dL_law_1408 (tgt := 1423) (by decide) (fun _ => ?_) (fun h0 => ?_)
  · skip
    refine x_goto C dL_law_1423 (tgt := 2497) (by decide) ?_
    refine x_sub [2, 3, 4, 5, 6, 7] (ls2 := [(5, .int i), (0, .ref b), (1, .ref (ad 176)), (2, .ref (ad 193)), (3, .ref (ad 202)), (4, .ref (ad 203))]) rfl ?_
    exact x_wid (by omega) (by omega) k
  · skip
    refine x_aload_n C 6 dL_law_1411 rfl rfl ?_
    refine x_iconst C (v := 0) dL_law_1412 (by decide) ?_
    refine x_lald C dL_law_1413 ?_
    refine x_iload C 0 dL_law_1414 rfl ?_
    refine x_i2l C dL_law_1416 ?_
    refine x_lcmp C dL_law_1417 ?_
    refine x_if_eq C dL_law_1418 (tgt := 1423) (by decide) (fun _ => ?_) (fun h9 => absurd (by rw [h5 h0]; exact lg_cmp_self _) h9)
    refine x_goto C dL_law_1423 (tgt := 2497) (by decide) ?_
    refine x_sub [2, 3, 4, 5, 6, 7] (ls2 := [(5, .int i), (0, .ref b), (1, .ref (ad 176)), (2, .ref (ad 193)), (3, .ref (ad 202)), (4, .ref (ad 203))]) rfl ?_
    exact x_wid (by omega) (by omega) k
def okc_26 (B : StB) (M : StM) (O : StO) (y1 : Int32)  : Prop := ok_X6_senderOf B y1 ∧ ((f_X6_senderOf B y1).1 = 0 ∨ (f_X6_senderOf B y1).1 = 5 ) ∧ ok_X7_senderOf M y1 ∧ f_X7_thrown ((f_X7_senderOf M y1)).2 = (wr [5] (f_X6_senderOf B y1) O).1 ∧ ((wr [5] (f_X6_senderOf B y1) O).1 = 0 → (wr [5] (f_X6_senderOf B y1) O).2.2.1 = ((f_X7_senderOf M y1)).1.toInt64)
def stB_26 (B : StB) (M : StM) (O : StO) (y1 : Int32)  : StB := (wr [5] (f_X6_senderOf B y1) O).2.1
def stM_26 (B : StB) (M : StM) (O : StO) (y1 : Int32)  : StM := ((f_X7_senderOf M y1)).2
def stO_26 (B : StB) (M : StM) (O : StO) (y1 : Int32)  : StO := (wr [5] (f_X6_senderOf B y1) O).2.2
set_option maxHeartbeats 4000000 in
set_option maxRecDepth 100000 in
theorem law_c26 (C : CX p l s m args meth c A G ad cL_law "InkBankLaw" 9 (some .boolean)) (hX : va_X b L xs s s.heap ∧ b < s.heap.size ∧ ¬ A b) (hR : 60 ≤ R.frames ∧ 4000 ≤ R.locals) (hf : cells + 8 ≤ R.cells ∧ slots + 48 ≤ R.slots) {i : Int32} (hin : ∀ k : Int32, k = 1 ∨ k = 2 ∨ k = 3 ∨ k = 4 → vp_in (i + k) L) {y1 : Int32}  (hy1 : xs (ix (i + 1)) = y1) (hok : okc_26 B M O y1) (k : X p l e R s m args below meth c A G ad 9 (cells + 8) (slots + 48) Q (stB_26 B M O y1) (stM_26 B M O y1) (stO_26 B M O y1) [(5, .int i), (0, .ref b), (1, .ref (ad 176)), (2, .ref (ad 193)), (3, .ref (ad 202)), (4, .ref (ad 203))] 2497 []) : X p l e R s m args below meth c A G ad 9 cells slots Q B M O [(5, .int i), (0, .ref b), (1, .ref (ad 176)), (2, .ref (ad 193)), (3, .ref (ad 202)), (4, .ref (ad 203))] 1426 [] := by
  obtain ⟨h1, h2, h3, h4, h5⟩ := hok
  unfold stB_26 stM_26 stO_26 at k
  have hW := lc_senderOf (G := G) C.2.2.2.2.2.2.2.1 B M O (y1) h1 (f_X6_senderOf B y1) rfl h2 (wr [5] (f_X6_senderOf B y1) O) rfl
  have hM := c_X7_senderOf (G := G) C.2.2.2.2.2.2.2.1 (wr [5] (f_X6_senderOf B y1) O).2.1 M (wr [5] (f_X6_senderOf B y1) O).2.2 (y1) h3
  generalize (wr [5] (f_X6_senderOf B y1) O) = w at h4 h5 hW hM k
  generalize (f_X7_senderOf M y1) = g at h4 h5 hM k
  have hT := c_X7_thrown (G := G) C.2.2.2.2.2.2.2.1 w.2.1 g.2 w.2.2
  refine x_aload_n C 2 dL_law_1426 rfl rfl ?_
  refine x_aload_n C 1 dL_law_1427 rfl rfl ?_
  refine x_iload C 0 dL_law_1428 rfl ?_
  refine x_iconst C (v := 1) dL_law_1430 (by decide) ?_
  refine x_iadd C dL_law_1431 ?_
  refine x_sld C hX (hin 1 (by decide)) dL_law_1432 ?_
  rw [hy1]
  refine x_aload_n C 4 dL_law_1433 rfl rfl ?_
  refine x_cWS C (as := [.ref (ad 176), .int y1, .ref (ad 202)]) (rest := []) (n := 3) hW we_4_119 we_4_120 we_1_0 we_4_121 ⟨by decide, by decide, by decide +kernel⟩ ⟨Nat.le_trans (Nat.le_of_ble_eq_true rfl) hR.1, Nat.le_trans (Nat.le_of_ble_eq_true rfl) hR.2⟩ ⟨by have := hf.1; omega, by have := hf.2; omega⟩ rfl rfl (Nat.le_of_ble_eq_true rfl) dL_law_1434 ?_
  refine x_istore C dL_law_1437 (by decide) rfl ?_
  refine x_aload_n C 4 dL_law_1439 rfl rfl ?_
  refine x_aload_n C 2 dL_law_1440 rfl rfl ?_
  refine x_iload C 1 dL_law_1441 rfl ?_
  refine x_iconst C (v := 1) dL_law_1443 (by decide) ?_
  refine x_iadd C dL_law_1444 ?_
  refine x_sld C hX (hin 1 (by decide)) dL_law_1445 ?_
  rw [hy1]
  refine x_cIV C (as := [.int y1]) (rest := []) hM e_M rfl cv_X7_senderOf cd_X7_senderOf we_8_53 ⟨Nat.le_trans (Nat.le_of_ble_eq_true rfl) hR.1, Nat.le_trans (Nat.le_of_ble_eq_true rfl) hR.2⟩ ⟨by have := hf.1; omega, by have := hf.2; omega⟩ rfl rfl (Nat.le_of_ble_eq_true rfl) dL_law_1446 ?_
  refine x_istore C dL_law_1449 (by decide) rfl ?_
  refine x_aload_n C 5 dL_law_1451 rfl rfl ?_
  refine x_cIV C (as := []) (rest := []) hT e_M rfl cv_X7_thrown cd_X7_thrown we_7_51 ⟨Nat.le_trans (Nat.le_of_ble_eq_true rfl) hR.1, Nat.le_trans (Nat.le_of_ble_eq_true rfl) hR.2⟩ ⟨by have := hf.1; omega, by have := hf.2; omega⟩ rfl rfl (Nat.le_of_ble_eq_true rfl) dL_law_1452 ?_
  refine x_iload C 1 dL_law_1455 rfl ?_
  refine x_icmp_eq C dL_law_1457 (tgt := 1462) (by decide) (fun _ => ?_) (fun h9 => absurd h4 h9)
  refine x_iload C 1 dL_law_1462 rfl ?_
  refine x_if_ne C dL_law_1464 (tgt := 1479) (by decide) (fun _ => ?_) (fun h0 => ?_)
  · skip
    refine x_goto C dL_law_1479 (tgt := 2497) (by decide) ?_
    refine x_sub [2, 3, 4, 5, 6, 7] (ls2 := [(5, .int i), (0, .ref b), (1, .ref (ad 176)), (2, .ref (ad 193)), (3, .ref (ad 202)), (4, .ref (ad 203))]) rfl ?_
    exact x_wid (by omega) (by omega) k
  · skip
    refine x_aload_n C 6 dL_law_1467 rfl rfl ?_
    refine x_iconst C (v := 0) dL_law_1468 (by decide) ?_
    refine x_lald C dL_law_1469 ?_
    refine x_iload C 0 dL_law_1470 rfl ?_
    refine x_i2l C dL_law_1472 ?_
    refine x_lcmp C dL_law_1473 ?_
    refine x_if_eq C dL_law_1474 (tgt := 1479) (by decide) (fun _ => ?_) (fun h9 => absurd (by rw [h5 h0]; exact lg_cmp_self _) h9)
    refine x_goto C dL_law_1479 (tgt := 2497) (by decide) ?_
    refine x_sub [2, 3, 4, 5, 6, 7] (ls2 := [(5, .int i), (0, .ref b), (1, .ref (ad 176)), (2, .ref (ad 193)), (3, .ref (ad 202)), (4, .ref (ad 203))]) rfl ?_
    exact x_wid (by omega) (by omega) k
def okc_27 (B : StB) (M : StM) (O : StO) (y1 : Int32)  : Prop := ok_X6_receiverOf B y1 ∧ ((f_X6_receiverOf B y1).1 = 0 ∨ (f_X6_receiverOf B y1).1 = 5 ) ∧ ok_X7_receiverOf M y1 ∧ f_X7_thrown ((f_X7_receiverOf M y1)).2 = (wr [5] (f_X6_receiverOf B y1) O).1 ∧ ((wr [5] (f_X6_receiverOf B y1) O).1 = 0 → (wr [5] (f_X6_receiverOf B y1) O).2.2.1 = ((f_X7_receiverOf M y1)).1.toInt64)
def stB_27 (B : StB) (M : StM) (O : StO) (y1 : Int32)  : StB := (wr [5] (f_X6_receiverOf B y1) O).2.1
def stM_27 (B : StB) (M : StM) (O : StO) (y1 : Int32)  : StM := ((f_X7_receiverOf M y1)).2
def stO_27 (B : StB) (M : StM) (O : StO) (y1 : Int32)  : StO := (wr [5] (f_X6_receiverOf B y1) O).2.2
set_option maxHeartbeats 4000000 in
set_option maxRecDepth 100000 in
theorem law_c27 (C : CX p l s m args meth c A G ad cL_law "InkBankLaw" 9 (some .boolean)) (hX : va_X b L xs s s.heap ∧ b < s.heap.size ∧ ¬ A b) (hR : 60 ≤ R.frames ∧ 4000 ≤ R.locals) (hf : cells + 8 ≤ R.cells ∧ slots + 48 ≤ R.slots) {i : Int32} (hin : ∀ k : Int32, k = 1 ∨ k = 2 ∨ k = 3 ∨ k = 4 → vp_in (i + k) L) {y1 : Int32}  (hy1 : xs (ix (i + 1)) = y1) (hok : okc_27 B M O y1) (k : X p l e R s m args below meth c A G ad 9 (cells + 8) (slots + 48) Q (stB_27 B M O y1) (stM_27 B M O y1) (stO_27 B M O y1) [(5, .int i), (0, .ref b), (1, .ref (ad 176)), (2, .ref (ad 193)), (3, .ref (ad 202)), (4, .ref (ad 203))] 2497 []) : X p l e R s m args below meth c A G ad 9 cells slots Q B M O [(5, .int i), (0, .ref b), (1, .ref (ad 176)), (2, .ref (ad 193)), (3, .ref (ad 202)), (4, .ref (ad 203))] 1482 [] := by
  obtain ⟨h1, h2, h3, h4, h5⟩ := hok
  unfold stB_27 stM_27 stO_27 at k
  have hW := lc_receiverOf (G := G) C.2.2.2.2.2.2.2.1 B M O (y1) h1 (f_X6_receiverOf B y1) rfl h2 (wr [5] (f_X6_receiverOf B y1) O) rfl
  have hM := c_X7_receiverOf (G := G) C.2.2.2.2.2.2.2.1 (wr [5] (f_X6_receiverOf B y1) O).2.1 M (wr [5] (f_X6_receiverOf B y1) O).2.2 (y1) h3
  generalize (wr [5] (f_X6_receiverOf B y1) O) = w at h4 h5 hW hM k
  generalize (f_X7_receiverOf M y1) = g at h4 h5 hM k
  have hT := c_X7_thrown (G := G) C.2.2.2.2.2.2.2.1 w.2.1 g.2 w.2.2
  refine x_aload_n C 2 dL_law_1482 rfl rfl ?_
  refine x_aload_n C 1 dL_law_1483 rfl rfl ?_
  refine x_iload C 0 dL_law_1484 rfl ?_
  refine x_iconst C (v := 1) dL_law_1486 (by decide) ?_
  refine x_iadd C dL_law_1487 ?_
  refine x_sld C hX (hin 1 (by decide)) dL_law_1488 ?_
  rw [hy1]
  refine x_aload_n C 4 dL_law_1489 rfl rfl ?_
  refine x_cWS C (as := [.ref (ad 176), .int y1, .ref (ad 202)]) (rest := []) (n := 3) hW we_4_131 we_4_132 we_1_0 we_4_133 ⟨by decide, by decide, by decide +kernel⟩ ⟨Nat.le_trans (Nat.le_of_ble_eq_true rfl) hR.1, Nat.le_trans (Nat.le_of_ble_eq_true rfl) hR.2⟩ ⟨by have := hf.1; omega, by have := hf.2; omega⟩ rfl rfl (Nat.le_of_ble_eq_true rfl) dL_law_1490 ?_
  refine x_istore C dL_law_1493 (by decide) rfl ?_
  refine x_aload_n C 4 dL_law_1495 rfl rfl ?_
  refine x_aload_n C 2 dL_law_1496 rfl rfl ?_
  refine x_iload C 1 dL_law_1497 rfl ?_
  refine x_iconst C (v := 1) dL_law_1499 (by decide) ?_
  refine x_iadd C dL_law_1500 ?_
  refine x_sld C hX (hin 1 (by decide)) dL_law_1501 ?_
  rw [hy1]
  refine x_cIV C (as := [.int y1]) (rest := []) hM e_M rfl cv_X7_receiverOf cd_X7_receiverOf we_8_61 ⟨Nat.le_trans (Nat.le_of_ble_eq_true rfl) hR.1, Nat.le_trans (Nat.le_of_ble_eq_true rfl) hR.2⟩ ⟨by have := hf.1; omega, by have := hf.2; omega⟩ rfl rfl (Nat.le_of_ble_eq_true rfl) dL_law_1502 ?_
  refine x_istore C dL_law_1505 (by decide) rfl ?_
  refine x_aload_n C 5 dL_law_1507 rfl rfl ?_
  refine x_cIV C (as := []) (rest := []) hT e_M rfl cv_X7_thrown cd_X7_thrown we_7_51 ⟨Nat.le_trans (Nat.le_of_ble_eq_true rfl) hR.1, Nat.le_trans (Nat.le_of_ble_eq_true rfl) hR.2⟩ ⟨by have := hf.1; omega, by have := hf.2; omega⟩ rfl rfl (Nat.le_of_ble_eq_true rfl) dL_law_1508 ?_
  refine x_iload C 1 dL_law_1511 rfl ?_
  refine x_icmp_eq C dL_law_1513 (tgt := 1518) (by decide) (fun _ => ?_) (fun h9 => absurd h4 h9)
  refine x_iload C 1 dL_law_1518 rfl ?_
  refine x_if_ne C dL_law_1520 (tgt := 1535) (by decide) (fun _ => ?_) (fun h0 => ?_)
  · skip
    refine x_goto C dL_law_1535 (tgt := 2497) (by decide) ?_
    refine x_sub [2, 3, 4, 5, 6, 7] (ls2 := [(5, .int i), (0, .ref b), (1, .ref (ad 176)), (2, .ref (ad 193)), (3, .ref (ad 202)), (4, .ref (ad 203))]) rfl ?_
    exact x_wid (by omega) (by omega) k
  · skip
    refine x_aload_n C 6 dL_law_1523 rfl rfl ?_
    refine x_iconst C (v := 0) dL_law_1524 (by decide) ?_
    refine x_lald C dL_law_1525 ?_
    refine x_iload C 0 dL_law_1526 rfl ?_
    refine x_i2l C dL_law_1528 ?_
    refine x_lcmp C dL_law_1529 ?_
    refine x_if_eq C dL_law_1530 (tgt := 1535) (by decide) (fun _ => ?_) (fun h9 => absurd (by rw [h5 h0]; exact lg_cmp_self _) h9)
    refine x_goto C dL_law_1535 (tgt := 2497) (by decide) ?_
    refine x_sub [2, 3, 4, 5, 6, 7] (ls2 := [(5, .int i), (0, .ref b), (1, .ref (ad 176)), (2, .ref (ad 193)), (3, .ref (ad 202)), (4, .ref (ad 203))]) rfl ?_
    exact x_wid (by omega) (by omega) k
def okc_28 (B : StB) (M : StM) (O : StO) (y1 : Int32)  : Prop := ok_X6_amountOf B y1 ∧ ((f_X6_amountOf B y1).1 = 0 ∨ (f_X6_amountOf B y1).1 = 5 ) ∧ ok_X7_amountOf M y1 ∧ f_X7_thrown ((f_X7_amountOf M y1)).2 = (wr [5] (f_X6_amountOf B y1) O).1 ∧ ((wr [5] (f_X6_amountOf B y1) O).1 = 0 → (wr [5] (f_X6_amountOf B y1) O).2.2.1 = ((f_X7_amountOf M y1)).1.toInt64)
def stB_28 (B : StB) (M : StM) (O : StO) (y1 : Int32)  : StB := (wr [5] (f_X6_amountOf B y1) O).2.1
def stM_28 (B : StB) (M : StM) (O : StO) (y1 : Int32)  : StM := ((f_X7_amountOf M y1)).2
def stO_28 (B : StB) (M : StM) (O : StO) (y1 : Int32)  : StO := (wr [5] (f_X6_amountOf B y1) O).2.2
set_option maxHeartbeats 4000000 in
set_option maxRecDepth 100000 in
theorem law_c28 (C : CX p l s m args meth c A G ad cL_law "InkBankLaw" 9 (some .boolean)) (hX : va_X b L xs s s.heap ∧ b < s.heap.size ∧ ¬ A b) (hR : 60 ≤ R.frames ∧ 4000 ≤ R.locals) (hf : cells + 8 ≤ R.cells ∧ slots + 48 ≤ R.slots) {i : Int32} (hin : ∀ k : Int32, k = 1 ∨ k = 2 ∨ k = 3 ∨ k = 4 → vp_in (i + k) L) {y1 : Int32}  (hy1 : xs (ix (i + 1)) = y1) (hok : okc_28 B M O y1) (k : X p l e R s m args below meth c A G ad 9 (cells + 8) (slots + 48) Q (stB_28 B M O y1) (stM_28 B M O y1) (stO_28 B M O y1) [(5, .int i), (0, .ref b), (1, .ref (ad 176)), (2, .ref (ad 193)), (3, .ref (ad 202)), (4, .ref (ad 203))] 2497 []) : X p l e R s m args below meth c A G ad 9 cells slots Q B M O [(5, .int i), (0, .ref b), (1, .ref (ad 176)), (2, .ref (ad 193)), (3, .ref (ad 202)), (4, .ref (ad 203))] 1538 [] := by
  obtain ⟨h1, h2, h3, h4, h5⟩ := hok
  unfold stB_28 stM_28 stO_28 at k
  have hW := lc_amountOf (G := G) C.2.2.2.2.2.2.2.1 B M O (y1) h1 (f_X6_amountOf B y1) rfl h2 (wr [5] (f_X6_amountOf B y1) O) rfl
  have hM := c_X7_amountOf (G := G) C.2.2.2.2.2.2.2.1 (wr [5] (f_X6_amountOf B y1) O).2.1 M (wr [5] (f_X6_amountOf B y1) O).2.2 (y1) h3
  generalize (wr [5] (f_X6_amountOf B y1) O) = w at h4 h5 hW hM k
  generalize (f_X7_amountOf M y1) = g at h4 h5 hM k
  have hT := c_X7_thrown (G := G) C.2.2.2.2.2.2.2.1 w.2.1 g.2 w.2.2
  refine x_aload_n C 2 dL_law_1538 rfl rfl ?_
  refine x_aload_n C 1 dL_law_1539 rfl rfl ?_
  refine x_iload C 0 dL_law_1540 rfl ?_
  refine x_iconst C (v := 1) dL_law_1542 (by decide) ?_
  refine x_iadd C dL_law_1543 ?_
  refine x_sld C hX (hin 1 (by decide)) dL_law_1544 ?_
  rw [hy1]
  refine x_aload_n C 4 dL_law_1545 rfl rfl ?_
  refine x_cWS C (as := [.ref (ad 176), .int y1, .ref (ad 202)]) (rest := []) (n := 3) hW we_4_138 we_4_139 we_1_0 we_4_140 ⟨by decide, by decide, by decide +kernel⟩ ⟨Nat.le_trans (Nat.le_of_ble_eq_true rfl) hR.1, Nat.le_trans (Nat.le_of_ble_eq_true rfl) hR.2⟩ ⟨by have := hf.1; omega, by have := hf.2; omega⟩ rfl rfl (Nat.le_of_ble_eq_true rfl) dL_law_1546 ?_
  refine x_istore C dL_law_1549 (by decide) rfl ?_
  refine x_aload_n C 4 dL_law_1551 rfl rfl ?_
  refine x_aload_n C 2 dL_law_1552 rfl rfl ?_
  refine x_iload C 1 dL_law_1553 rfl ?_
  refine x_iconst C (v := 1) dL_law_1555 (by decide) ?_
  refine x_iadd C dL_law_1556 ?_
  refine x_sld C hX (hin 1 (by decide)) dL_law_1557 ?_
  rw [hy1]
  refine x_cIV C (as := [.int y1]) (rest := []) hM e_M rfl cv_X7_amountOf cd_X7_amountOf we_8_65 ⟨Nat.le_trans (Nat.le_of_ble_eq_true rfl) hR.1, Nat.le_trans (Nat.le_of_ble_eq_true rfl) hR.2⟩ ⟨by have := hf.1; omega, by have := hf.2; omega⟩ rfl rfl (Nat.le_of_ble_eq_true rfl) dL_law_1558 ?_
  refine x_istore C dL_law_1561 (by decide) rfl ?_
  refine x_aload_n C 5 dL_law_1563 rfl rfl ?_
  refine x_cIV C (as := []) (rest := []) hT e_M rfl cv_X7_thrown cd_X7_thrown we_7_51 ⟨Nat.le_trans (Nat.le_of_ble_eq_true rfl) hR.1, Nat.le_trans (Nat.le_of_ble_eq_true rfl) hR.2⟩ ⟨by have := hf.1; omega, by have := hf.2; omega⟩ rfl rfl (Nat.le_of_ble_eq_true rfl) dL_law_1564 ?_
  refine x_iload C 1 dL_law_1567 rfl ?_
  refine x_icmp_eq C dL_law_1569 (tgt := 1574) (by decide) (fun _ => ?_) (fun h9 => absurd h4 h9)
  refine x_iload C 1 dL_law_1574 rfl ?_
  refine x_if_ne C dL_law_1576 (tgt := 1591) (by decide) (fun _ => ?_) (fun h0 => ?_)
  · skip
    refine x_goto C dL_law_1591 (tgt := 2497) (by decide) ?_
    refine x_sub [2, 3, 4, 5, 6, 7] (ls2 := [(5, .int i), (0, .ref b), (1, .ref (ad 176)), (2, .ref (ad 193)), (3, .ref (ad 202)), (4, .ref (ad 203))]) rfl ?_
    exact x_wid (by omega) (by omega) k
  · skip
    refine x_aload_n C 6 dL_law_1579 rfl rfl ?_
    refine x_iconst C (v := 0) dL_law_1580 (by decide) ?_
    refine x_lald C dL_law_1581 ?_
    refine x_iload C 0 dL_law_1582 rfl ?_
    refine x_i2l C dL_law_1584 ?_
    refine x_lcmp C dL_law_1585 ?_
    refine x_if_eq C dL_law_1586 (tgt := 1591) (by decide) (fun _ => ?_) (fun h9 => absurd (by rw [h5 h0]; exact lg_cmp_self _) h9)
    refine x_goto C dL_law_1591 (tgt := 2497) (by decide) ?_
    refine x_sub [2, 3, 4, 5, 6, 7] (ls2 := [(5, .int i), (0, .ref b), (1, .ref (ad 176)), (2, .ref (ad 193)), (3, .ref (ad 202)), (4, .ref (ad 203))]) rfl ?_
    exact x_wid (by omega) (by omega) k
def okc_29 (B : StB) (M : StM) (O : StO) (y1 : Int32)  : Prop := ok_X6_daysUntilDue B y1 ∧ ((f_X6_daysUntilDue B y1).1 = 0 ∨ (f_X6_daysUntilDue B y1).1 = 5 ) ∧ ok_X7_daysUntilDue M y1 ∧ f_X7_thrown ((f_X7_daysUntilDue M y1)).2 = (wr [5] (f_X6_daysUntilDue B y1) O).1 ∧ ((wr [5] (f_X6_daysUntilDue B y1) O).1 = 0 → (wr [5] (f_X6_daysUntilDue B y1) O).2.2.1 = ((f_X7_daysUntilDue M y1)).1.toInt64)
def stB_29 (B : StB) (M : StM) (O : StO) (y1 : Int32)  : StB := (wr [5] (f_X6_daysUntilDue B y1) O).2.1
def stM_29 (B : StB) (M : StM) (O : StO) (y1 : Int32)  : StM := ((f_X7_daysUntilDue M y1)).2
def stO_29 (B : StB) (M : StM) (O : StO) (y1 : Int32)  : StO := (wr [5] (f_X6_daysUntilDue B y1) O).2.2
set_option maxHeartbeats 4000000 in
set_option maxRecDepth 100000 in
theorem law_c29 (C : CX p l s m args meth c A G ad cL_law "InkBankLaw" 9 (some .boolean)) (hX : va_X b L xs s s.heap ∧ b < s.heap.size ∧ ¬ A b) (hR : 60 ≤ R.frames ∧ 4000 ≤ R.locals) (hf : cells + 8 ≤ R.cells ∧ slots + 48 ≤ R.slots) {i : Int32} (hin : ∀ k : Int32, k = 1 ∨ k = 2 ∨ k = 3 ∨ k = 4 → vp_in (i + k) L) {y1 : Int32}  (hy1 : xs (ix (i + 1)) = y1) (hok : okc_29 B M O y1) (k : X p l e R s m args below meth c A G ad 9 (cells + 8) (slots + 48) Q (stB_29 B M O y1) (stM_29 B M O y1) (stO_29 B M O y1) [(5, .int i), (0, .ref b), (1, .ref (ad 176)), (2, .ref (ad 193)), (3, .ref (ad 202)), (4, .ref (ad 203))] 2497 []) : X p l e R s m args below meth c A G ad 9 cells slots Q B M O [(5, .int i), (0, .ref b), (1, .ref (ad 176)), (2, .ref (ad 193)), (3, .ref (ad 202)), (4, .ref (ad 203))] 1594 [] := by
  obtain ⟨h1, h2, h3, h4, h5⟩ := hok
  unfold stB_29 stM_29 stO_29 at k
  have hW := lc_daysUntilDue (G := G) C.2.2.2.2.2.2.2.1 B M O (y1) h1 (f_X6_daysUntilDue B y1) rfl h2 (wr [5] (f_X6_daysUntilDue B y1) O) rfl
  have hM := c_X7_daysUntilDue (G := G) C.2.2.2.2.2.2.2.1 (wr [5] (f_X6_daysUntilDue B y1) O).2.1 M (wr [5] (f_X6_daysUntilDue B y1) O).2.2 (y1) h3
  generalize (wr [5] (f_X6_daysUntilDue B y1) O) = w at h4 h5 hW hM k
  generalize (f_X7_daysUntilDue M y1) = g at h4 h5 hM k
  have hT := c_X7_thrown (G := G) C.2.2.2.2.2.2.2.1 w.2.1 g.2 w.2.2
  refine x_aload_n C 2 dL_law_1594 rfl rfl ?_
  refine x_aload_n C 1 dL_law_1595 rfl rfl ?_
  refine x_iload C 0 dL_law_1596 rfl ?_
  refine x_iconst C (v := 1) dL_law_1598 (by decide) ?_
  refine x_iadd C dL_law_1599 ?_
  refine x_sld C hX (hin 1 (by decide)) dL_law_1600 ?_
  rw [hy1]
  refine x_aload_n C 4 dL_law_1601 rfl rfl ?_
  refine x_cWS C (as := [.ref (ad 176), .int y1, .ref (ad 202)]) (rest := []) (n := 3) hW we_4_145 we_4_146 we_1_0 we_4_147 ⟨by decide, by decide, by decide +kernel⟩ ⟨Nat.le_trans (Nat.le_of_ble_eq_true rfl) hR.1, Nat.le_trans (Nat.le_of_ble_eq_true rfl) hR.2⟩ ⟨by have := hf.1; omega, by have := hf.2; omega⟩ rfl rfl (Nat.le_of_ble_eq_true rfl) dL_law_1602 ?_
  refine x_istore C dL_law_1605 (by decide) rfl ?_
  refine x_aload_n C 4 dL_law_1607 rfl rfl ?_
  refine x_aload_n C 2 dL_law_1608 rfl rfl ?_
  refine x_iload C 1 dL_law_1609 rfl ?_
  refine x_iconst C (v := 1) dL_law_1611 (by decide) ?_
  refine x_iadd C dL_law_1612 ?_
  refine x_sld C hX (hin 1 (by decide)) dL_law_1613 ?_
  rw [hy1]
  refine x_cIV C (as := [.int y1]) (rest := []) hM e_M rfl cv_X7_daysUntilDue cd_X7_daysUntilDue we_8_69 ⟨Nat.le_trans (Nat.le_of_ble_eq_true rfl) hR.1, Nat.le_trans (Nat.le_of_ble_eq_true rfl) hR.2⟩ ⟨by have := hf.1; omega, by have := hf.2; omega⟩ rfl rfl (Nat.le_of_ble_eq_true rfl) dL_law_1614 ?_
  refine x_istore C dL_law_1617 (by decide) rfl ?_
  refine x_aload_n C 5 dL_law_1619 rfl rfl ?_
  refine x_cIV C (as := []) (rest := []) hT e_M rfl cv_X7_thrown cd_X7_thrown we_7_51 ⟨Nat.le_trans (Nat.le_of_ble_eq_true rfl) hR.1, Nat.le_trans (Nat.le_of_ble_eq_true rfl) hR.2⟩ ⟨by have := hf.1; omega, by have := hf.2; omega⟩ rfl rfl (Nat.le_of_ble_eq_true rfl) dL_law_1620 ?_
  refine x_iload C 1 dL_law_1623 rfl ?_
  refine x_icmp_eq C dL_law_1625 (tgt := 1630) (by decide) (fun _ => ?_) (fun h9 => absurd h4 h9)
  refine x_iload C 1 dL_law_1630 rfl ?_
  refine x_if_ne C dL_law_1632 (tgt := 1647) (by decide) (fun _ => ?_) (fun h0 => ?_)
  · skip
    refine x_goto C dL_law_1647 (tgt := 2497) (by decide) ?_
    refine x_sub [2, 3, 4, 5, 6, 7] (ls2 := [(5, .int i), (0, .ref b), (1, .ref (ad 176)), (2, .ref (ad 193)), (3, .ref (ad 202)), (4, .ref (ad 203))]) rfl ?_
    exact x_wid (by omega) (by omega) k
  · skip
    refine x_aload_n C 6 dL_law_1635 rfl rfl ?_
    refine x_iconst C (v := 0) dL_law_1636 (by decide) ?_
    refine x_lald C dL_law_1637 ?_
    refine x_iload C 0 dL_law_1638 rfl ?_
    refine x_i2l C dL_law_1640 ?_
    refine x_lcmp C dL_law_1641 ?_
    refine x_if_eq C dL_law_1642 (tgt := 1647) (by decide) (fun _ => ?_) (fun h9 => absurd (by rw [h5 h0]; exact lg_cmp_self _) h9)
    refine x_goto C dL_law_1647 (tgt := 2497) (by decide) ?_
    refine x_sub [2, 3, 4, 5, 6, 7] (ls2 := [(5, .int i), (0, .ref b), (1, .ref (ad 176)), (2, .ref (ad 193)), (3, .ref (ad 202)), (4, .ref (ad 203))]) rfl ?_
    exact x_wid (by omega) (by omega) k
def okc_30 (B : StB) (M : StM) (O : StO) (y1 : Int32)  : Prop := ok_X6_wouldBounce B y1 ∧ ((f_X6_wouldBounce B y1).1 = 0 ∨ (f_X6_wouldBounce B y1).1 = 5 ) ∧ ok_X7_wouldBounce M y1 ∧ f_X7_thrown ((f_X7_wouldBounce M y1)).2 = (wrZ [5] (f_X6_wouldBounce B y1) O).1 ∧ ((wrZ [5] (f_X6_wouldBounce B y1) O).1 = 0 → (wrZ [5] (f_X6_wouldBounce B y1) O).2.2.1 = (if ((f_X7_wouldBounce M y1)).1 = 0 then (0 : Int64) else 1))
def stB_30 (B : StB) (M : StM) (O : StO) (y1 : Int32)  : StB := (wrZ [5] (f_X6_wouldBounce B y1) O).2.1
def stM_30 (B : StB) (M : StM) (O : StO) (y1 : Int32)  : StM := ((f_X7_wouldBounce M y1)).2
def stO_30 (B : StB) (M : StM) (O : StO) (y1 : Int32)  : StO := (wrZ [5] (f_X6_wouldBounce B y1) O).2.2
set_option maxHeartbeats 4000000 in
set_option maxRecDepth 100000 in
theorem law_c30 (C : CX p l s m args meth c A G ad cL_law "InkBankLaw" 9 (some .boolean)) (hX : va_X b L xs s s.heap ∧ b < s.heap.size ∧ ¬ A b) (hR : 60 ≤ R.frames ∧ 4000 ≤ R.locals) (hf : cells + 8 ≤ R.cells ∧ slots + 48 ≤ R.slots) {i : Int32} (hin : ∀ k : Int32, k = 1 ∨ k = 2 ∨ k = 3 ∨ k = 4 → vp_in (i + k) L) {y1 : Int32}  (hy1 : xs (ix (i + 1)) = y1) (hok : okc_30 B M O y1) (k : X p l e R s m args below meth c A G ad 9 (cells + 8) (slots + 48) Q (stB_30 B M O y1) (stM_30 B M O y1) (stO_30 B M O y1) [(5, .int i), (0, .ref b), (1, .ref (ad 176)), (2, .ref (ad 193)), (3, .ref (ad 202)), (4, .ref (ad 203))] 2497 []) : X p l e R s m args below meth c A G ad 9 cells slots Q B M O [(5, .int i), (0, .ref b), (1, .ref (ad 176)), (2, .ref (ad 193)), (3, .ref (ad 202)), (4, .ref (ad 203))] 1650 [] := by
  obtain ⟨h1, h2, h3, h4, h5⟩ := hok
  unfold stB_30 stM_30 stO_30 at k
  have hW := lc_wouldBounce (G := G) C.2.2.2.2.2.2.2.1 B M O (y1) h1 (f_X6_wouldBounce B y1) rfl h2 (wrZ [5] (f_X6_wouldBounce B y1) O) rfl
  have hM := c_X7_wouldBounce (G := G) C.2.2.2.2.2.2.2.1 (wrZ [5] (f_X6_wouldBounce B y1) O).2.1 M (wrZ [5] (f_X6_wouldBounce B y1) O).2.2 (y1) h3
  generalize (wrZ [5] (f_X6_wouldBounce B y1) O) = w at h4 h5 hW hM k
  generalize (f_X7_wouldBounce M y1) = g at h4 h5 hM k
  have hT := c_X7_thrown (G := G) C.2.2.2.2.2.2.2.1 w.2.1 g.2 w.2.2
  refine x_aload_n C 2 dL_law_1650 rfl rfl ?_
  refine x_aload_n C 1 dL_law_1651 rfl rfl ?_
  refine x_iload C 0 dL_law_1652 rfl ?_
  refine x_iconst C (v := 1) dL_law_1654 (by decide) ?_
  refine x_iadd C dL_law_1655 ?_
  refine x_sld C hX (hin 1 (by decide)) dL_law_1656 ?_
  rw [hy1]
  refine x_aload_n C 4 dL_law_1657 rfl rfl ?_
  refine x_cWS C (as := [.ref (ad 176), .int y1, .ref (ad 202)]) (rest := []) (n := 3) hW we_4_152 we_4_153 we_1_0 we_4_154 ⟨by decide, by decide, by decide +kernel⟩ ⟨Nat.le_trans (Nat.le_of_ble_eq_true rfl) hR.1, Nat.le_trans (Nat.le_of_ble_eq_true rfl) hR.2⟩ ⟨by have := hf.1; omega, by have := hf.2; omega⟩ rfl rfl (Nat.le_of_ble_eq_true rfl) dL_law_1658 ?_
  refine x_istore C dL_law_1661 (by decide) rfl ?_
  refine x_aload_n C 4 dL_law_1663 rfl rfl ?_
  refine x_aload_n C 2 dL_law_1664 rfl rfl ?_
  refine x_iload C 1 dL_law_1665 rfl ?_
  refine x_iconst C (v := 1) dL_law_1667 (by decide) ?_
  refine x_iadd C dL_law_1668 ?_
  refine x_sld C hX (hin 1 (by decide)) dL_law_1669 ?_
  rw [hy1]
  refine x_cIV C (as := [.int y1]) (rest := []) hM e_M rfl cv_X7_wouldBounce cd_X7_wouldBounce we_8_73 ⟨Nat.le_trans (Nat.le_of_ble_eq_true rfl) hR.1, Nat.le_trans (Nat.le_of_ble_eq_true rfl) hR.2⟩ ⟨by have := hf.1; omega, by have := hf.2; omega⟩ rfl rfl (Nat.le_of_ble_eq_true rfl) dL_law_1670 ?_
  refine x_istore C dL_law_1673 (by decide) rfl ?_
  refine x_aload_n C 5 dL_law_1675 rfl rfl ?_
  refine x_cIV C (as := []) (rest := []) hT e_M rfl cv_X7_thrown cd_X7_thrown we_7_51 ⟨Nat.le_trans (Nat.le_of_ble_eq_true rfl) hR.1, Nat.le_trans (Nat.le_of_ble_eq_true rfl) hR.2⟩ ⟨by have := hf.1; omega, by have := hf.2; omega⟩ rfl rfl (Nat.le_of_ble_eq_true rfl) dL_law_1676 ?_
  refine x_iload C 1 dL_law_1679 rfl ?_
  refine x_icmp_eq C dL_law_1681 (tgt := 1686) (by decide) (fun _ => ?_) (fun h9 => absurd h4 h9)
  refine x_iload C 1 dL_law_1686 rfl ?_
  refine x_if_ne C dL_law_1688 (tgt := 1710) (by decide) (fun _ => ?_) (fun h0 => ?_)
  · skip
    refine x_goto C dL_law_1710 (tgt := 2497) (by decide) ?_
    refine x_sub [2, 3, 4, 5, 6, 7] (ls2 := [(5, .int i), (0, .ref b), (1, .ref (ad 176)), (2, .ref (ad 193)), (3, .ref (ad 202)), (4, .ref (ad 203))]) rfl ?_
    exact x_wid (by omega) (by omega) k
  · skip
    refine x_aload_n C 6 dL_law_1691 rfl rfl ?_
    refine x_iconst C (v := 0) dL_law_1692 (by decide) ?_
    refine x_lald C dL_law_1693 ?_
    refine x_iload C 0 dL_law_1694 rfl ?_
    refine x_if_eq C dL_law_1696 (tgt := 1703) (by decide) (fun hb => ?_) (fun hb => ?_)
    · skip
      refine x_lconst C (v := 0) dL_law_1703 (by decide) ?_
      refine x_lcmp C dL_law_1704 ?_
      refine x_if_eq C dL_law_1705 (tgt := 1710) (by decide) (fun _ => ?_) (fun h9 => absurd (by rw [h5 h0, if_pos hb]; exact lg_cmp_self _) h9)
      refine x_goto C dL_law_1710 (tgt := 2497) (by decide) ?_
      refine x_sub [2, 3, 4, 5, 6, 7] (ls2 := [(5, .int i), (0, .ref b), (1, .ref (ad 176)), (2, .ref (ad 193)), (3, .ref (ad 202)), (4, .ref (ad 203))]) rfl ?_
      exact x_wid (by omega) (by omega) k
    · skip
      refine x_lconst C (v := 1) dL_law_1699 (by decide) ?_
      refine x_goto C dL_law_1700 (tgt := 1704) (by decide) ?_
      refine x_lcmp C dL_law_1704 ?_
      refine x_if_eq C dL_law_1705 (tgt := 1710) (by decide) (fun _ => ?_) (fun h9 => absurd (by rw [h5 h0, if_neg hb]; exact lg_cmp_self _) h9)
      refine x_goto C dL_law_1710 (tgt := 2497) (by decide) ?_
      refine x_sub [2, 3, 4, 5, 6, 7] (ls2 := [(5, .int i), (0, .ref b), (1, .ref (ad 176)), (2, .ref (ad 193)), (3, .ref (ad 202)), (4, .ref (ad 203))]) rfl ?_
      exact x_wid (by omega) (by omega) k
def okc_31 (B : StB) (M : StM) (O : StO)  : Prop := True ∧ True ∧ (f_X6_bounceCount B) = (f_X7_bounceCount M).1
def stB_31 (B : StB) (M : StM) (O : StO)  : StB := B
def stM_31 (B : StB) (M : StM) (O : StO)  : StM := (f_X7_bounceCount M).2
def stO_31 (B : StB) (M : StM) (O : StO)  : StO := O
set_option maxHeartbeats 4000000 in
set_option maxRecDepth 100000 in
theorem law_c31 (C : CX p l s m args meth c A G ad cL_law "InkBankLaw" 9 (some .boolean)) (hX : va_X b L xs s s.heap ∧ b < s.heap.size ∧ ¬ A b) (hR : 60 ≤ R.frames ∧ 4000 ≤ R.locals) (hf : cells + 8 ≤ R.cells ∧ slots + 48 ≤ R.slots) {i : Int32} (hin : ∀ k : Int32, k = 1 ∨ k = 2 ∨ k = 3 ∨ k = 4 → vp_in (i + k) L)   (hok : okc_31 B M O ) (k : X p l e R s m args below meth c A G ad 9 (cells + 8) (slots + 48) Q (stB_31 B M O ) (stM_31 B M O ) (stO_31 B M O ) [(5, .int i), (0, .ref b), (1, .ref (ad 176)), (2, .ref (ad 193)), (3, .ref (ad 202)), (4, .ref (ad 203))] 2497 []) : X p l e R s m args below meth c A G ad 9 cells slots Q B M O [(5, .int i), (0, .ref b), (1, .ref (ad 176)), (2, .ref (ad 193)), (3, .ref (ad 202)), (4, .ref (ad 203))] 1713 [] := by
  obtain ⟨h1, h2, h3⟩ := hok
  unfold stB_31 stM_31 stO_31 at k
  have hW := c_X6_bounceCount (G := G) C.2.2.2.2.2.2.2.1 B M O 
  have hM := c_X7_bounceCount (G := G) C.2.2.2.2.2.2.2.1 (B) M O 
  refine x_aload_n C 2 dL_law_1713 rfl rfl ?_
  refine x_cIV C (as := []) (rest := []) hW e_I rfl cv_X6_bounceCount cd_X6_bounceCount we_2_103 ⟨Nat.le_trans (Nat.le_of_ble_eq_true rfl) hR.1, Nat.le_trans (Nat.le_of_ble_eq_true rfl) hR.2⟩ ⟨by have := hf.1; omega, by have := hf.2; omega⟩ rfl rfl (Nat.le_of_ble_eq_true rfl) dL_law_1714 ?_
  refine x_aload_n C 3 dL_law_1717 rfl rfl ?_
  refine x_cIV C (as := []) (rest := [.int _]) hM e_M rfl cv_X7_bounceCount cd_X7_bounceCount we_8_77 ⟨Nat.le_trans (Nat.le_of_ble_eq_true rfl) hR.1, Nat.le_trans (Nat.le_of_ble_eq_true rfl) hR.2⟩ ⟨by have := hf.1; omega, by have := hf.2; omega⟩ rfl rfl (Nat.le_of_ble_eq_true rfl) dL_law_1718 ?_
  refine x_icmp_eq C dL_law_1721 (tgt := 2497) (by decide) (fun _ => ?_) (fun h9 => absurd h3 h9)
  exact x_wid (by omega) (by omega) k
def okc_32 (B : StB) (M : StM) (O : StO) (y1 : Int32)  : Prop := ok_X6_netOf B y1 ∧ ((f_X6_netOf B y1).1 = 0 ∨ (f_X6_netOf B y1).1 = 1 ) ∧ ok_X7_netOf M y1 ∧ f_X7_thrown ((f_X7_netOf M y1)).2 = (wr [1] (f_X6_netOf B y1) O).1 ∧ ((wr [1] (f_X6_netOf B y1) O).1 = 0 → (wr [1] (f_X6_netOf B y1) O).2.2.1 = ((f_X7_netOf M y1)).1.toInt64)
def stB_32 (B : StB) (M : StM) (O : StO) (y1 : Int32)  : StB := (wr [1] (f_X6_netOf B y1) O).2.1
def stM_32 (B : StB) (M : StM) (O : StO) (y1 : Int32)  : StM := ((f_X7_netOf M y1)).2
def stO_32 (B : StB) (M : StM) (O : StO) (y1 : Int32)  : StO := (wr [1] (f_X6_netOf B y1) O).2.2
set_option maxHeartbeats 4000000 in
set_option maxRecDepth 100000 in
theorem law_c32 (C : CX p l s m args meth c A G ad cL_law "InkBankLaw" 9 (some .boolean)) (hX : va_X b L xs s s.heap ∧ b < s.heap.size ∧ ¬ A b) (hR : 60 ≤ R.frames ∧ 4000 ≤ R.locals) (hf : cells + 8 ≤ R.cells ∧ slots + 48 ≤ R.slots) {i : Int32} (hin : ∀ k : Int32, k = 1 ∨ k = 2 ∨ k = 3 ∨ k = 4 → vp_in (i + k) L) {y1 : Int32}  (hy1 : xs (ix (i + 1)) = y1) (hok : okc_32 B M O y1) (k : X p l e R s m args below meth c A G ad 9 (cells + 8) (slots + 48) Q (stB_32 B M O y1) (stM_32 B M O y1) (stO_32 B M O y1) [(5, .int i), (0, .ref b), (1, .ref (ad 176)), (2, .ref (ad 193)), (3, .ref (ad 202)), (4, .ref (ad 203))] 2497 []) : X p l e R s m args below meth c A G ad 9 cells slots Q B M O [(5, .int i), (0, .ref b), (1, .ref (ad 176)), (2, .ref (ad 193)), (3, .ref (ad 202)), (4, .ref (ad 203))] 1726 [] := by
  obtain ⟨h1, h2, h3, h4, h5⟩ := hok
  unfold stB_32 stM_32 stO_32 at k
  have hW := lc_netOf (G := G) C.2.2.2.2.2.2.2.1 B M O (y1) h1 (f_X6_netOf B y1) rfl h2 (wr [1] (f_X6_netOf B y1) O) rfl
  have hM := c_X7_netOf (G := G) C.2.2.2.2.2.2.2.1 (wr [1] (f_X6_netOf B y1) O).2.1 M (wr [1] (f_X6_netOf B y1) O).2.2 (y1) h3
  generalize (wr [1] (f_X6_netOf B y1) O) = w at h4 h5 hW hM k
  generalize (f_X7_netOf M y1) = g at h4 h5 hM k
  have hT := c_X7_thrown (G := G) C.2.2.2.2.2.2.2.1 w.2.1 g.2 w.2.2
  refine x_aload_n C 2 dL_law_1726 rfl rfl ?_
  refine x_aload_n C 1 dL_law_1727 rfl rfl ?_
  refine x_iload C 0 dL_law_1728 rfl ?_
  refine x_iconst C (v := 1) dL_law_1730 (by decide) ?_
  refine x_iadd C dL_law_1731 ?_
  refine x_sld C hX (hin 1 (by decide)) dL_law_1732 ?_
  rw [hy1]
  refine x_aload_n C 4 dL_law_1733 rfl rfl ?_
  refine x_cWS C (as := [.ref (ad 176), .int y1, .ref (ad 202)]) (rest := []) (n := 3) hW we_4_164 we_4_165 we_1_0 we_4_166 ⟨by decide, by decide, by decide +kernel⟩ ⟨Nat.le_trans (Nat.le_of_ble_eq_true rfl) hR.1, Nat.le_trans (Nat.le_of_ble_eq_true rfl) hR.2⟩ ⟨by have := hf.1; omega, by have := hf.2; omega⟩ rfl rfl (Nat.le_of_ble_eq_true rfl) dL_law_1734 ?_
  refine x_istore C dL_law_1737 (by decide) rfl ?_
  refine x_aload_n C 4 dL_law_1739 rfl rfl ?_
  refine x_aload_n C 2 dL_law_1740 rfl rfl ?_
  refine x_iload C 1 dL_law_1741 rfl ?_
  refine x_iconst C (v := 1) dL_law_1743 (by decide) ?_
  refine x_iadd C dL_law_1744 ?_
  refine x_sld C hX (hin 1 (by decide)) dL_law_1745 ?_
  rw [hy1]
  refine x_cIV C (as := [.int y1]) (rest := []) hM e_M rfl cv_X7_netOf cd_X7_netOf we_8_81 ⟨Nat.le_trans (Nat.le_of_ble_eq_true rfl) hR.1, Nat.le_trans (Nat.le_of_ble_eq_true rfl) hR.2⟩ ⟨by have := hf.1; omega, by have := hf.2; omega⟩ rfl rfl (Nat.le_of_ble_eq_true rfl) dL_law_1746 ?_
  refine x_istore C dL_law_1749 (by decide) rfl ?_
  refine x_aload_n C 5 dL_law_1751 rfl rfl ?_
  refine x_cIV C (as := []) (rest := []) hT e_M rfl cv_X7_thrown cd_X7_thrown we_7_51 ⟨Nat.le_trans (Nat.le_of_ble_eq_true rfl) hR.1, Nat.le_trans (Nat.le_of_ble_eq_true rfl) hR.2⟩ ⟨by have := hf.1; omega, by have := hf.2; omega⟩ rfl rfl (Nat.le_of_ble_eq_true rfl) dL_law_1752 ?_
  refine x_iload C 1 dL_law_1755 rfl ?_
  refine x_icmp_eq C dL_law_1757 (tgt := 1762) (by decide) (fun _ => ?_) (fun h9 => absurd h4 h9)
  refine x_iload C 1 dL_law_1762 rfl ?_
  refine x_if_ne C dL_law_1764 (tgt := 1779) (by decide) (fun _ => ?_) (fun h0 => ?_)
  · skip
    refine x_goto C dL_law_1779 (tgt := 2497) (by decide) ?_
    refine x_sub [2, 3, 4, 5, 6, 7] (ls2 := [(5, .int i), (0, .ref b), (1, .ref (ad 176)), (2, .ref (ad 193)), (3, .ref (ad 202)), (4, .ref (ad 203))]) rfl ?_
    exact x_wid (by omega) (by omega) k
  · skip
    refine x_aload_n C 6 dL_law_1767 rfl rfl ?_
    refine x_iconst C (v := 0) dL_law_1768 (by decide) ?_
    refine x_lald C dL_law_1769 ?_
    refine x_iload C 0 dL_law_1770 rfl ?_
    refine x_i2l C dL_law_1772 ?_
    refine x_lcmp C dL_law_1773 ?_
    refine x_if_eq C dL_law_1774 (tgt := 1779) (by decide) (fun _ => ?_) (fun h9 => absurd (by rw [h5 h0]; exact lg_cmp_self _) h9)
    refine x_goto C dL_law_1779 (tgt := 2497) (by decide) ?_
    refine x_sub [2, 3, 4, 5, 6, 7] (ls2 := [(5, .int i), (0, .ref b), (1, .ref (ad 176)), (2, .ref (ad 193)), (3, .ref (ad 202)), (4, .ref (ad 203))]) rfl ?_
    exact x_wid (by omega) (by omega) k
def okc_33 (B : StB) (M : StM) (O : StO) (y1 : Int32)  : Prop := ok_X6_netByTable B y1 ∧ ((f_X6_netByTable B y1).1 = 0 ∨ (f_X6_netByTable B y1).1 = 1 ) ∧ ok_X7_netByTable M y1 ∧ f_X7_thrown ((f_X7_netByTable M y1)).2 = (wr [1] (f_X6_netByTable B y1) O).1 ∧ ((wr [1] (f_X6_netByTable B y1) O).1 = 0 → (wr [1] (f_X6_netByTable B y1) O).2.2.1 = ((f_X7_netByTable M y1)).1.toInt64)
def stB_33 (B : StB) (M : StM) (O : StO) (y1 : Int32)  : StB := (wr [1] (f_X6_netByTable B y1) O).2.1
def stM_33 (B : StB) (M : StM) (O : StO) (y1 : Int32)  : StM := ((f_X7_netByTable M y1)).2
def stO_33 (B : StB) (M : StM) (O : StO) (y1 : Int32)  : StO := (wr [1] (f_X6_netByTable B y1) O).2.2
set_option maxHeartbeats 4000000 in
set_option maxRecDepth 100000 in
theorem law_c33 (C : CX p l s m args meth c A G ad cL_law "InkBankLaw" 9 (some .boolean)) (hX : va_X b L xs s s.heap ∧ b < s.heap.size ∧ ¬ A b) (hR : 60 ≤ R.frames ∧ 4000 ≤ R.locals) (hf : cells + 8 ≤ R.cells ∧ slots + 48 ≤ R.slots) {i : Int32} (hin : ∀ k : Int32, k = 1 ∨ k = 2 ∨ k = 3 ∨ k = 4 → vp_in (i + k) L) {y1 : Int32}  (hy1 : xs (ix (i + 1)) = y1) (hok : okc_33 B M O y1) (k : X p l e R s m args below meth c A G ad 9 (cells + 8) (slots + 48) Q (stB_33 B M O y1) (stM_33 B M O y1) (stO_33 B M O y1) [(5, .int i), (0, .ref b), (1, .ref (ad 176)), (2, .ref (ad 193)), (3, .ref (ad 202)), (4, .ref (ad 203))] 2497 []) : X p l e R s m args below meth c A G ad 9 cells slots Q B M O [(5, .int i), (0, .ref b), (1, .ref (ad 176)), (2, .ref (ad 193)), (3, .ref (ad 202)), (4, .ref (ad 203))] 1782 [] := by
  obtain ⟨h1, h2, h3, h4, h5⟩ := hok
  unfold stB_33 stM_33 stO_33 at k
  have hW := lc_netByTable (G := G) C.2.2.2.2.2.2.2.1 B M O (y1) h1 (f_X6_netByTable B y1) rfl h2 (wr [1] (f_X6_netByTable B y1) O) rfl
  have hM := c_X7_netByTable (G := G) C.2.2.2.2.2.2.2.1 (wr [1] (f_X6_netByTable B y1) O).2.1 M (wr [1] (f_X6_netByTable B y1) O).2.2 (y1) h3
  generalize (wr [1] (f_X6_netByTable B y1) O) = w at h4 h5 hW hM k
  generalize (f_X7_netByTable M y1) = g at h4 h5 hM k
  have hT := c_X7_thrown (G := G) C.2.2.2.2.2.2.2.1 w.2.1 g.2 w.2.2
  refine x_aload_n C 2 dL_law_1782 rfl rfl ?_
  refine x_aload_n C 1 dL_law_1783 rfl rfl ?_
  refine x_iload C 0 dL_law_1784 rfl ?_
  refine x_iconst C (v := 1) dL_law_1786 (by decide) ?_
  refine x_iadd C dL_law_1787 ?_
  refine x_sld C hX (hin 1 (by decide)) dL_law_1788 ?_
  rw [hy1]
  refine x_aload_n C 4 dL_law_1789 rfl rfl ?_
  refine x_cWS C (as := [.ref (ad 176), .int y1, .ref (ad 202)]) (rest := []) (n := 3) hW we_4_175 we_4_176 we_1_0 we_4_177 ⟨by decide, by decide, by decide +kernel⟩ ⟨Nat.le_trans (Nat.le_of_ble_eq_true rfl) hR.1, Nat.le_trans (Nat.le_of_ble_eq_true rfl) hR.2⟩ ⟨by have := hf.1; omega, by have := hf.2; omega⟩ rfl rfl (Nat.le_of_ble_eq_true rfl) dL_law_1790 ?_
  refine x_istore C dL_law_1793 (by decide) rfl ?_
  refine x_aload_n C 4 dL_law_1795 rfl rfl ?_
  refine x_aload_n C 2 dL_law_1796 rfl rfl ?_
  refine x_iload C 1 dL_law_1797 rfl ?_
  refine x_iconst C (v := 1) dL_law_1799 (by decide) ?_
  refine x_iadd C dL_law_1800 ?_
  refine x_sld C hX (hin 1 (by decide)) dL_law_1801 ?_
  rw [hy1]
  refine x_cIV C (as := [.int y1]) (rest := []) hM e_M rfl cv_X7_netByTable cd_X7_netByTable we_8_89 ⟨Nat.le_trans (Nat.le_of_ble_eq_true rfl) hR.1, Nat.le_trans (Nat.le_of_ble_eq_true rfl) hR.2⟩ ⟨by have := hf.1; omega, by have := hf.2; omega⟩ rfl rfl (Nat.le_of_ble_eq_true rfl) dL_law_1802 ?_
  refine x_istore C dL_law_1805 (by decide) rfl ?_
  refine x_aload_n C 5 dL_law_1807 rfl rfl ?_
  refine x_cIV C (as := []) (rest := []) hT e_M rfl cv_X7_thrown cd_X7_thrown we_7_51 ⟨Nat.le_trans (Nat.le_of_ble_eq_true rfl) hR.1, Nat.le_trans (Nat.le_of_ble_eq_true rfl) hR.2⟩ ⟨by have := hf.1; omega, by have := hf.2; omega⟩ rfl rfl (Nat.le_of_ble_eq_true rfl) dL_law_1808 ?_
  refine x_iload C 1 dL_law_1811 rfl ?_
  refine x_icmp_eq C dL_law_1813 (tgt := 1818) (by decide) (fun _ => ?_) (fun h9 => absurd h4 h9)
  refine x_iload C 1 dL_law_1818 rfl ?_
  refine x_if_ne C dL_law_1820 (tgt := 1835) (by decide) (fun _ => ?_) (fun h0 => ?_)
  · skip
    refine x_goto C dL_law_1835 (tgt := 2497) (by decide) ?_
    refine x_sub [2, 3, 4, 5, 6, 7] (ls2 := [(5, .int i), (0, .ref b), (1, .ref (ad 176)), (2, .ref (ad 193)), (3, .ref (ad 202)), (4, .ref (ad 203))]) rfl ?_
    exact x_wid (by omega) (by omega) k
  · skip
    refine x_aload_n C 6 dL_law_1823 rfl rfl ?_
    refine x_iconst C (v := 0) dL_law_1824 (by decide) ?_
    refine x_lald C dL_law_1825 ?_
    refine x_iload C 0 dL_law_1826 rfl ?_
    refine x_i2l C dL_law_1828 ?_
    refine x_lcmp C dL_law_1829 ?_
    refine x_if_eq C dL_law_1830 (tgt := 1835) (by decide) (fun _ => ?_) (fun h9 => absurd (by rw [h5 h0]; exact lg_cmp_self _) h9)
    refine x_goto C dL_law_1835 (tgt := 2497) (by decide) ?_
    refine x_sub [2, 3, 4, 5, 6, 7] (ls2 := [(5, .int i), (0, .ref b), (1, .ref (ad 176)), (2, .ref (ad 193)), (3, .ref (ad 202)), (4, .ref (ad 203))]) rfl ?_
    exact x_wid (by omega) (by omega) k
def okc_34 (B : StB) (M : StM) (O : StO) (y1 : Int32) (y2 : Int32)  : Prop := ok_X6_leadsTo B y1 y2 ∧ ((f_X6_leadsTo B y1 y2).1 = 0 ∨ (f_X6_leadsTo B y1 y2).1 = 1 ) ∧ ok_X7_leadsTo M y1 y2 ∧ f_X7_thrown ((f_X7_leadsTo M y1 y2)).2 = (wrZ [1] (f_X6_leadsTo B y1 y2) O).1 ∧ ((wrZ [1] (f_X6_leadsTo B y1 y2) O).1 = 0 → (wrZ [1] (f_X6_leadsTo B y1 y2) O).2.2.1 = (if ((f_X7_leadsTo M y1 y2)).1 = 0 then (0 : Int64) else 1))
def stB_34 (B : StB) (M : StM) (O : StO) (y1 : Int32) (y2 : Int32)  : StB := (wrZ [1] (f_X6_leadsTo B y1 y2) O).2.1
def stM_34 (B : StB) (M : StM) (O : StO) (y1 : Int32) (y2 : Int32)  : StM := ((f_X7_leadsTo M y1 y2)).2
def stO_34 (B : StB) (M : StM) (O : StO) (y1 : Int32) (y2 : Int32)  : StO := (wrZ [1] (f_X6_leadsTo B y1 y2) O).2.2
set_option maxHeartbeats 4000000 in
set_option maxRecDepth 100000 in
theorem law_c34 (C : CX p l s m args meth c A G ad cL_law "InkBankLaw" 9 (some .boolean)) (hX : va_X b L xs s s.heap ∧ b < s.heap.size ∧ ¬ A b) (hR : 60 ≤ R.frames ∧ 4000 ≤ R.locals) (hf : cells + 8 ≤ R.cells ∧ slots + 48 ≤ R.slots) {i : Int32} (hin : ∀ k : Int32, k = 1 ∨ k = 2 ∨ k = 3 ∨ k = 4 → vp_in (i + k) L) {y1 : Int32} {y2 : Int32}  (hy1 : xs (ix (i + 1)) = y1) (hy2 : xs (ix (i + 2)) = y2) (hok : okc_34 B M O y1 y2) (k : X p l e R s m args below meth c A G ad 9 (cells + 8) (slots + 48) Q (stB_34 B M O y1 y2) (stM_34 B M O y1 y2) (stO_34 B M O y1 y2) [(5, .int i), (0, .ref b), (1, .ref (ad 176)), (2, .ref (ad 193)), (3, .ref (ad 202)), (4, .ref (ad 203))] 2497 []) : X p l e R s m args below meth c A G ad 9 cells slots Q B M O [(5, .int i), (0, .ref b), (1, .ref (ad 176)), (2, .ref (ad 193)), (3, .ref (ad 202)), (4, .ref (ad 203))] 1838 [] := by
  obtain ⟨h1, h2, h3, h4, h5⟩ := hok
  unfold stB_34 stM_34 stO_34 at k
  have hW := lc_leadsTo (G := G) C.2.2.2.2.2.2.2.1 B M O (y1) (y2) h1 (f_X6_leadsTo B y1 y2) rfl h2 (wrZ [1] (f_X6_leadsTo B y1 y2) O) rfl
  have hM := c_X7_leadsTo (G := G) C.2.2.2.2.2.2.2.1 (wrZ [1] (f_X6_leadsTo B y1 y2) O).2.1 M (wrZ [1] (f_X6_leadsTo B y1 y2) O).2.2 (y1) (y2) h3
  generalize (wrZ [1] (f_X6_leadsTo B y1 y2) O) = w at h4 h5 hW hM k
  generalize (f_X7_leadsTo M y1 y2) = g at h4 h5 hM k
  have hT := c_X7_thrown (G := G) C.2.2.2.2.2.2.2.1 w.2.1 g.2 w.2.2
  refine x_aload_n C 2 dL_law_1838 rfl rfl ?_
  refine x_aload_n C 1 dL_law_1839 rfl rfl ?_
  refine x_iload C 0 dL_law_1840 rfl ?_
  refine x_iconst C (v := 1) dL_law_1842 (by decide) ?_
  refine x_iadd C dL_law_1843 ?_
  refine x_sld C hX (hin 1 (by decide)) dL_law_1844 ?_
  rw [hy1]
  refine x_aload_n C 1 dL_law_1845 rfl rfl ?_
  refine x_iload C 0 dL_law_1846 rfl ?_
  refine x_iconst C (v := 2) dL_law_1848 (by decide) ?_
  refine x_iadd C dL_law_1849 ?_
  refine x_sld C hX (hin 2 (by decide)) dL_law_1850 ?_
  rw [hy2]
  refine x_aload_n C 4 dL_law_1851 rfl rfl ?_
  refine x_cWS C (as := [.ref (ad 176), .int y1, .int y2, .ref (ad 202)]) (rest := []) (n := 4) hW we_4_186 we_4_187 we_1_0 we_4_188 ⟨by decide, by decide, by decide +kernel⟩ ⟨Nat.le_trans (Nat.le_of_ble_eq_true rfl) hR.1, Nat.le_trans (Nat.le_of_ble_eq_true rfl) hR.2⟩ ⟨by have := hf.1; omega, by have := hf.2; omega⟩ rfl rfl (Nat.le_of_ble_eq_true rfl) dL_law_1852 ?_
  refine x_istore C dL_law_1855 (by decide) rfl ?_
  refine x_aload_n C 4 dL_law_1857 rfl rfl ?_
  refine x_aload_n C 2 dL_law_1858 rfl rfl ?_
  refine x_iload C 1 dL_law_1859 rfl ?_
  refine x_iconst C (v := 1) dL_law_1861 (by decide) ?_
  refine x_iadd C dL_law_1862 ?_
  refine x_sld C hX (hin 1 (by decide)) dL_law_1863 ?_
  rw [hy1]
  refine x_aload_n C 2 dL_law_1864 rfl rfl ?_
  refine x_iload C 1 dL_law_1865 rfl ?_
  refine x_iconst C (v := 2) dL_law_1867 (by decide) ?_
  refine x_iadd C dL_law_1868 ?_
  refine x_sld C hX (hin 2 (by decide)) dL_law_1869 ?_
  rw [hy2]
  refine x_cIV C (as := [.int y1, .int y2]) (rest := []) hM e_M rfl cv_X7_leadsTo cd_X7_leadsTo we_8_93 ⟨Nat.le_trans (Nat.le_of_ble_eq_true rfl) hR.1, Nat.le_trans (Nat.le_of_ble_eq_true rfl) hR.2⟩ ⟨by have := hf.1; omega, by have := hf.2; omega⟩ rfl rfl (Nat.le_of_ble_eq_true rfl) dL_law_1870 ?_
  refine x_istore C dL_law_1873 (by decide) rfl ?_
  refine x_aload_n C 5 dL_law_1875 rfl rfl ?_
  refine x_cIV C (as := []) (rest := []) hT e_M rfl cv_X7_thrown cd_X7_thrown we_7_51 ⟨Nat.le_trans (Nat.le_of_ble_eq_true rfl) hR.1, Nat.le_trans (Nat.le_of_ble_eq_true rfl) hR.2⟩ ⟨by have := hf.1; omega, by have := hf.2; omega⟩ rfl rfl (Nat.le_of_ble_eq_true rfl) dL_law_1876 ?_
  refine x_iload C 1 dL_law_1879 rfl ?_
  refine x_icmp_eq C dL_law_1881 (tgt := 1886) (by decide) (fun _ => ?_) (fun h9 => absurd h4 h9)
  refine x_iload C 1 dL_law_1886 rfl ?_
  refine x_if_ne C dL_law_1888 (tgt := 1910) (by decide) (fun _ => ?_) (fun h0 => ?_)
  · skip
    refine x_goto C dL_law_1910 (tgt := 2497) (by decide) ?_
    refine x_sub [2, 3, 4, 5, 6, 7] (ls2 := [(5, .int i), (0, .ref b), (1, .ref (ad 176)), (2, .ref (ad 193)), (3, .ref (ad 202)), (4, .ref (ad 203))]) rfl ?_
    exact x_wid (by omega) (by omega) k
  · skip
    refine x_aload_n C 6 dL_law_1891 rfl rfl ?_
    refine x_iconst C (v := 0) dL_law_1892 (by decide) ?_
    refine x_lald C dL_law_1893 ?_
    refine x_iload C 0 dL_law_1894 rfl ?_
    refine x_if_eq C dL_law_1896 (tgt := 1903) (by decide) (fun hb => ?_) (fun hb => ?_)
    · skip
      refine x_lconst C (v := 0) dL_law_1903 (by decide) ?_
      refine x_lcmp C dL_law_1904 ?_
      refine x_if_eq C dL_law_1905 (tgt := 1910) (by decide) (fun _ => ?_) (fun h9 => absurd (by rw [h5 h0, if_pos hb]; exact lg_cmp_self _) h9)
      refine x_goto C dL_law_1910 (tgt := 2497) (by decide) ?_
      refine x_sub [2, 3, 4, 5, 6, 7] (ls2 := [(5, .int i), (0, .ref b), (1, .ref (ad 176)), (2, .ref (ad 193)), (3, .ref (ad 202)), (4, .ref (ad 203))]) rfl ?_
      exact x_wid (by omega) (by omega) k
    · skip
      refine x_lconst C (v := 1) dL_law_1899 (by decide) ?_
      refine x_goto C dL_law_1900 (tgt := 1904) (by decide) ?_
      refine x_lcmp C dL_law_1904 ?_
      refine x_if_eq C dL_law_1905 (tgt := 1910) (by decide) (fun _ => ?_) (fun h9 => absurd (by rw [h5 h0, if_neg hb]; exact lg_cmp_self _) h9)
      refine x_goto C dL_law_1910 (tgt := 2497) (by decide) ?_
      refine x_sub [2, 3, 4, 5, 6, 7] (ls2 := [(5, .int i), (0, .ref b), (1, .ref (ad 176)), (2, .ref (ad 193)), (3, .ref (ad 202)), (4, .ref (ad 203))]) rfl ?_
      exact x_wid (by omega) (by omega) k
def okc_35 (B : StB) (M : StM) (O : StO)  : Prop := True ∧ True ∧ (f_X6_journalLength B) = (f_X7_journalLength M).1
def stB_35 (B : StB) (M : StM) (O : StO)  : StB := B
def stM_35 (B : StB) (M : StM) (O : StO)  : StM := (f_X7_journalLength M).2
def stO_35 (B : StB) (M : StM) (O : StO)  : StO := O
set_option maxHeartbeats 4000000 in
set_option maxRecDepth 100000 in
theorem law_c35 (C : CX p l s m args meth c A G ad cL_law "InkBankLaw" 9 (some .boolean)) (hX : va_X b L xs s s.heap ∧ b < s.heap.size ∧ ¬ A b) (hR : 60 ≤ R.frames ∧ 4000 ≤ R.locals) (hf : cells + 8 ≤ R.cells ∧ slots + 48 ≤ R.slots) {i : Int32} (hin : ∀ k : Int32, k = 1 ∨ k = 2 ∨ k = 3 ∨ k = 4 → vp_in (i + k) L)   (hok : okc_35 B M O ) (k : X p l e R s m args below meth c A G ad 9 (cells + 8) (slots + 48) Q (stB_35 B M O ) (stM_35 B M O ) (stO_35 B M O ) [(5, .int i), (0, .ref b), (1, .ref (ad 176)), (2, .ref (ad 193)), (3, .ref (ad 202)), (4, .ref (ad 203))] 2497 []) : X p l e R s m args below meth c A G ad 9 cells slots Q B M O [(5, .int i), (0, .ref b), (1, .ref (ad 176)), (2, .ref (ad 193)), (3, .ref (ad 202)), (4, .ref (ad 203))] 1913 [] := by
  obtain ⟨h1, h2, h3⟩ := hok
  unfold stB_35 stM_35 stO_35 at k
  have hW := c_X6_journalLength (G := G) C.2.2.2.2.2.2.2.1 B M O 
  have hM := c_X7_journalLength (G := G) C.2.2.2.2.2.2.2.1 (B) M O 
  refine x_aload_n C 2 dL_law_1913 rfl rfl ?_
  refine x_cIV C (as := []) (rest := []) hW e_I rfl cv_X6_journalLength cd_X6_journalLength we_2_107 ⟨Nat.le_trans (Nat.le_of_ble_eq_true rfl) hR.1, Nat.le_trans (Nat.le_of_ble_eq_true rfl) hR.2⟩ ⟨by have := hf.1; omega, by have := hf.2; omega⟩ rfl rfl (Nat.le_of_ble_eq_true rfl) dL_law_1914 ?_
  refine x_aload_n C 3 dL_law_1917 rfl rfl ?_
  refine x_cIV C (as := []) (rest := [.int _]) hM e_M rfl cv_X7_journalLength cd_X7_journalLength we_8_97 ⟨Nat.le_trans (Nat.le_of_ble_eq_true rfl) hR.1, Nat.le_trans (Nat.le_of_ble_eq_true rfl) hR.2⟩ ⟨by have := hf.1; omega, by have := hf.2; omega⟩ rfl rfl (Nat.le_of_ble_eq_true rfl) dL_law_1918 ?_
  refine x_icmp_eq C dL_law_1921 (tgt := 2497) (by decide) (fun _ => ?_) (fun h9 => absurd h3 h9)
  exact x_wid (by omega) (by omega) k
def okc_36 (B : StB) (M : StM) (O : StO) (y1 : Int32)  : Prop := ok_X6_movementKind B y1 ∧ ((f_X6_movementKind B y1).1 = 0 ∨ (f_X6_movementKind B y1).1 = 5 ) ∧ ok_X7_movementKind M y1 ∧ f_X7_thrown ((f_X7_movementKind M y1)).2 = (wr [5] (f_X6_movementKind B y1) O).1 ∧ ((wr [5] (f_X6_movementKind B y1) O).1 = 0 → (wr [5] (f_X6_movementKind B y1) O).2.2.1 = ((f_X7_movementKind M y1)).1.toInt64)
def stB_36 (B : StB) (M : StM) (O : StO) (y1 : Int32)  : StB := (wr [5] (f_X6_movementKind B y1) O).2.1
def stM_36 (B : StB) (M : StM) (O : StO) (y1 : Int32)  : StM := ((f_X7_movementKind M y1)).2
def stO_36 (B : StB) (M : StM) (O : StO) (y1 : Int32)  : StO := (wr [5] (f_X6_movementKind B y1) O).2.2
set_option maxHeartbeats 4000000 in
set_option maxRecDepth 100000 in
theorem law_c36 (C : CX p l s m args meth c A G ad cL_law "InkBankLaw" 9 (some .boolean)) (hX : va_X b L xs s s.heap ∧ b < s.heap.size ∧ ¬ A b) (hR : 60 ≤ R.frames ∧ 4000 ≤ R.locals) (hf : cells + 8 ≤ R.cells ∧ slots + 48 ≤ R.slots) {i : Int32} (hin : ∀ k : Int32, k = 1 ∨ k = 2 ∨ k = 3 ∨ k = 4 → vp_in (i + k) L) {y1 : Int32}  (hy1 : xs (ix (i + 1)) = y1) (hok : okc_36 B M O y1) (k : X p l e R s m args below meth c A G ad 9 (cells + 8) (slots + 48) Q (stB_36 B M O y1) (stM_36 B M O y1) (stO_36 B M O y1) [(5, .int i), (0, .ref b), (1, .ref (ad 176)), (2, .ref (ad 193)), (3, .ref (ad 202)), (4, .ref (ad 203))] 2497 []) : X p l e R s m args below meth c A G ad 9 cells slots Q B M O [(5, .int i), (0, .ref b), (1, .ref (ad 176)), (2, .ref (ad 193)), (3, .ref (ad 202)), (4, .ref (ad 203))] 1926 [] := by
  obtain ⟨h1, h2, h3, h4, h5⟩ := hok
  unfold stB_36 stM_36 stO_36 at k
  have hW := lc_movementKind (G := G) C.2.2.2.2.2.2.2.1 B M O (y1) h1 (f_X6_movementKind B y1) rfl h2 (wr [5] (f_X6_movementKind B y1) O) rfl
  have hM := c_X7_movementKind (G := G) C.2.2.2.2.2.2.2.1 (wr [5] (f_X6_movementKind B y1) O).2.1 M (wr [5] (f_X6_movementKind B y1) O).2.2 (y1) h3
  generalize (wr [5] (f_X6_movementKind B y1) O) = w at h4 h5 hW hM k
  generalize (f_X7_movementKind M y1) = g at h4 h5 hM k
  have hT := c_X7_thrown (G := G) C.2.2.2.2.2.2.2.1 w.2.1 g.2 w.2.2
  refine x_aload_n C 2 dL_law_1926 rfl rfl ?_
  refine x_aload_n C 1 dL_law_1927 rfl rfl ?_
  refine x_iload C 0 dL_law_1928 rfl ?_
  refine x_iconst C (v := 1) dL_law_1930 (by decide) ?_
  refine x_iadd C dL_law_1931 ?_
  refine x_sld C hX (hin 1 (by decide)) dL_law_1932 ?_
  rw [hy1]
  refine x_aload_n C 4 dL_law_1933 rfl rfl ?_
  refine x_cWS C (as := [.ref (ad 176), .int y1, .ref (ad 202)]) (rest := []) (n := 3) hW we_4_197 we_4_198 we_1_0 we_4_199 ⟨by decide, by decide, by decide +kernel⟩ ⟨Nat.le_trans (Nat.le_of_ble_eq_true rfl) hR.1, Nat.le_trans (Nat.le_of_ble_eq_true rfl) hR.2⟩ ⟨by have := hf.1; omega, by have := hf.2; omega⟩ rfl rfl (Nat.le_of_ble_eq_true rfl) dL_law_1934 ?_
  refine x_istore C dL_law_1937 (by decide) rfl ?_
  refine x_aload_n C 4 dL_law_1939 rfl rfl ?_
  refine x_aload_n C 2 dL_law_1940 rfl rfl ?_
  refine x_iload C 1 dL_law_1941 rfl ?_
  refine x_iconst C (v := 1) dL_law_1943 (by decide) ?_
  refine x_iadd C dL_law_1944 ?_
  refine x_sld C hX (hin 1 (by decide)) dL_law_1945 ?_
  rw [hy1]
  refine x_cIV C (as := [.int y1]) (rest := []) hM e_M rfl cv_X7_movementKind cd_X7_movementKind we_8_101 ⟨Nat.le_trans (Nat.le_of_ble_eq_true rfl) hR.1, Nat.le_trans (Nat.le_of_ble_eq_true rfl) hR.2⟩ ⟨by have := hf.1; omega, by have := hf.2; omega⟩ rfl rfl (Nat.le_of_ble_eq_true rfl) dL_law_1946 ?_
  refine x_istore C dL_law_1949 (by decide) rfl ?_
  refine x_aload_n C 5 dL_law_1951 rfl rfl ?_
  refine x_cIV C (as := []) (rest := []) hT e_M rfl cv_X7_thrown cd_X7_thrown we_7_51 ⟨Nat.le_trans (Nat.le_of_ble_eq_true rfl) hR.1, Nat.le_trans (Nat.le_of_ble_eq_true rfl) hR.2⟩ ⟨by have := hf.1; omega, by have := hf.2; omega⟩ rfl rfl (Nat.le_of_ble_eq_true rfl) dL_law_1952 ?_
  refine x_iload C 1 dL_law_1955 rfl ?_
  refine x_icmp_eq C dL_law_1957 (tgt := 1962) (by decide) (fun _ => ?_) (fun h9 => absurd h4 h9)
  refine x_iload C 1 dL_law_1962 rfl ?_
  refine x_if_ne C dL_law_1964 (tgt := 1979) (by decide) (fun _ => ?_) (fun h0 => ?_)
  · skip
    refine x_goto C dL_law_1979 (tgt := 2497) (by decide) ?_
    refine x_sub [2, 3, 4, 5, 6, 7] (ls2 := [(5, .int i), (0, .ref b), (1, .ref (ad 176)), (2, .ref (ad 193)), (3, .ref (ad 202)), (4, .ref (ad 203))]) rfl ?_
    exact x_wid (by omega) (by omega) k
  · skip
    refine x_aload_n C 6 dL_law_1967 rfl rfl ?_
    refine x_iconst C (v := 0) dL_law_1968 (by decide) ?_
    refine x_lald C dL_law_1969 ?_
    refine x_iload C 0 dL_law_1970 rfl ?_
    refine x_i2l C dL_law_1972 ?_
    refine x_lcmp C dL_law_1973 ?_
    refine x_if_eq C dL_law_1974 (tgt := 1979) (by decide) (fun _ => ?_) (fun h9 => absurd (by rw [h5 h0]; exact lg_cmp_self _) h9)
    refine x_goto C dL_law_1979 (tgt := 2497) (by decide) ?_
    refine x_sub [2, 3, 4, 5, 6, 7] (ls2 := [(5, .int i), (0, .ref b), (1, .ref (ad 176)), (2, .ref (ad 193)), (3, .ref (ad 202)), (4, .ref (ad 203))]) rfl ?_
    exact x_wid (by omega) (by omega) k
def okc_37 (B : StB) (M : StM) (O : StO) (y1 : Int32)  : Prop := ok_X6_movementAmount B y1 ∧ ((f_X6_movementAmount B y1).1 = 0 ∨ (f_X6_movementAmount B y1).1 = 5 ) ∧ ok_X7_movementAmount M y1 ∧ f_X7_thrown ((f_X7_movementAmount M y1)).2 = (wr [5] (f_X6_movementAmount B y1) O).1 ∧ ((wr [5] (f_X6_movementAmount B y1) O).1 = 0 → (wr [5] (f_X6_movementAmount B y1) O).2.2.1 = ((f_X7_movementAmount M y1)).1.toInt64)
def stB_37 (B : StB) (M : StM) (O : StO) (y1 : Int32)  : StB := (wr [5] (f_X6_movementAmount B y1) O).2.1
def stM_37 (B : StB) (M : StM) (O : StO) (y1 : Int32)  : StM := ((f_X7_movementAmount M y1)).2
def stO_37 (B : StB) (M : StM) (O : StO) (y1 : Int32)  : StO := (wr [5] (f_X6_movementAmount B y1) O).2.2
set_option maxHeartbeats 4000000 in
set_option maxRecDepth 100000 in
theorem law_c37 (C : CX p l s m args meth c A G ad cL_law "InkBankLaw" 9 (some .boolean)) (hX : va_X b L xs s s.heap ∧ b < s.heap.size ∧ ¬ A b) (hR : 60 ≤ R.frames ∧ 4000 ≤ R.locals) (hf : cells + 8 ≤ R.cells ∧ slots + 48 ≤ R.slots) {i : Int32} (hin : ∀ k : Int32, k = 1 ∨ k = 2 ∨ k = 3 ∨ k = 4 → vp_in (i + k) L) {y1 : Int32}  (hy1 : xs (ix (i + 1)) = y1) (hok : okc_37 B M O y1) (k : X p l e R s m args below meth c A G ad 9 (cells + 8) (slots + 48) Q (stB_37 B M O y1) (stM_37 B M O y1) (stO_37 B M O y1) [(5, .int i), (0, .ref b), (1, .ref (ad 176)), (2, .ref (ad 193)), (3, .ref (ad 202)), (4, .ref (ad 203))] 2497 []) : X p l e R s m args below meth c A G ad 9 cells slots Q B M O [(5, .int i), (0, .ref b), (1, .ref (ad 176)), (2, .ref (ad 193)), (3, .ref (ad 202)), (4, .ref (ad 203))] 1982 [] := by
  obtain ⟨h1, h2, h3, h4, h5⟩ := hok
  unfold stB_37 stM_37 stO_37 at k
  have hW := lc_movementAmount (G := G) C.2.2.2.2.2.2.2.1 B M O (y1) h1 (f_X6_movementAmount B y1) rfl h2 (wr [5] (f_X6_movementAmount B y1) O) rfl
  have hM := c_X7_movementAmount (G := G) C.2.2.2.2.2.2.2.1 (wr [5] (f_X6_movementAmount B y1) O).2.1 M (wr [5] (f_X6_movementAmount B y1) O).2.2 (y1) h3
  generalize (wr [5] (f_X6_movementAmount B y1) O) = w at h4 h5 hW hM k
  generalize (f_X7_movementAmount M y1) = g at h4 h5 hM k
  have hT := c_X7_thrown (G := G) C.2.2.2.2.2.2.2.1 w.2.1 g.2 w.2.2
  refine x_aload_n C 2 dL_law_1982 rfl rfl ?_
  refine x_aload_n C 1 dL_law_1983 rfl rfl ?_
  refine x_iload C 0 dL_law_1984 rfl ?_
  refine x_iconst C (v := 1) dL_law_1986 (by decide) ?_
  refine x_iadd C dL_law_1987 ?_
  refine x_sld C hX (hin 1 (by decide)) dL_law_1988 ?_
  rw [hy1]
  refine x_aload_n C 4 dL_law_1989 rfl rfl ?_
  refine x_cWS C (as := [.ref (ad 176), .int y1, .ref (ad 202)]) (rest := []) (n := 3) hW we_4_212 we_4_213 we_1_0 we_4_214 ⟨by decide, by decide, by decide +kernel⟩ ⟨Nat.le_trans (Nat.le_of_ble_eq_true rfl) hR.1, Nat.le_trans (Nat.le_of_ble_eq_true rfl) hR.2⟩ ⟨by have := hf.1; omega, by have := hf.2; omega⟩ rfl rfl (Nat.le_of_ble_eq_true rfl) dL_law_1990 ?_
  refine x_istore C dL_law_1993 (by decide) rfl ?_
  refine x_aload_n C 4 dL_law_1995 rfl rfl ?_
  refine x_aload_n C 2 dL_law_1996 rfl rfl ?_
  refine x_iload C 1 dL_law_1997 rfl ?_
  refine x_iconst C (v := 1) dL_law_1999 (by decide) ?_
  refine x_iadd C dL_law_2000 ?_
  refine x_sld C hX (hin 1 (by decide)) dL_law_2001 ?_
  rw [hy1]
  refine x_cIV C (as := [.int y1]) (rest := []) hM e_M rfl cv_X7_movementAmount cd_X7_movementAmount we_8_109 ⟨Nat.le_trans (Nat.le_of_ble_eq_true rfl) hR.1, Nat.le_trans (Nat.le_of_ble_eq_true rfl) hR.2⟩ ⟨by have := hf.1; omega, by have := hf.2; omega⟩ rfl rfl (Nat.le_of_ble_eq_true rfl) dL_law_2002 ?_
  refine x_istore C dL_law_2005 (by decide) rfl ?_
  refine x_aload_n C 5 dL_law_2007 rfl rfl ?_
  refine x_cIV C (as := []) (rest := []) hT e_M rfl cv_X7_thrown cd_X7_thrown we_7_51 ⟨Nat.le_trans (Nat.le_of_ble_eq_true rfl) hR.1, Nat.le_trans (Nat.le_of_ble_eq_true rfl) hR.2⟩ ⟨by have := hf.1; omega, by have := hf.2; omega⟩ rfl rfl (Nat.le_of_ble_eq_true rfl) dL_law_2008 ?_
  refine x_iload C 1 dL_law_2011 rfl ?_
  refine x_icmp_eq C dL_law_2013 (tgt := 2018) (by decide) (fun _ => ?_) (fun h9 => absurd h4 h9)
  refine x_iload C 1 dL_law_2018 rfl ?_
  refine x_if_ne C dL_law_2020 (tgt := 2035) (by decide) (fun _ => ?_) (fun h0 => ?_)
  · skip
    refine x_goto C dL_law_2035 (tgt := 2497) (by decide) ?_
    refine x_sub [2, 3, 4, 5, 6, 7] (ls2 := [(5, .int i), (0, .ref b), (1, .ref (ad 176)), (2, .ref (ad 193)), (3, .ref (ad 202)), (4, .ref (ad 203))]) rfl ?_
    exact x_wid (by omega) (by omega) k
  · skip
    refine x_aload_n C 6 dL_law_2023 rfl rfl ?_
    refine x_iconst C (v := 0) dL_law_2024 (by decide) ?_
    refine x_lald C dL_law_2025 ?_
    refine x_iload C 0 dL_law_2026 rfl ?_
    refine x_i2l C dL_law_2028 ?_
    refine x_lcmp C dL_law_2029 ?_
    refine x_if_eq C dL_law_2030 (tgt := 2035) (by decide) (fun _ => ?_) (fun h9 => absurd (by rw [h5 h0]; exact lg_cmp_self _) h9)
    refine x_goto C dL_law_2035 (tgt := 2497) (by decide) ?_
    refine x_sub [2, 3, 4, 5, 6, 7] (ls2 := [(5, .int i), (0, .ref b), (1, .ref (ad 176)), (2, .ref (ad 193)), (3, .ref (ad 202)), (4, .ref (ad 203))]) rfl ?_
    exact x_wid (by omega) (by omega) k
def okc_38 (B : StB) (M : StM) (O : StO) (y1 : Int32)  : Prop := ok_X6_movementAccount B y1 ∧ ((f_X6_movementAccount B y1).1 = 0 ∨ (f_X6_movementAccount B y1).1 = 5 ) ∧ ok_X7_movementAccount M y1 ∧ f_X7_thrown ((f_X7_movementAccount M y1)).2 = (wr [5] (f_X6_movementAccount B y1) O).1 ∧ ((wr [5] (f_X6_movementAccount B y1) O).1 = 0 → (wr [5] (f_X6_movementAccount B y1) O).2.2.1 = ((f_X7_movementAccount M y1)).1.toInt64)
def stB_38 (B : StB) (M : StM) (O : StO) (y1 : Int32)  : StB := (wr [5] (f_X6_movementAccount B y1) O).2.1
def stM_38 (B : StB) (M : StM) (O : StO) (y1 : Int32)  : StM := ((f_X7_movementAccount M y1)).2
def stO_38 (B : StB) (M : StM) (O : StO) (y1 : Int32)  : StO := (wr [5] (f_X6_movementAccount B y1) O).2.2
set_option maxHeartbeats 4000000 in
set_option maxRecDepth 100000 in
theorem law_c38 (C : CX p l s m args meth c A G ad cL_law "InkBankLaw" 9 (some .boolean)) (hX : va_X b L xs s s.heap ∧ b < s.heap.size ∧ ¬ A b) (hR : 60 ≤ R.frames ∧ 4000 ≤ R.locals) (hf : cells + 8 ≤ R.cells ∧ slots + 48 ≤ R.slots) {i : Int32} (hin : ∀ k : Int32, k = 1 ∨ k = 2 ∨ k = 3 ∨ k = 4 → vp_in (i + k) L) {y1 : Int32}  (hy1 : xs (ix (i + 1)) = y1) (hok : okc_38 B M O y1) (k : X p l e R s m args below meth c A G ad 9 (cells + 8) (slots + 48) Q (stB_38 B M O y1) (stM_38 B M O y1) (stO_38 B M O y1) [(5, .int i), (0, .ref b), (1, .ref (ad 176)), (2, .ref (ad 193)), (3, .ref (ad 202)), (4, .ref (ad 203))] 2497 []) : X p l e R s m args below meth c A G ad 9 cells slots Q B M O [(5, .int i), (0, .ref b), (1, .ref (ad 176)), (2, .ref (ad 193)), (3, .ref (ad 202)), (4, .ref (ad 203))] 2038 [] := by
  obtain ⟨h1, h2, h3, h4, h5⟩ := hok
  unfold stB_38 stM_38 stO_38 at k
  have hW := lc_movementAccount (G := G) C.2.2.2.2.2.2.2.1 B M O (y1) h1 (f_X6_movementAccount B y1) rfl h2 (wr [5] (f_X6_movementAccount B y1) O) rfl
  have hM := c_X7_movementAccount (G := G) C.2.2.2.2.2.2.2.1 (wr [5] (f_X6_movementAccount B y1) O).2.1 M (wr [5] (f_X6_movementAccount B y1) O).2.2 (y1) h3
  generalize (wr [5] (f_X6_movementAccount B y1) O) = w at h4 h5 hW hM k
  generalize (f_X7_movementAccount M y1) = g at h4 h5 hM k
  have hT := c_X7_thrown (G := G) C.2.2.2.2.2.2.2.1 w.2.1 g.2 w.2.2
  refine x_aload_n C 2 dL_law_2038 rfl rfl ?_
  refine x_aload_n C 1 dL_law_2039 rfl rfl ?_
  refine x_iload C 0 dL_law_2040 rfl ?_
  refine x_iconst C (v := 1) dL_law_2042 (by decide) ?_
  refine x_iadd C dL_law_2043 ?_
  refine x_sld C hX (hin 1 (by decide)) dL_law_2044 ?_
  rw [hy1]
  refine x_aload_n C 4 dL_law_2045 rfl rfl ?_
  refine x_cWS C (as := [.ref (ad 176), .int y1, .ref (ad 202)]) (rest := []) (n := 3) hW we_4_219 we_4_220 we_1_0 we_4_221 ⟨by decide, by decide, by decide +kernel⟩ ⟨Nat.le_trans (Nat.le_of_ble_eq_true rfl) hR.1, Nat.le_trans (Nat.le_of_ble_eq_true rfl) hR.2⟩ ⟨by have := hf.1; omega, by have := hf.2; omega⟩ rfl rfl (Nat.le_of_ble_eq_true rfl) dL_law_2046 ?_
  refine x_istore C dL_law_2049 (by decide) rfl ?_
  refine x_aload_n C 4 dL_law_2051 rfl rfl ?_
  refine x_aload_n C 2 dL_law_2052 rfl rfl ?_
  refine x_iload C 1 dL_law_2053 rfl ?_
  refine x_iconst C (v := 1) dL_law_2055 (by decide) ?_
  refine x_iadd C dL_law_2056 ?_
  refine x_sld C hX (hin 1 (by decide)) dL_law_2057 ?_
  rw [hy1]
  refine x_cIV C (as := [.int y1]) (rest := []) hM e_M rfl cv_X7_movementAccount cd_X7_movementAccount we_8_113 ⟨Nat.le_trans (Nat.le_of_ble_eq_true rfl) hR.1, Nat.le_trans (Nat.le_of_ble_eq_true rfl) hR.2⟩ ⟨by have := hf.1; omega, by have := hf.2; omega⟩ rfl rfl (Nat.le_of_ble_eq_true rfl) dL_law_2058 ?_
  refine x_istore C dL_law_2061 (by decide) rfl ?_
  refine x_aload_n C 5 dL_law_2063 rfl rfl ?_
  refine x_cIV C (as := []) (rest := []) hT e_M rfl cv_X7_thrown cd_X7_thrown we_7_51 ⟨Nat.le_trans (Nat.le_of_ble_eq_true rfl) hR.1, Nat.le_trans (Nat.le_of_ble_eq_true rfl) hR.2⟩ ⟨by have := hf.1; omega, by have := hf.2; omega⟩ rfl rfl (Nat.le_of_ble_eq_true rfl) dL_law_2064 ?_
  refine x_iload C 1 dL_law_2067 rfl ?_
  refine x_icmp_eq C dL_law_2069 (tgt := 2074) (by decide) (fun _ => ?_) (fun h9 => absurd h4 h9)
  refine x_iload C 1 dL_law_2074 rfl ?_
  refine x_if_ne C dL_law_2076 (tgt := 2091) (by decide) (fun _ => ?_) (fun h0 => ?_)
  · skip
    refine x_goto C dL_law_2091 (tgt := 2497) (by decide) ?_
    refine x_sub [2, 3, 4, 5, 6, 7] (ls2 := [(5, .int i), (0, .ref b), (1, .ref (ad 176)), (2, .ref (ad 193)), (3, .ref (ad 202)), (4, .ref (ad 203))]) rfl ?_
    exact x_wid (by omega) (by omega) k
  · skip
    refine x_aload_n C 6 dL_law_2079 rfl rfl ?_
    refine x_iconst C (v := 0) dL_law_2080 (by decide) ?_
    refine x_lald C dL_law_2081 ?_
    refine x_iload C 0 dL_law_2082 rfl ?_
    refine x_i2l C dL_law_2084 ?_
    refine x_lcmp C dL_law_2085 ?_
    refine x_if_eq C dL_law_2086 (tgt := 2091) (by decide) (fun _ => ?_) (fun h9 => absurd (by rw [h5 h0]; exact lg_cmp_self _) h9)
    refine x_goto C dL_law_2091 (tgt := 2497) (by decide) ?_
    refine x_sub [2, 3, 4, 5, 6, 7] (ls2 := [(5, .int i), (0, .ref b), (1, .ref (ad 176)), (2, .ref (ad 193)), (3, .ref (ad 202)), (4, .ref (ad 203))]) rfl ?_
    exact x_wid (by omega) (by omega) k
def okc_39 (B : StB) (M : StM) (O : StO) (y1 : Int32)  : Prop := ok_X6_writeStatement B y1 ∧ ((f_X6_writeStatement B y1).1 = 0 ∨ (f_X6_writeStatement B y1).1 = 1 ) ∧ ok_X7_writeStatement M y1 ∧ f_X7_thrown ((f_X7_writeStatement M y1)).2 = (wr [1] (f_X6_writeStatement B y1) O).1 ∧ ((wr [1] (f_X6_writeStatement B y1) O).1 = 0 → (wr [1] (f_X6_writeStatement B y1) O).2.2.1 = ((f_X7_writeStatement M y1)).1.toInt64)
def stB_39 (B : StB) (M : StM) (O : StO) (y1 : Int32)  : StB := (wr [1] (f_X6_writeStatement B y1) O).2.1
def stM_39 (B : StB) (M : StM) (O : StO) (y1 : Int32)  : StM := ((f_X7_writeStatement M y1)).2
def stO_39 (B : StB) (M : StM) (O : StO) (y1 : Int32)  : StO := (wr [1] (f_X6_writeStatement B y1) O).2.2
set_option maxHeartbeats 4000000 in
set_option maxRecDepth 100000 in
theorem law_c39 (C : CX p l s m args meth c A G ad cL_law "InkBankLaw" 9 (some .boolean)) (hX : va_X b L xs s s.heap ∧ b < s.heap.size ∧ ¬ A b) (hR : 60 ≤ R.frames ∧ 4000 ≤ R.locals) (hf : cells + 8 ≤ R.cells ∧ slots + 48 ≤ R.slots) {i : Int32} (hin : ∀ k : Int32, k = 1 ∨ k = 2 ∨ k = 3 ∨ k = 4 → vp_in (i + k) L) {y1 : Int32}  (hy1 : xs (ix (i + 1)) = y1) (hok : okc_39 B M O y1) (k : X p l e R s m args below meth c A G ad 9 (cells + 8) (slots + 48) Q (stB_39 B M O y1) (stM_39 B M O y1) (stO_39 B M O y1) [(5, .int i), (0, .ref b), (1, .ref (ad 176)), (2, .ref (ad 193)), (3, .ref (ad 202)), (4, .ref (ad 203))] 2497 []) : X p l e R s m args below meth c A G ad 9 cells slots Q B M O [(5, .int i), (0, .ref b), (1, .ref (ad 176)), (2, .ref (ad 193)), (3, .ref (ad 202)), (4, .ref (ad 203))] 2094 [] := by
  obtain ⟨h1, h2, h3, h4, h5⟩ := hok
  unfold stB_39 stM_39 stO_39 at k
  have hW := lc_writeStatement (G := G) C.2.2.2.2.2.2.2.1 B M O (y1) h1 (f_X6_writeStatement B y1) rfl h2 (wr [1] (f_X6_writeStatement B y1) O) rfl
  have hM := c_X7_writeStatement (G := G) C.2.2.2.2.2.2.2.1 (wr [1] (f_X6_writeStatement B y1) O).2.1 M (wr [1] (f_X6_writeStatement B y1) O).2.2 (y1) h3
  generalize (wr [1] (f_X6_writeStatement B y1) O) = w at h4 h5 hW hM k
  generalize (f_X7_writeStatement M y1) = g at h4 h5 hM k
  have hT := c_X7_thrown (G := G) C.2.2.2.2.2.2.2.1 w.2.1 g.2 w.2.2
  refine x_aload_n C 2 dL_law_2094 rfl rfl ?_
  refine x_aload_n C 1 dL_law_2095 rfl rfl ?_
  refine x_iload C 0 dL_law_2096 rfl ?_
  refine x_iconst C (v := 1) dL_law_2098 (by decide) ?_
  refine x_iadd C dL_law_2099 ?_
  refine x_sld C hX (hin 1 (by decide)) dL_law_2100 ?_
  rw [hy1]
  refine x_aload_n C 4 dL_law_2101 rfl rfl ?_
  refine x_cWS C (as := [.ref (ad 176), .int y1, .ref (ad 202)]) (rest := []) (n := 3) hW we_4_226 we_4_227 we_1_0 we_4_228 ⟨by decide, by decide, by decide +kernel⟩ ⟨Nat.le_trans (Nat.le_of_ble_eq_true rfl) hR.1, Nat.le_trans (Nat.le_of_ble_eq_true rfl) hR.2⟩ ⟨by have := hf.1; omega, by have := hf.2; omega⟩ rfl rfl (Nat.le_of_ble_eq_true rfl) dL_law_2102 ?_
  refine x_istore C dL_law_2105 (by decide) rfl ?_
  refine x_aload_n C 4 dL_law_2107 rfl rfl ?_
  refine x_aload_n C 2 dL_law_2108 rfl rfl ?_
  refine x_iload C 1 dL_law_2109 rfl ?_
  refine x_iconst C (v := 1) dL_law_2111 (by decide) ?_
  refine x_iadd C dL_law_2112 ?_
  refine x_sld C hX (hin 1 (by decide)) dL_law_2113 ?_
  rw [hy1]
  refine x_cIV C (as := [.int y1]) (rest := []) hM e_M rfl cv_X7_writeStatement cd_X7_writeStatement we_8_117 ⟨Nat.le_trans (Nat.le_of_ble_eq_true rfl) hR.1, Nat.le_trans (Nat.le_of_ble_eq_true rfl) hR.2⟩ ⟨by have := hf.1; omega, by have := hf.2; omega⟩ rfl rfl (Nat.le_of_ble_eq_true rfl) dL_law_2114 ?_
  refine x_istore C dL_law_2117 (by decide) rfl ?_
  refine x_aload_n C 5 dL_law_2119 rfl rfl ?_
  refine x_cIV C (as := []) (rest := []) hT e_M rfl cv_X7_thrown cd_X7_thrown we_7_51 ⟨Nat.le_trans (Nat.le_of_ble_eq_true rfl) hR.1, Nat.le_trans (Nat.le_of_ble_eq_true rfl) hR.2⟩ ⟨by have := hf.1; omega, by have := hf.2; omega⟩ rfl rfl (Nat.le_of_ble_eq_true rfl) dL_law_2120 ?_
  refine x_iload C 1 dL_law_2123 rfl ?_
  refine x_icmp_eq C dL_law_2125 (tgt := 2130) (by decide) (fun _ => ?_) (fun h9 => absurd h4 h9)
  refine x_iload C 1 dL_law_2130 rfl ?_
  refine x_if_ne C dL_law_2132 (tgt := 2147) (by decide) (fun _ => ?_) (fun h0 => ?_)
  · skip
    refine x_goto C dL_law_2147 (tgt := 2497) (by decide) ?_
    refine x_sub [2, 3, 4, 5, 6, 7] (ls2 := [(5, .int i), (0, .ref b), (1, .ref (ad 176)), (2, .ref (ad 193)), (3, .ref (ad 202)), (4, .ref (ad 203))]) rfl ?_
    exact x_wid (by omega) (by omega) k
  · skip
    refine x_aload_n C 6 dL_law_2135 rfl rfl ?_
    refine x_iconst C (v := 0) dL_law_2136 (by decide) ?_
    refine x_lald C dL_law_2137 ?_
    refine x_iload C 0 dL_law_2138 rfl ?_
    refine x_i2l C dL_law_2140 ?_
    refine x_lcmp C dL_law_2141 ?_
    refine x_if_eq C dL_law_2142 (tgt := 2147) (by decide) (fun _ => ?_) (fun h9 => absurd (by rw [h5 h0]; exact lg_cmp_self _) h9)
    refine x_goto C dL_law_2147 (tgt := 2497) (by decide) ?_
    refine x_sub [2, 3, 4, 5, 6, 7] (ls2 := [(5, .int i), (0, .ref b), (1, .ref (ad 176)), (2, .ref (ad 193)), (3, .ref (ad 202)), (4, .ref (ad 203))]) rfl ?_
    exact x_wid (by omega) (by omega) k
def okc_40 (B : StB) (M : StM) (O : StO) (y1 : Int32)  : Prop := ok_X6_statementAt B y1 ∧ ((f_X6_statementAt B y1).1 = 0 ∨ (f_X6_statementAt B y1).1 = 1 ) ∧ ok_X7_statementAt M y1 ∧ f_X7_thrown ((f_X7_statementAt M y1)).2 = (wr [1] (f_X6_statementAt B y1) O).1 ∧ ((wr [1] (f_X6_statementAt B y1) O).1 = 0 → (wr [1] (f_X6_statementAt B y1) O).2.2.1 = ((f_X7_statementAt M y1)).1.toInt64)
def stB_40 (B : StB) (M : StM) (O : StO) (y1 : Int32)  : StB := (wr [1] (f_X6_statementAt B y1) O).2.1
def stM_40 (B : StB) (M : StM) (O : StO) (y1 : Int32)  : StM := ((f_X7_statementAt M y1)).2
def stO_40 (B : StB) (M : StM) (O : StO) (y1 : Int32)  : StO := (wr [1] (f_X6_statementAt B y1) O).2.2
set_option maxHeartbeats 4000000 in
set_option maxRecDepth 100000 in
theorem law_c40 (C : CX p l s m args meth c A G ad cL_law "InkBankLaw" 9 (some .boolean)) (hX : va_X b L xs s s.heap ∧ b < s.heap.size ∧ ¬ A b) (hR : 60 ≤ R.frames ∧ 4000 ≤ R.locals) (hf : cells + 8 ≤ R.cells ∧ slots + 48 ≤ R.slots) {i : Int32} (hin : ∀ k : Int32, k = 1 ∨ k = 2 ∨ k = 3 ∨ k = 4 → vp_in (i + k) L) {y1 : Int32}  (hy1 : xs (ix (i + 1)) = y1) (hok : okc_40 B M O y1) (k : X p l e R s m args below meth c A G ad 9 (cells + 8) (slots + 48) Q (stB_40 B M O y1) (stM_40 B M O y1) (stO_40 B M O y1) [(5, .int i), (0, .ref b), (1, .ref (ad 176)), (2, .ref (ad 193)), (3, .ref (ad 202)), (4, .ref (ad 203))] 2497 []) : X p l e R s m args below meth c A G ad 9 cells slots Q B M O [(5, .int i), (0, .ref b), (1, .ref (ad 176)), (2, .ref (ad 193)), (3, .ref (ad 202)), (4, .ref (ad 203))] 2150 [] := by
  obtain ⟨h1, h2, h3, h4, h5⟩ := hok
  unfold stB_40 stM_40 stO_40 at k
  have hW := lc_statementAt (G := G) C.2.2.2.2.2.2.2.1 B M O (y1) h1 (f_X6_statementAt B y1) rfl h2 (wr [1] (f_X6_statementAt B y1) O) rfl
  have hM := c_X7_statementAt (G := G) C.2.2.2.2.2.2.2.1 (wr [1] (f_X6_statementAt B y1) O).2.1 M (wr [1] (f_X6_statementAt B y1) O).2.2 (y1) h3
  generalize (wr [1] (f_X6_statementAt B y1) O) = w at h4 h5 hW hM k
  generalize (f_X7_statementAt M y1) = g at h4 h5 hM k
  have hT := c_X7_thrown (G := G) C.2.2.2.2.2.2.2.1 w.2.1 g.2 w.2.2
  refine x_aload_n C 2 dL_law_2150 rfl rfl ?_
  refine x_aload_n C 1 dL_law_2151 rfl rfl ?_
  refine x_iload C 0 dL_law_2152 rfl ?_
  refine x_iconst C (v := 1) dL_law_2154 (by decide) ?_
  refine x_iadd C dL_law_2155 ?_
  refine x_sld C hX (hin 1 (by decide)) dL_law_2156 ?_
  rw [hy1]
  refine x_aload_n C 4 dL_law_2157 rfl rfl ?_
  refine x_cWS C (as := [.ref (ad 176), .int y1, .ref (ad 202)]) (rest := []) (n := 3) hW we_6_49 we_6_50 we_1_0 we_6_51 ⟨by decide, by decide, by decide +kernel⟩ ⟨Nat.le_trans (Nat.le_of_ble_eq_true rfl) hR.1, Nat.le_trans (Nat.le_of_ble_eq_true rfl) hR.2⟩ ⟨by have := hf.1; omega, by have := hf.2; omega⟩ rfl rfl (Nat.le_of_ble_eq_true rfl) dL_law_2158 ?_
  refine x_istore C dL_law_2161 (by decide) rfl ?_
  refine x_aload_n C 4 dL_law_2163 rfl rfl ?_
  refine x_aload_n C 2 dL_law_2164 rfl rfl ?_
  refine x_iload C 1 dL_law_2165 rfl ?_
  refine x_iconst C (v := 1) dL_law_2167 (by decide) ?_
  refine x_iadd C dL_law_2168 ?_
  refine x_sld C hX (hin 1 (by decide)) dL_law_2169 ?_
  rw [hy1]
  refine x_cIV C (as := [.int y1]) (rest := []) hM e_M rfl cv_X7_statementAt cd_X7_statementAt we_8_135 ⟨Nat.le_trans (Nat.le_of_ble_eq_true rfl) hR.1, Nat.le_trans (Nat.le_of_ble_eq_true rfl) hR.2⟩ ⟨by have := hf.1; omega, by have := hf.2; omega⟩ rfl rfl (Nat.le_of_ble_eq_true rfl) dL_law_2170 ?_
  refine x_istore C dL_law_2173 (by decide) rfl ?_
  refine x_aload_n C 5 dL_law_2175 rfl rfl ?_
  refine x_cIV C (as := []) (rest := []) hT e_M rfl cv_X7_thrown cd_X7_thrown we_7_51 ⟨Nat.le_trans (Nat.le_of_ble_eq_true rfl) hR.1, Nat.le_trans (Nat.le_of_ble_eq_true rfl) hR.2⟩ ⟨by have := hf.1; omega, by have := hf.2; omega⟩ rfl rfl (Nat.le_of_ble_eq_true rfl) dL_law_2176 ?_
  refine x_iload C 1 dL_law_2179 rfl ?_
  refine x_icmp_eq C dL_law_2181 (tgt := 2186) (by decide) (fun _ => ?_) (fun h9 => absurd h4 h9)
  refine x_iload C 1 dL_law_2186 rfl ?_
  refine x_if_ne C dL_law_2188 (tgt := 2203) (by decide) (fun _ => ?_) (fun h0 => ?_)
  · skip
    refine x_goto C dL_law_2203 (tgt := 2497) (by decide) ?_
    refine x_sub [2, 3, 4, 5, 6, 7] (ls2 := [(5, .int i), (0, .ref b), (1, .ref (ad 176)), (2, .ref (ad 193)), (3, .ref (ad 202)), (4, .ref (ad 203))]) rfl ?_
    exact x_wid (by omega) (by omega) k
  · skip
    refine x_aload_n C 6 dL_law_2191 rfl rfl ?_
    refine x_iconst C (v := 0) dL_law_2192 (by decide) ?_
    refine x_lald C dL_law_2193 ?_
    refine x_iload C 0 dL_law_2194 rfl ?_
    refine x_i2l C dL_law_2196 ?_
    refine x_lcmp C dL_law_2197 ?_
    refine x_if_eq C dL_law_2198 (tgt := 2203) (by decide) (fun _ => ?_) (fun h9 => absurd (by rw [h5 h0]; exact lg_cmp_self _) h9)
    refine x_goto C dL_law_2203 (tgt := 2497) (by decide) ?_
    refine x_sub [2, 3, 4, 5, 6, 7] (ls2 := [(5, .int i), (0, .ref b), (1, .ref (ad 176)), (2, .ref (ad 193)), (3, .ref (ad 202)), (4, .ref (ad 203))]) rfl ?_
    exact x_wid (by omega) (by omega) k
def okc_41 (B : StB) (M : StM) (O : StO) (y1 : Int32)  : Prop := ok_X6_type B ((y1.toUInt32 % 65536).toInt32) ∧ ((f_X6_type B ((y1.toUInt32 % 65536).toInt32)).1 = 0 ∨ (f_X6_type B ((y1.toUInt32 % 65536).toInt32)).1 = 2 ∨ (f_X6_type B ((y1.toUInt32 % 65536).toInt32)).1 = 4 ) ∧ ok_X7_type M ((y1.toUInt32 % 65536).toInt32) ∧ f_X7_thrown ((f_X7_type M ((y1.toUInt32 % 65536).toInt32))).2 = (wr [2, 4] (f_X6_type B ((y1.toUInt32 % 65536).toInt32)) O).1 ∧ ((wr [2, 4] (f_X6_type B ((y1.toUInt32 % 65536).toInt32)) O).1 = 0 → (wr [2, 4] (f_X6_type B ((y1.toUInt32 % 65536).toInt32)) O).2.2.1 = ((f_X7_type M ((y1.toUInt32 % 65536).toInt32))).1.toInt64)
def stB_41 (B : StB) (M : StM) (O : StO) (y1 : Int32)  : StB := (wr [2, 4] (f_X6_type B ((y1.toUInt32 % 65536).toInt32)) O).2.1
def stM_41 (B : StB) (M : StM) (O : StO) (y1 : Int32)  : StM := ((f_X7_type M ((y1.toUInt32 % 65536).toInt32))).2
def stO_41 (B : StB) (M : StM) (O : StO) (y1 : Int32)  : StO := (wr [2, 4] (f_X6_type B ((y1.toUInt32 % 65536).toInt32)) O).2.2
set_option maxHeartbeats 4000000 in
set_option maxRecDepth 100000 in
theorem law_c41 (C : CX p l s m args meth c A G ad cL_law "InkBankLaw" 9 (some .boolean)) (hX : va_X b L xs s s.heap ∧ b < s.heap.size ∧ ¬ A b) (hR : 60 ≤ R.frames ∧ 4000 ≤ R.locals) (hf : cells + 8 ≤ R.cells ∧ slots + 48 ≤ R.slots) {i : Int32} (hin : ∀ k : Int32, k = 1 ∨ k = 2 ∨ k = 3 ∨ k = 4 → vp_in (i + k) L) {y1 : Int32}  (hy1 : xs (ix (i + 1)) = y1) (hok : okc_41 B M O y1) (k : X p l e R s m args below meth c A G ad 9 (cells + 8) (slots + 48) Q (stB_41 B M O y1) (stM_41 B M O y1) (stO_41 B M O y1) [(5, .int i), (0, .ref b), (1, .ref (ad 176)), (2, .ref (ad 193)), (3, .ref (ad 202)), (4, .ref (ad 203))] 2497 []) : X p l e R s m args below meth c A G ad 9 cells slots Q B M O [(5, .int i), (0, .ref b), (1, .ref (ad 176)), (2, .ref (ad 193)), (3, .ref (ad 202)), (4, .ref (ad 203))] 2206 [] := by
  obtain ⟨h1, h2, h3, h4, h5⟩ := hok
  unfold stB_41 stM_41 stO_41 at k
  have hW := lc_type (G := G) C.2.2.2.2.2.2.2.1 B M O ((y1.toUInt32 % 65536).toInt32) h1 (f_X6_type B ((y1.toUInt32 % 65536).toInt32)) rfl h2 (wr [2, 4] (f_X6_type B ((y1.toUInt32 % 65536).toInt32)) O) rfl
  have hM := c_X7_type (G := G) C.2.2.2.2.2.2.2.1 (wr [2, 4] (f_X6_type B ((y1.toUInt32 % 65536).toInt32)) O).2.1 M (wr [2, 4] (f_X6_type B ((y1.toUInt32 % 65536).toInt32)) O).2.2 ((y1.toUInt32 % 65536).toInt32) h3
  generalize (wr [2, 4] (f_X6_type B ((y1.toUInt32 % 65536).toInt32)) O) = w at h4 h5 hW hM k
  generalize (f_X7_type M ((y1.toUInt32 % 65536).toInt32)) = g at h4 h5 hM k
  have hT := c_X7_thrown (G := G) C.2.2.2.2.2.2.2.1 w.2.1 g.2 w.2.2
  refine x_aload_n C 2 dL_law_2206 rfl rfl ?_
  refine x_aload_n C 1 dL_law_2207 rfl rfl ?_
  refine x_iload C 0 dL_law_2208 rfl ?_
  refine x_iconst C (v := 1) dL_law_2210 (by decide) ?_
  refine x_iadd C dL_law_2211 ?_
  refine x_sld C hX (hin 1 (by decide)) dL_law_2212 ?_
  rw [hy1]
  refine x_i2c C dL_law_2213 ?_
  refine x_aload_n C 4 dL_law_2214 rfl rfl ?_
  refine x_cWS C (as := [.ref (ad 176), .int ((y1.toUInt32 % 65536).toInt32), .ref (ad 202)]) (rest := []) (n := 3) hW we_6_66 we_6_67 we_1_0 we_6_68 ⟨by decide, by decide, by decide +kernel⟩ ⟨Nat.le_trans (Nat.le_of_ble_eq_true rfl) hR.1, Nat.le_trans (Nat.le_of_ble_eq_true rfl) hR.2⟩ ⟨by have := hf.1; omega, by have := hf.2; omega⟩ rfl rfl (Nat.le_of_ble_eq_true rfl) dL_law_2215 ?_
  refine x_istore C dL_law_2218 (by decide) rfl ?_
  refine x_aload_n C 4 dL_law_2220 rfl rfl ?_
  refine x_aload_n C 2 dL_law_2221 rfl rfl ?_
  refine x_iload C 1 dL_law_2222 rfl ?_
  refine x_iconst C (v := 1) dL_law_2224 (by decide) ?_
  refine x_iadd C dL_law_2225 ?_
  refine x_sld C hX (hin 1 (by decide)) dL_law_2226 ?_
  rw [hy1]
  refine x_i2c C dL_law_2227 ?_
  refine x_cIV C (as := [.int ((y1.toUInt32 % 65536).toInt32)]) (rest := []) hM e_M rfl cv_X7_type cd_X7_type we_8_139 ⟨Nat.le_trans (Nat.le_of_ble_eq_true rfl) hR.1, Nat.le_trans (Nat.le_of_ble_eq_true rfl) hR.2⟩ ⟨by have := hf.1; omega, by have := hf.2; omega⟩ rfl rfl (Nat.le_of_ble_eq_true rfl) dL_law_2228 ?_
  refine x_istore C dL_law_2231 (by decide) rfl ?_
  refine x_aload_n C 5 dL_law_2233 rfl rfl ?_
  refine x_cIV C (as := []) (rest := []) hT e_M rfl cv_X7_thrown cd_X7_thrown we_7_51 ⟨Nat.le_trans (Nat.le_of_ble_eq_true rfl) hR.1, Nat.le_trans (Nat.le_of_ble_eq_true rfl) hR.2⟩ ⟨by have := hf.1; omega, by have := hf.2; omega⟩ rfl rfl (Nat.le_of_ble_eq_true rfl) dL_law_2234 ?_
  refine x_iload C 1 dL_law_2237 rfl ?_
  refine x_icmp_eq C dL_law_2239 (tgt := 2244) (by decide) (fun _ => ?_) (fun h9 => absurd h4 h9)
  refine x_iload C 1 dL_law_2244 rfl ?_
  refine x_if_ne C dL_law_2246 (tgt := 2261) (by decide) (fun _ => ?_) (fun h0 => ?_)
  · skip
    refine x_goto C dL_law_2261 (tgt := 2497) (by decide) ?_
    refine x_sub [2, 3, 4, 5, 6, 7] (ls2 := [(5, .int i), (0, .ref b), (1, .ref (ad 176)), (2, .ref (ad 193)), (3, .ref (ad 202)), (4, .ref (ad 203))]) rfl ?_
    exact x_wid (by omega) (by omega) k
  · skip
    refine x_aload_n C 6 dL_law_2249 rfl rfl ?_
    refine x_iconst C (v := 0) dL_law_2250 (by decide) ?_
    refine x_lald C dL_law_2251 ?_
    refine x_iload C 0 dL_law_2252 rfl ?_
    refine x_i2l C dL_law_2254 ?_
    refine x_lcmp C dL_law_2255 ?_
    refine x_if_eq C dL_law_2256 (tgt := 2261) (by decide) (fun _ => ?_) (fun h9 => absurd (by rw [h5 h0]; exact lg_cmp_self _) h9)
    refine x_goto C dL_law_2261 (tgt := 2497) (by decide) ?_
    refine x_sub [2, 3, 4, 5, 6, 7] (ls2 := [(5, .int i), (0, .ref b), (1, .ref (ad 176)), (2, .ref (ad 193)), (3, .ref (ad 202)), (4, .ref (ad 203))]) rfl ?_
    exact x_wid (by omega) (by omega) k
def okc_42 (B : StB) (M : StM) (O : StO)  : Prop := ok_X6_execute B ∧ ((f_X6_execute B).1 = 0 ∨ (f_X6_execute B).1 = 2 ∨ (f_X6_execute B).1 = 4 ) ∧ ok_X7_execute M ∧ f_X7_thrown ((f_X7_execute M)).2 = (wr [2, 4] (f_X6_execute B) O).1 ∧ ((wr [2, 4] (f_X6_execute B) O).1 = 0 → (wr [2, 4] (f_X6_execute B) O).2.2.1 = ((f_X7_execute M)).1.toInt64)
def stB_42 (B : StB) (M : StM) (O : StO)  : StB := (wr [2, 4] (f_X6_execute B) O).2.1
def stM_42 (B : StB) (M : StM) (O : StO)  : StM := ((f_X7_execute M)).2
def stO_42 (B : StB) (M : StM) (O : StO)  : StO := (wr [2, 4] (f_X6_execute B) O).2.2
set_option maxHeartbeats 4000000 in
set_option maxRecDepth 100000 in
theorem law_c42 (C : CX p l s m args meth c A G ad cL_law "InkBankLaw" 9 (some .boolean)) (hX : va_X b L xs s s.heap ∧ b < s.heap.size ∧ ¬ A b) (hR : 60 ≤ R.frames ∧ 4000 ≤ R.locals) (hf : cells + 8 ≤ R.cells ∧ slots + 48 ≤ R.slots) {i : Int32} (hin : ∀ k : Int32, k = 1 ∨ k = 2 ∨ k = 3 ∨ k = 4 → vp_in (i + k) L)   (hok : okc_42 B M O ) (k : X p l e R s m args below meth c A G ad 9 (cells + 8) (slots + 48) Q (stB_42 B M O ) (stM_42 B M O ) (stO_42 B M O ) [(5, .int i), (0, .ref b), (1, .ref (ad 176)), (2, .ref (ad 193)), (3, .ref (ad 202)), (4, .ref (ad 203))] 2497 []) : X p l e R s m args below meth c A G ad 9 cells slots Q B M O [(5, .int i), (0, .ref b), (1, .ref (ad 176)), (2, .ref (ad 193)), (3, .ref (ad 202)), (4, .ref (ad 203))] 2264 [] := by
  obtain ⟨h1, h2, h3, h4, h5⟩ := hok
  unfold stB_42 stM_42 stO_42 at k
  have hW := lc_execute (G := G) C.2.2.2.2.2.2.2.1 B M O  h1 (f_X6_execute B) rfl h2 (wr [2, 4] (f_X6_execute B) O) rfl
  have hM := c_X7_execute (G := G) C.2.2.2.2.2.2.2.1 (wr [2, 4] (f_X6_execute B) O).2.1 M (wr [2, 4] (f_X6_execute B) O).2.2  h3
  generalize (wr [2, 4] (f_X6_execute B) O) = w at h4 h5 hW hM k
  generalize (f_X7_execute M) = g at h4 h5 hM k
  have hT := c_X7_thrown (G := G) C.2.2.2.2.2.2.2.1 w.2.1 g.2 w.2.2
  refine x_aload_n C 2 dL_law_2264 rfl rfl ?_
  refine x_aload_n C 4 dL_law_2265 rfl rfl ?_
  refine x_cWS C (as := [.ref (ad 176), .ref (ad 202)]) (rest := []) (n := 2) hW we_6_77 we_6_78 we_1_0 we_6_79 ⟨by decide, by decide, by decide +kernel⟩ ⟨Nat.le_trans (Nat.le_of_ble_eq_true rfl) hR.1, Nat.le_trans (Nat.le_of_ble_eq_true rfl) hR.2⟩ ⟨by have := hf.1; omega, by have := hf.2; omega⟩ rfl rfl (Nat.le_of_ble_eq_true rfl) dL_law_2266 ?_
  refine x_istore C dL_law_2269 (by decide) rfl ?_
  refine x_aload_n C 4 dL_law_2271 rfl rfl ?_
  refine x_cIV C (as := []) (rest := []) hM e_M rfl cv_X7_execute cd_X7_execute we_8_143 ⟨Nat.le_trans (Nat.le_of_ble_eq_true rfl) hR.1, Nat.le_trans (Nat.le_of_ble_eq_true rfl) hR.2⟩ ⟨by have := hf.1; omega, by have := hf.2; omega⟩ rfl rfl (Nat.le_of_ble_eq_true rfl) dL_law_2272 ?_
  refine x_istore C dL_law_2275 (by decide) rfl ?_
  refine x_aload_n C 5 dL_law_2277 rfl rfl ?_
  refine x_cIV C (as := []) (rest := []) hT e_M rfl cv_X7_thrown cd_X7_thrown we_7_51 ⟨Nat.le_trans (Nat.le_of_ble_eq_true rfl) hR.1, Nat.le_trans (Nat.le_of_ble_eq_true rfl) hR.2⟩ ⟨by have := hf.1; omega, by have := hf.2; omega⟩ rfl rfl (Nat.le_of_ble_eq_true rfl) dL_law_2278 ?_
  refine x_iload C 1 dL_law_2281 rfl ?_
  refine x_icmp_eq C dL_law_2283 (tgt := 2288) (by decide) (fun _ => ?_) (fun h9 => absurd h4 h9)
  refine x_iload C 1 dL_law_2288 rfl ?_
  refine x_if_ne C dL_law_2290 (tgt := 2305) (by decide) (fun _ => ?_) (fun h0 => ?_)
  · skip
    refine x_goto C dL_law_2305 (tgt := 2497) (by decide) ?_
    refine x_sub [2, 3, 4, 5, 6, 7] (ls2 := [(5, .int i), (0, .ref b), (1, .ref (ad 176)), (2, .ref (ad 193)), (3, .ref (ad 202)), (4, .ref (ad 203))]) rfl ?_
    exact x_wid (by omega) (by omega) k
  · skip
    refine x_aload_n C 6 dL_law_2293 rfl rfl ?_
    refine x_iconst C (v := 0) dL_law_2294 (by decide) ?_
    refine x_lald C dL_law_2295 ?_
    refine x_iload C 0 dL_law_2296 rfl ?_
    refine x_i2l C dL_law_2298 ?_
    refine x_lcmp C dL_law_2299 ?_
    refine x_if_eq C dL_law_2300 (tgt := 2305) (by decide) (fun _ => ?_) (fun h9 => absurd (by rw [h5 h0]; exact lg_cmp_self _) h9)
    refine x_goto C dL_law_2305 (tgt := 2497) (by decide) ?_
    refine x_sub [2, 3, 4, 5, 6, 7] (ls2 := [(5, .int i), (0, .ref b), (1, .ref (ad 176)), (2, .ref (ad 193)), (3, .ref (ad 202)), (4, .ref (ad 203))]) rfl ?_
    exact x_wid (by omega) (by omega) k
def okc_43 (B : StB) (M : StM) (O : StO)  : Prop := True ∧ ((f_X6_errorPosition B).1 = 0 ∨ (f_X6_errorPosition B).1 = 5 ) ∧ ok_X7_errorPosition M ∧ f_X7_thrown ((f_X7_errorPosition M)).2 = (wr [5] (f_X6_errorPosition B) O).1 ∧ ((wr [5] (f_X6_errorPosition B) O).1 = 0 → (wr [5] (f_X6_errorPosition B) O).2.2.1 = ((f_X7_errorPosition M)).1.toInt64)
def stB_43 (B : StB) (M : StM) (O : StO)  : StB := (wr [5] (f_X6_errorPosition B) O).2.1
def stM_43 (B : StB) (M : StM) (O : StO)  : StM := ((f_X7_errorPosition M)).2
def stO_43 (B : StB) (M : StM) (O : StO)  : StO := (wr [5] (f_X6_errorPosition B) O).2.2
set_option maxHeartbeats 4000000 in
set_option maxRecDepth 100000 in
theorem law_c43 (C : CX p l s m args meth c A G ad cL_law "InkBankLaw" 9 (some .boolean)) (hX : va_X b L xs s s.heap ∧ b < s.heap.size ∧ ¬ A b) (hR : 60 ≤ R.frames ∧ 4000 ≤ R.locals) (hf : cells + 8 ≤ R.cells ∧ slots + 48 ≤ R.slots) {i : Int32} (hin : ∀ k : Int32, k = 1 ∨ k = 2 ∨ k = 3 ∨ k = 4 → vp_in (i + k) L)   (hok : okc_43 B M O ) (k : X p l e R s m args below meth c A G ad 9 (cells + 8) (slots + 48) Q (stB_43 B M O ) (stM_43 B M O ) (stO_43 B M O ) [(5, .int i), (0, .ref b), (1, .ref (ad 176)), (2, .ref (ad 193)), (3, .ref (ad 202)), (4, .ref (ad 203))] 2497 []) : X p l e R s m args below meth c A G ad 9 cells slots Q B M O [(5, .int i), (0, .ref b), (1, .ref (ad 176)), (2, .ref (ad 193)), (3, .ref (ad 202)), (4, .ref (ad 203))] 2308 [] := by
  obtain ⟨h1, h2, h3, h4, h5⟩ := hok
  unfold stB_43 stM_43 stO_43 at k
  have hW := lc_errorPosition (G := G) C.2.2.2.2.2.2.2.1 B M O   (f_X6_errorPosition B) rfl h2 (wr [5] (f_X6_errorPosition B) O) rfl
  have hM := c_X7_errorPosition (G := G) C.2.2.2.2.2.2.2.1 (wr [5] (f_X6_errorPosition B) O).2.1 M (wr [5] (f_X6_errorPosition B) O).2.2  h3
  generalize (wr [5] (f_X6_errorPosition B) O) = w at h4 h5 hW hM k
  generalize (f_X7_errorPosition M) = g at h4 h5 hM k
  have hT := c_X7_thrown (G := G) C.2.2.2.2.2.2.2.1 w.2.1 g.2 w.2.2
  refine x_aload_n C 2 dL_law_2308 rfl rfl ?_
  refine x_aload_n C 4 dL_law_2309 rfl rfl ?_
  refine x_cWS C (as := [.ref (ad 176), .ref (ad 202)]) (rest := []) (n := 2) hW we_6_189 we_6_190 we_1_0 we_6_191 ⟨by decide, by decide, by decide +kernel⟩ ⟨Nat.le_trans (Nat.le_of_ble_eq_true rfl) hR.1, Nat.le_trans (Nat.le_of_ble_eq_true rfl) hR.2⟩ ⟨by have := hf.1; omega, by have := hf.2; omega⟩ rfl rfl (Nat.le_of_ble_eq_true rfl) dL_law_2310 ?_
  refine x_istore C dL_law_2313 (by decide) rfl ?_
  refine x_aload_n C 4 dL_law_2315 rfl rfl ?_
  refine x_cIV C (as := []) (rest := []) hM e_M rfl cv_X7_errorPosition cd_X7_errorPosition we_8_188 ⟨Nat.le_trans (Nat.le_of_ble_eq_true rfl) hR.1, Nat.le_trans (Nat.le_of_ble_eq_true rfl) hR.2⟩ ⟨by have := hf.1; omega, by have := hf.2; omega⟩ rfl rfl (Nat.le_of_ble_eq_true rfl) dL_law_2316 ?_
  refine x_istore C dL_law_2319 (by decide) rfl ?_
  refine x_aload_n C 5 dL_law_2321 rfl rfl ?_
  refine x_cIV C (as := []) (rest := []) hT e_M rfl cv_X7_thrown cd_X7_thrown we_7_51 ⟨Nat.le_trans (Nat.le_of_ble_eq_true rfl) hR.1, Nat.le_trans (Nat.le_of_ble_eq_true rfl) hR.2⟩ ⟨by have := hf.1; omega, by have := hf.2; omega⟩ rfl rfl (Nat.le_of_ble_eq_true rfl) dL_law_2322 ?_
  refine x_iload C 1 dL_law_2325 rfl ?_
  refine x_icmp_eq C dL_law_2327 (tgt := 2332) (by decide) (fun _ => ?_) (fun h9 => absurd h4 h9)
  refine x_iload C 1 dL_law_2332 rfl ?_
  refine x_if_ne C dL_law_2334 (tgt := 2349) (by decide) (fun _ => ?_) (fun h0 => ?_)
  · skip
    refine x_goto C dL_law_2349 (tgt := 2497) (by decide) ?_
    refine x_sub [2, 3, 4, 5, 6, 7] (ls2 := [(5, .int i), (0, .ref b), (1, .ref (ad 176)), (2, .ref (ad 193)), (3, .ref (ad 202)), (4, .ref (ad 203))]) rfl ?_
    exact x_wid (by omega) (by omega) k
  · skip
    refine x_aload_n C 6 dL_law_2337 rfl rfl ?_
    refine x_iconst C (v := 0) dL_law_2338 (by decide) ?_
    refine x_lald C dL_law_2339 ?_
    refine x_iload C 0 dL_law_2340 rfl ?_
    refine x_i2l C dL_law_2342 ?_
    refine x_lcmp C dL_law_2343 ?_
    refine x_if_eq C dL_law_2344 (tgt := 2349) (by decide) (fun _ => ?_) (fun h9 => absurd (by rw [h5 h0]; exact lg_cmp_self _) h9)
    refine x_goto C dL_law_2349 (tgt := 2497) (by decide) ?_
    refine x_sub [2, 3, 4, 5, 6, 7] (ls2 := [(5, .int i), (0, .ref b), (1, .ref (ad 176)), (2, .ref (ad 193)), (3, .ref (ad 202)), (4, .ref (ad 203))]) rfl ?_
    exact x_wid (by omega) (by omega) k
def okc_44 (B : StB) (M : StM) (O : StO)  : Prop := True ∧ ((f_X6_failedCommand B).1 = 0 ∨ (f_X6_failedCommand B).1 = 5 ) ∧ ok_X7_failedCommand M ∧ f_X7_thrown ((f_X7_failedCommand M)).2 = (wr [5] (f_X6_failedCommand B) O).1 ∧ ((wr [5] (f_X6_failedCommand B) O).1 = 0 → (wr [5] (f_X6_failedCommand B) O).2.2.1 = ((f_X7_failedCommand M)).1.toInt64)
def stB_44 (B : StB) (M : StM) (O : StO)  : StB := (wr [5] (f_X6_failedCommand B) O).2.1
def stM_44 (B : StB) (M : StM) (O : StO)  : StM := ((f_X7_failedCommand M)).2
def stO_44 (B : StB) (M : StM) (O : StO)  : StO := (wr [5] (f_X6_failedCommand B) O).2.2
set_option maxHeartbeats 4000000 in
set_option maxRecDepth 100000 in
theorem law_c44 (C : CX p l s m args meth c A G ad cL_law "InkBankLaw" 9 (some .boolean)) (hX : va_X b L xs s s.heap ∧ b < s.heap.size ∧ ¬ A b) (hR : 60 ≤ R.frames ∧ 4000 ≤ R.locals) (hf : cells + 8 ≤ R.cells ∧ slots + 48 ≤ R.slots) {i : Int32} (hin : ∀ k : Int32, k = 1 ∨ k = 2 ∨ k = 3 ∨ k = 4 → vp_in (i + k) L)   (hok : okc_44 B M O ) (k : X p l e R s m args below meth c A G ad 9 (cells + 8) (slots + 48) Q (stB_44 B M O ) (stM_44 B M O ) (stO_44 B M O ) [(5, .int i), (0, .ref b), (1, .ref (ad 176)), (2, .ref (ad 193)), (3, .ref (ad 202)), (4, .ref (ad 203))] 2497 []) : X p l e R s m args below meth c A G ad 9 cells slots Q B M O [(5, .int i), (0, .ref b), (1, .ref (ad 176)), (2, .ref (ad 193)), (3, .ref (ad 202)), (4, .ref (ad 203))] 2352 [] := by
  obtain ⟨h1, h2, h3, h4, h5⟩ := hok
  unfold stB_44 stM_44 stO_44 at k
  have hW := lc_failedCommand (G := G) C.2.2.2.2.2.2.2.1 B M O   (f_X6_failedCommand B) rfl h2 (wr [5] (f_X6_failedCommand B) O) rfl
  have hM := c_X7_failedCommand (G := G) C.2.2.2.2.2.2.2.1 (wr [5] (f_X6_failedCommand B) O).2.1 M (wr [5] (f_X6_failedCommand B) O).2.2  h3
  generalize (wr [5] (f_X6_failedCommand B) O) = w at h4 h5 hW hM k
  generalize (f_X7_failedCommand M) = g at h4 h5 hM k
  have hT := c_X7_thrown (G := G) C.2.2.2.2.2.2.2.1 w.2.1 g.2 w.2.2
  refine x_aload_n C 2 dL_law_2352 rfl rfl ?_
  refine x_aload_n C 4 dL_law_2353 rfl rfl ?_
  refine x_cWS C (as := [.ref (ad 176), .ref (ad 202)]) (rest := []) (n := 2) hW we_6_196 we_6_197 we_1_0 we_6_198 ⟨by decide, by decide, by decide +kernel⟩ ⟨Nat.le_trans (Nat.le_of_ble_eq_true rfl) hR.1, Nat.le_trans (Nat.le_of_ble_eq_true rfl) hR.2⟩ ⟨by have := hf.1; omega, by have := hf.2; omega⟩ rfl rfl (Nat.le_of_ble_eq_true rfl) dL_law_2354 ?_
  refine x_istore C dL_law_2357 (by decide) rfl ?_
  refine x_aload_n C 4 dL_law_2359 rfl rfl ?_
  refine x_cIV C (as := []) (rest := []) hM e_M rfl cv_X7_failedCommand cd_X7_failedCommand we_8_192 ⟨Nat.le_trans (Nat.le_of_ble_eq_true rfl) hR.1, Nat.le_trans (Nat.le_of_ble_eq_true rfl) hR.2⟩ ⟨by have := hf.1; omega, by have := hf.2; omega⟩ rfl rfl (Nat.le_of_ble_eq_true rfl) dL_law_2360 ?_
  refine x_istore C dL_law_2363 (by decide) rfl ?_
  refine x_aload_n C 5 dL_law_2365 rfl rfl ?_
  refine x_cIV C (as := []) (rest := []) hT e_M rfl cv_X7_thrown cd_X7_thrown we_7_51 ⟨Nat.le_trans (Nat.le_of_ble_eq_true rfl) hR.1, Nat.le_trans (Nat.le_of_ble_eq_true rfl) hR.2⟩ ⟨by have := hf.1; omega, by have := hf.2; omega⟩ rfl rfl (Nat.le_of_ble_eq_true rfl) dL_law_2366 ?_
  refine x_iload C 1 dL_law_2369 rfl ?_
  refine x_icmp_eq C dL_law_2371 (tgt := 2376) (by decide) (fun _ => ?_) (fun h9 => absurd h4 h9)
  refine x_iload C 1 dL_law_2376 rfl ?_
  refine x_if_ne C dL_law_2378 (tgt := 2393) (by decide) (fun _ => ?_) (fun h0 => ?_)
  · skip
    refine x_goto C dL_law_2393 (tgt := 2497) (by decide) ?_
    refine x_sub [2, 3, 4, 5, 6, 7] (ls2 := [(5, .int i), (0, .ref b), (1, .ref (ad 176)), (2, .ref (ad 193)), (3, .ref (ad 202)), (4, .ref (ad 203))]) rfl ?_
    exact x_wid (by omega) (by omega) k
  · skip
    refine x_aload_n C 6 dL_law_2381 rfl rfl ?_
    refine x_iconst C (v := 0) dL_law_2382 (by decide) ?_
    refine x_lald C dL_law_2383 ?_
    refine x_iload C 0 dL_law_2384 rfl ?_
    refine x_i2l C dL_law_2386 ?_
    refine x_lcmp C dL_law_2387 ?_
    refine x_if_eq C dL_law_2388 (tgt := 2393) (by decide) (fun _ => ?_) (fun h9 => absurd (by rw [h5 h0]; exact lg_cmp_self _) h9)
    refine x_goto C dL_law_2393 (tgt := 2497) (by decide) ?_
    refine x_sub [2, 3, 4, 5, 6, 7] (ls2 := [(5, .int i), (0, .ref b), (1, .ref (ad 176)), (2, .ref (ad 193)), (3, .ref (ad 202)), (4, .ref (ad 203))]) rfl ?_
    exact x_wid (by omega) (by omega) k
def okc_45 (B : StB) (M : StM) (O : StO)  : Prop := ok_X6_undo B ∧ ((f_X6_undo B).1 = 0 ∨ (f_X6_undo B).1 = 4 ) ∧ ok_X7_undo M ∧ f_X7_thrown ((f_X7_undo M)).2 = (wr [4] (f_X6_undo B) O).1 ∧ ((wr [4] (f_X6_undo B) O).1 = 0 → (wr [4] (f_X6_undo B) O).2.2.1 = ((f_X7_undo M)).1.toInt64)
def stB_45 (B : StB) (M : StM) (O : StO)  : StB := (wr [4] (f_X6_undo B) O).2.1
def stM_45 (B : StB) (M : StM) (O : StO)  : StM := ((f_X7_undo M)).2
def stO_45 (B : StB) (M : StM) (O : StO)  : StO := (wr [4] (f_X6_undo B) O).2.2
set_option maxHeartbeats 4000000 in
set_option maxRecDepth 100000 in
theorem law_c45 (C : CX p l s m args meth c A G ad cL_law "InkBankLaw" 9 (some .boolean)) (hX : va_X b L xs s s.heap ∧ b < s.heap.size ∧ ¬ A b) (hR : 60 ≤ R.frames ∧ 4000 ≤ R.locals) (hf : cells + 8 ≤ R.cells ∧ slots + 48 ≤ R.slots) {i : Int32} (hin : ∀ k : Int32, k = 1 ∨ k = 2 ∨ k = 3 ∨ k = 4 → vp_in (i + k) L)   (hok : okc_45 B M O ) (k : X p l e R s m args below meth c A G ad 9 (cells + 8) (slots + 48) Q (stB_45 B M O ) (stM_45 B M O ) (stO_45 B M O ) [(5, .int i), (0, .ref b), (1, .ref (ad 176)), (2, .ref (ad 193)), (3, .ref (ad 202)), (4, .ref (ad 203))] 2497 []) : X p l e R s m args below meth c A G ad 9 cells slots Q B M O [(5, .int i), (0, .ref b), (1, .ref (ad 176)), (2, .ref (ad 193)), (3, .ref (ad 202)), (4, .ref (ad 203))] 2396 [] := by
  obtain ⟨h1, h2, h3, h4, h5⟩ := hok
  unfold stB_45 stM_45 stO_45 at k
  have hW := lc_undo (G := G) C.2.2.2.2.2.2.2.1 B M O  h1 (f_X6_undo B) rfl h2 (wr [4] (f_X6_undo B) O) rfl
  have hM := c_X7_undo (G := G) C.2.2.2.2.2.2.2.1 (wr [4] (f_X6_undo B) O).2.1 M (wr [4] (f_X6_undo B) O).2.2  h3
  generalize (wr [4] (f_X6_undo B) O) = w at h4 h5 hW hM k
  generalize (f_X7_undo M) = g at h4 h5 hM k
  have hT := c_X7_thrown (G := G) C.2.2.2.2.2.2.2.1 w.2.1 g.2 w.2.2
  refine x_aload_n C 2 dL_law_2396 rfl rfl ?_
  refine x_aload_n C 4 dL_law_2397 rfl rfl ?_
  refine x_cWS C (as := [.ref (ad 176), .ref (ad 202)]) (rest := []) (n := 2) hW we_6_203 we_6_204 we_1_0 we_6_205 ⟨by decide, by decide, by decide +kernel⟩ ⟨Nat.le_trans (Nat.le_of_ble_eq_true rfl) hR.1, Nat.le_trans (Nat.le_of_ble_eq_true rfl) hR.2⟩ ⟨by have := hf.1; omega, by have := hf.2; omega⟩ rfl rfl (Nat.le_of_ble_eq_true rfl) dL_law_2398 ?_
  refine x_istore C dL_law_2401 (by decide) rfl ?_
  refine x_aload_n C 4 dL_law_2403 rfl rfl ?_
  refine x_cIV C (as := []) (rest := []) hM e_M rfl cv_X7_undo cd_X7_undo we_7_55 ⟨Nat.le_trans (Nat.le_of_ble_eq_true rfl) hR.1, Nat.le_trans (Nat.le_of_ble_eq_true rfl) hR.2⟩ ⟨by have := hf.1; omega, by have := hf.2; omega⟩ rfl rfl (Nat.le_of_ble_eq_true rfl) dL_law_2404 ?_
  refine x_istore C dL_law_2407 (by decide) rfl ?_
  refine x_aload_n C 5 dL_law_2409 rfl rfl ?_
  refine x_cIV C (as := []) (rest := []) hT e_M rfl cv_X7_thrown cd_X7_thrown we_7_51 ⟨Nat.le_trans (Nat.le_of_ble_eq_true rfl) hR.1, Nat.le_trans (Nat.le_of_ble_eq_true rfl) hR.2⟩ ⟨by have := hf.1; omega, by have := hf.2; omega⟩ rfl rfl (Nat.le_of_ble_eq_true rfl) dL_law_2410 ?_
  refine x_iload C 1 dL_law_2413 rfl ?_
  refine x_icmp_eq C dL_law_2415 (tgt := 2420) (by decide) (fun _ => ?_) (fun h9 => absurd h4 h9)
  refine x_iload C 1 dL_law_2420 rfl ?_
  refine x_if_ne C dL_law_2422 (tgt := 2437) (by decide) (fun _ => ?_) (fun h0 => ?_)
  · skip
    refine x_goto C dL_law_2437 (tgt := 2497) (by decide) ?_
    refine x_sub [2, 3, 4, 5, 6, 7] (ls2 := [(5, .int i), (0, .ref b), (1, .ref (ad 176)), (2, .ref (ad 193)), (3, .ref (ad 202)), (4, .ref (ad 203))]) rfl ?_
    exact x_wid (by omega) (by omega) k
  · skip
    refine x_aload_n C 6 dL_law_2425 rfl rfl ?_
    refine x_iconst C (v := 0) dL_law_2426 (by decide) ?_
    refine x_lald C dL_law_2427 ?_
    refine x_iload C 0 dL_law_2428 rfl ?_
    refine x_i2l C dL_law_2430 ?_
    refine x_lcmp C dL_law_2431 ?_
    refine x_if_eq C dL_law_2432 (tgt := 2437) (by decide) (fun _ => ?_) (fun h9 => absurd (by rw [h5 h0]; exact lg_cmp_self _) h9)
    refine x_goto C dL_law_2437 (tgt := 2497) (by decide) ?_
    refine x_sub [2, 3, 4, 5, 6, 7] (ls2 := [(5, .int i), (0, .ref b), (1, .ref (ad 176)), (2, .ref (ad 193)), (3, .ref (ad 202)), (4, .ref (ad 203))]) rfl ?_
    exact x_wid (by omega) (by omega) k
def okc_46 (B : StB) (M : StM) (O : StO)  : Prop := ok_X6_save B ∧ ok_X7_save M ∧ (f_X6_save B).1 = (f_X7_save M).1
def stB_46 (B : StB) (M : StM) (O : StO)  : StB := (f_X6_save B).2
def stM_46 (B : StB) (M : StM) (O : StO)  : StM := (f_X7_save M).2
def stO_46 (B : StB) (M : StM) (O : StO)  : StO := O
set_option maxHeartbeats 4000000 in
set_option maxRecDepth 100000 in
theorem law_c46 (C : CX p l s m args meth c A G ad cL_law "InkBankLaw" 9 (some .boolean)) (hX : va_X b L xs s s.heap ∧ b < s.heap.size ∧ ¬ A b) (hR : 60 ≤ R.frames ∧ 4000 ≤ R.locals) (hf : cells + 8 ≤ R.cells ∧ slots + 48 ≤ R.slots) {i : Int32} (hin : ∀ k : Int32, k = 1 ∨ k = 2 ∨ k = 3 ∨ k = 4 → vp_in (i + k) L)   (hok : okc_46 B M O ) (k : X p l e R s m args below meth c A G ad 9 (cells + 8) (slots + 48) Q (stB_46 B M O ) (stM_46 B M O ) (stO_46 B M O ) [(5, .int i), (0, .ref b), (1, .ref (ad 176)), (2, .ref (ad 193)), (3, .ref (ad 202)), (4, .ref (ad 203))] 2497 []) : X p l e R s m args below meth c A G ad 9 cells slots Q B M O [(5, .int i), (0, .ref b), (1, .ref (ad 176)), (2, .ref (ad 193)), (3, .ref (ad 202)), (4, .ref (ad 203))] 2440 [] := by
  obtain ⟨h1, h2, h3⟩ := hok
  unfold stB_46 stM_46 stO_46 at k
  have hW := c_X6_save (G := G) C.2.2.2.2.2.2.2.1 B M O h1
  have hM := c_X7_save (G := G) C.2.2.2.2.2.2.2.1 ((f_X6_save B).2) M O h2
  refine x_aload_n C 2 dL_law_2440 rfl rfl ?_
  refine x_cIV C (as := []) (rest := []) hW e_I rfl cv_X6_save cd_X6_save we_2_111 ⟨Nat.le_trans (Nat.le_of_ble_eq_true rfl) hR.1, Nat.le_trans (Nat.le_of_ble_eq_true rfl) hR.2⟩ ⟨by have := hf.1; omega, by have := hf.2; omega⟩ rfl rfl (Nat.le_of_ble_eq_true rfl) dL_law_2441 ?_
  refine x_aload_n C 3 dL_law_2444 rfl rfl ?_
  refine x_cIV C (as := []) (rest := [.int _]) hM e_M rfl cv_X7_save cd_X7_save we_7_70 ⟨Nat.le_trans (Nat.le_of_ble_eq_true rfl) hR.1, Nat.le_trans (Nat.le_of_ble_eq_true rfl) hR.2⟩ ⟨by have := hf.1; omega, by have := hf.2; omega⟩ rfl rfl (Nat.le_of_ble_eq_true rfl) dL_law_2445 ?_
  refine x_icmp_eq C dL_law_2448 (tgt := 2497) (by decide) (fun _ => ?_) (fun h9 => absurd h3 h9)
  exact x_wid (by omega) (by omega) k
def okc_47 (B : StB) (M : StM) (O : StO)  : Prop := ok_X6_restore B ∧ ((f_X6_restore B).1 = 0 ∨ (f_X6_restore B).1 = 4 ) ∧ ok_X7_restore M ∧ f_X7_thrown ((f_X7_restore M)).2 = (wr [4] (f_X6_restore B) O).1 ∧ ((wr [4] (f_X6_restore B) O).1 = 0 → (wr [4] (f_X6_restore B) O).2.2.1 = ((f_X7_restore M)).1.toInt64)
def stB_47 (B : StB) (M : StM) (O : StO)  : StB := (wr [4] (f_X6_restore B) O).2.1
def stM_47 (B : StB) (M : StM) (O : StO)  : StM := ((f_X7_restore M)).2
def stO_47 (B : StB) (M : StM) (O : StO)  : StO := (wr [4] (f_X6_restore B) O).2.2
set_option maxHeartbeats 4000000 in
set_option maxRecDepth 100000 in
theorem law_c47 (C : CX p l s m args meth c A G ad cL_law "InkBankLaw" 9 (some .boolean)) (hX : va_X b L xs s s.heap ∧ b < s.heap.size ∧ ¬ A b) (hR : 60 ≤ R.frames ∧ 4000 ≤ R.locals) (hf : cells + 8 ≤ R.cells ∧ slots + 48 ≤ R.slots) {i : Int32} (hin : ∀ k : Int32, k = 1 ∨ k = 2 ∨ k = 3 ∨ k = 4 → vp_in (i + k) L)   (hok : okc_47 B M O ) (k : X p l e R s m args below meth c A G ad 9 (cells + 8) (slots + 48) Q (stB_47 B M O ) (stM_47 B M O ) (stO_47 B M O ) [(5, .int i), (0, .ref b), (1, .ref (ad 176)), (2, .ref (ad 193)), (3, .ref (ad 202)), (4, .ref (ad 203))] 2497 []) : X p l e R s m args below meth c A G ad 9 cells slots Q B M O [(5, .int i), (0, .ref b), (1, .ref (ad 176)), (2, .ref (ad 193)), (3, .ref (ad 202)), (4, .ref (ad 203))] 2453 [] := by
  obtain ⟨h1, h2, h3, h4, h5⟩ := hok
  unfold stB_47 stM_47 stO_47 at k
  have hW := lc_restore (G := G) C.2.2.2.2.2.2.2.1 B M O  h1 (f_X6_restore B) rfl h2 (wr [4] (f_X6_restore B) O) rfl
  have hM := c_X7_restore (G := G) C.2.2.2.2.2.2.2.1 (wr [4] (f_X6_restore B) O).2.1 M (wr [4] (f_X6_restore B) O).2.2  h3
  generalize (wr [4] (f_X6_restore B) O) = w at h4 h5 hW hM k
  generalize (f_X7_restore M) = g at h4 h5 hM k
  have hT := c_X7_thrown (G := G) C.2.2.2.2.2.2.2.1 w.2.1 g.2 w.2.2
  refine x_aload_n C 2 dL_law_2453 rfl rfl ?_
  refine x_aload_n C 4 dL_law_2454 rfl rfl ?_
  refine x_cWS C (as := [.ref (ad 176), .ref (ad 202)]) (rest := []) (n := 2) hW we_6_214 we_6_215 we_1_0 we_6_216 ⟨by decide, by decide, by decide +kernel⟩ ⟨Nat.le_trans (Nat.le_of_ble_eq_true rfl) hR.1, Nat.le_trans (Nat.le_of_ble_eq_true rfl) hR.2⟩ ⟨by have := hf.1; omega, by have := hf.2; omega⟩ rfl rfl (Nat.le_of_ble_eq_true rfl) dL_law_2455 ?_
  refine x_istore C dL_law_2458 (by decide) rfl ?_
  refine x_aload_n C 4 dL_law_2460 rfl rfl ?_
  refine x_cIV C (as := []) (rest := []) hM e_M rfl cv_X7_restore cd_X7_restore we_7_74 ⟨Nat.le_trans (Nat.le_of_ble_eq_true rfl) hR.1, Nat.le_trans (Nat.le_of_ble_eq_true rfl) hR.2⟩ ⟨by have := hf.1; omega, by have := hf.2; omega⟩ rfl rfl (Nat.le_of_ble_eq_true rfl) dL_law_2461 ?_
  refine x_istore C dL_law_2464 (by decide) rfl ?_
  refine x_aload_n C 5 dL_law_2466 rfl rfl ?_
  refine x_cIV C (as := []) (rest := []) hT e_M rfl cv_X7_thrown cd_X7_thrown we_7_51 ⟨Nat.le_trans (Nat.le_of_ble_eq_true rfl) hR.1, Nat.le_trans (Nat.le_of_ble_eq_true rfl) hR.2⟩ ⟨by have := hf.1; omega, by have := hf.2; omega⟩ rfl rfl (Nat.le_of_ble_eq_true rfl) dL_law_2467 ?_
  refine x_iload C 1 dL_law_2470 rfl ?_
  refine x_icmp_eq C dL_law_2472 (tgt := 2477) (by decide) (fun _ => ?_) (fun h9 => absurd h4 h9)
  refine x_iload C 1 dL_law_2477 rfl ?_
  refine x_if_ne C dL_law_2479 (tgt := 2494) (by decide) (fun _ => ?_) (fun h0 => ?_)
  · skip
    refine x_goto C dL_law_2494 (tgt := 2497) (by decide) ?_
    refine x_sub [2, 3, 4, 5, 6, 7] (ls2 := [(5, .int i), (0, .ref b), (1, .ref (ad 176)), (2, .ref (ad 193)), (3, .ref (ad 202)), (4, .ref (ad 203))]) rfl ?_
    exact x_wid (by omega) (by omega) k
  · skip
    refine x_aload_n C 6 dL_law_2482 rfl rfl ?_
    refine x_iconst C (v := 0) dL_law_2483 (by decide) ?_
    refine x_lald C dL_law_2484 ?_
    refine x_iload C 0 dL_law_2485 rfl ?_
    refine x_i2l C dL_law_2487 ?_
    refine x_lcmp C dL_law_2488 ?_
    refine x_if_eq C dL_law_2489 (tgt := 2494) (by decide) (fun _ => ?_) (fun h9 => absurd (by rw [h5 h0]; exact lg_cmp_self _) h9)
    refine x_goto C dL_law_2494 (tgt := 2497) (by decide) ?_
    refine x_sub [2, 3, 4, 5, 6, 7] (ls2 := [(5, .int i), (0, .ref b), (1, .ref (ad 176)), (2, .ref (ad 193)), (3, .ref (ad 202)), (4, .ref (ad 203))]) rfl ?_
    exact x_wid (by omega) (by omega) k
end LC
