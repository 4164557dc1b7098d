theorem wd_1_3 : (Jvm.Cond.initialized "InkBank$Accounts") ∈ TT := tt_1 (List.mem_of_getElem? (i := 3) rfl) rfl
theorem wd_1_21 : (Jvm.Cond.initialized "java/lang/Math") ∈ TT := tt_1 (List.mem_of_getElem? (i := 21) rfl) rfl
theorem wd_1_53 : (Jvm.Cond.fieldLink "InkBank$Accounts" (25 : Nat) "InkBank$Accounts" "count" "I") ∈ TT := tt_1 (List.mem_of_getElem? (i := 53) rfl) rfl
theorem wd_1_56 : (Jvm.Cond.fieldLink "InkBank$Accounts" (9 : Nat) "InkBank$Accounts" "kinds" "[I") ∈ TT := tt_1 (List.mem_of_getElem? (i := 56) rfl) rfl
theorem wd_1_59 : (Jvm.Cond.fieldLink "InkBank$Accounts" (15 : Nat) "InkBank$Accounts" "balances" "[I") ∈ TT := tt_1 (List.mem_of_getElem? (i := 59) rfl) rfl
theorem wd_1_62 : (Jvm.Cond.fieldLink "InkBank$Accounts" (18 : Nat) "InkBank$Accounts" "limits" "[I") ∈ TT := tt_1 (List.mem_of_getElem? (i := 62) rfl) rfl
theorem wd_1_64 : (Jvm.Cond.fieldLink "InkBank$Accounts" (21 : Nat) "InkBank$Accounts" "touched" "[Z") ∈ TT := tt_1 (List.mem_of_getElem? (i := 64) rfl) rfl
theorem wd_2_76 : (Jvm.Cond.instanceMethod ({ cls := "InkBank$Accounts", name := "sum", desc := "()J" } : Jvm.MethodName)) ∈ TT := tt_2 (List.mem_of_getElem? (i := 76) rfl) rfl
theorem wd_2_77 : (Jvm.Cond.selects "InkBank$Accounts" ({ cls := "InkBank$Accounts", name := "sum", desc := "()J" } : Jvm.MethodName) ({ cls := "InkBank$Accounts", name := "sum", desc := "()J" } : Jvm.MethodName)) ∈ TT := tt_2 (List.mem_of_getElem? (i := 77) rfl) rfl
theorem wd_2_78 : (Jvm.Cond.code ({ cls := "InkBank$Accounts", name := "sum", desc := "()J" } : Jvm.MethodName) prog_2_method_8_code (4 : Nat) (Option.some Jvm.ClassFile.FieldType.long)) ∈ TT := tt_2 (List.mem_of_getElem? (i := 78) rfl) rfl
theorem wd_2_120 : (Jvm.Cond.instanceMethod ({ cls := "InkBank$Accounts", name := "copyFrom", desc := "(LInkBank$Accounts;)V" } : Jvm.MethodName)) ∈ TT := tt_2 (List.mem_of_getElem? (i := 120) rfl) rfl
theorem wd_2_121 : (Jvm.Cond.selects "InkBank$Accounts" ({ cls := "InkBank$Accounts", name := "copyFrom", desc := "(LInkBank$Accounts;)V" } : Jvm.MethodName) ({ cls := "InkBank$Accounts", name := "copyFrom", desc := "(LInkBank$Accounts;)V" } : Jvm.MethodName)) ∈ TT := tt_2 (List.mem_of_getElem? (i := 121) rfl) rfl
theorem wd_2_122 : (Jvm.Cond.code ({ cls := "InkBank$Accounts", name := "copyFrom", desc := "(LInkBank$Accounts;)V" } : Jvm.MethodName) prog_2_method_2_code (3 : Nat) (Option.none : Option Jvm.ClassFile.FieldType)) ∈ TT := tt_2 (List.mem_of_getElem? (i := 122) rfl) rfl
theorem wd_3_52 : (Jvm.Cond.static ({ cls := "java/lang/Math", name := "min", desc := "(II)I" } : Jvm.MethodName)) ∈ TT := tt_3 (List.mem_of_getElem? (i := 52) rfl) rfl
theorem wd_3_53 : (Jvm.Cond.code ({ cls := "java/lang/Math", name := "min", desc := "(II)I" } : Jvm.MethodName) prog_24_method_69_code (2 : Nat) (Option.some Jvm.ClassFile.FieldType.int)) ∈ TT := tt_3 (List.mem_of_getElem? (i := 53) rfl) rfl
theorem wd_3_55 : (Jvm.Cond.instanceMethod ({ cls := "InkBank$Accounts", name := "add", desc := "(I)I" } : Jvm.MethodName)) ∈ TT := tt_3 (List.mem_of_getElem? (i := 55) rfl) rfl
theorem wd_3_56 : (Jvm.Cond.selects "InkBank$Accounts" ({ cls := "InkBank$Accounts", name := "add", desc := "(I)I" } : Jvm.MethodName) ({ cls := "InkBank$Accounts", name := "add", desc := "(I)I" } : Jvm.MethodName)) ∈ TT := tt_3 (List.mem_of_getElem? (i := 56) rfl) rfl
theorem wd_3_57 : (Jvm.Cond.code ({ cls := "InkBank$Accounts", name := "add", desc := "(I)I" } : Jvm.MethodName) prog_2_method_4_code (3 : Nat) (Option.some Jvm.ClassFile.FieldType.int)) ∈ TT := tt_3 (List.mem_of_getElem? (i := 57) rfl) rfl
theorem wd_3_106 : (Jvm.Cond.instanceMethod ({ cls := "InkBank$Accounts", name := "has", desc := "(I)Z" } : Jvm.MethodName)) ∈ TT := tt_3 (List.mem_of_getElem? (i := 106) rfl) rfl
theorem wd_3_107 : (Jvm.Cond.selects "InkBank$Accounts" ({ cls := "InkBank$Accounts", name := "has", desc := "(I)Z" } : Jvm.MethodName) ({ cls := "InkBank$Accounts", name := "has", desc := "(I)Z" } : Jvm.MethodName)) ∈ TT := tt_3 (List.mem_of_getElem? (i := 107) rfl) rfl
theorem wd_3_108 : (Jvm.Cond.code ({ cls := "InkBank$Accounts", name := "has", desc := "(I)Z" } : Jvm.MethodName) prog_2_method_3_code (2 : Nat) (Option.some Jvm.ClassFile.FieldType.boolean)) ∈ TT := tt_3 (List.mem_of_getElem? (i := 108) rfl) rfl
theorem wd_3_131 : (Jvm.Cond.instanceMethod ({ cls := "InkBank$Accounts", name := "available", desc := "(I)I" } : Jvm.MethodName)) ∈ TT := tt_3 (List.mem_of_getElem? (i := 131) rfl) rfl
theorem wd_3_132 : (Jvm.Cond.selects "InkBank$Accounts" ({ cls := "InkBank$Accounts", name := "available", desc := "(I)I" } : Jvm.MethodName) ({ cls := "InkBank$Accounts", name := "available", desc := "(I)I" } : Jvm.MethodName)) ∈ TT := tt_3 (List.mem_of_getElem? (i := 132) rfl) rfl
theorem wd_3_133 : (Jvm.Cond.code ({ cls := "InkBank$Accounts", name := "available", desc := "(I)I" } : Jvm.MethodName) prog_2_method_6_code (2 : Nat) (Option.some Jvm.ClassFile.FieldType.int)) ∈ TT := tt_3 (List.mem_of_getElem? (i := 133) rfl) rfl
theorem wd_3_151 : (Jvm.Cond.instanceMethod ({ cls := "InkBank$Accounts", name := "changeLimit", desc := "(II)I" } : Jvm.MethodName)) ∈ TT := tt_3 (List.mem_of_getElem? (i := 151) rfl) rfl
theorem wd_3_152 : (Jvm.Cond.selects "InkBank$Accounts" ({ cls := "InkBank$Accounts", name := "changeLimit", desc := "(II)I" } : Jvm.MethodName) ({ cls := "InkBank$Accounts", name := "changeLimit", desc := "(II)I" } : Jvm.MethodName)) ∈ TT := tt_3 (List.mem_of_getElem? (i := 152) rfl) rfl
theorem wd_3_153 : (Jvm.Cond.code ({ cls := "InkBank$Accounts", name := "changeLimit", desc := "(II)I" } : Jvm.MethodName) prog_2_method_5_code (4 : Nat) (Option.some Jvm.ClassFile.FieldType.int)) ∈ TT := tt_3 (List.mem_of_getElem? (i := 153) rfl) rfl
theorem wd_3_203 : (Jvm.Cond.instanceMethod ({ cls := "InkBank$Accounts", name := "interest", desc := "(I)I" } : Jvm.MethodName)) ∈ TT := tt_3 (List.mem_of_getElem? (i := 203) rfl) rfl
theorem wd_3_204 : (Jvm.Cond.selects "InkBank$Accounts" ({ cls := "InkBank$Accounts", name := "interest", desc := "(I)I" } : Jvm.MethodName) ({ cls := "InkBank$Accounts", name := "interest", desc := "(I)I" } : Jvm.MethodName)) ∈ TT := tt_3 (List.mem_of_getElem? (i := 204) rfl) rfl
theorem wd_3_205 : (Jvm.Cond.code ({ cls := "InkBank$Accounts", name := "interest", desc := "(I)I" } : Jvm.MethodName) prog_2_method_9_code (4 : Nat) (Option.some Jvm.ClassFile.FieldType.int)) ∈ TT := tt_3 (List.mem_of_getElem? (i := 205) rfl) rfl
theorem wd_3_206 : (Jvm.Cond.methodLink "InkBank$Accounts" (29 : Nat) ({ cls := "InkBank$Accounts", name := "fullCharge", desc := "(I)I" } : Jvm.MethodName)) ∈ TT := tt_3 (List.mem_of_getElem? (i := 206) rfl) rfl
theorem wd_3_208 : (Jvm.Cond.instanceMethod ({ cls := "InkBank$Accounts", name := "fullCharge", desc := "(I)I" } : Jvm.MethodName)) ∈ TT := tt_3 (List.mem_of_getElem? (i := 208) rfl) rfl
theorem wd_3_209 : (Jvm.Cond.code ({ cls := "InkBank$Accounts", name := "fullCharge", desc := "(I)I" } : Jvm.MethodName) prog_2_method_10_code (2 : Nat) (Option.some Jvm.ClassFile.FieldType.int)) ∈ TT := tt_3 (List.mem_of_getElem? (i := 209) rfl) rfl
theorem wd_3_210 : (Jvm.Cond.methodLink "InkBank$Accounts" (42 : Nat) ({ cls := "java/lang/Math", name := "max", desc := "(II)I" } : Jvm.MethodName)) ∈ TT := tt_3 (List.mem_of_getElem? (i := 210) rfl) rfl
theorem wd_3_211 : (Jvm.Cond.static ({ cls := "java/lang/Math", name := "max", desc := "(II)I" } : Jvm.MethodName)) ∈ TT := tt_3 (List.mem_of_getElem? (i := 211) rfl) rfl
theorem wd_3_212 : (Jvm.Cond.code ({ cls := "java/lang/Math", name := "max", desc := "(II)I" } : Jvm.MethodName) prog_24_method_65_code (2 : Nat) (Option.some Jvm.ClassFile.FieldType.int)) ∈ TT := tt_3 (List.mem_of_getElem? (i := 212) rfl) rfl
theorem wd_3_213 : (Jvm.Cond.methodLink "InkBank$Accounts" (33 : Nat) ({ cls := "InkBank$Accounts", name := "available", desc := "(I)I" } : Jvm.MethodName)) ∈ TT := tt_3 (List.mem_of_getElem? (i := 213) rfl) rfl
theorem wd_3_214 : (Jvm.Cond.methodLink "InkBank$Accounts" (36 : Nat) ({ cls := "java/lang/Math", name := "min", desc := "(II)I" } : Jvm.MethodName)) ∈ TT := tt_3 (List.mem_of_getElem? (i := 214) rfl) rfl
theorem wd_3_224 : (Jvm.Cond.instanceMethod ({ cls := "InkBank$Accounts", name := "atRank", desc := "(I)I" } : Jvm.MethodName)) ∈ TT := tt_3 (List.mem_of_getElem? (i := 224) rfl) rfl
theorem wd_3_225 : (Jvm.Cond.selects "InkBank$Accounts" ({ cls := "InkBank$Accounts", name := "atRank", desc := "(I)I" } : Jvm.MethodName) ({ cls := "InkBank$Accounts", name := "atRank", desc := "(I)I" } : Jvm.MethodName)) ∈ TT := tt_3 (List.mem_of_getElem? (i := 225) rfl) rfl
theorem wd_3_226 : (Jvm.Cond.code ({ cls := "InkBank$Accounts", name := "atRank", desc := "(I)I" } : Jvm.MethodName) prog_2_method_11_code (4 : Nat) (Option.some Jvm.ClassFile.FieldType.int)) ∈ TT := tt_3 (List.mem_of_getElem? (i := 226) rfl) rfl
theorem wd_3_227 : (Jvm.Cond.methodLink "InkBank$Accounts" (45 : Nat) ({ cls := "InkBank$Accounts", name := "rankOf", desc := "(I)I" } : Jvm.MethodName)) ∈ TT := tt_3 (List.mem_of_getElem? (i := 227) rfl) rfl
theorem wd_3_229 : (Jvm.Cond.instanceMethod ({ cls := "InkBank$Accounts", name := "rankOf", desc := "(I)I" } : Jvm.MethodName)) ∈ TT := tt_3 (List.mem_of_getElem? (i := 229) rfl) rfl
theorem wd_3_230 : (Jvm.Cond.code ({ cls := "InkBank$Accounts", name := "rankOf", desc := "(I)I" } : Jvm.MethodName) prog_2_method_12_code (6 : Nat) (Option.some Jvm.ClassFile.FieldType.int)) ∈ TT := tt_3 (List.mem_of_getElem? (i := 230) rfl) rfl
theorem wd_4_56 : (Jvm.Cond.instanceMethod ({ cls := "InkBank$Accounts", name := "forgetTouches", desc := "()V" } : Jvm.MethodName)) ∈ TT := tt_4 (List.mem_of_getElem? (i := 56) rfl) rfl
theorem wd_4_57 : (Jvm.Cond.selects "InkBank$Accounts" ({ cls := "InkBank$Accounts", name := "forgetTouches", desc := "()V" } : Jvm.MethodName) ({ cls := "InkBank$Accounts", name := "forgetTouches", desc := "()V" } : Jvm.MethodName)) ∈ TT := tt_4 (List.mem_of_getElem? (i := 57) rfl) rfl
theorem wd_4_58 : (Jvm.Cond.code ({ cls := "InkBank$Accounts", name := "forgetTouches", desc := "()V" } : Jvm.MethodName) prog_2_method_7_code (2 : Nat) (Option.none : Option Jvm.ClassFile.FieldType)) ∈ TT := tt_4 (List.mem_of_getElem? (i := 58) rfl) rfl
theorem cd_X0_add : Card yX0_add cX0_add 3 (some .int) 1 := ⟨wd_3_57, wd_1_3, by decide, by decide, by decide +kernel⟩
theorem cv_X0_add : CardV yX0_add := ⟨wd_3_55, wd_3_56⟩
theorem cd_X0_atRank : Card yX0_atRank cX0_atRank 4 (some .int) 1 := ⟨wd_3_226, wd_1_3, by decide, by decide, by decide +kernel⟩
theorem cv_X0_atRank : CardV yX0_atRank := ⟨wd_3_224, wd_3_225⟩
theorem cd_X0_available : Card yX0_available cX0_available 2 (some .int) 1 := ⟨wd_3_133, wd_1_3, by decide, by decide, by decide +kernel⟩
theorem cv_X0_available : CardV yX0_available := ⟨wd_3_131, wd_3_132⟩
theorem cd_X0_changeLimit : Card yX0_changeLimit cX0_changeLimit 4 (some .int) 2 := ⟨wd_3_153, wd_1_3, by decide, by decide, by decide +kernel⟩
theorem cv_X0_changeLimit : CardV yX0_changeLimit := ⟨wd_3_151, wd_3_152⟩
theorem cd_X0_copyFrom : Card yX0_copyFrom cX0_copyFrom 3 none 1 := ⟨wd_2_122, wd_1_3, by decide, by decide, by decide +kernel⟩
theorem cv_X0_copyFrom : CardV yX0_copyFrom := ⟨wd_2_120, wd_2_121⟩
theorem cd_X0_forgetTouches : Card yX0_forgetTouches cX0_forgetTouches 2 none 0 := ⟨wd_4_58, wd_1_3, by decide, by decide, by decide +kernel⟩
theorem cv_X0_forgetTouches : CardV yX0_forgetTouches := ⟨wd_4_56, wd_4_57⟩
theorem cd_X0_fullCharge : Card yX0_fullCharge cX0_fullCharge 2 (some .int) 1 := ⟨wd_3_209, wd_1_3, by decide, by decide, by decide +kernel⟩
theorem cv_X0_fullCharge : CardV yX0_fullCharge := ⟨wd_3_208, (tt_s (List.mem_map.mpr ⟨_, List.mem_of_getElem? (l := lw_privs) (i := 3) rfl, rfl⟩) rfl)⟩
theorem cd_X0_has : Card yX0_has cX0_has 2 (some .boolean) 1 := ⟨wd_3_108, wd_1_3, by decide, by decide, by decide +kernel⟩
theorem cv_X0_has : CardV yX0_has := ⟨wd_3_106, wd_3_107⟩
theorem cd_X0_interest : Card yX0_interest cX0_interest 4 (some .int) 1 := ⟨wd_3_205, wd_1_3, by decide, by decide, by decide +kernel⟩
theorem cv_X0_interest : CardV yX0_interest := ⟨wd_3_203, wd_3_204⟩
theorem cd_X0_rankOf : Card yX0_rankOf cX0_rankOf 6 (some .int) 1 := ⟨wd_3_230, wd_1_3, by decide, by decide, by decide +kernel⟩
theorem cv_X0_rankOf : CardV yX0_rankOf := ⟨wd_3_229, (tt_s (List.mem_map.mpr ⟨_, List.mem_of_getElem? (l := lw_privs) (i := 4) rfl, rfl⟩) rfl)⟩
theorem cd_X0_sum : Card yX0_sum cX0_sum 4 (some .long) 0 := ⟨wd_2_78, wd_1_3, by decide, by decide, by decide +kernel⟩
theorem cv_X0_sum : CardV yX0_sum := ⟨wd_2_76, wd_2_77⟩
