theorem wd_1_32 : (Jvm.Cond.classLink "InkBankLaw" (16 : Nat) "InkBank") ∈ TT := tt_1 (List.mem_of_getElem? (i := 32) rfl) rfl
theorem wd_1_33 : (Jvm.Cond.instantiable "InkBank" (10 : Nat)) ∈ TT := tt_1 (List.mem_of_getElem? (i := 33) rfl) rfl
theorem wd_1_34 : (Jvm.Cond.methodLink "InkBankLaw" (258 : Nat) ({ cls := "InkBank", name := "<init>", desc := "()V" } : Jvm.MethodName)) ∈ TT := tt_1 (List.mem_of_getElem? (i := 34) rfl) rfl
theorem wd_1_35 : (Jvm.Cond.instanceMethod ({ cls := "InkBank", name := "<init>", desc := "()V" } : Jvm.MethodName)) ∈ TT := tt_1 (List.mem_of_getElem? (i := 35) rfl) rfl
theorem wd_2_73 : (Jvm.Cond.methodLink "InkBankLaw" (259 : Nat) ({ cls := "InkBankLaw", name := "lay", desc := "(LInkBank;[I)V" } : Jvm.MethodName)) ∈ TT := tt_2 (List.mem_of_getElem? (i := 73) rfl) rfl
theorem wd_2_74 : (Jvm.Cond.static ({ cls := "InkBankLaw", name := "lay", desc := "(LInkBank;[I)V" } : Jvm.MethodName)) ∈ TT := tt_2 (List.mem_of_getElem? (i := 74) rfl) rfl
theorem wd_4_112 : (Jvm.Cond.methodLink "InkBankLaw" (263 : Nat) ({ cls := "InkBankLaw", name := "any", desc := "(LInkBank;[II)I" } : Jvm.MethodName)) ∈ TT := tt_4 (List.mem_of_getElem? (i := 112) rfl) rfl
theorem wd_4_113 : (Jvm.Cond.static ({ cls := "InkBankLaw", name := "any", desc := "(LInkBank;[II)I" } : Jvm.MethodName)) ∈ TT := tt_4 (List.mem_of_getElem? (i := 113) rfl) rfl
theorem wd_4_135 : (Jvm.Cond.methodLink "InkBankLaw" (267 : Nat) ({ cls := "InkBankLaw", name := "areAccountsRight", desc := "(LInkBank;)Z" } : Jvm.MethodName)) ∈ TT := tt_4 (List.mem_of_getElem? (i := 135) rfl) rfl
theorem wd_4_136 : (Jvm.Cond.static ({ cls := "InkBankLaw", name := "areAccountsRight", desc := "(LInkBank;)Z" } : Jvm.MethodName)) ∈ TT := tt_4 (List.mem_of_getElem? (i := 136) rfl) rfl
theorem wd_6_101 : (Jvm.Cond.methodLink "InkBankLaw" (271 : Nat) ({ cls := "InkBankLaw", name := "areTransfersRight", desc := "(LInkBank;II)Z" } : Jvm.MethodName)) ∈ TT := tt_6 (List.mem_of_getElem? (i := 101) rfl) rfl
theorem wd_6_102 : (Jvm.Cond.static ({ cls := "InkBankLaw", name := "areTransfersRight", desc := "(LInkBank;II)Z" } : Jvm.MethodName)) ∈ TT := tt_6 (List.mem_of_getElem? (i := 102) rfl) rfl
theorem wd_6_123 : (Jvm.Cond.methodLink "InkBankLaw" (275 : Nat) ({ cls := "InkBankLaw", name := "arePredictionsRight", desc := "(LInkBank;I)Z" } : Jvm.MethodName)) ∈ TT := tt_6 (List.mem_of_getElem? (i := 123) rfl) rfl
theorem wd_6_124 : (Jvm.Cond.static ({ cls := "InkBankLaw", name := "arePredictionsRight", desc := "(LInkBank;I)Z" } : Jvm.MethodName)) ∈ TT := tt_6 (List.mem_of_getElem? (i := 124) rfl) rfl
theorem wd_6_138 : (Jvm.Cond.methodLink "InkBankLaw" (279 : Nat) ({ cls := "InkBankLaw", name := "isJournalRight", desc := "(LInkBank;)Z" } : Jvm.MethodName)) ∈ TT := tt_6 (List.mem_of_getElem? (i := 138) rfl) rfl
theorem wd_6_139 : (Jvm.Cond.static ({ cls := "InkBankLaw", name := "isJournalRight", desc := "(LInkBank;)Z" } : Jvm.MethodName)) ∈ TT := tt_6 (List.mem_of_getElem? (i := 139) rfl) rfl
