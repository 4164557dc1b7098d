theorem wd_1_0 : (Jvm.Cond.initialized "InkBankLaw") ∈ TT := tt_1 (List.mem_of_getElem? (i := 0) rfl) rfl
theorem wd_1_1 : (Jvm.Cond.initialized "InkBank") ∈ TT := tt_1 (List.mem_of_getElem? (i := 1) rfl) rfl
theorem wd_1_2 : (Jvm.Cond.initialized "InkBank$Ledger") ∈ TT := tt_1 (List.mem_of_getElem? (i := 2) rfl) rfl
theorem wd_1_3 : (Jvm.Cond.initialized "InkBank$Accounts") ∈ TT := tt_1 (List.mem_of_getElem? (i := 3) rfl) rfl
theorem wd_1_4 : (Jvm.Cond.initialized "InkBank$Transfers") ∈ TT := tt_1 (List.mem_of_getElem? (i := 4) rfl) rfl
theorem wd_1_5 : (Jvm.Cond.initialized "InkBank$Journal") ∈ TT := tt_1 (List.mem_of_getElem? (i := 5) rfl) rfl
theorem wd_1_6 : (Jvm.Cond.initialized "InkBank$History") ∈ TT := tt_1 (List.mem_of_getElem? (i := 6) rfl) rfl
theorem wd_1_8 : (Jvm.Cond.initialized "java/lang/AbstractStringBuilder") ∈ TT := tt_1 (List.mem_of_getElem? (i := 8) rfl) rfl
theorem wd_1_9 : (Jvm.Cond.initialized "java/lang/StringBuilder") ∈ TT := tt_1 (List.mem_of_getElem? (i := 9) rfl) rfl
theorem wd_1_10 : (Jvm.Cond.initialized "java/lang/String") ∈ TT := tt_1 (List.mem_of_getElem? (i := 10) rfl) rfl
theorem wd_1_21 : (Jvm.Cond.initialized "java/lang/Math") ∈ TT := tt_1 (List.mem_of_getElem? (i := 21) rfl) rfl
theorem wd_1_22 : (Jvm.Cond.initialized "java/lang/StringLatin1") ∈ TT := tt_1 (List.mem_of_getElem? (i := 22) rfl) rfl
theorem wd_1_23 : (Jvm.Cond.initialized "jdk/internal/util/Preconditions") ∈ TT := tt_1 (List.mem_of_getElem? (i := 23) rfl) rfl
theorem wd_1_27 : (Jvm.Cond.initialized "java/util/Arrays") ∈ TT := tt_1 (List.mem_of_getElem? (i := 27) rfl) rfl
theorem wd_1_28 : (Jvm.Cond.initialized "java/lang/System") ∈ TT := tt_1 (List.mem_of_getElem? (i := 28) rfl) rfl
theorem wd_1_30 : (Jvm.Cond.initialized "java/lang/Integer") ∈ TT := tt_1 (List.mem_of_getElem? (i := 30) rfl) rfl
theorem wd_1_38 : (Jvm.Cond.instanceMethod ({ cls := "java/lang/Object", name := "<init>", desc := "()V" } : Jvm.MethodName)) ∈ TT := tt_1 (List.mem_of_getElem? (i := 38) rfl) rfl
theorem wd_1_39 : (Jvm.Cond.code ({ cls := "java/lang/Object", name := "<init>", desc := "()V" } : Jvm.MethodName) object_method_1_code (1 : Nat) (Option.none : Option Jvm.ClassFile.FieldType)) ∈ TT := tt_1 (List.mem_of_getElem? (i := 39) rfl) rfl
theorem wd_1_52 : (Jvm.Cond.fieldLink "InkBank$Accounts" (25 : Nat) "InkBank$Accounts" "count" "I") ∈ TT := tt_1 (List.mem_of_getElem? (i := 52) rfl) rfl
theorem wd_1_53 : (Jvm.Cond.fieldLink "InkBank$Ledger" (72 : Nat) "InkBank$Accounts" "count" "I") ∈ TT := tt_1 (List.mem_of_getElem? (i := 53) rfl) rfl
theorem wd_1_54 : (Jvm.Cond.fieldLink "InkBank" (99 : Nat) "InkBank$Accounts" "count" "I") ∈ TT := tt_1 (List.mem_of_getElem? (i := 54) rfl) rfl
theorem wd_1_55 : (Jvm.Cond.fieldLink "InkBank$Accounts" (9 : Nat) "InkBank$Accounts" "kinds" "[I") ∈ TT := tt_1 (List.mem_of_getElem? (i := 55) rfl) rfl
theorem wd_1_56 : (Jvm.Cond.fieldLink "InkBank" (105 : Nat) "InkBank$Accounts" "kinds" "[I") ∈ TT := tt_1 (List.mem_of_getElem? (i := 56) rfl) rfl
theorem wd_1_57 : (Jvm.Cond.fieldLink "InkBank$Ledger" (99 : Nat) "InkBank$Accounts" "kinds" "[I") ∈ TT := tt_1 (List.mem_of_getElem? (i := 57) rfl) rfl
theorem wd_1_58 : (Jvm.Cond.fieldLink "InkBank$Accounts" (15 : Nat) "InkBank$Accounts" "balances" "[I") ∈ TT := tt_1 (List.mem_of_getElem? (i := 58) rfl) rfl
theorem wd_1_59 : (Jvm.Cond.fieldLink "InkBank$Ledger" (79 : Nat) "InkBank$Accounts" "balances" "[I") ∈ TT := tt_1 (List.mem_of_getElem? (i := 59) rfl) rfl
theorem wd_1_60 : (Jvm.Cond.fieldLink "InkBank" (109 : Nat) "InkBank$Accounts" "balances" "[I") ∈ TT := tt_1 (List.mem_of_getElem? (i := 60) rfl) rfl
theorem wd_1_61 : (Jvm.Cond.fieldLink "InkBank$Accounts" (18 : Nat) "InkBank$Accounts" "limits" "[I") ∈ TT := tt_1 (List.mem_of_getElem? (i := 61) rfl) rfl
theorem wd_1_62 : (Jvm.Cond.fieldLink "InkBank" (112 : Nat) "InkBank$Accounts" "limits" "[I") ∈ TT := tt_1 (List.mem_of_getElem? (i := 62) rfl) rfl
theorem wd_1_63 : (Jvm.Cond.fieldLink "InkBank$Accounts" (21 : Nat) "InkBank$Accounts" "touched" "[Z") ∈ TT := tt_1 (List.mem_of_getElem? (i := 63) rfl) rfl
theorem wd_1_64 : (Jvm.Cond.fieldLink "InkBank$Ledger" (95 : Nat) "InkBank$Accounts" "touched" "[Z") ∈ TT := tt_1 (List.mem_of_getElem? (i := 64) rfl) rfl
theorem wd_1_65 : (Jvm.Cond.fieldLink "InkBank" (118 : Nat) "InkBank$Accounts" "touched" "[Z") ∈ TT := tt_1 (List.mem_of_getElem? (i := 65) rfl) rfl
theorem wd_1_77 : (Jvm.Cond.arrayClass Jvm.ClassFile.FieldType.int) ∈ TT := tt_1 (List.mem_of_getElem? (i := 77) rfl) rfl
theorem wd_1_78 : (Jvm.Cond.arrayClass Jvm.ClassFile.FieldType.boolean) ∈ TT := tt_1 (List.mem_of_getElem? (i := 78) rfl) rfl
theorem wd_1_85 : (Jvm.Cond.fieldLink "InkBank$Transfers" (27 : Nat) "InkBank$Transfers" "count" "I") ∈ TT := tt_1 (List.mem_of_getElem? (i := 85) rfl) rfl
theorem wd_1_86 : (Jvm.Cond.fieldLink "InkBank$Ledger" (102 : Nat) "InkBank$Transfers" "count" "I") ∈ TT := tt_1 (List.mem_of_getElem? (i := 86) rfl) rfl
theorem wd_1_87 : (Jvm.Cond.fieldLink "InkBank" (193 : Nat) "InkBank$Transfers" "count" "I") ∈ TT := tt_1 (List.mem_of_getElem? (i := 87) rfl) rfl
theorem wd_1_88 : (Jvm.Cond.fieldLink "InkBank$Transfers" (31 : Nat) "InkBank$Transfers" "nextId" "I") ∈ TT := tt_1 (List.mem_of_getElem? (i := 88) rfl) rfl
theorem wd_1_89 : (Jvm.Cond.fieldLink "InkBank$Transfers" (9 : Nat) "InkBank$Transfers" "ids" "[I") ∈ TT := tt_1 (List.mem_of_getElem? (i := 89) rfl) rfl
theorem wd_1_90 : (Jvm.Cond.fieldLink "InkBank$Ledger" (126 : Nat) "InkBank$Transfers" "ids" "[I") ∈ TT := tt_1 (List.mem_of_getElem? (i := 90) rfl) rfl
theorem wd_1_91 : (Jvm.Cond.fieldLink "InkBank$Transfers" (15 : Nat) "InkBank$Transfers" "senders" "[I") ∈ TT := tt_1 (List.mem_of_getElem? (i := 91) rfl) rfl
theorem wd_1_92 : (Jvm.Cond.fieldLink "InkBank$Ledger" (129 : Nat) "InkBank$Transfers" "senders" "[I") ∈ TT := tt_1 (List.mem_of_getElem? (i := 92) rfl) rfl
theorem wd_1_93 : (Jvm.Cond.fieldLink "InkBank" (200 : Nat) "InkBank$Transfers" "senders" "[I") ∈ TT := tt_1 (List.mem_of_getElem? (i := 93) rfl) rfl
theorem wd_1_94 : (Jvm.Cond.fieldLink "InkBank$Transfers" (18 : Nat) "InkBank$Transfers" "receivers" "[I") ∈ TT := tt_1 (List.mem_of_getElem? (i := 94) rfl) rfl
theorem wd_1_95 : (Jvm.Cond.fieldLink "InkBank$Ledger" (141 : Nat) "InkBank$Transfers" "receivers" "[I") ∈ TT := tt_1 (List.mem_of_getElem? (i := 95) rfl) rfl
theorem wd_1_96 : (Jvm.Cond.fieldLink "InkBank" (206 : Nat) "InkBank$Transfers" "receivers" "[I") ∈ TT := tt_1 (List.mem_of_getElem? (i := 96) rfl) rfl
theorem wd_1_97 : (Jvm.Cond.fieldLink "InkBank$Transfers" (21 : Nat) "InkBank$Transfers" "amounts" "[I") ∈ TT := tt_1 (List.mem_of_getElem? (i := 97) rfl) rfl
theorem wd_1_98 : (Jvm.Cond.fieldLink "InkBank$Ledger" (132 : Nat) "InkBank$Transfers" "amounts" "[I") ∈ TT := tt_1 (List.mem_of_getElem? (i := 98) rfl) rfl
theorem wd_1_99 : (Jvm.Cond.fieldLink "InkBank" (209 : Nat) "InkBank$Transfers" "amounts" "[I") ∈ TT := tt_1 (List.mem_of_getElem? (i := 99) rfl) rfl
theorem wd_1_100 : (Jvm.Cond.fieldLink "InkBank$Transfers" (24 : Nat) "InkBank$Transfers" "dueDays" "[I") ∈ TT := tt_1 (List.mem_of_getElem? (i := 100) rfl) rfl
theorem wd_1_101 : (Jvm.Cond.fieldLink "InkBank$Ledger" (116 : Nat) "InkBank$Transfers" "dueDays" "[I") ∈ TT := tt_1 (List.mem_of_getElem? (i := 101) rfl) rfl
theorem wd_1_102 : (Jvm.Cond.fieldLink "InkBank" (212 : Nat) "InkBank$Transfers" "dueDays" "[I") ∈ TT := tt_1 (List.mem_of_getElem? (i := 102) rfl) rfl
theorem wd_1_124 : (Jvm.Cond.fieldLink "InkBank$Journal" (22 : Nat) "InkBank$Journal" "length" "I") ∈ TT := tt_1 (List.mem_of_getElem? (i := 124) rfl) rfl
theorem wd_1_125 : (Jvm.Cond.fieldLink "InkBank" (241 : Nat) "InkBank$Journal" "length" "I") ∈ TT := tt_1 (List.mem_of_getElem? (i := 125) rfl) rfl
theorem wd_1_126 : (Jvm.Cond.fieldLink "InkBank$Journal" (26 : Nat) "InkBank$Journal" "newest" "I") ∈ TT := tt_1 (List.mem_of_getElem? (i := 126) rfl) rfl
theorem wd_1_127 : (Jvm.Cond.fieldLink "InkBank$Journal" (9 : Nat) "InkBank$Journal" "kinds" "[C") ∈ TT := tt_1 (List.mem_of_getElem? (i := 127) rfl) rfl
theorem wd_1_128 : (Jvm.Cond.fieldLink "InkBank" (246 : Nat) "InkBank$Journal" "kinds" "[C") ∈ TT := tt_1 (List.mem_of_getElem? (i := 128) rfl) rfl
theorem wd_1_129 : (Jvm.Cond.fieldLink "InkBank$Journal" (15 : Nat) "InkBank$Journal" "amounts" "[I") ∈ TT := tt_1 (List.mem_of_getElem? (i := 129) rfl) rfl
theorem wd_1_130 : (Jvm.Cond.fieldLink "InkBank" (252 : Nat) "InkBank$Journal" "amounts" "[I") ∈ TT := tt_1 (List.mem_of_getElem? (i := 130) rfl) rfl
theorem wd_1_131 : (Jvm.Cond.fieldLink "InkBank$Journal" (19 : Nat) "InkBank$Journal" "accounts" "[I") ∈ TT := tt_1 (List.mem_of_getElem? (i := 131) rfl) rfl
theorem wd_1_132 : (Jvm.Cond.fieldLink "InkBank" (253 : Nat) "InkBank$Journal" "accounts" "[I") ∈ TT := tt_1 (List.mem_of_getElem? (i := 132) rfl) rfl
theorem wd_1_145 : (Jvm.Cond.fieldLink "InkBank$Ledger" (12 : Nat) "InkBank$Ledger" "accounts" "LInkBank$Accounts;") ∈ TT := tt_1 (List.mem_of_getElem? (i := 145) rfl) rfl
theorem wd_1_146 : (Jvm.Cond.fieldLink "InkBank" (71 : Nat) "InkBank$Ledger" "accounts" "LInkBank$Accounts;") ∈ TT := tt_1 (List.mem_of_getElem? (i := 146) rfl) rfl
theorem wd_1_147 : (Jvm.Cond.fieldLink "InkBank$Ledger" (21 : Nat) "InkBank$Ledger" "transfers" "LInkBank$Transfers;") ∈ TT := tt_1 (List.mem_of_getElem? (i := 147) rfl) rfl
theorem wd_1_148 : (Jvm.Cond.fieldLink "InkBank" (179 : Nat) "InkBank$Ledger" "transfers" "LInkBank$Transfers;") ∈ TT := tt_1 (List.mem_of_getElem? (i := 148) rfl) rfl
theorem wd_1_149 : (Jvm.Cond.fieldLink "InkBank$Ledger" (28 : Nat) "InkBank$Ledger" "journal" "LInkBank$Journal;") ∈ TT := tt_1 (List.mem_of_getElem? (i := 149) rfl) rfl
theorem wd_1_150 : (Jvm.Cond.fieldLink "InkBank" (237 : Nat) "InkBank$Ledger" "journal" "LInkBank$Journal;") ∈ TT := tt_1 (List.mem_of_getElem? (i := 150) rfl) rfl
theorem wd_1_151 : (Jvm.Cond.fieldLink "InkBank$Ledger" (42 : Nat) "InkBank$Ledger" "today" "I") ∈ TT := tt_1 (List.mem_of_getElem? (i := 151) rfl) rfl
theorem wd_1_152 : (Jvm.Cond.fieldLink "InkBank" (160 : Nat) "InkBank$Ledger" "today" "I") ∈ TT := tt_1 (List.mem_of_getElem? (i := 152) rfl) rfl
theorem wd_1_153 : (Jvm.Cond.fieldLink "InkBank$Ledger" (46 : Nat) "InkBank$Ledger" "bank" "I") ∈ TT := tt_1 (List.mem_of_getElem? (i := 153) rfl) rfl
theorem wd_1_154 : (Jvm.Cond.fieldLink "InkBank" (142 : Nat) "InkBank$Ledger" "bank" "I") ∈ TT := tt_1 (List.mem_of_getElem? (i := 154) rfl) rfl
theorem wd_1_155 : (Jvm.Cond.fieldLink "InkBank$Ledger" (49 : Nat) "InkBank$Ledger" "bounced" "I") ∈ TT := tt_1 (List.mem_of_getElem? (i := 155) rfl) rfl
theorem wd_1_156 : (Jvm.Cond.fieldLink "InkBank" (224 : Nat) "InkBank$Ledger" "bounced" "I") ∈ TT := tt_1 (List.mem_of_getElem? (i := 156) rfl) rfl
theorem wd_1_157 : (Jvm.Cond.fieldLink "InkBank$Ledger" (52 : Nat) "InkBank$Ledger" "deposited" "J") ∈ TT := tt_1 (List.mem_of_getElem? (i := 157) rfl) rfl
theorem wd_1_158 : (Jvm.Cond.fieldLink "InkBank" (145 : Nat) "InkBank$Ledger" "deposited" "J") ∈ TT := tt_1 (List.mem_of_getElem? (i := 158) rfl) rfl
theorem wd_1_159 : (Jvm.Cond.fieldLink "InkBank$Ledger" (56 : Nat) "InkBank$Ledger" "withdrawn" "J") ∈ TT := tt_1 (List.mem_of_getElem? (i := 159) rfl) rfl
theorem wd_1_160 : (Jvm.Cond.fieldLink "InkBank" (149 : Nat) "InkBank$Ledger" "withdrawn" "J") ∈ TT := tt_1 (List.mem_of_getElem? (i := 160) rfl) rfl
theorem wd_1_161 : (Jvm.Cond.fieldLink "InkBank$Ledger" (59 : Nat) "InkBank$Ledger" "transferred" "J") ∈ TT := tt_1 (List.mem_of_getElem? (i := 161) rfl) rfl
theorem wd_1_162 : (Jvm.Cond.fieldLink "InkBank$Ledger" (62 : Nat) "InkBank$Ledger" "interest" "J") ∈ TT := tt_1 (List.mem_of_getElem? (i := 162) rfl) rfl
theorem wd_1_163 : (Jvm.Cond.fieldLink "InkBank" (155 : Nat) "InkBank$Ledger" "interest" "J") ∈ TT := tt_1 (List.mem_of_getElem? (i := 163) rfl) rfl
theorem wd_1_164 : (Jvm.Cond.fieldLink "InkBank$Ledger" (65 : Nat) "InkBank$Ledger" "charges" "J") ∈ TT := tt_1 (List.mem_of_getElem? (i := 164) rfl) rfl
theorem wd_1_165 : (Jvm.Cond.fieldLink "InkBank" (157 : Nat) "InkBank$Ledger" "charges" "J") ∈ TT := tt_1 (List.mem_of_getElem? (i := 165) rfl) rfl
theorem wd_1_198 : (Jvm.Cond.fieldLink "InkBank$History" (32 : Nat) "InkBank$History" "length" "I") ∈ TT := tt_1 (List.mem_of_getElem? (i := 198) rfl) rfl
theorem wd_1_199 : (Jvm.Cond.fieldLink "InkBank" (307 : Nat) "InkBank$History" "length" "I") ∈ TT := tt_1 (List.mem_of_getElem? (i := 199) rfl) rfl
theorem wd_1_200 : (Jvm.Cond.fieldLink "InkBank$History" (18 : Nat) "InkBank$History" "newest" "I") ∈ TT := tt_1 (List.mem_of_getElem? (i := 200) rfl) rfl
theorem wd_1_201 : (Jvm.Cond.fieldLink "InkBank$History" (11 : Nat) "InkBank$History" "states" "[LInkBank$Ledger;") ∈ TT := tt_1 (List.mem_of_getElem? (i := 201) rfl) rfl
theorem wd_1_236 : (Jvm.Cond.instantiable "java/lang/StringBuilder" (4 : Nat)) ∈ TT := tt_1 (List.mem_of_getElem? (i := 236) rfl) rfl
theorem wd_1_238 : (Jvm.Cond.instanceMethod ({ cls := "java/lang/StringBuilder", name := "<init>", desc := "()V" } : Jvm.MethodName)) ∈ TT := tt_1 (List.mem_of_getElem? (i := 238) rfl) rfl
theorem wd_2_4 : (Jvm.Cond.fieldLink "java/lang/AbstractStringBuilder" (18 : Nat) "java/lang/String" "COMPACT_STRINGS" "Z") ∈ TT := tt_2 (List.mem_of_getElem? (i := 4) rfl) rfl
theorem wd_2_13 : (Jvm.Cond.fieldLink "java/lang/AbstractStringBuilder" (15 : Nat) "java/lang/AbstractStringBuilder" "value" "[B") ∈ TT := tt_2 (List.mem_of_getElem? (i := 13) rfl) rfl
theorem wd_2_14 : (Jvm.Cond.fieldLink "java/lang/AbstractStringBuilder" (22 : Nat) "java/lang/AbstractStringBuilder" "coder" "B") ∈ TT := tt_2 (List.mem_of_getElem? (i := 14) rfl) rfl
theorem wd_2_15 : (Jvm.Cond.fieldLink "java/lang/AbstractStringBuilder" (73 : Nat) "java/lang/AbstractStringBuilder" "maybeLatin1" "Z") ∈ TT := tt_2 (List.mem_of_getElem? (i := 15) rfl) rfl
theorem wd_2_17 : (Jvm.Cond.fieldLink "java/lang/AbstractStringBuilder" (79 : Nat) "java/lang/AbstractStringBuilder" "count" "I") ∈ TT := tt_2 (List.mem_of_getElem? (i := 17) rfl) rfl
theorem wd_2_27 : (Jvm.Cond.arrayClass Jvm.ClassFile.FieldType.byte) ∈ TT := tt_2 (List.mem_of_getElem? (i := 27) rfl) rfl
theorem wd_2_30 : (Jvm.Cond.fieldLink "InkBank" (10 : Nat) "InkBank" "now" "LInkBank$Ledger;") ∈ TT := tt_2 (List.mem_of_getElem? (i := 30) rfl) rfl
theorem wd_2_31 : (Jvm.Cond.fieldLink "InkBank" (16 : Nat) "InkBank" "trial" "LInkBank$Ledger;") ∈ TT := tt_2 (List.mem_of_getElem? (i := 31) rfl) rfl
theorem wd_2_32 : (Jvm.Cond.fieldLink "InkBank" (19 : Nat) "InkBank" "snapshot" "LInkBank$Ledger;") ∈ TT := tt_2 (List.mem_of_getElem? (i := 32) rfl) rfl
theorem wd_2_33 : (Jvm.Cond.fieldLink "InkBank" (25 : Nat) "InkBank" "history" "LInkBank$History;") ∈ TT := tt_2 (List.mem_of_getElem? (i := 33) rfl) rfl
theorem wd_2_35 : (Jvm.Cond.fieldLink "InkBank" (39 : Nat) "InkBank" "statement" "Ljava/lang/StringBuilder;") ∈ TT := tt_2 (List.mem_of_getElem? (i := 35) rfl) rfl
theorem wd_2_36 : (Jvm.Cond.fieldLink "InkBank" (45 : Nat) "InkBank" "sums" "[[I") ∈ TT := tt_2 (List.mem_of_getElem? (i := 36) rfl) rfl
theorem wd_2_37 : (Jvm.Cond.fieldLink "InkBank" (48 : Nat) "InkBank" "saved" "Z") ∈ TT := tt_2 (List.mem_of_getElem? (i := 37) rfl) rfl
theorem wd_2_38 : (Jvm.Cond.fieldLink "InkBank" (52 : Nat) "InkBank" "malformedAt" "I") ∈ TT := tt_2 (List.mem_of_getElem? (i := 38) rfl) rfl
theorem wd_2_39 : (Jvm.Cond.fieldLink "InkBank" (56 : Nat) "InkBank" "failedAt" "I") ∈ TT := tt_2 (List.mem_of_getElem? (i := 39) rfl) rfl
theorem wd_2_61 : (Jvm.Cond.methodLink "InkBankLaw" (115 : Nat) ({ cls := "InkBank", name := "accountCount", desc := "()I" } : Jvm.MethodName)) ∈ TT := tt_2 (List.mem_of_getElem? (i := 61) rfl) rfl
theorem wd_2_62 : (Jvm.Cond.instanceMethod ({ cls := "InkBank", name := "accountCount", desc := "()I" } : Jvm.MethodName)) ∈ TT := tt_2 (List.mem_of_getElem? (i := 62) rfl) rfl
theorem wd_2_63 : (Jvm.Cond.selects "InkBank" ({ cls := "InkBank", name := "accountCount", desc := "()I" } : Jvm.MethodName) ({ cls := "InkBank", name := "accountCount", desc := "()I" } : Jvm.MethodName)) ∈ TT := tt_2 (List.mem_of_getElem? (i := 63) rfl) rfl
theorem wd_2_64 : (Jvm.Cond.code ({ cls := "InkBank", name := "accountCount", desc := "()I" } : Jvm.MethodName) prog_1_method_6_code (1 : Nat) (Option.some Jvm.ClassFile.FieldType.int)) ∈ TT := tt_2 (List.mem_of_getElem? (i := 64) rfl) rfl
theorem wd_2_65 : (Jvm.Cond.methodLink "InkBankLaw" (105 : Nat) ({ cls := "InkBankLaw", name := "pick", desc := "([III)I" } : Jvm.MethodName)) ∈ TT := tt_2 (List.mem_of_getElem? (i := 65) rfl) rfl
theorem wd_2_66 : (Jvm.Cond.static ({ cls := "InkBankLaw", name := "pick", desc := "([III)I" } : Jvm.MethodName)) ∈ TT := tt_2 (List.mem_of_getElem? (i := 66) rfl) rfl
theorem wd_2_67 : (Jvm.Cond.code ({ cls := "InkBankLaw", name := "pick", desc := "([III)I" } : Jvm.MethodName) method_3_code (3 : Nat) (Option.some Jvm.ClassFile.FieldType.int)) ∈ TT := tt_2 (List.mem_of_getElem? (i := 67) rfl) rfl
theorem wd_2_68 : (Jvm.Cond.methodLink "InkBankLaw" (9 : Nat) ({ cls := "InkBankLaw", name := "cell", desc := "([II)I" } : Jvm.MethodName)) ∈ TT := tt_2 (List.mem_of_getElem? (i := 68) rfl) rfl
theorem wd_2_69 : (Jvm.Cond.static ({ cls := "InkBankLaw", name := "cell", desc := "([II)I" } : Jvm.MethodName)) ∈ TT := tt_2 (List.mem_of_getElem? (i := 69) rfl) rfl
theorem wd_2_70 : (Jvm.Cond.code ({ cls := "InkBankLaw", name := "cell", desc := "([II)I" } : Jvm.MethodName) method_2_code (3 : Nat) (Option.some Jvm.ClassFile.FieldType.int)) ∈ TT := tt_2 (List.mem_of_getElem? (i := 70) rfl) rfl
theorem wd_2_71 : (Jvm.Cond.constant "InkBankLaw" (7 : Nat) (69069 : Int32)) ∈ TT := tt_2 (List.mem_of_getElem? (i := 71) rfl) rfl
theorem wd_2_72 : (Jvm.Cond.constant "InkBankLaw" (8 : Nat) (1103515245 : Int32)) ∈ TT := tt_2 (List.mem_of_getElem? (i := 72) rfl) rfl
theorem wd_2_75 : (Jvm.Cond.code ({ cls := "InkBankLaw", name := "lay", desc := "(LInkBank;[I)V" } : Jvm.MethodName) method_9_code (5 : Nat) (Option.none : Option Jvm.ClassFile.FieldType)) ∈ TT := tt_2 (List.mem_of_getElem? (i := 75) rfl) rfl
theorem wd_2_76 : (Jvm.Cond.methodLink "InkBankLaw" (109 : Nat) ({ cls := "InkBankLaw", name := "deed", desc := "(LInkBank;IIIII)I" } : Jvm.MethodName)) ∈ TT := tt_2 (List.mem_of_getElem? (i := 76) rfl) rfl
theorem wd_2_77 : (Jvm.Cond.static ({ cls := "InkBankLaw", name := "deed", desc := "(LInkBank;IIIII)I" } : Jvm.MethodName)) ∈ TT := tt_2 (List.mem_of_getElem? (i := 77) rfl) rfl
theorem wd_2_78 : (Jvm.Cond.codeWith ({ cls := "InkBankLaw", name := "deed", desc := "(LInkBank;IIIII)I" } : Jvm.MethodName) method_6_code (7 : Nat) (Option.some Jvm.ClassFile.FieldType.int) [((0 : Nat), (11 : Nat), (12 : Nat), (49 : Nat)), ((0 : Nat), (11 : Nat), (18 : Nat), (51 : Nat)), ((0 : Nat), (11 : Nat), (24 : Nat), (53 : Nat)), ((0 : Nat), (11 : Nat), (30 : Nat), (55 : Nat)), ((0 : Nat), (11 : Nat), (36 : Nat), (57 : Nat))]) ∈ TT := tt_2 (List.mem_of_getElem? (i := 78) rfl) rfl
theorem wd_2_79 : (Jvm.Cond.classLink "InkBankLaw" (49 : Nat) "java/lang/IndexOutOfBoundsException") ∈ TT := tt_2 (List.mem_of_getElem? (i := 79) rfl) rfl
theorem wd_2_154 : (Jvm.Cond.instantiable "java/lang/String" (4 : Nat)) ∈ TT := tt_2 (List.mem_of_getElem? (i := 154) rfl) rfl
theorem wd_2_159 : (Jvm.Cond.classLink "InkBankLaw" (51 : Nat) "java/lang/IllegalArgumentException") ∈ TT := tt_2 (List.mem_of_getElem? (i := 159) rfl) rfl
theorem wd_2_160 : (Jvm.Cond.classLink "InkBankLaw" (53 : Nat) "java/lang/UnsupportedOperationException") ∈ TT := tt_2 (List.mem_of_getElem? (i := 160) rfl) rfl
theorem wd_2_161 : (Jvm.Cond.classLink "InkBankLaw" (55 : Nat) "java/lang/IllegalStateException") ∈ TT := tt_2 (List.mem_of_getElem? (i := 161) rfl) rfl
theorem wd_2_162 : (Jvm.Cond.classLink "InkBankLaw" (57 : Nat) "java/util/NoSuchElementException") ∈ TT := tt_2 (List.mem_of_getElem? (i := 162) rfl) rfl
theorem wd_2_163 : (Jvm.Cond.methodLink "InkBankLaw" (45 : Nat) ({ cls := "InkBankLaw", name := "plain", desc := "(LInkBank;IIIII)I" } : Jvm.MethodName)) ∈ TT := tt_2 (List.mem_of_getElem? (i := 163) rfl) rfl
theorem wd_2_164 : (Jvm.Cond.static ({ cls := "InkBankLaw", name := "plain", desc := "(LInkBank;IIIII)I" } : Jvm.MethodName)) ∈ TT := tt_2 (List.mem_of_getElem? (i := 164) rfl) rfl
theorem wd_2_165 : (Jvm.Cond.code ({ cls := "InkBankLaw", name := "plain", desc := "(LInkBank;IIIII)I" } : Jvm.MethodName) method_5_code (6 : Nat) (Option.some Jvm.ClassFile.FieldType.int)) ∈ TT := tt_2 (List.mem_of_getElem? (i := 165) rfl) rfl
theorem wd_2_166 : (Jvm.Cond.methodLink "InkBankLaw" (15 : Nat) ({ cls := "InkBank", name := "open", desc := "(I)I" } : Jvm.MethodName)) ∈ TT := tt_2 (List.mem_of_getElem? (i := 166) rfl) rfl
theorem wd_2_167 : (Jvm.Cond.instanceMethod ({ cls := "InkBank", name := "open", desc := "(I)I" } : Jvm.MethodName)) ∈ TT := tt_2 (List.mem_of_getElem? (i := 167) rfl) rfl
theorem wd_2_168 : (Jvm.Cond.selects "InkBank" ({ cls := "InkBank", name := "open", desc := "(I)I" } : Jvm.MethodName) ({ cls := "InkBank", name := "open", desc := "(I)I" } : Jvm.MethodName)) ∈ TT := tt_2 (List.mem_of_getElem? (i := 168) rfl) rfl
theorem wd_2_169 : (Jvm.Cond.code ({ cls := "InkBank", name := "open", desc := "(I)I" } : Jvm.MethodName) prog_1_method_2_code (2 : Nat) (Option.some Jvm.ClassFile.FieldType.int)) ∈ TT := tt_2 (List.mem_of_getElem? (i := 169) rfl) rfl
theorem wd_2_170 : (Jvm.Cond.methodLink "InkBank" (59 : Nat) ({ cls := "InkBank$Ledger", name := "openFault", desc := "(I)I" } : Jvm.MethodName)) ∈ TT := tt_2 (List.mem_of_getElem? (i := 170) rfl) rfl
theorem wd_2_171 : (Jvm.Cond.instanceMethod ({ cls := "InkBank$Ledger", name := "openFault", desc := "(I)I" } : Jvm.MethodName)) ∈ TT := tt_2 (List.mem_of_getElem? (i := 171) rfl) rfl
theorem wd_2_172 : (Jvm.Cond.selects "InkBank$Ledger" ({ cls := "InkBank$Ledger", name := "openFault", desc := "(I)I" } : Jvm.MethodName) ({ cls := "InkBank$Ledger", name := "openFault", desc := "(I)I" } : Jvm.MethodName)) ∈ TT := tt_2 (List.mem_of_getElem? (i := 172) rfl) rfl
theorem wd_2_173 : (Jvm.Cond.code ({ cls := "InkBank$Ledger", name := "openFault", desc := "(I)I" } : Jvm.MethodName) prog_5_method_3_code (2 : Nat) (Option.some Jvm.ClassFile.FieldType.int)) ∈ TT := tt_2 (List.mem_of_getElem? (i := 173) rfl) rfl
theorem wd_2_175 : (Jvm.Cond.static ({ cls := "InkBank", name := "isIn", desc := "(III)Z" } : Jvm.MethodName)) ∈ TT := tt_2 (List.mem_of_getElem? (i := 175) rfl) rfl
theorem wd_2_176 : (Jvm.Cond.code ({ cls := "InkBank", name := "isIn", desc := "(III)Z" } : Jvm.MethodName) prog_1_method_55_code (3 : Nat) (Option.some Jvm.ClassFile.FieldType.boolean)) ∈ TT := tt_2 (List.mem_of_getElem? (i := 176) rfl) rfl
theorem wd_2_177 : (Jvm.Cond.methodLink "InkBank" (63 : Nat) ({ cls := "InkBank", name := "raise", desc := "(I)V" } : Jvm.MethodName)) ∈ TT := tt_2 (List.mem_of_getElem? (i := 177) rfl) rfl
theorem wd_2_178 : (Jvm.Cond.static ({ cls := "InkBank", name := "raise", desc := "(I)V" } : Jvm.MethodName)) ∈ TT := tt_2 (List.mem_of_getElem? (i := 178) rfl) rfl
theorem wd_2_179 : (Jvm.Cond.code ({ cls := "InkBank", name := "raise", desc := "(I)V" } : Jvm.MethodName) prog_1_method_50_code (1 : Nat) (Option.none : Option Jvm.ClassFile.FieldType)) ∈ TT := tt_2 (List.mem_of_getElem? (i := 179) rfl) rfl
theorem wd_3_21 : (Jvm.Cond.methodLink "InkBank" (67 : Nat) ({ cls := "InkBank$History", name := "remember", desc := "(LInkBank$Ledger;)V" } : Jvm.MethodName)) ∈ TT := tt_3 (List.mem_of_getElem? (i := 21) rfl) rfl
theorem wd_3_22 : (Jvm.Cond.instanceMethod ({ cls := "InkBank$History", name := "remember", desc := "(LInkBank$Ledger;)V" } : Jvm.MethodName)) ∈ TT := tt_3 (List.mem_of_getElem? (i := 22) rfl) rfl
theorem wd_3_23 : (Jvm.Cond.selects "InkBank$History" ({ cls := "InkBank$History", name := "remember", desc := "(LInkBank$Ledger;)V" } : Jvm.MethodName) ({ cls := "InkBank$History", name := "remember", desc := "(LInkBank$Ledger;)V" } : Jvm.MethodName)) ∈ TT := tt_3 (List.mem_of_getElem? (i := 23) rfl) rfl
theorem wd_3_24 : (Jvm.Cond.code ({ cls := "InkBank$History", name := "remember", desc := "(LInkBank$Ledger;)V" } : Jvm.MethodName) prog_3_method_2_code (2 : Nat) (Option.none : Option Jvm.ClassFile.FieldType)) ∈ TT := tt_3 (List.mem_of_getElem? (i := 24) rfl) rfl
theorem wd_3_25 : (Jvm.Cond.methodLink "InkBank$History" (22 : Nat) ({ cls := "java/lang/Math", name := "floorMod", desc := "(II)I" } : Jvm.MethodName)) ∈ TT := tt_3 (List.mem_of_getElem? (i := 25) rfl) rfl
theorem wd_3_26 : (Jvm.Cond.static ({ cls := "java/lang/Math", name := "floorMod", desc := "(II)I" } : Jvm.MethodName)) ∈ TT := tt_3 (List.mem_of_getElem? (i := 26) rfl) rfl
theorem wd_3_27 : (Jvm.Cond.code ({ cls := "java/lang/Math", name := "floorMod", desc := "(II)I" } : Jvm.MethodName) prog_24_method_50_code (3 : Nat) (Option.some Jvm.ClassFile.FieldType.int)) ∈ TT := tt_3 (List.mem_of_getElem? (i := 27) rfl) rfl
theorem wd_3_28 : (Jvm.Cond.methodLink "InkBank$History" (28 : Nat) ({ cls := "InkBank$Ledger", name := "copyFrom", desc := "(LInkBank$Ledger;)V" } : Jvm.MethodName)) ∈ TT := tt_3 (List.mem_of_getElem? (i := 28) rfl) rfl
theorem wd_3_29 : (Jvm.Cond.instanceMethod ({ cls := "InkBank$Ledger", name := "copyFrom", desc := "(LInkBank$Ledger;)V" } : Jvm.MethodName)) ∈ TT := tt_3 (List.mem_of_getElem? (i := 29) rfl) rfl
theorem wd_3_30 : (Jvm.Cond.selects "InkBank$Ledger" ({ cls := "InkBank$Ledger", name := "copyFrom", desc := "(LInkBank$Ledger;)V" } : Jvm.MethodName) ({ cls := "InkBank$Ledger", name := "copyFrom", desc := "(LInkBank$Ledger;)V" } : Jvm.MethodName)) ∈ TT := tt_3 (List.mem_of_getElem? (i := 30) rfl) rfl
theorem wd_3_31 : (Jvm.Cond.code ({ cls := "InkBank$Ledger", name := "copyFrom", desc := "(LInkBank$Ledger;)V" } : Jvm.MethodName) prog_5_method_2_code (2 : Nat) (Option.none : Option Jvm.ClassFile.FieldType)) ∈ TT := tt_3 (List.mem_of_getElem? (i := 31) rfl) rfl
theorem wd_3_32 : (Jvm.Cond.methodLink "InkBank$Ledger" (32 : Nat) ({ cls := "InkBank$Accounts", name := "copyFrom", desc := "(LInkBank$Accounts;)V" } : Jvm.MethodName)) ∈ TT := tt_3 (List.mem_of_getElem? (i := 32) rfl) rfl
theorem wd_3_33 : (Jvm.Cond.instanceMethod ({ cls := "InkBank$Accounts", name := "copyFrom", desc := "(LInkBank$Accounts;)V" } : Jvm.MethodName)) ∈ TT := tt_3 (List.mem_of_getElem? (i := 33) rfl) rfl
theorem wd_3_34 : (Jvm.Cond.selects "InkBank$Accounts" ({ cls := "InkBank$Accounts", name := "copyFrom", desc := "(LInkBank$Accounts;)V" } : Jvm.MethodName) ({ cls := "InkBank$Accounts", name := "copyFrom", desc := "(LInkBank$Accounts;)V" } : Jvm.MethodName)) ∈ TT := tt_3 (List.mem_of_getElem? (i := 34) rfl) rfl
theorem wd_3_35 : (Jvm.Cond.code ({ cls := "InkBank$Accounts", name := "copyFrom", desc := "(LInkBank$Accounts;)V" } : Jvm.MethodName) prog_2_method_2_code (3 : Nat) (Option.none : Option Jvm.ClassFile.FieldType)) ∈ TT := tt_3 (List.mem_of_getElem? (i := 35) rfl) rfl
theorem wd_3_36 : (Jvm.Cond.methodLink "InkBank$Ledger" (36 : Nat) ({ cls := "InkBank$Transfers", name := "copyFrom", desc := "(LInkBank$Transfers;)V" } : Jvm.MethodName)) ∈ TT := tt_3 (List.mem_of_getElem? (i := 36) rfl) rfl
theorem wd_3_37 : (Jvm.Cond.instanceMethod ({ cls := "InkBank$Transfers", name := "copyFrom", desc := "(LInkBank$Transfers;)V" } : Jvm.MethodName)) ∈ TT := tt_3 (List.mem_of_getElem? (i := 37) rfl) rfl
theorem wd_3_38 : (Jvm.Cond.selects "InkBank$Transfers" ({ cls := "InkBank$Transfers", name := "copyFrom", desc := "(LInkBank$Transfers;)V" } : Jvm.MethodName) ({ cls := "InkBank$Transfers", name := "copyFrom", desc := "(LInkBank$Transfers;)V" } : Jvm.MethodName)) ∈ TT := tt_3 (List.mem_of_getElem? (i := 38) rfl) rfl
theorem wd_3_39 : (Jvm.Cond.code ({ cls := "InkBank$Transfers", name := "copyFrom", desc := "(LInkBank$Transfers;)V" } : Jvm.MethodName) prog_7_method_2_code (3 : Nat) (Option.none : Option Jvm.ClassFile.FieldType)) ∈ TT := tt_3 (List.mem_of_getElem? (i := 39) rfl) rfl
theorem wd_3_40 : (Jvm.Cond.methodLink "InkBank$Transfers" (34 : Nat) ({ cls := "InkBank$Transfers", name := "copySlot", desc := "(LInkBank$Transfers;II)V" } : Jvm.MethodName)) ∈ TT := tt_3 (List.mem_of_getElem? (i := 40) rfl) rfl
theorem wd_3_41 : (Jvm.Cond.instanceMethod ({ cls := "InkBank$Transfers", name := "copySlot", desc := "(LInkBank$Transfers;II)V" } : Jvm.MethodName)) ∈ TT := tt_3 (List.mem_of_getElem? (i := 41) rfl) rfl
theorem wd_3_42 : (Jvm.Cond.selects "InkBank$Transfers" ({ cls := "InkBank$Transfers", name := "copySlot", desc := "(LInkBank$Transfers;II)V" } : Jvm.MethodName) ({ cls := "InkBank$Transfers", name := "copySlot", desc := "(LInkBank$Transfers;II)V" } : Jvm.MethodName)) ∈ TT := tt_3 (List.mem_of_getElem? (i := 42) rfl) rfl
theorem wd_3_43 : (Jvm.Cond.code ({ cls := "InkBank$Transfers", name := "copySlot", desc := "(LInkBank$Transfers;II)V" } : Jvm.MethodName) prog_7_method_3_code (4 : Nat) (Option.none : Option Jvm.ClassFile.FieldType)) ∈ TT := tt_3 (List.mem_of_getElem? (i := 43) rfl) rfl
theorem wd_3_44 : (Jvm.Cond.methodLink "InkBank$Ledger" (39 : Nat) ({ cls := "InkBank$Journal", name := "copyFrom", desc := "(LInkBank$Journal;)V" } : Jvm.MethodName)) ∈ TT := tt_3 (List.mem_of_getElem? (i := 44) rfl) rfl
theorem wd_3_45 : (Jvm.Cond.instanceMethod ({ cls := "InkBank$Journal", name := "copyFrom", desc := "(LInkBank$Journal;)V" } : Jvm.MethodName)) ∈ TT := tt_3 (List.mem_of_getElem? (i := 45) rfl) rfl
theorem wd_3_46 : (Jvm.Cond.selects "InkBank$Journal" ({ cls := "InkBank$Journal", name := "copyFrom", desc := "(LInkBank$Journal;)V" } : Jvm.MethodName) ({ cls := "InkBank$Journal", name := "copyFrom", desc := "(LInkBank$Journal;)V" } : Jvm.MethodName)) ∈ TT := tt_3 (List.mem_of_getElem? (i := 46) rfl) rfl
theorem wd_3_47 : (Jvm.Cond.code ({ cls := "InkBank$Journal", name := "copyFrom", desc := "(LInkBank$Journal;)V" } : Jvm.MethodName) prog_4_method_2_code (3 : Nat) (Option.none : Option Jvm.ClassFile.FieldType)) ∈ TT := tt_3 (List.mem_of_getElem? (i := 47) rfl) rfl
theorem wd_3_48 : (Jvm.Cond.methodLink "InkBank$History" (35 : Nat) ({ cls := "java/lang/Math", name := "min", desc := "(II)I" } : Jvm.MethodName)) ∈ TT := tt_3 (List.mem_of_getElem? (i := 48) rfl) rfl
theorem wd_3_49 : (Jvm.Cond.static ({ cls := "java/lang/Math", name := "min", desc := "(II)I" } : Jvm.MethodName)) ∈ TT := tt_3 (List.mem_of_getElem? (i := 49) rfl) rfl
theorem wd_3_50 : (Jvm.Cond.code ({ cls := "java/lang/Math", name := "min", desc := "(II)I" } : Jvm.MethodName) prog_24_method_69_code (2 : Nat) (Option.some Jvm.ClassFile.FieldType.int)) ∈ TT := tt_3 (List.mem_of_getElem? (i := 50) rfl) rfl
theorem wd_3_51 : (Jvm.Cond.methodLink "InkBank" (75 : Nat) ({ cls := "InkBank$Accounts", name := "add", desc := "(I)I" } : Jvm.MethodName)) ∈ TT := tt_3 (List.mem_of_getElem? (i := 51) rfl) rfl
theorem wd_3_52 : (Jvm.Cond.instanceMethod ({ cls := "InkBank$Accounts", name := "add", desc := "(I)I" } : Jvm.MethodName)) ∈ TT := tt_3 (List.mem_of_getElem? (i := 52) rfl) rfl
theorem wd_3_53 : (Jvm.Cond.selects "InkBank$Accounts" ({ cls := "InkBank$Accounts", name := "add", desc := "(I)I" } : Jvm.MethodName) ({ cls := "InkBank$Accounts", name := "add", desc := "(I)I" } : Jvm.MethodName)) ∈ TT := tt_3 (List.mem_of_getElem? (i := 53) rfl) rfl
theorem wd_3_54 : (Jvm.Cond.code ({ cls := "InkBank$Accounts", name := "add", desc := "(I)I" } : Jvm.MethodName) prog_2_method_4_code (3 : Nat) (Option.some Jvm.ClassFile.FieldType.int)) ∈ TT := tt_3 (List.mem_of_getElem? (i := 54) rfl) rfl
theorem wd_3_55 : (Jvm.Cond.methodLink "InkBankLaw" (21 : Nat) ({ cls := "InkBank", name := "deposit", desc := "(II)I" } : Jvm.MethodName)) ∈ TT := tt_3 (List.mem_of_getElem? (i := 55) rfl) rfl
theorem wd_3_56 : (Jvm.Cond.instanceMethod ({ cls := "InkBank", name := "deposit", desc := "(II)I" } : Jvm.MethodName)) ∈ TT := tt_3 (List.mem_of_getElem? (i := 56) rfl) rfl
theorem wd_3_57 : (Jvm.Cond.selects "InkBank" ({ cls := "InkBank", name := "deposit", desc := "(II)I" } : Jvm.MethodName) ({ cls := "InkBank", name := "deposit", desc := "(II)I" } : Jvm.MethodName)) ∈ TT := tt_3 (List.mem_of_getElem? (i := 57) rfl) rfl
theorem wd_3_58 : (Jvm.Cond.code ({ cls := "InkBank", name := "deposit", desc := "(II)I" } : Jvm.MethodName) prog_1_method_3_code (3 : Nat) (Option.some Jvm.ClassFile.FieldType.int)) ∈ TT := tt_3 (List.mem_of_getElem? (i := 58) rfl) rfl
theorem wd_3_59 : (Jvm.Cond.methodLink "InkBank" (80 : Nat) ({ cls := "InkBank$Ledger", name := "payInFault", desc := "(II)I" } : Jvm.MethodName)) ∈ TT := tt_3 (List.mem_of_getElem? (i := 59) rfl) rfl
theorem wd_3_60 : (Jvm.Cond.instanceMethod ({ cls := "InkBank$Ledger", name := "payInFault", desc := "(II)I" } : Jvm.MethodName)) ∈ TT := tt_3 (List.mem_of_getElem? (i := 60) rfl) rfl
theorem wd_3_61 : (Jvm.Cond.selects "InkBank$Ledger" ({ cls := "InkBank$Ledger", name := "payInFault", desc := "(II)I" } : Jvm.MethodName) ({ cls := "InkBank$Ledger", name := "payInFault", desc := "(II)I" } : Jvm.MethodName)) ∈ TT := tt_3 (List.mem_of_getElem? (i := 61) rfl) rfl
theorem wd_3_62 : (Jvm.Cond.code ({ cls := "InkBank$Ledger", name := "payInFault", desc := "(II)I" } : Jvm.MethodName) prog_5_method_4_code (4 : Nat) (Option.some Jvm.ClassFile.FieldType.int)) ∈ TT := tt_3 (List.mem_of_getElem? (i := 62) rfl) rfl
theorem wd_3_63 : (Jvm.Cond.methodLink "InkBank$Ledger" (75 : Nat) ({ cls := "InkBank$Ledger", name := "argumentFault", desc := "(IIII)I" } : Jvm.MethodName)) ∈ TT := tt_3 (List.mem_of_getElem? (i := 63) rfl) rfl
theorem wd_3_65 : (Jvm.Cond.instanceMethod ({ cls := "InkBank$Ledger", name := "argumentFault", desc := "(IIII)I" } : Jvm.MethodName)) ∈ TT := tt_3 (List.mem_of_getElem? (i := 65) rfl) rfl
theorem wd_3_66 : (Jvm.Cond.code ({ cls := "InkBank$Ledger", name := "argumentFault", desc := "(IIII)I" } : Jvm.MethodName) prog_5_method_5_code (5 : Nat) (Option.some Jvm.ClassFile.FieldType.int)) ∈ TT := tt_3 (List.mem_of_getElem? (i := 66) rfl) rfl
theorem wd_3_67 : (Jvm.Cond.methodLink "InkBank$Ledger" (83 : Nat) ({ cls := "InkBank$Accounts", name := "has", desc := "(I)Z" } : Jvm.MethodName)) ∈ TT := tt_3 (List.mem_of_getElem? (i := 67) rfl) rfl
theorem wd_3_68 : (Jvm.Cond.instanceMethod ({ cls := "InkBank$Accounts", name := "has", desc := "(I)Z" } : Jvm.MethodName)) ∈ TT := tt_3 (List.mem_of_getElem? (i := 68) rfl) rfl
theorem wd_3_69 : (Jvm.Cond.selects "InkBank$Accounts" ({ cls := "InkBank$Accounts", name := "has", desc := "(I)Z" } : Jvm.MethodName) ({ cls := "InkBank$Accounts", name := "has", desc := "(I)Z" } : Jvm.MethodName)) ∈ TT := tt_3 (List.mem_of_getElem? (i := 69) rfl) rfl
theorem wd_3_70 : (Jvm.Cond.code ({ cls := "InkBank$Accounts", name := "has", desc := "(I)Z" } : Jvm.MethodName) prog_2_method_3_code (2 : Nat) (Option.some Jvm.ClassFile.FieldType.boolean)) ∈ TT := tt_3 (List.mem_of_getElem? (i := 70) rfl) rfl
theorem wd_3_71 : (Jvm.Cond.methodLink "InkBank" (84 : Nat) ({ cls := "InkBank$Ledger", name := "payIn", desc := "(II)I" } : Jvm.MethodName)) ∈ TT := tt_3 (List.mem_of_getElem? (i := 71) rfl) rfl
theorem wd_3_72 : (Jvm.Cond.instanceMethod ({ cls := "InkBank$Ledger", name := "payIn", desc := "(II)I" } : Jvm.MethodName)) ∈ TT := tt_3 (List.mem_of_getElem? (i := 72) rfl) rfl
theorem wd_3_73 : (Jvm.Cond.selects "InkBank$Ledger" ({ cls := "InkBank$Ledger", name := "payIn", desc := "(II)I" } : Jvm.MethodName) ({ cls := "InkBank$Ledger", name := "payIn", desc := "(II)I" } : Jvm.MethodName)) ∈ TT := tt_3 (List.mem_of_getElem? (i := 73) rfl) rfl
theorem wd_3_74 : (Jvm.Cond.code ({ cls := "InkBank$Ledger", name := "payIn", desc := "(II)I" } : Jvm.MethodName) prog_5_method_6_code (3 : Nat) (Option.some Jvm.ClassFile.FieldType.int)) ∈ TT := tt_3 (List.mem_of_getElem? (i := 74) rfl) rfl
theorem wd_3_75 : (Jvm.Cond.methodLink "InkBank$Ledger" (87 : Nat) ({ cls := "InkBank$Journal", name := "add", desc := "(CII)V" } : Jvm.MethodName)) ∈ TT := tt_3 (List.mem_of_getElem? (i := 75) rfl) rfl
theorem wd_3_76 : (Jvm.Cond.instanceMethod ({ cls := "InkBank$Journal", name := "add", desc := "(CII)V" } : Jvm.MethodName)) ∈ TT := tt_3 (List.mem_of_getElem? (i := 76) rfl) rfl
theorem wd_3_77 : (Jvm.Cond.selects "InkBank$Journal" ({ cls := "InkBank$Journal", name := "add", desc := "(CII)V" } : Jvm.MethodName) ({ cls := "InkBank$Journal", name := "add", desc := "(CII)V" } : Jvm.MethodName)) ∈ TT := tt_3 (List.mem_of_getElem? (i := 77) rfl) rfl
theorem wd_3_78 : (Jvm.Cond.code ({ cls := "InkBank$Journal", name := "add", desc := "(CII)V" } : Jvm.MethodName) prog_4_method_4_code (4 : Nat) (Option.none : Option Jvm.ClassFile.FieldType)) ∈ TT := tt_3 (List.mem_of_getElem? (i := 78) rfl) rfl
theorem wd_3_79 : (Jvm.Cond.methodLink "InkBank$Journal" (29 : Nat) ({ cls := "java/lang/Math", name := "floorMod", desc := "(II)I" } : Jvm.MethodName)) ∈ TT := tt_3 (List.mem_of_getElem? (i := 79) rfl) rfl
theorem wd_3_80 : (Jvm.Cond.methodLink "InkBank$Journal" (35 : Nat) ({ cls := "java/lang/Math", name := "min", desc := "(II)I" } : Jvm.MethodName)) ∈ TT := tt_3 (List.mem_of_getElem? (i := 80) rfl) rfl
theorem wd_3_81 : (Jvm.Cond.methodLink "InkBankLaw" (25 : Nat) ({ cls := "InkBank", name := "withdraw", desc := "(II)I" } : Jvm.MethodName)) ∈ TT := tt_3 (List.mem_of_getElem? (i := 81) rfl) rfl
theorem wd_3_82 : (Jvm.Cond.instanceMethod ({ cls := "InkBank", name := "withdraw", desc := "(II)I" } : Jvm.MethodName)) ∈ TT := tt_3 (List.mem_of_getElem? (i := 82) rfl) rfl
theorem wd_3_83 : (Jvm.Cond.selects "InkBank" ({ cls := "InkBank", name := "withdraw", desc := "(II)I" } : Jvm.MethodName) ({ cls := "InkBank", name := "withdraw", desc := "(II)I" } : Jvm.MethodName)) ∈ TT := tt_3 (List.mem_of_getElem? (i := 83) rfl) rfl
theorem wd_3_84 : (Jvm.Cond.code ({ cls := "InkBank", name := "withdraw", desc := "(II)I" } : Jvm.MethodName) prog_1_method_4_code (3 : Nat) (Option.some Jvm.ClassFile.FieldType.int)) ∈ TT := tt_3 (List.mem_of_getElem? (i := 84) rfl) rfl
theorem wd_3_85 : (Jvm.Cond.methodLink "InkBank" (87 : Nat) ({ cls := "InkBank$Ledger", name := "payOutFault", desc := "(II)I" } : Jvm.MethodName)) ∈ TT := tt_3 (List.mem_of_getElem? (i := 85) rfl) rfl
theorem wd_3_86 : (Jvm.Cond.instanceMethod ({ cls := "InkBank$Ledger", name := "payOutFault", desc := "(II)I" } : Jvm.MethodName)) ∈ TT := tt_3 (List.mem_of_getElem? (i := 86) rfl) rfl
theorem wd_3_87 : (Jvm.Cond.selects "InkBank$Ledger" ({ cls := "InkBank$Ledger", name := "payOutFault", desc := "(II)I" } : Jvm.MethodName) ({ cls := "InkBank$Ledger", name := "payOutFault", desc := "(II)I" } : Jvm.MethodName)) ∈ TT := tt_3 (List.mem_of_getElem? (i := 87) rfl) rfl
theorem wd_3_88 : (Jvm.Cond.code ({ cls := "InkBank$Ledger", name := "payOutFault", desc := "(II)I" } : Jvm.MethodName) prog_5_method_7_code (4 : Nat) (Option.some Jvm.ClassFile.FieldType.int)) ∈ TT := tt_3 (List.mem_of_getElem? (i := 88) rfl) rfl
theorem wd_3_89 : (Jvm.Cond.methodLink "InkBank$Ledger" (91 : Nat) ({ cls := "InkBank$Accounts", name := "available", desc := "(I)I" } : Jvm.MethodName)) ∈ TT := tt_3 (List.mem_of_getElem? (i := 89) rfl) rfl
theorem wd_3_90 : (Jvm.Cond.instanceMethod ({ cls := "InkBank$Accounts", name := "available", desc := "(I)I" } : Jvm.MethodName)) ∈ TT := tt_3 (List.mem_of_getElem? (i := 90) rfl) rfl
theorem wd_3_91 : (Jvm.Cond.selects "InkBank$Accounts" ({ cls := "InkBank$Accounts", name := "available", desc := "(I)I" } : Jvm.MethodName) ({ cls := "InkBank$Accounts", name := "available", desc := "(I)I" } : Jvm.MethodName)) ∈ TT := tt_3 (List.mem_of_getElem? (i := 91) rfl) rfl
theorem wd_3_92 : (Jvm.Cond.code ({ cls := "InkBank$Accounts", name := "available", desc := "(I)I" } : Jvm.MethodName) prog_2_method_6_code (2 : Nat) (Option.some Jvm.ClassFile.FieldType.int)) ∈ TT := tt_3 (List.mem_of_getElem? (i := 92) rfl) rfl
theorem wd_3_93 : (Jvm.Cond.methodLink "InkBank" (90 : Nat) ({ cls := "InkBank$Ledger", name := "payOut", desc := "(II)I" } : Jvm.MethodName)) ∈ TT := tt_3 (List.mem_of_getElem? (i := 93) rfl) rfl
theorem wd_3_94 : (Jvm.Cond.instanceMethod ({ cls := "InkBank$Ledger", name := "payOut", desc := "(II)I" } : Jvm.MethodName)) ∈ TT := tt_3 (List.mem_of_getElem? (i := 94) rfl) rfl
theorem wd_3_95 : (Jvm.Cond.selects "InkBank$Ledger" ({ cls := "InkBank$Ledger", name := "payOut", desc := "(II)I" } : Jvm.MethodName) ({ cls := "InkBank$Ledger", name := "payOut", desc := "(II)I" } : Jvm.MethodName)) ∈ TT := tt_3 (List.mem_of_getElem? (i := 95) rfl) rfl
theorem wd_3_96 : (Jvm.Cond.code ({ cls := "InkBank$Ledger", name := "payOut", desc := "(II)I" } : Jvm.MethodName) prog_5_method_8_code (3 : Nat) (Option.some Jvm.ClassFile.FieldType.int)) ∈ TT := tt_3 (List.mem_of_getElem? (i := 96) rfl) rfl
theorem wd_3_97 : (Jvm.Cond.methodLink "InkBankLaw" (28 : Nat) ({ cls := "InkBank", name := "setLimit", desc := "(II)I" } : Jvm.MethodName)) ∈ TT := tt_3 (List.mem_of_getElem? (i := 97) rfl) rfl
theorem wd_3_98 : (Jvm.Cond.instanceMethod ({ cls := "InkBank", name := "setLimit", desc := "(II)I" } : Jvm.MethodName)) ∈ TT := tt_3 (List.mem_of_getElem? (i := 98) rfl) rfl
theorem wd_3_99 : (Jvm.Cond.selects "InkBank" ({ cls := "InkBank", name := "setLimit", desc := "(II)I" } : Jvm.MethodName) ({ cls := "InkBank", name := "setLimit", desc := "(II)I" } : Jvm.MethodName)) ∈ TT := tt_3 (List.mem_of_getElem? (i := 99) rfl) rfl
theorem wd_3_100 : (Jvm.Cond.code ({ cls := "InkBank", name := "setLimit", desc := "(II)I" } : Jvm.MethodName) prog_1_method_5_code (3 : Nat) (Option.some Jvm.ClassFile.FieldType.int)) ∈ TT := tt_3 (List.mem_of_getElem? (i := 100) rfl) rfl
theorem wd_3_101 : (Jvm.Cond.methodLink "InkBank" (93 : Nat) ({ cls := "InkBank$Ledger", name := "limitFault", desc := "(II)I" } : Jvm.MethodName)) ∈ TT := tt_3 (List.mem_of_getElem? (i := 101) rfl) rfl
theorem wd_3_102 : (Jvm.Cond.instanceMethod ({ cls := "InkBank$Ledger", name := "limitFault", desc := "(II)I" } : Jvm.MethodName)) ∈ TT := tt_3 (List.mem_of_getElem? (i := 102) rfl) rfl
theorem wd_3_103 : (Jvm.Cond.selects "InkBank$Ledger" ({ cls := "InkBank$Ledger", name := "limitFault", desc := "(II)I" } : Jvm.MethodName) ({ cls := "InkBank$Ledger", name := "limitFault", desc := "(II)I" } : Jvm.MethodName)) ∈ TT := tt_3 (List.mem_of_getElem? (i := 103) rfl) rfl
theorem wd_3_104 : (Jvm.Cond.code ({ cls := "InkBank$Ledger", name := "limitFault", desc := "(II)I" } : Jvm.MethodName) prog_5_method_9_code (5 : Nat) (Option.some Jvm.ClassFile.FieldType.int)) ∈ TT := tt_3 (List.mem_of_getElem? (i := 104) rfl) rfl
theorem wd_3_105 : (Jvm.Cond.methodLink "InkBank" (96 : Nat) ({ cls := "InkBank$Accounts", name := "changeLimit", desc := "(II)I" } : Jvm.MethodName)) ∈ TT := tt_3 (List.mem_of_getElem? (i := 105) rfl) rfl
theorem wd_3_106 : (Jvm.Cond.instanceMethod ({ cls := "InkBank$Accounts", name := "changeLimit", desc := "(II)I" } : Jvm.MethodName)) ∈ TT := tt_3 (List.mem_of_getElem? (i := 106) rfl) rfl
theorem wd_3_107 : (Jvm.Cond.selects "InkBank$Accounts" ({ cls := "InkBank$Accounts", name := "changeLimit", desc := "(II)I" } : Jvm.MethodName) ({ cls := "InkBank$Accounts", name := "changeLimit", desc := "(II)I" } : Jvm.MethodName)) ∈ TT := tt_3 (List.mem_of_getElem? (i := 107) rfl) rfl
theorem wd_3_108 : (Jvm.Cond.code ({ cls := "InkBank$Accounts", name := "changeLimit", desc := "(II)I" } : Jvm.MethodName) prog_2_method_5_code (4 : Nat) (Option.some Jvm.ClassFile.FieldType.int)) ∈ TT := tt_3 (List.mem_of_getElem? (i := 108) rfl) rfl
theorem wd_3_109 : (Jvm.Cond.methodLink "InkBankLaw" (31 : Nat) ({ cls := "InkBank", name := "seal", desc := "(IIII)I" } : Jvm.MethodName)) ∈ TT := tt_3 (List.mem_of_getElem? (i := 109) rfl) rfl
theorem wd_3_110 : (Jvm.Cond.instanceMethod ({ cls := "InkBank", name := "seal", desc := "(IIII)I" } : Jvm.MethodName)) ∈ TT := tt_3 (List.mem_of_getElem? (i := 110) rfl) rfl
theorem wd_3_111 : (Jvm.Cond.selects "InkBank" ({ cls := "InkBank", name := "seal", desc := "(IIII)I" } : Jvm.MethodName) ({ cls := "InkBank", name := "seal", desc := "(IIII)I" } : Jvm.MethodName)) ∈ TT := tt_3 (List.mem_of_getElem? (i := 111) rfl) rfl
theorem wd_3_112 : (Jvm.Cond.code ({ cls := "InkBank", name := "seal", desc := "(IIII)I" } : Jvm.MethodName) prog_1_method_24_code (5 : Nat) (Option.some Jvm.ClassFile.FieldType.int)) ∈ TT := tt_3 (List.mem_of_getElem? (i := 112) rfl) rfl
theorem wd_3_113 : (Jvm.Cond.methodLink "InkBank" (175 : Nat) ({ cls := "InkBank$Ledger", name := "sealFault", desc := "(IIII)I" } : Jvm.MethodName)) ∈ TT := tt_3 (List.mem_of_getElem? (i := 113) rfl) rfl
theorem wd_3_114 : (Jvm.Cond.instanceMethod ({ cls := "InkBank$Ledger", name := "sealFault", desc := "(IIII)I" } : Jvm.MethodName)) ∈ TT := tt_3 (List.mem_of_getElem? (i := 114) rfl) rfl
theorem wd_3_115 : (Jvm.Cond.selects "InkBank$Ledger" ({ cls := "InkBank$Ledger", name := "sealFault", desc := "(IIII)I" } : Jvm.MethodName) ({ cls := "InkBank$Ledger", name := "sealFault", desc := "(IIII)I" } : Jvm.MethodName)) ∈ TT := tt_3 (List.mem_of_getElem? (i := 115) rfl) rfl
theorem wd_3_116 : (Jvm.Cond.code ({ cls := "InkBank$Ledger", name := "sealFault", desc := "(IIII)I" } : Jvm.MethodName) prog_5_method_10_code (5 : Nat) (Option.some Jvm.ClassFile.FieldType.int)) ∈ TT := tt_3 (List.mem_of_getElem? (i := 116) rfl) rfl
theorem wd_3_117 : (Jvm.Cond.methodLink "InkBank" (183 : Nat) ({ cls := "InkBank$Transfers", name := "add", desc := "(IIII)I" } : Jvm.MethodName)) ∈ TT := tt_3 (List.mem_of_getElem? (i := 117) rfl) rfl
theorem wd_3_118 : (Jvm.Cond.instanceMethod ({ cls := "InkBank$Transfers", name := "add", desc := "(IIII)I" } : Jvm.MethodName)) ∈ TT := tt_3 (List.mem_of_getElem? (i := 118) rfl) rfl
theorem wd_3_119 : (Jvm.Cond.selects "InkBank$Transfers" ({ cls := "InkBank$Transfers", name := "add", desc := "(IIII)I" } : Jvm.MethodName) ({ cls := "InkBank$Transfers", name := "add", desc := "(IIII)I" } : Jvm.MethodName)) ∈ TT := tt_3 (List.mem_of_getElem? (i := 119) rfl) rfl
theorem wd_3_120 : (Jvm.Cond.code ({ cls := "InkBank$Transfers", name := "add", desc := "(IIII)I" } : Jvm.MethodName) prog_7_method_5_code (6 : Nat) (Option.some Jvm.ClassFile.FieldType.int)) ∈ TT := tt_3 (List.mem_of_getElem? (i := 120) rfl) rfl
theorem wd_3_121 : (Jvm.Cond.methodLink "InkBankLaw" (35 : Nat) ({ cls := "InkBank", name := "cancel", desc := "(I)I" } : Jvm.MethodName)) ∈ TT := tt_3 (List.mem_of_getElem? (i := 121) rfl) rfl
theorem wd_3_122 : (Jvm.Cond.instanceMethod ({ cls := "InkBank", name := "cancel", desc := "(I)I" } : Jvm.MethodName)) ∈ TT := tt_3 (List.mem_of_getElem? (i := 122) rfl) rfl
theorem wd_3_123 : (Jvm.Cond.selects "InkBank" ({ cls := "InkBank", name := "cancel", desc := "(I)I" } : Jvm.MethodName) ({ cls := "InkBank", name := "cancel", desc := "(I)I" } : Jvm.MethodName)) ∈ TT := tt_3 (List.mem_of_getElem? (i := 123) rfl) rfl
theorem wd_3_124 : (Jvm.Cond.code ({ cls := "InkBank", name := "cancel", desc := "(I)I" } : Jvm.MethodName) prog_1_method_25_code (2 : Nat) (Option.some Jvm.ClassFile.FieldType.int)) ∈ TT := tt_3 (List.mem_of_getElem? (i := 124) rfl) rfl
theorem wd_3_125 : (Jvm.Cond.methodLink "InkBank" (187 : Nat) ({ cls := "InkBank$Ledger", name := "cancelFault", desc := "(I)I" } : Jvm.MethodName)) ∈ TT := tt_3 (List.mem_of_getElem? (i := 125) rfl) rfl
theorem wd_3_126 : (Jvm.Cond.instanceMethod ({ cls := "InkBank$Ledger", name := "cancelFault", desc := "(I)I" } : Jvm.MethodName)) ∈ TT := tt_3 (List.mem_of_getElem? (i := 126) rfl) rfl
theorem wd_3_127 : (Jvm.Cond.selects "InkBank$Ledger" ({ cls := "InkBank$Ledger", name := "cancelFault", desc := "(I)I" } : Jvm.MethodName) ({ cls := "InkBank$Ledger", name := "cancelFault", desc := "(I)I" } : Jvm.MethodName)) ∈ TT := tt_3 (List.mem_of_getElem? (i := 127) rfl) rfl
theorem wd_3_128 : (Jvm.Cond.code ({ cls := "InkBank$Ledger", name := "cancelFault", desc := "(I)I" } : Jvm.MethodName) prog_5_method_11_code (2 : Nat) (Option.some Jvm.ClassFile.FieldType.int)) ∈ TT := tt_3 (List.mem_of_getElem? (i := 128) rfl) rfl
theorem wd_3_129 : (Jvm.Cond.methodLink "InkBank$Ledger" (103 : Nat) ({ cls := "InkBank$Transfers", name := "find", desc := "(I)I" } : Jvm.MethodName)) ∈ TT := tt_3 (List.mem_of_getElem? (i := 129) rfl) rfl
theorem wd_3_130 : (Jvm.Cond.instanceMethod ({ cls := "InkBank$Transfers", name := "find", desc := "(I)I" } : Jvm.MethodName)) ∈ TT := tt_3 (List.mem_of_getElem? (i := 130) rfl) rfl
theorem wd_3_131 : (Jvm.Cond.selects "InkBank$Transfers" ({ cls := "InkBank$Transfers", name := "find", desc := "(I)I" } : Jvm.MethodName) ({ cls := "InkBank$Transfers", name := "find", desc := "(I)I" } : Jvm.MethodName)) ∈ TT := tt_3 (List.mem_of_getElem? (i := 131) rfl) rfl
theorem wd_3_132 : (Jvm.Cond.code ({ cls := "InkBank$Transfers", name := "find", desc := "(I)I" } : Jvm.MethodName) prog_7_method_4_code (3 : Nat) (Option.some Jvm.ClassFile.FieldType.int)) ∈ TT := tt_3 (List.mem_of_getElem? (i := 132) rfl) rfl
theorem wd_3_133 : (Jvm.Cond.methodLink "InkBank" (190 : Nat) ({ cls := "InkBank$Transfers", name := "remove", desc := "(I)I" } : Jvm.MethodName)) ∈ TT := tt_3 (List.mem_of_getElem? (i := 133) rfl) rfl
theorem wd_3_134 : (Jvm.Cond.instanceMethod ({ cls := "InkBank$Transfers", name := "remove", desc := "(I)I" } : Jvm.MethodName)) ∈ TT := tt_3 (List.mem_of_getElem? (i := 134) rfl) rfl
theorem wd_3_135 : (Jvm.Cond.selects "InkBank$Transfers" ({ cls := "InkBank$Transfers", name := "remove", desc := "(I)I" } : Jvm.MethodName) ({ cls := "InkBank$Transfers", name := "remove", desc := "(I)I" } : Jvm.MethodName)) ∈ TT := tt_3 (List.mem_of_getElem? (i := 135) rfl) rfl
theorem wd_3_136 : (Jvm.Cond.code ({ cls := "InkBank$Transfers", name := "remove", desc := "(I)I" } : Jvm.MethodName) prog_7_method_6_code (5 : Nat) (Option.some Jvm.ClassFile.FieldType.int)) ∈ TT := tt_3 (List.mem_of_getElem? (i := 136) rfl) rfl
theorem wd_3_137 : (Jvm.Cond.methodLink "InkBankLaw" (38 : Nat) ({ cls := "InkBank", name := "endDays", desc := "(I)I" } : Jvm.MethodName)) ∈ TT := tt_3 (List.mem_of_getElem? (i := 137) rfl) rfl
theorem wd_3_138 : (Jvm.Cond.instanceMethod ({ cls := "InkBank", name := "endDays", desc := "(I)I" } : Jvm.MethodName)) ∈ TT := tt_3 (List.mem_of_getElem? (i := 138) rfl) rfl
theorem wd_3_139 : (Jvm.Cond.selects "InkBank" ({ cls := "InkBank", name := "endDays", desc := "(I)I" } : Jvm.MethodName) ({ cls := "InkBank", name := "endDays", desc := "(I)I" } : Jvm.MethodName)) ∈ TT := tt_3 (List.mem_of_getElem? (i := 139) rfl) rfl
theorem wd_3_140 : (Jvm.Cond.code ({ cls := "InkBank", name := "endDays", desc := "(I)I" } : Jvm.MethodName) prog_1_method_22_code (2 : Nat) (Option.some Jvm.ClassFile.FieldType.int)) ∈ TT := tt_3 (List.mem_of_getElem? (i := 140) rfl) rfl
theorem wd_3_141 : (Jvm.Cond.methodLink "InkBank" (163 : Nat) ({ cls := "InkBank$Ledger", name := "endDaysFault", desc := "(I)I" } : Jvm.MethodName)) ∈ TT := tt_3 (List.mem_of_getElem? (i := 141) rfl) rfl
theorem wd_3_142 : (Jvm.Cond.instanceMethod ({ cls := "InkBank$Ledger", name := "endDaysFault", desc := "(I)I" } : Jvm.MethodName)) ∈ TT := tt_3 (List.mem_of_getElem? (i := 142) rfl) rfl
theorem wd_3_143 : (Jvm.Cond.selects "InkBank$Ledger" ({ cls := "InkBank$Ledger", name := "endDaysFault", desc := "(I)I" } : Jvm.MethodName) ({ cls := "InkBank$Ledger", name := "endDaysFault", desc := "(I)I" } : Jvm.MethodName)) ∈ TT := tt_3 (List.mem_of_getElem? (i := 143) rfl) rfl
theorem wd_3_144 : (Jvm.Cond.code ({ cls := "InkBank$Ledger", name := "endDaysFault", desc := "(I)I" } : Jvm.MethodName) prog_5_method_12_code (2 : Nat) (Option.some Jvm.ClassFile.FieldType.int)) ∈ TT := tt_3 (List.mem_of_getElem? (i := 144) rfl) rfl
theorem wd_3_145 : (Jvm.Cond.methodLink "InkBank" (166 : Nat) ({ cls := "InkBank$Ledger", name := "passDays", desc := "(I)I" } : Jvm.MethodName)) ∈ TT := tt_3 (List.mem_of_getElem? (i := 145) rfl) rfl
theorem wd_3_146 : (Jvm.Cond.instanceMethod ({ cls := "InkBank$Ledger", name := "passDays", desc := "(I)I" } : Jvm.MethodName)) ∈ TT := tt_3 (List.mem_of_getElem? (i := 146) rfl) rfl
theorem wd_3_147 : (Jvm.Cond.selects "InkBank$Ledger" ({ cls := "InkBank$Ledger", name := "passDays", desc := "(I)I" } : Jvm.MethodName) ({ cls := "InkBank$Ledger", name := "passDays", desc := "(I)I" } : Jvm.MethodName)) ∈ TT := tt_3 (List.mem_of_getElem? (i := 147) rfl) rfl
theorem wd_3_148 : (Jvm.Cond.code ({ cls := "InkBank$Ledger", name := "passDays", desc := "(I)I" } : Jvm.MethodName) prog_5_method_14_code (4 : Nat) (Option.some Jvm.ClassFile.FieldType.int)) ∈ TT := tt_3 (List.mem_of_getElem? (i := 148) rfl) rfl
theorem wd_3_149 : (Jvm.Cond.methodLink "InkBank$Ledger" (106 : Nat) ({ cls := "InkBank$Ledger", name := "settleDue", desc := "()I" } : Jvm.MethodName)) ∈ TT := tt_3 (List.mem_of_getElem? (i := 149) rfl) rfl
theorem wd_3_151 : (Jvm.Cond.instanceMethod ({ cls := "InkBank$Ledger", name := "settleDue", desc := "()I" } : Jvm.MethodName)) ∈ TT := tt_3 (List.mem_of_getElem? (i := 151) rfl) rfl
theorem wd_3_152 : (Jvm.Cond.code ({ cls := "InkBank$Ledger", name := "settleDue", desc := "()I" } : Jvm.MethodName) prog_5_method_15_code (4 : Nat) (Option.some Jvm.ClassFile.FieldType.int)) ∈ TT := tt_3 (List.mem_of_getElem? (i := 152) rfl) rfl
theorem wd_3_153 : (Jvm.Cond.methodLink "InkBank$Ledger" (119 : Nat) ({ cls := "InkBank$Transfers", name := "copySlot", desc := "(LInkBank$Transfers;II)V" } : Jvm.MethodName)) ∈ TT := tt_3 (List.mem_of_getElem? (i := 153) rfl) rfl
theorem wd_3_154 : (Jvm.Cond.methodLink "InkBank$Ledger" (123 : Nat) ({ cls := "InkBank$Ledger", name := "settle", desc := "(I)Z" } : Jvm.MethodName)) ∈ TT := tt_3 (List.mem_of_getElem? (i := 154) rfl) rfl
theorem wd_3_156 : (Jvm.Cond.instanceMethod ({ cls := "InkBank$Ledger", name := "settle", desc := "(I)Z" } : Jvm.MethodName)) ∈ TT := tt_3 (List.mem_of_getElem? (i := 156) rfl) rfl
theorem wd_3_157 : (Jvm.Cond.code ({ cls := "InkBank$Ledger", name := "settle", desc := "(I)Z" } : Jvm.MethodName) prog_5_method_18_code (4 : Nat) (Option.some Jvm.ClassFile.FieldType.boolean)) ∈ TT := tt_3 (List.mem_of_getElem? (i := 157) rfl) rfl
theorem wd_3_158 : (Jvm.Cond.methodLink "InkBank$Ledger" (135 : Nat) ({ cls := "InkBank$Ledger", name := "covers", desc := "(I)Z" } : Jvm.MethodName)) ∈ TT := tt_3 (List.mem_of_getElem? (i := 158) rfl) rfl
theorem wd_3_159 : (Jvm.Cond.instanceMethod ({ cls := "InkBank$Ledger", name := "covers", desc := "(I)Z" } : Jvm.MethodName)) ∈ TT := tt_3 (List.mem_of_getElem? (i := 159) rfl) rfl
theorem wd_3_160 : (Jvm.Cond.selects "InkBank$Ledger" ({ cls := "InkBank$Ledger", name := "covers", desc := "(I)Z" } : Jvm.MethodName) ({ cls := "InkBank$Ledger", name := "covers", desc := "(I)Z" } : Jvm.MethodName)) ∈ TT := tt_3 (List.mem_of_getElem? (i := 160) rfl) rfl
theorem wd_3_161 : (Jvm.Cond.code ({ cls := "InkBank$Ledger", name := "covers", desc := "(I)Z" } : Jvm.MethodName) prog_5_method_17_code (2 : Nat) (Option.some Jvm.ClassFile.FieldType.boolean)) ∈ TT := tt_3 (List.mem_of_getElem? (i := 161) rfl) rfl
theorem wd_3_162 : (Jvm.Cond.methodLink "InkBank$Ledger" (138 : Nat) ({ cls := "InkBank$Ledger", name := "collect", desc := "(CII)V" } : Jvm.MethodName)) ∈ TT := tt_3 (List.mem_of_getElem? (i := 162) rfl) rfl
theorem wd_3_164 : (Jvm.Cond.instanceMethod ({ cls := "InkBank$Ledger", name := "collect", desc := "(CII)V" } : Jvm.MethodName)) ∈ TT := tt_3 (List.mem_of_getElem? (i := 164) rfl) rfl
theorem wd_3_165 : (Jvm.Cond.code ({ cls := "InkBank$Ledger", name := "collect", desc := "(CII)V" } : Jvm.MethodName) prog_5_method_19_code (5 : Nat) (Option.none : Option Jvm.ClassFile.FieldType)) ∈ TT := tt_3 (List.mem_of_getElem? (i := 165) rfl) rfl
theorem wd_3_166 : (Jvm.Cond.methodLink "InkBank$Ledger" (144 : Nat) ({ cls := "java/lang/Math", name := "min", desc := "(II)I" } : Jvm.MethodName)) ∈ TT := tt_3 (List.mem_of_getElem? (i := 166) rfl) rfl
theorem wd_3_167 : (Jvm.Cond.methodLink "InkBank$Ledger" (110 : Nat) ({ cls := "InkBank$Ledger", name := "payInterest", desc := "()V" } : Jvm.MethodName)) ∈ TT := tt_3 (List.mem_of_getElem? (i := 167) rfl) rfl
theorem wd_3_169 : (Jvm.Cond.instanceMethod ({ cls := "InkBank$Ledger", name := "payInterest", desc := "()V" } : Jvm.MethodName)) ∈ TT := tt_3 (List.mem_of_getElem? (i := 169) rfl) rfl
theorem wd_3_170 : (Jvm.Cond.code ({ cls := "InkBank$Ledger", name := "payInterest", desc := "()V" } : Jvm.MethodName) prog_5_method_20_code (3 : Nat) (Option.none : Option Jvm.ClassFile.FieldType)) ∈ TT := tt_3 (List.mem_of_getElem? (i := 170) rfl) rfl
theorem wd_3_171 : (Jvm.Cond.methodLink "InkBank$Ledger" (150 : Nat) ({ cls := "InkBank$Accounts", name := "interest", desc := "(I)I" } : Jvm.MethodName)) ∈ TT := tt_3 (List.mem_of_getElem? (i := 171) rfl) rfl
theorem wd_3_172 : (Jvm.Cond.instanceMethod ({ cls := "InkBank$Accounts", name := "interest", desc := "(I)I" } : Jvm.MethodName)) ∈ TT := tt_3 (List.mem_of_getElem? (i := 172) rfl) rfl
theorem wd_3_173 : (Jvm.Cond.selects "InkBank$Accounts" ({ cls := "InkBank$Accounts", name := "interest", desc := "(I)I" } : Jvm.MethodName) ({ cls := "InkBank$Accounts", name := "interest", desc := "(I)I" } : Jvm.MethodName)) ∈ TT := tt_3 (List.mem_of_getElem? (i := 173) rfl) rfl
theorem wd_3_174 : (Jvm.Cond.code ({ cls := "InkBank$Accounts", name := "interest", desc := "(I)I" } : Jvm.MethodName) prog_2_method_9_code (4 : Nat) (Option.some Jvm.ClassFile.FieldType.int)) ∈ TT := tt_3 (List.mem_of_getElem? (i := 174) rfl) rfl
theorem wd_3_175 : (Jvm.Cond.methodLink "InkBank$Accounts" (29 : Nat) ({ cls := "InkBank$Accounts", name := "fullCharge", desc := "(I)I" } : Jvm.MethodName)) ∈ TT := tt_3 (List.mem_of_getElem? (i := 175) rfl) rfl
theorem wd_3_177 : (Jvm.Cond.instanceMethod ({ cls := "InkBank$Accounts", name := "fullCharge", desc := "(I)I" } : Jvm.MethodName)) ∈ TT := tt_3 (List.mem_of_getElem? (i := 177) rfl) rfl
theorem wd_3_178 : (Jvm.Cond.code ({ cls := "InkBank$Accounts", name := "fullCharge", desc := "(I)I" } : Jvm.MethodName) prog_2_method_10_code (2 : Nat) (Option.some Jvm.ClassFile.FieldType.int)) ∈ TT := tt_3 (List.mem_of_getElem? (i := 178) rfl) rfl
theorem wd_3_179 : (Jvm.Cond.methodLink "InkBank$Accounts" (42 : Nat) ({ cls := "java/lang/Math", name := "max", desc := "(II)I" } : Jvm.MethodName)) ∈ TT := tt_3 (List.mem_of_getElem? (i := 179) rfl) rfl
theorem wd_3_180 : (Jvm.Cond.static ({ cls := "java/lang/Math", name := "max", desc := "(II)I" } : Jvm.MethodName)) ∈ TT := tt_3 (List.mem_of_getElem? (i := 180) rfl) rfl
theorem wd_3_181 : (Jvm.Cond.code ({ cls := "java/lang/Math", name := "max", desc := "(II)I" } : Jvm.MethodName) prog_24_method_65_code (2 : Nat) (Option.some Jvm.ClassFile.FieldType.int)) ∈ TT := tt_3 (List.mem_of_getElem? (i := 181) rfl) rfl
theorem wd_3_182 : (Jvm.Cond.methodLink "InkBank$Accounts" (33 : Nat) ({ cls := "InkBank$Accounts", name := "available", desc := "(I)I" } : Jvm.MethodName)) ∈ TT := tt_3 (List.mem_of_getElem? (i := 182) rfl) rfl
theorem wd_3_183 : (Jvm.Cond.methodLink "InkBank$Accounts" (36 : Nat) ({ cls := "java/lang/Math", name := "min", desc := "(II)I" } : Jvm.MethodName)) ∈ TT := tt_3 (List.mem_of_getElem? (i := 183) rfl) rfl
theorem wd_3_184 : (Jvm.Cond.methodLink "InkBank$Ledger" (113 : Nat) ({ cls := "InkBank$Accounts", name := "forgetTouches", desc := "()V" } : Jvm.MethodName)) ∈ TT := tt_3 (List.mem_of_getElem? (i := 184) rfl) rfl
theorem wd_3_185 : (Jvm.Cond.instanceMethod ({ cls := "InkBank$Accounts", name := "forgetTouches", desc := "()V" } : Jvm.MethodName)) ∈ TT := tt_3 (List.mem_of_getElem? (i := 185) rfl) rfl
theorem wd_3_186 : (Jvm.Cond.selects "InkBank$Accounts" ({ cls := "InkBank$Accounts", name := "forgetTouches", desc := "()V" } : Jvm.MethodName) ({ cls := "InkBank$Accounts", name := "forgetTouches", desc := "()V" } : Jvm.MethodName)) ∈ TT := tt_3 (List.mem_of_getElem? (i := 186) rfl) rfl
theorem wd_3_187 : (Jvm.Cond.code ({ cls := "InkBank$Accounts", name := "forgetTouches", desc := "()V" } : Jvm.MethodName) prog_2_method_7_code (2 : Nat) (Option.none : Option Jvm.ClassFile.FieldType)) ∈ TT := tt_3 (List.mem_of_getElem? (i := 187) rfl) rfl
theorem wd_3_209 : (Jvm.Cond.methodLink "java/lang/String" (492 : Nat) ({ cls := "java/lang/String", name := "isLatin1", desc := "()Z" } : Jvm.MethodName)) ∈ TT := tt_3 (List.mem_of_getElem? (i := 209) rfl) rfl
theorem wd_3_210 : (Jvm.Cond.instanceMethod ({ cls := "java/lang/String", name := "isLatin1", desc := "()Z" } : Jvm.MethodName)) ∈ TT := tt_3 (List.mem_of_getElem? (i := 210) rfl) rfl
theorem wd_3_211 : (Jvm.Cond.selects "java/lang/String" ({ cls := "java/lang/String", name := "isLatin1", desc := "()Z" } : Jvm.MethodName) ({ cls := "java/lang/String", name := "isLatin1", desc := "()Z" } : Jvm.MethodName)) ∈ TT := tt_3 (List.mem_of_getElem? (i := 211) rfl) rfl
theorem wd_3_212 : (Jvm.Cond.code ({ cls := "java/lang/String", name := "isLatin1", desc := "()Z" } : Jvm.MethodName) prog_27_method_154_code (1 : Nat) (Option.some Jvm.ClassFile.FieldType.boolean)) ∈ TT := tt_3 (List.mem_of_getElem? (i := 212) rfl) rfl
theorem wd_3_213 : (Jvm.Cond.fieldLink "java/lang/String" (38 : Nat) "java/lang/String" "COMPACT_STRINGS" "Z") ∈ TT := tt_3 (List.mem_of_getElem? (i := 213) rfl) rfl
theorem wd_3_215 : (Jvm.Cond.instanceMethod ({ cls := "java/lang/String", name := "length", desc := "()I" } : Jvm.MethodName)) ∈ TT := tt_3 (List.mem_of_getElem? (i := 215) rfl) rfl
theorem wd_3_216 : (Jvm.Cond.selects "java/lang/String" ({ cls := "java/lang/String", name := "length", desc := "()I" } : Jvm.MethodName) ({ cls := "java/lang/String", name := "length", desc := "()I" } : Jvm.MethodName)) ∈ TT := tt_3 (List.mem_of_getElem? (i := 216) rfl) rfl
theorem wd_3_217 : (Jvm.Cond.code ({ cls := "java/lang/String", name := "length", desc := "()I" } : Jvm.MethodName) prog_27_method_54_code (1 : Nat) (Option.some Jvm.ClassFile.FieldType.int)) ∈ TT := tt_3 (List.mem_of_getElem? (i := 217) rfl) rfl
theorem wd_3_218 : (Jvm.Cond.methodLink "java/lang/String" (335 : Nat) ({ cls := "java/lang/String", name := "coder", desc := "()B" } : Jvm.MethodName)) ∈ TT := tt_3 (List.mem_of_getElem? (i := 218) rfl) rfl
theorem wd_3_219 : (Jvm.Cond.instanceMethod ({ cls := "java/lang/String", name := "coder", desc := "()B" } : Jvm.MethodName)) ∈ TT := tt_3 (List.mem_of_getElem? (i := 219) rfl) rfl
theorem wd_3_220 : (Jvm.Cond.selects "java/lang/String" ({ cls := "java/lang/String", name := "coder", desc := "()B" } : Jvm.MethodName) ({ cls := "java/lang/String", name := "coder", desc := "()B" } : Jvm.MethodName)) ∈ TT := tt_3 (List.mem_of_getElem? (i := 220) rfl) rfl
theorem wd_3_221 : (Jvm.Cond.code ({ cls := "java/lang/String", name := "coder", desc := "()B" } : Jvm.MethodName) prog_27_method_152_code (1 : Nat) (Option.some Jvm.ClassFile.FieldType.byte)) ∈ TT := tt_3 (List.mem_of_getElem? (i := 221) rfl) rfl
theorem wd_4_11 : (Jvm.Cond.fieldLink "java/lang/String" (1053 : Nat) "jdk/internal/util/Preconditions" "SIOOBE_FORMATTER" "Ljava/util/function/BiFunction;") ∈ TT := tt_4 (List.mem_of_getElem? (i := 11) rfl) rfl
theorem wd_4_54 : (Jvm.Cond.instanceMethod ({ cls := "java/lang/String", name := "charAt", desc := "(I)C" } : Jvm.MethodName)) ∈ TT := tt_4 (List.mem_of_getElem? (i := 54) rfl) rfl
theorem wd_4_55 : (Jvm.Cond.selects "java/lang/String" ({ cls := "java/lang/String", name := "charAt", desc := "(I)C" } : Jvm.MethodName) ({ cls := "java/lang/String", name := "charAt", desc := "(I)C" } : Jvm.MethodName)) ∈ TT := tt_4 (List.mem_of_getElem? (i := 55) rfl) rfl
theorem wd_4_56 : (Jvm.Cond.code ({ cls := "java/lang/String", name := "charAt", desc := "(I)C" } : Jvm.MethodName) prog_27_method_56_code (2 : Nat) (Option.some Jvm.ClassFile.FieldType.char)) ∈ TT := tt_4 (List.mem_of_getElem? (i := 56) rfl) rfl
theorem wd_4_57 : (Jvm.Cond.methodLink "java/lang/String" (495 : Nat) ({ cls := "java/lang/StringLatin1", name := "charAt", desc := "([BI)C" } : Jvm.MethodName)) ∈ TT := tt_4 (List.mem_of_getElem? (i := 57) rfl) rfl
theorem wd_4_58 : (Jvm.Cond.static ({ cls := "java/lang/StringLatin1", name := "charAt", desc := "([BI)C" } : Jvm.MethodName)) ∈ TT := tt_4 (List.mem_of_getElem? (i := 58) rfl) rfl
theorem wd_4_59 : (Jvm.Cond.code ({ cls := "java/lang/StringLatin1", name := "charAt", desc := "([BI)C" } : Jvm.MethodName) prog_30_method_2_code (2 : Nat) (Option.some Jvm.ClassFile.FieldType.char)) ∈ TT := tt_4 (List.mem_of_getElem? (i := 59) rfl) rfl
theorem wd_4_60 : (Jvm.Cond.methodLink "java/lang/StringLatin1" (9 : Nat) ({ cls := "java/lang/String", name := "checkIndex", desc := "(II)V" } : Jvm.MethodName)) ∈ TT := tt_4 (List.mem_of_getElem? (i := 60) rfl) rfl
theorem wd_4_61 : (Jvm.Cond.static ({ cls := "java/lang/String", name := "checkIndex", desc := "(II)V" } : Jvm.MethodName)) ∈ TT := tt_4 (List.mem_of_getElem? (i := 61) rfl) rfl
theorem wd_4_62 : (Jvm.Cond.code ({ cls := "java/lang/String", name := "checkIndex", desc := "(II)V" } : Jvm.MethodName) prog_27_method_155_code (2 : Nat) (Option.none : Option Jvm.ClassFile.FieldType)) ∈ TT := tt_4 (List.mem_of_getElem? (i := 62) rfl) rfl
theorem wd_4_63 : (Jvm.Cond.methodLink "java/lang/String" (1059 : Nat) ({ cls := "jdk/internal/util/Preconditions", name := "checkIndex", desc := "(IILjava/util/function/BiFunction;)I" } : Jvm.MethodName)) ∈ TT := tt_4 (List.mem_of_getElem? (i := 63) rfl) rfl
theorem wd_4_64 : (Jvm.Cond.static ({ cls := "jdk/internal/util/Preconditions", name := "checkIndex", desc := "(IILjava/util/function/BiFunction;)I" } : Jvm.MethodName)) ∈ TT := tt_4 (List.mem_of_getElem? (i := 64) rfl) rfl
theorem wd_4_65 : (Jvm.Cond.code ({ cls := "jdk/internal/util/Preconditions", name := "checkIndex", desc := "(IILjava/util/function/BiFunction;)I" } : Jvm.MethodName) prog_40_method_11_code (3 : Nat) (Option.some Jvm.ClassFile.FieldType.int)) ∈ TT := tt_4 (List.mem_of_getElem? (i := 65) rfl) rfl
theorem wd_4_90 : (Jvm.Cond.methodLink "InkBank" (172 : Nat) ({ cls := "InkBank$Ledger", name := "copyFrom", desc := "(LInkBank$Ledger;)V" } : Jvm.MethodName)) ∈ TT := tt_4 (List.mem_of_getElem? (i := 90) rfl) rfl
theorem wd_4_114 : (Jvm.Cond.code ({ cls := "InkBankLaw", name := "any", desc := "(LInkBank;[II)I" } : Jvm.MethodName) method_11_code (5 : Nat) (Option.some Jvm.ClassFile.FieldType.int)) ∈ TT := tt_4 (List.mem_of_getElem? (i := 114) rfl) rfl
theorem wd_4_115 : (Jvm.Cond.methodLink "InkBankLaw" (118 : Nat) ({ cls := "java/lang/Math", name := "max", desc := "(II)I" } : Jvm.MethodName)) ∈ TT := tt_4 (List.mem_of_getElem? (i := 115) rfl) rfl
theorem wd_4_116 : (Jvm.Cond.methodLink "InkBankLaw" (123 : Nat) ({ cls := "InkBankLaw", name := "id", desc := "(LInkBank;I)I" } : Jvm.MethodName)) ∈ TT := tt_4 (List.mem_of_getElem? (i := 116) rfl) rfl
theorem wd_4_117 : (Jvm.Cond.static ({ cls := "InkBankLaw", name := "id", desc := "(LInkBank;I)I" } : Jvm.MethodName)) ∈ TT := tt_4 (List.mem_of_getElem? (i := 117) rfl) rfl
theorem wd_4_118 : (Jvm.Cond.code ({ cls := "InkBankLaw", name := "id", desc := "(LInkBank;I)I" } : Jvm.MethodName) method_10_code (2 : Nat) (Option.some Jvm.ClassFile.FieldType.int)) ∈ TT := tt_4 (List.mem_of_getElem? (i := 118) rfl) rfl
theorem wd_4_119 : (Jvm.Cond.methodLink "InkBankLaw" (112 : Nat) ({ cls := "InkBank", name := "transferCount", desc := "()I" } : Jvm.MethodName)) ∈ TT := tt_4 (List.mem_of_getElem? (i := 119) rfl) rfl
theorem wd_4_120 : (Jvm.Cond.instanceMethod ({ cls := "InkBank", name := "transferCount", desc := "()I" } : Jvm.MethodName)) ∈ TT := tt_4 (List.mem_of_getElem? (i := 120) rfl) rfl
theorem wd_4_121 : (Jvm.Cond.selects "InkBank" ({ cls := "InkBank", name := "transferCount", desc := "()I" } : Jvm.MethodName) ({ cls := "InkBank", name := "transferCount", desc := "()I" } : Jvm.MethodName)) ∈ TT := tt_4 (List.mem_of_getElem? (i := 121) rfl) rfl
theorem wd_4_122 : (Jvm.Cond.code ({ cls := "InkBank", name := "transferCount", desc := "()I" } : Jvm.MethodName) prog_1_method_26_code (1 : Nat) (Option.some Jvm.ClassFile.FieldType.int)) ∈ TT := tt_4 (List.mem_of_getElem? (i := 122) rfl) rfl
theorem wd_4_123 : (Jvm.Cond.methodLink "InkBankLaw" (68 : Nat) ({ cls := "InkBank", name := "transferAt", desc := "(I)I" } : Jvm.MethodName)) ∈ TT := tt_4 (List.mem_of_getElem? (i := 123) rfl) rfl
theorem wd_4_124 : (Jvm.Cond.instanceMethod ({ cls := "InkBank", name := "transferAt", desc := "(I)I" } : Jvm.MethodName)) ∈ TT := tt_4 (List.mem_of_getElem? (i := 124) rfl) rfl
theorem wd_4_125 : (Jvm.Cond.selects "InkBank" ({ cls := "InkBank", name := "transferAt", desc := "(I)I" } : Jvm.MethodName) ({ cls := "InkBank", name := "transferAt", desc := "(I)I" } : Jvm.MethodName)) ∈ TT := tt_4 (List.mem_of_getElem? (i := 125) rfl) rfl
theorem wd_4_126 : (Jvm.Cond.code ({ cls := "InkBank", name := "transferAt", desc := "(I)I" } : Jvm.MethodName) prog_1_method_27_code (2 : Nat) (Option.some Jvm.ClassFile.FieldType.int)) ∈ TT := tt_4 (List.mem_of_getElem? (i := 126) rfl) rfl
theorem wd_4_127 : (Jvm.Cond.methodLink "InkBank" (197 : Nat) ({ cls := "InkBank$Transfers", name := "idAt", desc := "(I)I" } : Jvm.MethodName)) ∈ TT := tt_4 (List.mem_of_getElem? (i := 127) rfl) rfl
theorem wd_4_128 : (Jvm.Cond.instanceMethod ({ cls := "InkBank$Transfers", name := "idAt", desc := "(I)I" } : Jvm.MethodName)) ∈ TT := tt_4 (List.mem_of_getElem? (i := 128) rfl) rfl
theorem wd_4_129 : (Jvm.Cond.selects "InkBank$Transfers" ({ cls := "InkBank$Transfers", name := "idAt", desc := "(I)I" } : Jvm.MethodName) ({ cls := "InkBank$Transfers", name := "idAt", desc := "(I)I" } : Jvm.MethodName)) ∈ TT := tt_4 (List.mem_of_getElem? (i := 129) rfl) rfl
theorem wd_4_130 : (Jvm.Cond.code ({ cls := "InkBank$Transfers", name := "idAt", desc := "(I)I" } : Jvm.MethodName) prog_7_method_7_code (4 : Nat) (Option.some Jvm.ClassFile.FieldType.int)) ∈ TT := tt_4 (List.mem_of_getElem? (i := 130) rfl) rfl
theorem wd_4_131 : (Jvm.Cond.methodLink "InkBank$Transfers" (38 : Nat) ({ cls := "InkBank$Transfers", name := "positionOf", desc := "(I)I" } : Jvm.MethodName)) ∈ TT := tt_4 (List.mem_of_getElem? (i := 131) rfl) rfl
theorem wd_4_133 : (Jvm.Cond.instanceMethod ({ cls := "InkBank$Transfers", name := "positionOf", desc := "(I)I" } : Jvm.MethodName)) ∈ TT := tt_4 (List.mem_of_getElem? (i := 133) rfl) rfl
theorem wd_4_134 : (Jvm.Cond.code ({ cls := "InkBank$Transfers", name := "positionOf", desc := "(I)I" } : Jvm.MethodName) prog_7_method_8_code (6 : Nat) (Option.some Jvm.ClassFile.FieldType.int)) ∈ TT := tt_4 (List.mem_of_getElem? (i := 134) rfl) rfl
theorem wd_4_138 : (Jvm.Cond.methodLink "InkBankLaw" (188 : Nat) ({ cls := "InkBankLaw", name := "ask", desc := "(LInkBank;III)I" } : Jvm.MethodName)) ∈ TT := tt_4 (List.mem_of_getElem? (i := 138) rfl) rfl
theorem wd_4_139 : (Jvm.Cond.static ({ cls := "InkBankLaw", name := "ask", desc := "(LInkBank;III)I" } : Jvm.MethodName)) ∈ TT := tt_4 (List.mem_of_getElem? (i := 139) rfl) rfl
theorem wd_4_140 : (Jvm.Cond.codeWith ({ cls := "InkBankLaw", name := "ask", desc := "(LInkBank;III)I" } : Jvm.MethodName) method_8_code (5 : Nat) (Option.some Jvm.ClassFile.FieldType.int) [((0 : Nat), (7 : Nat), (8 : Nat), (49 : Nat)), ((0 : Nat), (7 : Nat), (14 : Nat), (51 : Nat)), ((0 : Nat), (7 : Nat), (20 : Nat), (57 : Nat))]) ∈ TT := tt_4 (List.mem_of_getElem? (i := 140) rfl) rfl
theorem wd_4_141 : (Jvm.Cond.methodLink "InkBankLaw" (101 : Nat) ({ cls := "InkBankLaw", name := "asked", desc := "(LInkBank;III)I" } : Jvm.MethodName)) ∈ TT := tt_4 (List.mem_of_getElem? (i := 141) rfl) rfl
theorem wd_4_142 : (Jvm.Cond.static ({ cls := "InkBankLaw", name := "asked", desc := "(LInkBank;III)I" } : Jvm.MethodName)) ∈ TT := tt_4 (List.mem_of_getElem? (i := 142) rfl) rfl
theorem wd_4_143 : (Jvm.Cond.code ({ cls := "InkBankLaw", name := "asked", desc := "(LInkBank;III)I" } : Jvm.MethodName) method_7_code (4 : Nat) (Option.some Jvm.ClassFile.FieldType.int)) ∈ TT := tt_4 (List.mem_of_getElem? (i := 143) rfl) rfl
theorem wd_4_144 : (Jvm.Cond.methodLink "InkBankLaw" (59 : Nat) ({ cls := "InkBank", name := "balanceOf", desc := "(I)I" } : Jvm.MethodName)) ∈ TT := tt_4 (List.mem_of_getElem? (i := 144) rfl) rfl
theorem wd_4_145 : (Jvm.Cond.instanceMethod ({ cls := "InkBank", name := "balanceOf", desc := "(I)I" } : Jvm.MethodName)) ∈ TT := tt_4 (List.mem_of_getElem? (i := 145) rfl) rfl
theorem wd_4_146 : (Jvm.Cond.selects "InkBank" ({ cls := "InkBank", name := "balanceOf", desc := "(I)I" } : Jvm.MethodName) ({ cls := "InkBank", name := "balanceOf", desc := "(I)I" } : Jvm.MethodName)) ∈ TT := tt_4 (List.mem_of_getElem? (i := 146) rfl) rfl
theorem wd_4_147 : (Jvm.Cond.code ({ cls := "InkBank", name := "balanceOf", desc := "(I)I" } : Jvm.MethodName) prog_1_method_8_code (2 : Nat) (Option.some Jvm.ClassFile.FieldType.int)) ∈ TT := tt_4 (List.mem_of_getElem? (i := 147) rfl) rfl
theorem wd_4_148 : (Jvm.Cond.methodLink "InkBank" (102 : Nat) ({ cls := "InkBank", name := "requireAccount", desc := "(I)V" } : Jvm.MethodName)) ∈ TT := tt_4 (List.mem_of_getElem? (i := 148) rfl) rfl
theorem wd_4_150 : (Jvm.Cond.instanceMethod ({ cls := "InkBank", name := "requireAccount", desc := "(I)V" } : Jvm.MethodName)) ∈ TT := tt_4 (List.mem_of_getElem? (i := 150) rfl) rfl
theorem wd_4_151 : (Jvm.Cond.code ({ cls := "InkBank", name := "requireAccount", desc := "(I)V" } : Jvm.MethodName) prog_1_method_51_code (2 : Nat) (Option.none : Option Jvm.ClassFile.FieldType)) ∈ TT := tt_4 (List.mem_of_getElem? (i := 151) rfl) rfl
theorem wd_4_152 : (Jvm.Cond.methodLink "InkBank" (125 : Nat) ({ cls := "InkBank$Accounts", name := "has", desc := "(I)Z" } : Jvm.MethodName)) ∈ TT := tt_4 (List.mem_of_getElem? (i := 152) rfl) rfl
theorem wd_4_153 : (Jvm.Cond.methodLink "InkBankLaw" (62 : Nat) ({ cls := "InkBank", name := "accountAtRank", desc := "(I)I" } : Jvm.MethodName)) ∈ TT := tt_4 (List.mem_of_getElem? (i := 153) rfl) rfl
theorem wd_4_154 : (Jvm.Cond.instanceMethod ({ cls := "InkBank", name := "accountAtRank", desc := "(I)I" } : Jvm.MethodName)) ∈ TT := tt_4 (List.mem_of_getElem? (i := 154) rfl) rfl
theorem wd_4_155 : (Jvm.Cond.selects "InkBank" ({ cls := "InkBank", name := "accountAtRank", desc := "(I)I" } : Jvm.MethodName) ({ cls := "InkBank", name := "accountAtRank", desc := "(I)I" } : Jvm.MethodName)) ∈ TT := tt_4 (List.mem_of_getElem? (i := 155) rfl) rfl
theorem wd_4_156 : (Jvm.Cond.code ({ cls := "InkBank", name := "accountAtRank", desc := "(I)I" } : Jvm.MethodName) prog_1_method_13_code (2 : Nat) (Option.some Jvm.ClassFile.FieldType.int)) ∈ TT := tt_4 (List.mem_of_getElem? (i := 156) rfl) rfl
theorem wd_4_157 : (Jvm.Cond.methodLink "InkBank" (132 : Nat) ({ cls := "InkBank$Accounts", name := "atRank", desc := "(I)I" } : Jvm.MethodName)) ∈ TT := tt_4 (List.mem_of_getElem? (i := 157) rfl) rfl
theorem wd_4_158 : (Jvm.Cond.instanceMethod ({ cls := "InkBank$Accounts", name := "atRank", desc := "(I)I" } : Jvm.MethodName)) ∈ TT := tt_4 (List.mem_of_getElem? (i := 158) rfl) rfl
theorem wd_4_159 : (Jvm.Cond.selects "InkBank$Accounts" ({ cls := "InkBank$Accounts", name := "atRank", desc := "(I)I" } : Jvm.MethodName) ({ cls := "InkBank$Accounts", name := "atRank", desc := "(I)I" } : Jvm.MethodName)) ∈ TT := tt_4 (List.mem_of_getElem? (i := 159) rfl) rfl
theorem wd_4_160 : (Jvm.Cond.code ({ cls := "InkBank$Accounts", name := "atRank", desc := "(I)I" } : Jvm.MethodName) prog_2_method_11_code (4 : Nat) (Option.some Jvm.ClassFile.FieldType.int)) ∈ TT := tt_4 (List.mem_of_getElem? (i := 160) rfl) rfl
theorem wd_4_161 : (Jvm.Cond.methodLink "InkBank$Accounts" (45 : Nat) ({ cls := "InkBank$Accounts", name := "rankOf", desc := "(I)I" } : Jvm.MethodName)) ∈ TT := tt_4 (List.mem_of_getElem? (i := 161) rfl) rfl
theorem wd_4_163 : (Jvm.Cond.instanceMethod ({ cls := "InkBank$Accounts", name := "rankOf", desc := "(I)I" } : Jvm.MethodName)) ∈ TT := tt_4 (List.mem_of_getElem? (i := 163) rfl) rfl
theorem wd_4_164 : (Jvm.Cond.code ({ cls := "InkBank$Accounts", name := "rankOf", desc := "(I)I" } : Jvm.MethodName) prog_2_method_12_code (6 : Nat) (Option.some Jvm.ClassFile.FieldType.int)) ∈ TT := tt_4 (List.mem_of_getElem? (i := 164) rfl) rfl
theorem wd_4_165 : (Jvm.Cond.methodLink "InkBankLaw" (65 : Nat) ({ cls := "InkBank", name := "balanceAfter", desc := "(II)I" } : Jvm.MethodName)) ∈ TT := tt_4 (List.mem_of_getElem? (i := 165) rfl) rfl
theorem wd_4_166 : (Jvm.Cond.instanceMethod ({ cls := "InkBank", name := "balanceAfter", desc := "(II)I" } : Jvm.MethodName)) ∈ TT := tt_4 (List.mem_of_getElem? (i := 166) rfl) rfl
theorem wd_4_167 : (Jvm.Cond.selects "InkBank" ({ cls := "InkBank", name := "balanceAfter", desc := "(II)I" } : Jvm.MethodName) ({ cls := "InkBank", name := "balanceAfter", desc := "(II)I" } : Jvm.MethodName)) ∈ TT := tt_4 (List.mem_of_getElem? (i := 167) rfl) rfl
theorem wd_4_168 : (Jvm.Cond.code ({ cls := "InkBank", name := "balanceAfter", desc := "(II)I" } : Jvm.MethodName) prog_1_method_23_code (3 : Nat) (Option.some Jvm.ClassFile.FieldType.int)) ∈ TT := tt_4 (List.mem_of_getElem? (i := 168) rfl) rfl
theorem wd_4_169 : (Jvm.Cond.methodLink "InkBank" (169 : Nat) ({ cls := "InkBank$Ledger", name := "balanceAfterFault", desc := "(II)I" } : Jvm.MethodName)) ∈ TT := tt_4 (List.mem_of_getElem? (i := 169) rfl) rfl
theorem wd_4_170 : (Jvm.Cond.instanceMethod ({ cls := "InkBank$Ledger", name := "balanceAfterFault", desc := "(II)I" } : Jvm.MethodName)) ∈ TT := tt_4 (List.mem_of_getElem? (i := 170) rfl) rfl
theorem wd_4_171 : (Jvm.Cond.selects "InkBank$Ledger" ({ cls := "InkBank$Ledger", name := "balanceAfterFault", desc := "(II)I" } : Jvm.MethodName) ({ cls := "InkBank$Ledger", name := "balanceAfterFault", desc := "(II)I" } : Jvm.MethodName)) ∈ TT := tt_4 (List.mem_of_getElem? (i := 171) rfl) rfl
theorem wd_4_172 : (Jvm.Cond.code ({ cls := "InkBank$Ledger", name := "balanceAfterFault", desc := "(II)I" } : Jvm.MethodName) prog_5_method_13_code (3 : Nat) (Option.some Jvm.ClassFile.FieldType.int)) ∈ TT := tt_4 (List.mem_of_getElem? (i := 172) rfl) rfl
theorem wd_4_173 : (Jvm.Cond.methodLink "InkBankLaw" (71 : Nat) ({ cls := "InkBank", name := "amountOf", desc := "(I)I" } : Jvm.MethodName)) ∈ TT := tt_4 (List.mem_of_getElem? (i := 173) rfl) rfl
theorem wd_4_174 : (Jvm.Cond.instanceMethod ({ cls := "InkBank", name := "amountOf", desc := "(I)I" } : Jvm.MethodName)) ∈ TT := tt_4 (List.mem_of_getElem? (i := 174) rfl) rfl
theorem wd_4_175 : (Jvm.Cond.selects "InkBank" ({ cls := "InkBank", name := "amountOf", desc := "(I)I" } : Jvm.MethodName) ({ cls := "InkBank", name := "amountOf", desc := "(I)I" } : Jvm.MethodName)) ∈ TT := tt_4 (List.mem_of_getElem? (i := 175) rfl) rfl
theorem wd_4_176 : (Jvm.Cond.code ({ cls := "InkBank", name := "amountOf", desc := "(I)I" } : Jvm.MethodName) prog_1_method_30_code (2 : Nat) (Option.some Jvm.ClassFile.FieldType.int)) ∈ TT := tt_4 (List.mem_of_getElem? (i := 176) rfl) rfl
theorem wd_4_177 : (Jvm.Cond.methodLink "InkBank" (203 : Nat) ({ cls := "InkBank", name := "requireTransfer", desc := "(I)I" } : Jvm.MethodName)) ∈ TT := tt_4 (List.mem_of_getElem? (i := 177) rfl) rfl
theorem wd_4_179 : (Jvm.Cond.instanceMethod ({ cls := "InkBank", name := "requireTransfer", desc := "(I)I" } : Jvm.MethodName)) ∈ TT := tt_4 (List.mem_of_getElem? (i := 179) rfl) rfl
theorem wd_4_180 : (Jvm.Cond.code ({ cls := "InkBank", name := "requireTransfer", desc := "(I)I" } : Jvm.MethodName) prog_1_method_52_code (3 : Nat) (Option.some Jvm.ClassFile.FieldType.int)) ∈ TT := tt_4 (List.mem_of_getElem? (i := 180) rfl) rfl
theorem wd_4_181 : (Jvm.Cond.methodLink "InkBank" (218 : Nat) ({ cls := "InkBank$Transfers", name := "find", desc := "(I)I" } : Jvm.MethodName)) ∈ TT := tt_4 (List.mem_of_getElem? (i := 181) rfl) rfl
theorem wd_4_182 : (Jvm.Cond.methodLink "InkBankLaw" (74 : Nat) ({ cls := "InkBank", name := "wouldBounce", desc := "(I)Z" } : Jvm.MethodName)) ∈ TT := tt_4 (List.mem_of_getElem? (i := 182) rfl) rfl
theorem wd_4_183 : (Jvm.Cond.instanceMethod ({ cls := "InkBank", name := "wouldBounce", desc := "(I)Z" } : Jvm.MethodName)) ∈ TT := tt_4 (List.mem_of_getElem? (i := 183) rfl) rfl
theorem wd_4_184 : (Jvm.Cond.selects "InkBank" ({ cls := "InkBank", name := "wouldBounce", desc := "(I)Z" } : Jvm.MethodName) ({ cls := "InkBank", name := "wouldBounce", desc := "(I)Z" } : Jvm.MethodName)) ∈ TT := tt_4 (List.mem_of_getElem? (i := 184) rfl) rfl
theorem wd_4_185 : (Jvm.Cond.code ({ cls := "InkBank", name := "wouldBounce", desc := "(I)Z" } : Jvm.MethodName) prog_1_method_32_code (3 : Nat) (Option.some Jvm.ClassFile.FieldType.boolean)) ∈ TT := tt_4 (List.mem_of_getElem? (i := 185) rfl) rfl
theorem wd_4_186 : (Jvm.Cond.methodLink "InkBank" (215 : Nat) ({ cls := "InkBank$Ledger", name := "settleDueBefore", desc := "(I)V" } : Jvm.MethodName)) ∈ TT := tt_4 (List.mem_of_getElem? (i := 186) rfl) rfl
theorem wd_4_187 : (Jvm.Cond.instanceMethod ({ cls := "InkBank$Ledger", name := "settleDueBefore", desc := "(I)V" } : Jvm.MethodName)) ∈ TT := tt_4 (List.mem_of_getElem? (i := 187) rfl) rfl
theorem wd_4_188 : (Jvm.Cond.selects "InkBank$Ledger" ({ cls := "InkBank$Ledger", name := "settleDueBefore", desc := "(I)V" } : Jvm.MethodName) ({ cls := "InkBank$Ledger", name := "settleDueBefore", desc := "(I)V" } : Jvm.MethodName)) ∈ TT := tt_4 (List.mem_of_getElem? (i := 188) rfl) rfl
theorem wd_4_189 : (Jvm.Cond.code ({ cls := "InkBank$Ledger", name := "settleDueBefore", desc := "(I)V" } : Jvm.MethodName) prog_5_method_16_code (3 : Nat) (Option.none : Option Jvm.ClassFile.FieldType)) ∈ TT := tt_4 (List.mem_of_getElem? (i := 189) rfl) rfl
theorem wd_4_190 : (Jvm.Cond.methodLink "InkBank" (221 : Nat) ({ cls := "InkBank$Ledger", name := "covers", desc := "(I)Z" } : Jvm.MethodName)) ∈ TT := tt_4 (List.mem_of_getElem? (i := 190) rfl) rfl
theorem wd_4_191 : (Jvm.Cond.methodLink "InkBankLaw" (78 : Nat) ({ cls := "InkBankLaw", name := "told", desc := "(Z)I" } : Jvm.MethodName)) ∈ TT := tt_4 (List.mem_of_getElem? (i := 191) rfl) rfl
theorem wd_4_192 : (Jvm.Cond.static ({ cls := "InkBankLaw", name := "told", desc := "(Z)I" } : Jvm.MethodName)) ∈ TT := tt_4 (List.mem_of_getElem? (i := 192) rfl) rfl
theorem wd_4_193 : (Jvm.Cond.code ({ cls := "InkBankLaw", name := "told", desc := "(Z)I" } : Jvm.MethodName) method_4_code (1 : Nat) (Option.some Jvm.ClassFile.FieldType.int)) ∈ TT := tt_4 (List.mem_of_getElem? (i := 193) rfl) rfl
theorem wd_4_194 : (Jvm.Cond.methodLink "InkBankLaw" (82 : Nat) ({ cls := "InkBank", name := "netOf", desc := "(I)I" } : Jvm.MethodName)) ∈ TT := tt_4 (List.mem_of_getElem? (i := 194) rfl) rfl
theorem wd_4_195 : (Jvm.Cond.instanceMethod ({ cls := "InkBank", name := "netOf", desc := "(I)I" } : Jvm.MethodName)) ∈ TT := tt_4 (List.mem_of_getElem? (i := 195) rfl) rfl
theorem wd_4_196 : (Jvm.Cond.selects "InkBank" ({ cls := "InkBank", name := "netOf", desc := "(I)I" } : Jvm.MethodName) ({ cls := "InkBank", name := "netOf", desc := "(I)I" } : Jvm.MethodName)) ∈ TT := tt_4 (List.mem_of_getElem? (i := 196) rfl) rfl
theorem wd_4_197 : (Jvm.Cond.code ({ cls := "InkBank", name := "netOf", desc := "(I)I" } : Jvm.MethodName) prog_1_method_34_code (2 : Nat) (Option.some Jvm.ClassFile.FieldType.int)) ∈ TT := tt_4 (List.mem_of_getElem? (i := 197) rfl) rfl
theorem wd_4_198 : (Jvm.Cond.methodLink "InkBank" (227 : Nat) ({ cls := "InkBank$Transfers", name := "net", desc := "(I)I" } : Jvm.MethodName)) ∈ TT := tt_4 (List.mem_of_getElem? (i := 198) rfl) rfl
theorem wd_4_199 : (Jvm.Cond.instanceMethod ({ cls := "InkBank$Transfers", name := "net", desc := "(I)I" } : Jvm.MethodName)) ∈ TT := tt_4 (List.mem_of_getElem? (i := 199) rfl) rfl
theorem wd_4_200 : (Jvm.Cond.selects "InkBank$Transfers" ({ cls := "InkBank$Transfers", name := "net", desc := "(I)I" } : Jvm.MethodName) ({ cls := "InkBank$Transfers", name := "net", desc := "(I)I" } : Jvm.MethodName)) ∈ TT := tt_4 (List.mem_of_getElem? (i := 200) rfl) rfl
theorem wd_4_201 : (Jvm.Cond.code ({ cls := "InkBank$Transfers", name := "net", desc := "(I)I" } : Jvm.MethodName) prog_7_method_9_code (4 : Nat) (Option.some Jvm.ClassFile.FieldType.int)) ∈ TT := tt_4 (List.mem_of_getElem? (i := 201) rfl) rfl
theorem wd_4_202 : (Jvm.Cond.methodLink "InkBankLaw" (85 : Nat) ({ cls := "InkBank", name := "leadsTo", desc := "(II)Z" } : Jvm.MethodName)) ∈ TT := tt_4 (List.mem_of_getElem? (i := 202) rfl) rfl
theorem wd_4_203 : (Jvm.Cond.instanceMethod ({ cls := "InkBank", name := "leadsTo", desc := "(II)Z" } : Jvm.MethodName)) ∈ TT := tt_4 (List.mem_of_getElem? (i := 203) rfl) rfl
theorem wd_4_204 : (Jvm.Cond.selects "InkBank" ({ cls := "InkBank", name := "leadsTo", desc := "(II)Z" } : Jvm.MethodName) ({ cls := "InkBank", name := "leadsTo", desc := "(II)Z" } : Jvm.MethodName)) ∈ TT := tt_4 (List.mem_of_getElem? (i := 204) rfl) rfl
theorem wd_4_205 : (Jvm.Cond.code ({ cls := "InkBank", name := "leadsTo", desc := "(II)Z" } : Jvm.MethodName) prog_1_method_36_code (3 : Nat) (Option.some Jvm.ClassFile.FieldType.boolean)) ∈ TT := tt_4 (List.mem_of_getElem? (i := 205) rfl) rfl
theorem wd_4_206 : (Jvm.Cond.methodLink "InkBank" (233 : Nat) ({ cls := "InkBank$Transfers", name := "connect", desc := "(II)Z" } : Jvm.MethodName)) ∈ TT := tt_4 (List.mem_of_getElem? (i := 206) rfl) rfl
theorem wd_4_207 : (Jvm.Cond.instanceMethod ({ cls := "InkBank$Transfers", name := "connect", desc := "(II)Z" } : Jvm.MethodName)) ∈ TT := tt_4 (List.mem_of_getElem? (i := 207) rfl) rfl
theorem wd_4_208 : (Jvm.Cond.selects "InkBank$Transfers" ({ cls := "InkBank$Transfers", name := "connect", desc := "(II)Z" } : Jvm.MethodName) ({ cls := "InkBank$Transfers", name := "connect", desc := "(II)Z" } : Jvm.MethodName)) ∈ TT := tt_4 (List.mem_of_getElem? (i := 208) rfl) rfl
theorem wd_4_209 : (Jvm.Cond.code ({ cls := "InkBank$Transfers", name := "connect", desc := "(II)Z" } : Jvm.MethodName) prog_7_method_10_code (7 : Nat) (Option.some Jvm.ClassFile.FieldType.boolean)) ∈ TT := tt_4 (List.mem_of_getElem? (i := 209) rfl) rfl
theorem wd_4_210 : (Jvm.Cond.methodLink "InkBankLaw" (89 : Nat) ({ cls := "InkBank", name := "movementAmount", desc := "(I)I" } : Jvm.MethodName)) ∈ TT := tt_4 (List.mem_of_getElem? (i := 210) rfl) rfl
theorem wd_4_211 : (Jvm.Cond.instanceMethod ({ cls := "InkBank", name := "movementAmount", desc := "(I)I" } : Jvm.MethodName)) ∈ TT := tt_4 (List.mem_of_getElem? (i := 211) rfl) rfl
theorem wd_4_212 : (Jvm.Cond.selects "InkBank" ({ cls := "InkBank", name := "movementAmount", desc := "(I)I" } : Jvm.MethodName) ({ cls := "InkBank", name := "movementAmount", desc := "(I)I" } : Jvm.MethodName)) ∈ TT := tt_4 (List.mem_of_getElem? (i := 212) rfl) rfl
theorem wd_4_213 : (Jvm.Cond.code ({ cls := "InkBank", name := "movementAmount", desc := "(I)I" } : Jvm.MethodName) prog_1_method_39_code (2 : Nat) (Option.some Jvm.ClassFile.FieldType.int)) ∈ TT := tt_4 (List.mem_of_getElem? (i := 213) rfl) rfl
theorem wd_4_214 : (Jvm.Cond.methodLink "InkBank" (249 : Nat) ({ cls := "InkBank", name := "requireMovement", desc := "(I)I" } : Jvm.MethodName)) ∈ TT := tt_4 (List.mem_of_getElem? (i := 214) rfl) rfl
theorem wd_4_216 : (Jvm.Cond.instanceMethod ({ cls := "InkBank", name := "requireMovement", desc := "(I)I" } : Jvm.MethodName)) ∈ TT := tt_4 (List.mem_of_getElem? (i := 216) rfl) rfl
theorem wd_4_217 : (Jvm.Cond.code ({ cls := "InkBank", name := "requireMovement", desc := "(I)I" } : Jvm.MethodName) prog_1_method_53_code (2 : Nat) (Option.some Jvm.ClassFile.FieldType.int)) ∈ TT := tt_4 (List.mem_of_getElem? (i := 217) rfl) rfl
theorem wd_4_218 : (Jvm.Cond.methodLink "InkBank" (315 : Nat) ({ cls := "InkBank$Journal", name := "slot", desc := "(I)I" } : Jvm.MethodName)) ∈ TT := tt_4 (List.mem_of_getElem? (i := 218) rfl) rfl
theorem wd_4_219 : (Jvm.Cond.instanceMethod ({ cls := "InkBank$Journal", name := "slot", desc := "(I)I" } : Jvm.MethodName)) ∈ TT := tt_4 (List.mem_of_getElem? (i := 219) rfl) rfl
theorem wd_4_220 : (Jvm.Cond.selects "InkBank$Journal" ({ cls := "InkBank$Journal", name := "slot", desc := "(I)I" } : Jvm.MethodName) ({ cls := "InkBank$Journal", name := "slot", desc := "(I)I" } : Jvm.MethodName)) ∈ TT := tt_4 (List.mem_of_getElem? (i := 220) rfl) rfl
theorem wd_4_221 : (Jvm.Cond.code ({ cls := "InkBank$Journal", name := "slot", desc := "(I)I" } : Jvm.MethodName) prog_4_method_3_code (2 : Nat) (Option.some Jvm.ClassFile.FieldType.int)) ∈ TT := tt_4 (List.mem_of_getElem? (i := 221) rfl) rfl
theorem wd_4_222 : (Jvm.Cond.methodLink "InkBankLaw" (92 : Nat) ({ cls := "InkBank", name := "errorPosition", desc := "()I" } : Jvm.MethodName)) ∈ TT := tt_4 (List.mem_of_getElem? (i := 222) rfl) rfl
theorem wd_4_223 : (Jvm.Cond.instanceMethod ({ cls := "InkBank", name := "errorPosition", desc := "()I" } : Jvm.MethodName)) ∈ TT := tt_4 (List.mem_of_getElem? (i := 223) rfl) rfl
theorem wd_4_224 : (Jvm.Cond.selects "InkBank" ({ cls := "InkBank", name := "errorPosition", desc := "()I" } : Jvm.MethodName) ({ cls := "InkBank", name := "errorPosition", desc := "()I" } : Jvm.MethodName)) ∈ TT := tt_4 (List.mem_of_getElem? (i := 224) rfl) rfl
theorem wd_4_225 : (Jvm.Cond.code ({ cls := "InkBank", name := "errorPosition", desc := "()I" } : Jvm.MethodName) prog_1_method_45_code (1 : Nat) (Option.some Jvm.ClassFile.FieldType.int)) ∈ TT := tt_4 (List.mem_of_getElem? (i := 225) rfl) rfl
theorem wd_4_226 : (Jvm.Cond.methodLink "InkBankLaw" (95 : Nat) ({ cls := "InkBank", name := "failedCommand", desc := "()I" } : Jvm.MethodName)) ∈ TT := tt_4 (List.mem_of_getElem? (i := 226) rfl) rfl
theorem wd_4_227 : (Jvm.Cond.instanceMethod ({ cls := "InkBank", name := "failedCommand", desc := "()I" } : Jvm.MethodName)) ∈ TT := tt_4 (List.mem_of_getElem? (i := 227) rfl) rfl
theorem wd_4_228 : (Jvm.Cond.selects "InkBank" ({ cls := "InkBank", name := "failedCommand", desc := "()I" } : Jvm.MethodName) ({ cls := "InkBank", name := "failedCommand", desc := "()I" } : Jvm.MethodName)) ∈ TT := tt_4 (List.mem_of_getElem? (i := 228) rfl) rfl
theorem wd_4_229 : (Jvm.Cond.code ({ cls := "InkBank", name := "failedCommand", desc := "()I" } : Jvm.MethodName) prog_1_method_46_code (1 : Nat) (Option.some Jvm.ClassFile.FieldType.int)) ∈ TT := tt_4 (List.mem_of_getElem? (i := 229) rfl) rfl
theorem wd_4_230 : (Jvm.Cond.methodLink "InkBankLaw" (98 : Nat) ({ cls := "InkBank", name := "daysUntilDue", desc := "(I)I" } : Jvm.MethodName)) ∈ TT := tt_4 (List.mem_of_getElem? (i := 230) rfl) rfl
theorem wd_4_231 : (Jvm.Cond.instanceMethod ({ cls := "InkBank", name := "daysUntilDue", desc := "(I)I" } : Jvm.MethodName)) ∈ TT := tt_4 (List.mem_of_getElem? (i := 231) rfl) rfl
theorem wd_4_232 : (Jvm.Cond.selects "InkBank" ({ cls := "InkBank", name := "daysUntilDue", desc := "(I)I" } : Jvm.MethodName) ({ cls := "InkBank", name := "daysUntilDue", desc := "(I)I" } : Jvm.MethodName)) ∈ TT := tt_4 (List.mem_of_getElem? (i := 232) rfl) rfl
theorem wd_4_233 : (Jvm.Cond.code ({ cls := "InkBank", name := "daysUntilDue", desc := "(I)I" } : Jvm.MethodName) prog_1_method_31_code (2 : Nat) (Option.some Jvm.ClassFile.FieldType.int)) ∈ TT := tt_4 (List.mem_of_getElem? (i := 233) rfl) rfl
theorem wd_4_235 : (Jvm.Cond.instanceMethod ({ cls := "InkBank", name := "limitOf", desc := "(I)I" } : Jvm.MethodName)) ∈ TT := tt_4 (List.mem_of_getElem? (i := 235) rfl) rfl
theorem wd_4_236 : (Jvm.Cond.selects "InkBank" ({ cls := "InkBank", name := "limitOf", desc := "(I)I" } : Jvm.MethodName) ({ cls := "InkBank", name := "limitOf", desc := "(I)I" } : Jvm.MethodName)) ∈ TT := tt_4 (List.mem_of_getElem? (i := 236) rfl) rfl
theorem wd_4_237 : (Jvm.Cond.code ({ cls := "InkBank", name := "limitOf", desc := "(I)I" } : Jvm.MethodName) prog_1_method_9_code (2 : Nat) (Option.some Jvm.ClassFile.FieldType.int)) ∈ TT := tt_4 (List.mem_of_getElem? (i := 237) rfl) rfl
theorem wd_4_239 : (Jvm.Cond.instanceMethod ({ cls := "InkBank", name := "kindOf", desc := "(I)I" } : Jvm.MethodName)) ∈ TT := tt_4 (List.mem_of_getElem? (i := 239) rfl) rfl
theorem wd_5_0 : (Jvm.Cond.selects "InkBank" ({ cls := "InkBank", name := "kindOf", desc := "(I)I" } : Jvm.MethodName) ({ cls := "InkBank", name := "kindOf", desc := "(I)I" } : Jvm.MethodName)) ∈ TT := tt_5 (List.mem_of_getElem? (i := 0) rfl) rfl
theorem wd_5_1 : (Jvm.Cond.code ({ cls := "InkBank", name := "kindOf", desc := "(I)I" } : Jvm.MethodName) prog_1_method_7_code (2 : Nat) (Option.some Jvm.ClassFile.FieldType.int)) ∈ TT := tt_5 (List.mem_of_getElem? (i := 1) rfl) rfl
theorem wd_5_7 : (Jvm.Cond.instanceMethod ({ cls := "InkBank", name := "availableIn", desc := "(I)I" } : Jvm.MethodName)) ∈ TT := tt_5 (List.mem_of_getElem? (i := 7) rfl) rfl
theorem wd_5_8 : (Jvm.Cond.selects "InkBank" ({ cls := "InkBank", name := "availableIn", desc := "(I)I" } : Jvm.MethodName) ({ cls := "InkBank", name := "availableIn", desc := "(I)I" } : Jvm.MethodName)) ∈ TT := tt_5 (List.mem_of_getElem? (i := 8) rfl) rfl
theorem wd_5_9 : (Jvm.Cond.code ({ cls := "InkBank", name := "availableIn", desc := "(I)I" } : Jvm.MethodName) prog_1_method_10_code (2 : Nat) (Option.some Jvm.ClassFile.FieldType.int)) ∈ TT := tt_5 (List.mem_of_getElem? (i := 9) rfl) rfl
theorem wd_5_10 : (Jvm.Cond.methodLink "InkBank" (115 : Nat) ({ cls := "InkBank$Accounts", name := "available", desc := "(I)I" } : Jvm.MethodName)) ∈ TT := tt_5 (List.mem_of_getElem? (i := 10) rfl) rfl
theorem wd_5_12 : (Jvm.Cond.instanceMethod ({ cls := "InkBank", name := "interestOf", desc := "(I)I" } : Jvm.MethodName)) ∈ TT := tt_5 (List.mem_of_getElem? (i := 12) rfl) rfl
theorem wd_5_13 : (Jvm.Cond.selects "InkBank" ({ cls := "InkBank", name := "interestOf", desc := "(I)I" } : Jvm.MethodName) ({ cls := "InkBank", name := "interestOf", desc := "(I)I" } : Jvm.MethodName)) ∈ TT := tt_5 (List.mem_of_getElem? (i := 13) rfl) rfl
theorem wd_5_14 : (Jvm.Cond.code ({ cls := "InkBank", name := "interestOf", desc := "(I)I" } : Jvm.MethodName) prog_1_method_12_code (2 : Nat) (Option.some Jvm.ClassFile.FieldType.int)) ∈ TT := tt_5 (List.mem_of_getElem? (i := 14) rfl) rfl
theorem wd_5_15 : (Jvm.Cond.methodLink "InkBank" (122 : Nat) ({ cls := "InkBank$Accounts", name := "interest", desc := "(I)I" } : Jvm.MethodName)) ∈ TT := tt_5 (List.mem_of_getElem? (i := 15) rfl) rfl
theorem wd_5_16 : (Jvm.Cond.methodLink "InkBankLaw" (155 : Nat) ({ cls := "InkBank", name := "wasTouched", desc := "(I)Z" } : Jvm.MethodName)) ∈ TT := tt_5 (List.mem_of_getElem? (i := 16) rfl) rfl
theorem wd_5_17 : (Jvm.Cond.instanceMethod ({ cls := "InkBank", name := "wasTouched", desc := "(I)Z" } : Jvm.MethodName)) ∈ TT := tt_5 (List.mem_of_getElem? (i := 17) rfl) rfl
theorem wd_5_18 : (Jvm.Cond.selects "InkBank" ({ cls := "InkBank", name := "wasTouched", desc := "(I)Z" } : Jvm.MethodName) ({ cls := "InkBank", name := "wasTouched", desc := "(I)Z" } : Jvm.MethodName)) ∈ TT := tt_5 (List.mem_of_getElem? (i := 18) rfl) rfl
theorem wd_5_19 : (Jvm.Cond.code ({ cls := "InkBank", name := "wasTouched", desc := "(I)Z" } : Jvm.MethodName) prog_1_method_11_code (2 : Nat) (Option.some Jvm.ClassFile.FieldType.boolean)) ∈ TT := tt_5 (List.mem_of_getElem? (i := 19) rfl) rfl
theorem wd_5_22 : (Jvm.Cond.code ({ cls := "InkBankLaw", name := "interest", desc := "(IIIZ)I" } : Jvm.MethodName) method_13_code (6 : Nat) (Option.some Jvm.ClassFile.FieldType.int)) ∈ TT := tt_5 (List.mem_of_getElem? (i := 22) rfl) rfl
theorem wd_5_23 : (Jvm.Cond.methodLink "InkBankLaw" (174 : Nat) ({ cls := "java/lang/Math", name := "min", desc := "(II)I" } : Jvm.MethodName)) ∈ TT := tt_5 (List.mem_of_getElem? (i := 23) rfl) rfl
theorem wd_5_25 : (Jvm.Cond.instanceMethod ({ cls := "InkBank", name := "writeStatement", desc := "(I)I" } : Jvm.MethodName)) ∈ TT := tt_5 (List.mem_of_getElem? (i := 25) rfl) rfl
theorem wd_5_26 : (Jvm.Cond.selects "InkBank" ({ cls := "InkBank", name := "writeStatement", desc := "(I)I" } : Jvm.MethodName) ({ cls := "InkBank", name := "writeStatement", desc := "(I)I" } : Jvm.MethodName)) ∈ TT := tt_5 (List.mem_of_getElem? (i := 26) rfl) rfl
theorem wd_5_27 : (Jvm.Cond.code ({ cls := "InkBank", name := "writeStatement", desc := "(I)I" } : Jvm.MethodName) prog_1_method_41_code (3 : Nat) (Option.some Jvm.ClassFile.FieldType.int)) ∈ TT := tt_5 (List.mem_of_getElem? (i := 27) rfl) rfl
theorem wd_5_28 : (Jvm.Cond.methodLink "InkBank" (255 : Nat) ({ cls := "java/lang/StringBuilder", name := "setLength", desc := "(I)V" } : Jvm.MethodName)) ∈ TT := tt_5 (List.mem_of_getElem? (i := 28) rfl) rfl
theorem wd_5_29 : (Jvm.Cond.instanceMethod ({ cls := "java/lang/StringBuilder", name := "setLength", desc := "(I)V" } : Jvm.MethodName)) ∈ TT := tt_5 (List.mem_of_getElem? (i := 29) rfl) rfl
theorem wd_5_30 : (Jvm.Cond.selects "java/lang/StringBuilder" ({ cls := "java/lang/StringBuilder", name := "setLength", desc := "(I)V" } : Jvm.MethodName) ({ cls := "java/lang/StringBuilder", name := "setLength", desc := "(I)V" } : Jvm.MethodName)) ∈ TT := tt_5 (List.mem_of_getElem? (i := 30) rfl) rfl
theorem wd_5_31 : (Jvm.Cond.code ({ cls := "java/lang/StringBuilder", name := "setLength", desc := "(I)V" } : Jvm.MethodName) prog_28_method_89_code (2 : Nat) (Option.none : Option Jvm.ClassFile.FieldType)) ∈ TT := tt_5 (List.mem_of_getElem? (i := 31) rfl) rfl
theorem wd_5_32 : (Jvm.Cond.methodLink "java/lang/StringBuilder" (333 : Nat) ({ cls := "java/lang/AbstractStringBuilder", name := "setLength", desc := "(I)V" } : Jvm.MethodName)) ∈ TT := tt_5 (List.mem_of_getElem? (i := 32) rfl) rfl
theorem wd_5_34 : (Jvm.Cond.code ({ cls := "java/lang/AbstractStringBuilder", name := "setLength", desc := "(I)V" } : Jvm.MethodName) prog_11_method_13_code (2 : Nat) (Option.none : Option Jvm.ClassFile.FieldType)) ∈ TT := tt_5 (List.mem_of_getElem? (i := 34) rfl) rfl
theorem wd_5_44 : (Jvm.Cond.instanceMethod ({ cls := "java/lang/StringBuilder", name := "append", desc := "(Ljava/lang/String;)Ljava/lang/StringBuilder;" } : Jvm.MethodName)) ∈ TT := tt_5 (List.mem_of_getElem? (i := 44) rfl) rfl
theorem wd_5_45 : (Jvm.Cond.selects "java/lang/StringBuilder" ({ cls := "java/lang/StringBuilder", name := "append", desc := "(Ljava/lang/String;)Ljava/lang/StringBuilder;" } : Jvm.MethodName) ({ cls := "java/lang/StringBuilder", name := "append", desc := "(Ljava/lang/String;)Ljava/lang/StringBuilder;" } : Jvm.MethodName)) ∈ TT := tt_5 (List.mem_of_getElem? (i := 45) rfl) rfl
theorem wd_5_46 : (Jvm.Cond.code ({ cls := "java/lang/StringBuilder", name := "append", desc := "(Ljava/lang/String;)Ljava/lang/StringBuilder;" } : Jvm.MethodName) prog_28_method_7_code (2 : Nat) (Option.some (Jvm.ClassFile.FieldType.object "java/lang/StringBuilder"))) ∈ TT := tt_5 (List.mem_of_getElem? (i := 46) rfl) rfl
theorem wd_5_47 : (Jvm.Cond.methodLink "java/lang/StringBuilder" (29 : Nat) ({ cls := "java/lang/AbstractStringBuilder", name := "append", desc := "(Ljava/lang/String;)Ljava/lang/AbstractStringBuilder;" } : Jvm.MethodName)) ∈ TT := tt_5 (List.mem_of_getElem? (i := 47) rfl) rfl
theorem wd_5_49 : (Jvm.Cond.code ({ cls := "java/lang/AbstractStringBuilder", name := "append", desc := "(Ljava/lang/String;)Ljava/lang/AbstractStringBuilder;" } : Jvm.MethodName) prog_11_method_22_code (3 : Nat) (Option.some (Jvm.ClassFile.FieldType.object "java/lang/AbstractStringBuilder"))) ∈ TT := tt_5 (List.mem_of_getElem? (i := 49) rfl) rfl
theorem wd_5_54 : (Jvm.Cond.methodLink "java/lang/AbstractStringBuilder" (100 : Nat) ({ cls := "java/lang/AbstractStringBuilder", name := "ensureCapacityInternal", desc := "(I)V" } : Jvm.MethodName)) ∈ TT := tt_5 (List.mem_of_getElem? (i := 54) rfl) rfl
theorem wd_5_56 : (Jvm.Cond.instanceMethod ({ cls := "java/lang/AbstractStringBuilder", name := "ensureCapacityInternal", desc := "(I)V" } : Jvm.MethodName)) ∈ TT := tt_5 (List.mem_of_getElem? (i := 56) rfl) rfl
theorem wd_5_57 : (Jvm.Cond.code ({ cls := "java/lang/AbstractStringBuilder", name := "ensureCapacityInternal", desc := "(I)V" } : Jvm.MethodName) prog_11_method_9_code (3 : Nat) (Option.none : Option Jvm.ClassFile.FieldType)) ∈ TT := tt_5 (List.mem_of_getElem? (i := 57) rfl) rfl
theorem wd_5_81 : (Jvm.Cond.methodLink "java/util/Arrays" (304 : Nat) ({ cls := "java/lang/Math", name := "min", desc := "(II)I" } : Jvm.MethodName)) ∈ TT := tt_5 (List.mem_of_getElem? (i := 81) rfl) rfl
theorem wd_5_82 : (Jvm.Cond.methodLink "java/util/Arrays" (150 : Nat) ({ cls := "java/lang/System", name := "arraycopy", desc := "(Ljava/lang/Object;ILjava/lang/Object;II)V" } : Jvm.MethodName)) ∈ TT := tt_5 (List.mem_of_getElem? (i := 82) rfl) rfl
theorem wd_5_83 : (Jvm.Cond.static ({ cls := "java/lang/System", name := "arraycopy", desc := "(Ljava/lang/Object;ILjava/lang/Object;II)V" } : Jvm.MethodName)) ∈ TT := tt_5 (List.mem_of_getElem? (i := 83) rfl) rfl
theorem wd_5_84 : (Jvm.Cond.native ({ cls := "java/lang/System", name := "arraycopy", desc := "(Ljava/lang/Object;ILjava/lang/Object;II)V" } : Jvm.MethodName)) ∈ TT := tt_5 (List.mem_of_getElem? (i := 84) rfl) rfl
theorem wd_5_85 : (Jvm.Cond.methodLink "java/lang/AbstractStringBuilder" (83 : Nat) ({ cls := "java/lang/AbstractStringBuilder", name := "isLatin1", desc := "()Z" } : Jvm.MethodName)) ∈ TT := tt_5 (List.mem_of_getElem? (i := 85) rfl) rfl
theorem wd_5_86 : (Jvm.Cond.instanceMethod ({ cls := "java/lang/AbstractStringBuilder", name := "isLatin1", desc := "()Z" } : Jvm.MethodName)) ∈ TT := tt_5 (List.mem_of_getElem? (i := 86) rfl) rfl
theorem wd_5_88 : (Jvm.Cond.selects "java/lang/StringBuilder" ({ cls := "java/lang/AbstractStringBuilder", name := "isLatin1", desc := "()Z" } : Jvm.MethodName) ({ cls := "java/lang/AbstractStringBuilder", name := "isLatin1", desc := "()Z" } : Jvm.MethodName)) ∈ TT := tt_5 (List.mem_of_getElem? (i := 88) rfl) rfl
theorem wd_5_89 : (Jvm.Cond.code ({ cls := "java/lang/AbstractStringBuilder", name := "isLatin1", desc := "()Z" } : Jvm.MethodName) prog_11_method_68_code (1 : Nat) (Option.some Jvm.ClassFile.FieldType.boolean)) ∈ TT := tt_5 (List.mem_of_getElem? (i := 89) rfl) rfl
theorem wd_5_96 : (Jvm.Cond.methodLink "java/lang/AbstractStringBuilder" (32 : Nat) ({ cls := "java/lang/String", name := "length", desc := "()I" } : Jvm.MethodName)) ∈ TT := tt_5 (List.mem_of_getElem? (i := 96) rfl) rfl
theorem wd_5_97 : (Jvm.Cond.methodLink "java/lang/AbstractStringBuilder" (208 : Nat) ({ cls := "java/lang/AbstractStringBuilder", name := "putStringAt", desc := "(ILjava/lang/String;)V" } : Jvm.MethodName)) ∈ TT := tt_5 (List.mem_of_getElem? (i := 97) rfl) rfl
theorem wd_5_99 : (Jvm.Cond.instanceMethod ({ cls := "java/lang/AbstractStringBuilder", name := "putStringAt", desc := "(ILjava/lang/String;)V" } : Jvm.MethodName)) ∈ TT := tt_5 (List.mem_of_getElem? (i := 99) rfl) rfl
theorem wd_5_100 : (Jvm.Cond.code ({ cls := "java/lang/AbstractStringBuilder", name := "putStringAt", desc := "(ILjava/lang/String;)V" } : Jvm.MethodName) prog_11_method_73_code (3 : Nat) (Option.none : Option Jvm.ClassFile.FieldType)) ∈ TT := tt_5 (List.mem_of_getElem? (i := 100) rfl) rfl
theorem wd_5_101 : (Jvm.Cond.methodLink "java/lang/AbstractStringBuilder" (397 : Nat) ({ cls := "java/lang/AbstractStringBuilder", name := "inflateIfNeededFor", desc := "(Ljava/lang/String;)V" } : Jvm.MethodName)) ∈ TT := tt_5 (List.mem_of_getElem? (i := 101) rfl) rfl
theorem wd_5_103 : (Jvm.Cond.instanceMethod ({ cls := "java/lang/AbstractStringBuilder", name := "inflateIfNeededFor", desc := "(Ljava/lang/String;)V" } : Jvm.MethodName)) ∈ TT := tt_5 (List.mem_of_getElem? (i := 103) rfl) rfl
theorem wd_5_104 : (Jvm.Cond.code ({ cls := "java/lang/AbstractStringBuilder", name := "inflateIfNeededFor", desc := "(Ljava/lang/String;)V" } : Jvm.MethodName) prog_11_method_71_code (2 : Nat) (Option.none : Option Jvm.ClassFile.FieldType)) ∈ TT := tt_5 (List.mem_of_getElem? (i := 104) rfl) rfl
theorem wd_5_105 : (Jvm.Cond.methodLink "java/lang/AbstractStringBuilder" (40 : Nat) ({ cls := "java/lang/String", name := "coder", desc := "()B" } : Jvm.MethodName)) ∈ TT := tt_5 (List.mem_of_getElem? (i := 105) rfl) rfl
theorem wd_5_125 : (Jvm.Cond.methodLink "java/lang/AbstractStringBuilder" (399 : Nat) ({ cls := "java/lang/String", name := "getBytes", desc := "([BIB)V" } : Jvm.MethodName)) ∈ TT := tt_5 (List.mem_of_getElem? (i := 125) rfl) rfl
theorem wd_5_126 : (Jvm.Cond.instanceMethod ({ cls := "java/lang/String", name := "getBytes", desc := "([BIB)V" } : Jvm.MethodName)) ∈ TT := tt_5 (List.mem_of_getElem? (i := 126) rfl) rfl
theorem wd_5_127 : (Jvm.Cond.selects "java/lang/String" ({ cls := "java/lang/String", name := "getBytes", desc := "([BIB)V" } : Jvm.MethodName) ({ cls := "java/lang/String", name := "getBytes", desc := "([BIB)V" } : Jvm.MethodName)) ∈ TT := tt_5 (List.mem_of_getElem? (i := 127) rfl) rfl
theorem wd_5_128 : (Jvm.Cond.code ({ cls := "java/lang/String", name := "getBytes", desc := "([BIB)V" } : Jvm.MethodName) prog_27_method_147_code (4 : Nat) (Option.none : Option Jvm.ClassFile.FieldType)) ∈ TT := tt_5 (List.mem_of_getElem? (i := 128) rfl) rfl
theorem wd_5_129 : (Jvm.Cond.methodLink "java/lang/String" (212 : Nat) ({ cls := "java/lang/System", name := "arraycopy", desc := "(Ljava/lang/Object;ILjava/lang/Object;II)V" } : Jvm.MethodName)) ∈ TT := tt_5 (List.mem_of_getElem? (i := 129) rfl) rfl
theorem wd_5_132 : (Jvm.Cond.instanceMethod ({ cls := "java/lang/StringBuilder", name := "append", desc := "(I)Ljava/lang/StringBuilder;" } : Jvm.MethodName)) ∈ TT := tt_5 (List.mem_of_getElem? (i := 132) rfl) rfl
theorem wd_5_133 : (Jvm.Cond.selects "java/lang/StringBuilder" ({ cls := "java/lang/StringBuilder", name := "append", desc := "(I)Ljava/lang/StringBuilder;" } : Jvm.MethodName) ({ cls := "java/lang/StringBuilder", name := "append", desc := "(I)Ljava/lang/StringBuilder;" } : Jvm.MethodName)) ∈ TT := tt_5 (List.mem_of_getElem? (i := 133) rfl) rfl
theorem wd_5_134 : (Jvm.Cond.code ({ cls := "java/lang/StringBuilder", name := "append", desc := "(I)Ljava/lang/StringBuilder;" } : Jvm.MethodName) prog_28_method_15_code (2 : Nat) (Option.some (Jvm.ClassFile.FieldType.object "java/lang/StringBuilder"))) ∈ TT := tt_5 (List.mem_of_getElem? (i := 134) rfl) rfl
theorem wd_5_135 : (Jvm.Cond.methodLink "java/lang/StringBuilder" (53 : Nat) ({ cls := "java/lang/AbstractStringBuilder", name := "append", desc := "(I)Ljava/lang/AbstractStringBuilder;" } : Jvm.MethodName)) ∈ TT := tt_5 (List.mem_of_getElem? (i := 135) rfl) rfl
theorem wd_5_137 : (Jvm.Cond.code ({ cls := "java/lang/AbstractStringBuilder", name := "append", desc := "(I)Ljava/lang/AbstractStringBuilder;" } : Jvm.MethodName) prog_11_method_32_code (4 : Nat) (Option.some (Jvm.ClassFile.FieldType.object "java/lang/AbstractStringBuilder"))) ∈ TT := tt_5 (List.mem_of_getElem? (i := 137) rfl) rfl
theorem wd_5_138 : (Jvm.Cond.methodLink "java/lang/AbstractStringBuilder" (245 : Nat) ({ cls := "java/lang/Integer", name := "stringSize", desc := "(I)I" } : Jvm.MethodName)) ∈ TT := tt_5 (List.mem_of_getElem? (i := 138) rfl) rfl
theorem wd_5_139 : (Jvm.Cond.static ({ cls := "java/lang/Integer", name := "stringSize", desc := "(I)I" } : Jvm.MethodName)) ∈ TT := tt_5 (List.mem_of_getElem? (i := 139) rfl) rfl
theorem wd_5_140 : (Jvm.Cond.code ({ cls := "java/lang/Integer", name := "stringSize", desc := "(I)I" } : Jvm.MethodName) prog_23_method_13_code (4 : Nat) (Option.some Jvm.ClassFile.FieldType.int)) ∈ TT := tt_5 (List.mem_of_getElem? (i := 140) rfl) rfl
theorem wd_5_141 : (Jvm.Cond.methodLink "java/lang/AbstractStringBuilder" (248 : Nat) ({ cls := "java/lang/Integer", name := "getChars", desc := "(II[B)I" } : Jvm.MethodName)) ∈ TT := tt_5 (List.mem_of_getElem? (i := 141) rfl) rfl
theorem wd_5_142 : (Jvm.Cond.static ({ cls := "java/lang/Integer", name := "getChars", desc := "(II[B)I" } : Jvm.MethodName)) ∈ TT := tt_5 (List.mem_of_getElem? (i := 142) rfl) rfl
theorem wd_5_143 : (Jvm.Cond.code ({ cls := "java/lang/Integer", name := "getChars", desc := "(II[B)I" } : Jvm.MethodName) prog_23_method_12_code (7 : Nat) (Option.some Jvm.ClassFile.FieldType.int)) ∈ TT := tt_5 (List.mem_of_getElem? (i := 143) rfl) rfl
theorem wd_5_144 : (Jvm.Cond.fieldLink "java/lang/Integer" (83 : Nat) "java/lang/Integer" "DigitOnes" "[B") ∈ TT := tt_5 (List.mem_of_getElem? (i := 144) rfl) rfl
theorem wd_5_146 : (Jvm.Cond.fieldLink "java/lang/Integer" (87 : Nat) "java/lang/Integer" "DigitTens" "[B") ∈ TT := tt_5 (List.mem_of_getElem? (i := 146) rfl) rfl
theorem wd_5_157 : (Jvm.Cond.instanceMethod ({ cls := "java/lang/StringBuilder", name := "toString", desc := "()Ljava/lang/String;" } : Jvm.MethodName)) ∈ TT := tt_5 (List.mem_of_getElem? (i := 157) rfl) rfl
theorem wd_5_158 : (Jvm.Cond.selects "java/lang/StringBuilder" ({ cls := "java/lang/StringBuilder", name := "toString", desc := "()Ljava/lang/String;" } : Jvm.MethodName) ({ cls := "java/lang/StringBuilder", name := "toString", desc := "()Ljava/lang/String;" } : Jvm.MethodName)) ∈ TT := tt_5 (List.mem_of_getElem? (i := 158) rfl) rfl
theorem wd_5_159 : (Jvm.Cond.code ({ cls := "java/lang/StringBuilder", name := "toString", desc := "()Ljava/lang/String;" } : Jvm.MethodName) prog_28_method_42_code (1 : Nat) (Option.some (Jvm.ClassFile.FieldType.object "java/lang/String"))) ∈ TT := tt_5 (List.mem_of_getElem? (i := 159) rfl) rfl
theorem wd_5_160 : (Jvm.Cond.classLink "java/lang/StringBuilder" (18 : Nat) "java/lang/String") ∈ TT := tt_5 (List.mem_of_getElem? (i := 160) rfl) rfl
theorem wd_5_161 : (Jvm.Cond.methodLink "java/lang/StringBuilder" (137 : Nat) ({ cls := "java/lang/String", name := "<init>", desc := "(Ljava/lang/StringBuilder;)V" } : Jvm.MethodName)) ∈ TT := tt_5 (List.mem_of_getElem? (i := 161) rfl) rfl
theorem wd_5_162 : (Jvm.Cond.instanceMethod ({ cls := "java/lang/String", name := "<init>", desc := "(Ljava/lang/StringBuilder;)V" } : Jvm.MethodName)) ∈ TT := tt_5 (List.mem_of_getElem? (i := 162) rfl) rfl
theorem wd_5_163 : (Jvm.Cond.code ({ cls := "java/lang/String", name := "<init>", desc := "(Ljava/lang/StringBuilder;)V" } : Jvm.MethodName) prog_27_method_53_code (2 : Nat) (Option.none : Option Jvm.ClassFile.FieldType)) ∈ TT := tt_5 (List.mem_of_getElem? (i := 163) rfl) rfl
theorem wd_5_164 : (Jvm.Cond.methodLink "java/lang/String" (489 : Nat) ({ cls := "java/lang/String", name := "<init>", desc := "(Ljava/lang/AbstractStringBuilder;Ljava/lang/Void;)V" } : Jvm.MethodName)) ∈ TT := tt_5 (List.mem_of_getElem? (i := 164) rfl) rfl
theorem wd_5_165 : (Jvm.Cond.instanceMethod ({ cls := "java/lang/String", name := "<init>", desc := "(Ljava/lang/AbstractStringBuilder;Ljava/lang/Void;)V" } : Jvm.MethodName)) ∈ TT := tt_5 (List.mem_of_getElem? (i := 165) rfl) rfl
theorem wd_5_166 : (Jvm.Cond.code ({ cls := "java/lang/String", name := "<init>", desc := "(Ljava/lang/AbstractStringBuilder;Ljava/lang/Void;)V" } : Jvm.MethodName) prog_27_method_150_code (5 : Nat) (Option.none : Option Jvm.ClassFile.FieldType)) ∈ TT := tt_5 (List.mem_of_getElem? (i := 166) rfl) rfl
theorem wd_5_167 : (Jvm.Cond.methodLink "java/lang/String" (1 : Nat) ({ cls := "java/lang/Object", name := "<init>", desc := "()V" } : Jvm.MethodName)) ∈ TT := tt_5 (List.mem_of_getElem? (i := 167) rfl) rfl
theorem wd_5_168 : (Jvm.Cond.methodLink "java/lang/String" (552 : Nat) ({ cls := "java/lang/AbstractStringBuilder", name := "getValue", desc := "()[B" } : Jvm.MethodName)) ∈ TT := tt_5 (List.mem_of_getElem? (i := 168) rfl) rfl
theorem wd_5_169 : (Jvm.Cond.instanceMethod ({ cls := "java/lang/AbstractStringBuilder", name := "getValue", desc := "()[B" } : Jvm.MethodName)) ∈ TT := tt_5 (List.mem_of_getElem? (i := 169) rfl) rfl
theorem wd_5_171 : (Jvm.Cond.selects "java/lang/StringBuilder" ({ cls := "java/lang/AbstractStringBuilder", name := "getValue", desc := "()[B" } : Jvm.MethodName) ({ cls := "java/lang/AbstractStringBuilder", name := "getValue", desc := "()[B" } : Jvm.MethodName)) ∈ TT := tt_5 (List.mem_of_getElem? (i := 171) rfl) rfl
theorem wd_5_172 : (Jvm.Cond.code ({ cls := "java/lang/AbstractStringBuilder", name := "getValue", desc := "()[B" } : Jvm.MethodName) prog_11_method_64_code (1 : Nat) (Option.some (Jvm.ClassFile.FieldType.array Jvm.ClassFile.FieldType.byte))) ∈ TT := tt_5 (List.mem_of_getElem? (i := 172) rfl) rfl
theorem wd_5_177 : (Jvm.Cond.instanceMethod ({ cls := "java/lang/StringBuilder", name := "length", desc := "()I" } : Jvm.MethodName)) ∈ TT := tt_5 (List.mem_of_getElem? (i := 177) rfl) rfl
theorem wd_5_178 : (Jvm.Cond.code ({ cls := "java/lang/StringBuilder", name := "length", desc := "()I" } : Jvm.MethodName) prog_28_method_93_code (1 : Nat) (Option.some Jvm.ClassFile.FieldType.int)) ∈ TT := tt_5 (List.mem_of_getElem? (i := 178) rfl) rfl
theorem wd_5_179 : (Jvm.Cond.methodLink "java/lang/StringBuilder" (343 : Nat) ({ cls := "java/lang/AbstractStringBuilder", name := "length", desc := "()I" } : Jvm.MethodName)) ∈ TT := tt_5 (List.mem_of_getElem? (i := 179) rfl) rfl
theorem wd_5_180 : (Jvm.Cond.code ({ cls := "java/lang/AbstractStringBuilder", name := "length", desc := "()I" } : Jvm.MethodName) prog_11_method_6_code (1 : Nat) (Option.some Jvm.ClassFile.FieldType.int)) ∈ TT := tt_5 (List.mem_of_getElem? (i := 180) rfl) rfl
theorem wd_5_181 : (Jvm.Cond.methodLink "java/lang/String" (1047 : Nat) ({ cls := "java/lang/AbstractStringBuilder", name := "isLatin1", desc := "()Z" } : Jvm.MethodName)) ∈ TT := tt_5 (List.mem_of_getElem? (i := 181) rfl) rfl
theorem wd_5_182 : (Jvm.Cond.methodLink "java/lang/String" (54 : Nat) ({ cls := "java/util/Arrays", name := "copyOfRange", desc := "([BII)[B" } : Jvm.MethodName)) ∈ TT := tt_5 (List.mem_of_getElem? (i := 182) rfl) rfl
theorem wd_5_183 : (Jvm.Cond.static ({ cls := "java/util/Arrays", name := "copyOfRange", desc := "([BII)[B" } : Jvm.MethodName)) ∈ TT := tt_5 (List.mem_of_getElem? (i := 183) rfl) rfl
theorem wd_5_184 : (Jvm.Cond.code ({ cls := "java/util/Arrays", name := "copyOfRange", desc := "([BII)[B" } : Jvm.MethodName) prog_37_method_132_code (3 : Nat) (Option.some (Jvm.ClassFile.FieldType.array Jvm.ClassFile.FieldType.byte))) ∈ TT := tt_5 (List.mem_of_getElem? (i := 184) rfl) rfl
theorem wd_5_185 : (Jvm.Cond.methodLink "java/util/Arrays" (339 : Nat) ({ cls := "java/util/Arrays", name := "copyOfRangeByte", desc := "([BII)[B" } : Jvm.MethodName)) ∈ TT := tt_5 (List.mem_of_getElem? (i := 185) rfl) rfl
theorem wd_5_186 : (Jvm.Cond.static ({ cls := "java/util/Arrays", name := "copyOfRangeByte", desc := "([BII)[B" } : Jvm.MethodName)) ∈ TT := tt_5 (List.mem_of_getElem? (i := 186) rfl) rfl
theorem wd_5_187 : (Jvm.Cond.code ({ cls := "java/util/Arrays", name := "copyOfRangeByte", desc := "([BII)[B" } : Jvm.MethodName) prog_37_method_133_code (5 : Nat) (Option.some (Jvm.ClassFile.FieldType.array Jvm.ClassFile.FieldType.byte))) ∈ TT := tt_5 (List.mem_of_getElem? (i := 187) rfl) rfl
theorem wd_5_188 : (Jvm.Cond.methodLink "java/util/Arrays" (343 : Nat) ({ cls := "java/util/Arrays", name := "checkLength", desc := "(II)V" } : Jvm.MethodName)) ∈ TT := tt_5 (List.mem_of_getElem? (i := 188) rfl) rfl
theorem wd_5_189 : (Jvm.Cond.static ({ cls := "java/util/Arrays", name := "checkLength", desc := "(II)V" } : Jvm.MethodName)) ∈ TT := tt_5 (List.mem_of_getElem? (i := 189) rfl) rfl
theorem wd_5_190 : (Jvm.Cond.code ({ cls := "java/util/Arrays", name := "checkLength", desc := "(II)V" } : Jvm.MethodName) prog_37_method_131_code (2 : Nat) (Option.none : Option Jvm.ClassFile.FieldType)) ∈ TT := tt_5 (List.mem_of_getElem? (i := 190) rfl) rfl
theorem wd_5_212 : (Jvm.Cond.fieldLink "java/lang/String" (9 : Nat) "java/lang/String" "value" "[B") ∈ TT := tt_5 (List.mem_of_getElem? (i := 212) rfl) rfl
theorem wd_5_213 : (Jvm.Cond.fieldLink "java/lang/String" (15 : Nat) "java/lang/String" "coder" "B") ∈ TT := tt_5 (List.mem_of_getElem? (i := 213) rfl) rfl
theorem wd_6_14 : (Jvm.Cond.methodLink "InkBank" (260 : Nat) ({ cls := "java/lang/String", name := "charAt", desc := "(I)C" } : Jvm.MethodName)) ∈ TT := tt_6 (List.mem_of_getElem? (i := 14) rfl) rfl
theorem wd_6_15 : (Jvm.Cond.methodLink "InkBank" (266 : Nat) ({ cls := "java/lang/StringBuilder", name := "append", desc := "(C)Ljava/lang/StringBuilder;" } : Jvm.MethodName)) ∈ TT := tt_6 (List.mem_of_getElem? (i := 15) rfl) rfl
theorem wd_6_16 : (Jvm.Cond.instanceMethod ({ cls := "java/lang/StringBuilder", name := "append", desc := "(C)Ljava/lang/StringBuilder;" } : Jvm.MethodName)) ∈ TT := tt_6 (List.mem_of_getElem? (i := 16) rfl) rfl
theorem wd_6_17 : (Jvm.Cond.selects "java/lang/StringBuilder" ({ cls := "java/lang/StringBuilder", name := "append", desc := "(C)Ljava/lang/StringBuilder;" } : Jvm.MethodName) ({ cls := "java/lang/StringBuilder", name := "append", desc := "(C)Ljava/lang/StringBuilder;" } : Jvm.MethodName)) ∈ TT := tt_6 (List.mem_of_getElem? (i := 17) rfl) rfl
theorem wd_6_18 : (Jvm.Cond.code ({ cls := "java/lang/StringBuilder", name := "append", desc := "(C)Ljava/lang/StringBuilder;" } : Jvm.MethodName) prog_28_method_14_code (2 : Nat) (Option.some (Jvm.ClassFile.FieldType.object "java/lang/StringBuilder"))) ∈ TT := tt_6 (List.mem_of_getElem? (i := 18) rfl) rfl
theorem wd_6_19 : (Jvm.Cond.methodLink "java/lang/StringBuilder" (50 : Nat) ({ cls := "java/lang/AbstractStringBuilder", name := "append", desc := "(C)Ljava/lang/AbstractStringBuilder;" } : Jvm.MethodName)) ∈ TT := tt_6 (List.mem_of_getElem? (i := 19) rfl) rfl
theorem wd_6_21 : (Jvm.Cond.code ({ cls := "java/lang/AbstractStringBuilder", name := "append", desc := "(C)Ljava/lang/AbstractStringBuilder;" } : Jvm.MethodName) prog_11_method_31_code (2 : Nat) (Option.some (Jvm.ClassFile.FieldType.object "java/lang/AbstractStringBuilder"))) ∈ TT := tt_6 (List.mem_of_getElem? (i := 21) rfl) rfl
theorem wd_6_22 : (Jvm.Cond.methodLink "java/lang/AbstractStringBuilder" (191 : Nat) ({ cls := "java/lang/StringLatin1", name := "canEncode", desc := "(C)Z" } : Jvm.MethodName)) ∈ TT := tt_6 (List.mem_of_getElem? (i := 22) rfl) rfl
theorem wd_6_23 : (Jvm.Cond.static ({ cls := "java/lang/StringLatin1", name := "canEncode", desc := "(C)Z" } : Jvm.MethodName)) ∈ TT := tt_6 (List.mem_of_getElem? (i := 23) rfl) rfl
theorem wd_6_24 : (Jvm.Cond.code ({ cls := "java/lang/StringLatin1", name := "canEncode", desc := "(C)Z" } : Jvm.MethodName) prog_30_method_3_code (1 : Nat) (Option.some Jvm.ClassFile.FieldType.boolean)) ∈ TT := tt_6 (List.mem_of_getElem? (i := 24) rfl) rfl
theorem wd_6_28 : (Jvm.Cond.methodLink "InkBank" (270 : Nat) ({ cls := "java/lang/StringBuilder", name := "append", desc := "(I)Ljava/lang/StringBuilder;" } : Jvm.MethodName)) ∈ TT := tt_6 (List.mem_of_getElem? (i := 28) rfl) rfl
theorem wd_6_29 : (Jvm.Cond.methodLink "InkBank" (273 : Nat) ({ cls := "java/lang/StringBuilder", name := "length", desc := "()I" } : Jvm.MethodName)) ∈ TT := tt_6 (List.mem_of_getElem? (i := 29) rfl) rfl
theorem wd_6_30 : (Jvm.Cond.classLink "InkBankLaw" (212 : Nat) "java/lang/StringBuilder") ∈ TT := tt_6 (List.mem_of_getElem? (i := 30) rfl) rfl
theorem wd_6_31 : (Jvm.Cond.methodLink "InkBankLaw" (214 : Nat) ({ cls := "java/lang/StringBuilder", name := "<init>", desc := "()V" } : Jvm.MethodName)) ∈ TT := tt_6 (List.mem_of_getElem? (i := 31) rfl) rfl
theorem wd_6_38 : (Jvm.Cond.methodLink "InkBankLaw" (230 : Nat) ({ cls := "java/lang/StringBuilder", name := "toString", desc := "()Ljava/lang/String;" } : Jvm.MethodName)) ∈ TT := tt_6 (List.mem_of_getElem? (i := 38) rfl) rfl
theorem wd_6_41 : (Jvm.Cond.code ({ cls := "InkBankLaw", name := "isLine", desc := "(LInkBank;ILjava/lang/String;)Z" } : Jvm.MethodName) method_14_code (5 : Nat) (Option.some Jvm.ClassFile.FieldType.boolean)) ∈ TT := tt_6 (List.mem_of_getElem? (i := 41) rfl) rfl
theorem wd_6_42 : (Jvm.Cond.methodLink "InkBankLaw" (177 : Nat) ({ cls := "java/lang/String", name := "length", desc := "()I" } : Jvm.MethodName)) ∈ TT := tt_6 (List.mem_of_getElem? (i := 42) rfl) rfl
theorem wd_6_43 : (Jvm.Cond.methodLink "InkBankLaw" (182 : Nat) ({ cls := "InkBank", name := "statementAt", desc := "(I)C" } : Jvm.MethodName)) ∈ TT := tt_6 (List.mem_of_getElem? (i := 43) rfl) rfl
theorem wd_6_44 : (Jvm.Cond.instanceMethod ({ cls := "InkBank", name := "statementAt", desc := "(I)C" } : Jvm.MethodName)) ∈ TT := tt_6 (List.mem_of_getElem? (i := 44) rfl) rfl
theorem wd_6_45 : (Jvm.Cond.selects "InkBank" ({ cls := "InkBank", name := "statementAt", desc := "(I)C" } : Jvm.MethodName) ({ cls := "InkBank", name := "statementAt", desc := "(I)C" } : Jvm.MethodName)) ∈ TT := tt_6 (List.mem_of_getElem? (i := 45) rfl) rfl
theorem wd_6_46 : (Jvm.Cond.code ({ cls := "InkBank", name := "statementAt", desc := "(I)C" } : Jvm.MethodName) prog_1_method_42_code (2 : Nat) (Option.some Jvm.ClassFile.FieldType.char)) ∈ TT := tt_6 (List.mem_of_getElem? (i := 46) rfl) rfl
theorem wd_6_47 : (Jvm.Cond.methodLink "InkBank" (276 : Nat) ({ cls := "java/lang/StringBuilder", name := "charAt", desc := "(I)C" } : Jvm.MethodName)) ∈ TT := tt_6 (List.mem_of_getElem? (i := 47) rfl) rfl
theorem wd_6_48 : (Jvm.Cond.instanceMethod ({ cls := "java/lang/StringBuilder", name := "charAt", desc := "(I)C" } : Jvm.MethodName)) ∈ TT := tt_6 (List.mem_of_getElem? (i := 48) rfl) rfl
theorem wd_6_49 : (Jvm.Cond.selects "java/lang/StringBuilder" ({ cls := "java/lang/StringBuilder", name := "charAt", desc := "(I)C" } : Jvm.MethodName) ({ cls := "java/lang/StringBuilder", name := "charAt", desc := "(I)C" } : Jvm.MethodName)) ∈ TT := tt_6 (List.mem_of_getElem? (i := 49) rfl) rfl
theorem wd_6_50 : (Jvm.Cond.code ({ cls := "java/lang/StringBuilder", name := "charAt", desc := "(I)C" } : Jvm.MethodName) prog_28_method_88_code (2 : Nat) (Option.some Jvm.ClassFile.FieldType.char)) ∈ TT := tt_6 (List.mem_of_getElem? (i := 50) rfl) rfl
theorem wd_6_51 : (Jvm.Cond.methodLink "java/lang/StringBuilder" (329 : Nat) ({ cls := "java/lang/AbstractStringBuilder", name := "charAt", desc := "(I)C" } : Jvm.MethodName)) ∈ TT := tt_6 (List.mem_of_getElem? (i := 51) rfl) rfl
theorem wd_6_53 : (Jvm.Cond.code ({ cls := "java/lang/AbstractStringBuilder", name := "charAt", desc := "(I)C" } : Jvm.MethodName) prog_11_method_14_code (5 : Nat) (Option.some Jvm.ClassFile.FieldType.char)) ∈ TT := tt_6 (List.mem_of_getElem? (i := 53) rfl) rfl
theorem wd_6_54 : (Jvm.Cond.methodLink "java/lang/AbstractStringBuilder" (138 : Nat) ({ cls := "java/lang/Math", name := "min", desc := "(II)I" } : Jvm.MethodName)) ∈ TT := tt_6 (List.mem_of_getElem? (i := 54) rfl) rfl
theorem wd_6_55 : (Jvm.Cond.methodLink "java/lang/AbstractStringBuilder" (144 : Nat) ({ cls := "java/lang/String", name := "checkIndex", desc := "(II)V" } : Jvm.MethodName)) ∈ TT := tt_6 (List.mem_of_getElem? (i := 55) rfl) rfl
theorem wd_6_57 : (Jvm.Cond.methodLink "InkBankLaw" (185 : Nat) ({ cls := "java/lang/String", name := "charAt", desc := "(I)C" } : Jvm.MethodName)) ∈ TT := tt_6 (List.mem_of_getElem? (i := 57) rfl) rfl
theorem wd_6_59 : (Jvm.Cond.instanceMethod ({ cls := "InkBank", name := "totalInk", desc := "()J" } : Jvm.MethodName)) ∈ TT := tt_6 (List.mem_of_getElem? (i := 59) rfl) rfl
theorem wd_6_60 : (Jvm.Cond.selects "InkBank" ({ cls := "InkBank", name := "totalInk", desc := "()J" } : Jvm.MethodName) ({ cls := "InkBank", name := "totalInk", desc := "()J" } : Jvm.MethodName)) ∈ TT := tt_6 (List.mem_of_getElem? (i := 60) rfl) rfl
theorem wd_6_61 : (Jvm.Cond.code ({ cls := "InkBank", name := "totalInk", desc := "()J" } : Jvm.MethodName) prog_1_method_16_code (1 : Nat) (Option.some Jvm.ClassFile.FieldType.long)) ∈ TT := tt_6 (List.mem_of_getElem? (i := 61) rfl) rfl
theorem wd_6_62 : (Jvm.Cond.methodLink "InkBank" (138 : Nat) ({ cls := "InkBank$Accounts", name := "sum", desc := "()J" } : Jvm.MethodName)) ∈ TT := tt_6 (List.mem_of_getElem? (i := 62) rfl) rfl
theorem wd_6_63 : (Jvm.Cond.instanceMethod ({ cls := "InkBank$Accounts", name := "sum", desc := "()J" } : Jvm.MethodName)) ∈ TT := tt_6 (List.mem_of_getElem? (i := 63) rfl) rfl
theorem wd_6_64 : (Jvm.Cond.selects "InkBank$Accounts" ({ cls := "InkBank$Accounts", name := "sum", desc := "()J" } : Jvm.MethodName) ({ cls := "InkBank$Accounts", name := "sum", desc := "()J" } : Jvm.MethodName)) ∈ TT := tt_6 (List.mem_of_getElem? (i := 64) rfl) rfl
theorem wd_6_65 : (Jvm.Cond.code ({ cls := "InkBank$Accounts", name := "sum", desc := "()J" } : Jvm.MethodName) prog_2_method_8_code (4 : Nat) (Option.some Jvm.ClassFile.FieldType.long)) ∈ TT := tt_6 (List.mem_of_getElem? (i := 65) rfl) rfl
theorem wd_6_67 : (Jvm.Cond.instanceMethod ({ cls := "InkBank", name := "bankBalance", desc := "()I" } : Jvm.MethodName)) ∈ TT := tt_6 (List.mem_of_getElem? (i := 67) rfl) rfl
theorem wd_6_68 : (Jvm.Cond.selects "InkBank" ({ cls := "InkBank", name := "bankBalance", desc := "()I" } : Jvm.MethodName) ({ cls := "InkBank", name := "bankBalance", desc := "()I" } : Jvm.MethodName)) ∈ TT := tt_6 (List.mem_of_getElem? (i := 68) rfl) rfl
theorem wd_6_69 : (Jvm.Cond.code ({ cls := "InkBank", name := "bankBalance", desc := "()I" } : Jvm.MethodName) prog_1_method_15_code (1 : Nat) (Option.some Jvm.ClassFile.FieldType.int)) ∈ TT := tt_6 (List.mem_of_getElem? (i := 69) rfl) rfl
theorem wd_6_71 : (Jvm.Cond.instanceMethod ({ cls := "InkBank", name := "totalInkByMovements", desc := "()J" } : Jvm.MethodName)) ∈ TT := tt_6 (List.mem_of_getElem? (i := 71) rfl) rfl
theorem wd_6_72 : (Jvm.Cond.selects "InkBank" ({ cls := "InkBank", name := "totalInkByMovements", desc := "()J" } : Jvm.MethodName) ({ cls := "InkBank", name := "totalInkByMovements", desc := "()J" } : Jvm.MethodName)) ∈ TT := tt_6 (List.mem_of_getElem? (i := 72) rfl) rfl
theorem wd_6_73 : (Jvm.Cond.code ({ cls := "InkBank", name := "totalInkByMovements", desc := "()J" } : Jvm.MethodName) prog_1_method_17_code (1 : Nat) (Option.some Jvm.ClassFile.FieldType.long)) ∈ TT := tt_6 (List.mem_of_getElem? (i := 73) rfl) rfl
theorem wd_6_75 : (Jvm.Cond.instanceMethod ({ cls := "InkBank", name := "chargesPaid", desc := "()J" } : Jvm.MethodName)) ∈ TT := tt_6 (List.mem_of_getElem? (i := 75) rfl) rfl
theorem wd_6_76 : (Jvm.Cond.selects "InkBank" ({ cls := "InkBank", name := "chargesPaid", desc := "()J" } : Jvm.MethodName) ({ cls := "InkBank", name := "chargesPaid", desc := "()J" } : Jvm.MethodName)) ∈ TT := tt_6 (List.mem_of_getElem? (i := 76) rfl) rfl
theorem wd_6_77 : (Jvm.Cond.code ({ cls := "InkBank", name := "chargesPaid", desc := "()J" } : Jvm.MethodName) prog_1_method_20_code (1 : Nat) (Option.some Jvm.ClassFile.FieldType.long)) ∈ TT := tt_6 (List.mem_of_getElem? (i := 77) rfl) rfl
theorem wd_6_79 : (Jvm.Cond.instanceMethod ({ cls := "InkBank", name := "interestPaid", desc := "()J" } : Jvm.MethodName)) ∈ TT := tt_6 (List.mem_of_getElem? (i := 79) rfl) rfl
theorem wd_6_80 : (Jvm.Cond.selects "InkBank" ({ cls := "InkBank", name := "interestPaid", desc := "()J" } : Jvm.MethodName) ({ cls := "InkBank", name := "interestPaid", desc := "()J" } : Jvm.MethodName)) ∈ TT := tt_6 (List.mem_of_getElem? (i := 80) rfl) rfl
theorem wd_6_81 : (Jvm.Cond.code ({ cls := "InkBank", name := "interestPaid", desc := "()J" } : Jvm.MethodName) prog_1_method_19_code (1 : Nat) (Option.some Jvm.ClassFile.FieldType.long)) ∈ TT := tt_6 (List.mem_of_getElem? (i := 81) rfl) rfl
theorem wd_6_83 : (Jvm.Cond.instanceMethod ({ cls := "InkBank", name := "meanBalance", desc := "()D" } : Jvm.MethodName)) ∈ TT := tt_6 (List.mem_of_getElem? (i := 83) rfl) rfl
theorem wd_6_84 : (Jvm.Cond.selects "InkBank" ({ cls := "InkBank", name := "meanBalance", desc := "()D" } : Jvm.MethodName) ({ cls := "InkBank", name := "meanBalance", desc := "()D" } : Jvm.MethodName)) ∈ TT := tt_6 (List.mem_of_getElem? (i := 84) rfl) rfl
theorem wd_6_85 : (Jvm.Cond.code ({ cls := "InkBank", name := "meanBalance", desc := "()D" } : Jvm.MethodName) prog_1_method_14_code (1 : Nat) (Option.some Jvm.ClassFile.FieldType.double)) ∈ TT := tt_6 (List.mem_of_getElem? (i := 85) rfl) rfl
theorem wd_6_103 : (Jvm.Cond.code ({ cls := "InkBankLaw", name := "areTransfersRight", desc := "(LInkBank;II)Z" } : Jvm.MethodName) method_17_code (9 : Nat) (Option.some Jvm.ClassFile.FieldType.boolean)) ∈ TT := tt_6 (List.mem_of_getElem? (i := 103) rfl) rfl
theorem wd_6_104 : (Jvm.Cond.methodLink "InkBankLaw" (161 : Nat) ({ cls := "InkBank", name := "receiverOf", desc := "(I)I" } : Jvm.MethodName)) ∈ TT := tt_6 (List.mem_of_getElem? (i := 104) rfl) rfl
theorem wd_6_105 : (Jvm.Cond.instanceMethod ({ cls := "InkBank", name := "receiverOf", desc := "(I)I" } : Jvm.MethodName)) ∈ TT := tt_6 (List.mem_of_getElem? (i := 105) rfl) rfl
theorem wd_6_106 : (Jvm.Cond.selects "InkBank" ({ cls := "InkBank", name := "receiverOf", desc := "(I)I" } : Jvm.MethodName) ({ cls := "InkBank", name := "receiverOf", desc := "(I)I" } : Jvm.MethodName)) ∈ TT := tt_6 (List.mem_of_getElem? (i := 106) rfl) rfl
theorem wd_6_107 : (Jvm.Cond.code ({ cls := "InkBank", name := "receiverOf", desc := "(I)I" } : Jvm.MethodName) prog_1_method_29_code (2 : Nat) (Option.some Jvm.ClassFile.FieldType.int)) ∈ TT := tt_6 (List.mem_of_getElem? (i := 107) rfl) rfl
theorem wd_6_108 : (Jvm.Cond.methodLink "InkBankLaw" (158 : Nat) ({ cls := "InkBank", name := "senderOf", desc := "(I)I" } : Jvm.MethodName)) ∈ TT := tt_6 (List.mem_of_getElem? (i := 108) rfl) rfl
theorem wd_6_109 : (Jvm.Cond.instanceMethod ({ cls := "InkBank", name := "senderOf", desc := "(I)I" } : Jvm.MethodName)) ∈ TT := tt_6 (List.mem_of_getElem? (i := 109) rfl) rfl
theorem wd_6_110 : (Jvm.Cond.selects "InkBank" ({ cls := "InkBank", name := "senderOf", desc := "(I)I" } : Jvm.MethodName) ({ cls := "InkBank", name := "senderOf", desc := "(I)I" } : Jvm.MethodName)) ∈ TT := tt_6 (List.mem_of_getElem? (i := 110) rfl) rfl
theorem wd_6_111 : (Jvm.Cond.code ({ cls := "InkBank", name := "senderOf", desc := "(I)I" } : Jvm.MethodName) prog_1_method_28_code (2 : Nat) (Option.some Jvm.ClassFile.FieldType.int)) ∈ TT := tt_6 (List.mem_of_getElem? (i := 111) rfl) rfl
theorem wd_6_112 : (Jvm.Cond.methodLink "InkBankLaw" (249 : Nat) ({ cls := "InkBank", name := "netByTable", desc := "(I)I" } : Jvm.MethodName)) ∈ TT := tt_6 (List.mem_of_getElem? (i := 112) rfl) rfl
theorem wd_6_113 : (Jvm.Cond.instanceMethod ({ cls := "InkBank", name := "netByTable", desc := "(I)I" } : Jvm.MethodName)) ∈ TT := tt_6 (List.mem_of_getElem? (i := 113) rfl) rfl
theorem wd_6_114 : (Jvm.Cond.selects "InkBank" ({ cls := "InkBank", name := "netByTable", desc := "(I)I" } : Jvm.MethodName) ({ cls := "InkBank", name := "netByTable", desc := "(I)I" } : Jvm.MethodName)) ∈ TT := tt_6 (List.mem_of_getElem? (i := 114) rfl) rfl
theorem wd_6_115 : (Jvm.Cond.code ({ cls := "InkBank", name := "netByTable", desc := "(I)I" } : Jvm.MethodName) prog_1_method_35_code (4 : Nat) (Option.some Jvm.ClassFile.FieldType.int)) ∈ TT := tt_6 (List.mem_of_getElem? (i := 115) rfl) rfl
theorem wd_6_116 : (Jvm.Cond.methodLink "InkBank" (230 : Nat) ({ cls := "InkBank", name := "fillSums", desc := "()V" } : Jvm.MethodName)) ∈ TT := tt_6 (List.mem_of_getElem? (i := 116) rfl) rfl
theorem wd_6_118 : (Jvm.Cond.instanceMethod ({ cls := "InkBank", name := "fillSums", desc := "()V" } : Jvm.MethodName)) ∈ TT := tt_6 (List.mem_of_getElem? (i := 118) rfl) rfl
theorem wd_6_119 : (Jvm.Cond.code ({ cls := "InkBank", name := "fillSums", desc := "()V" } : Jvm.MethodName) prog_1_method_54_code (3 : Nat) (Option.none : Option Jvm.ClassFile.FieldType)) ∈ TT := tt_6 (List.mem_of_getElem? (i := 119) rfl) rfl
theorem wd_6_120 : (Jvm.Cond.methodLink "InkBankLaw" (245 : Nat) ({ cls := "InkBankLaw", name := "leads", desc := "(LInkBank;III)Z" } : Jvm.MethodName)) ∈ TT := tt_6 (List.mem_of_getElem? (i := 120) rfl) rfl
theorem wd_6_121 : (Jvm.Cond.static ({ cls := "InkBankLaw", name := "leads", desc := "(LInkBank;III)Z" } : Jvm.MethodName)) ∈ TT := tt_6 (List.mem_of_getElem? (i := 121) rfl) rfl
theorem wd_6_122 : (Jvm.Cond.code ({ cls := "InkBankLaw", name := "leads", desc := "(LInkBank;III)Z" } : Jvm.MethodName) method_16_code (6 : Nat) (Option.some Jvm.ClassFile.FieldType.boolean)) ∈ TT := tt_6 (List.mem_of_getElem? (i := 122) rfl) rfl
theorem wd_6_125 : (Jvm.Cond.code ({ cls := "InkBankLaw", name := "arePredictionsRight", desc := "(LInkBank;I)Z" } : Jvm.MethodName) method_18_code (16 : Nat) (Option.some Jvm.ClassFile.FieldType.boolean)) ∈ TT := tt_6 (List.mem_of_getElem? (i := 125) rfl) rfl
theorem wd_6_126 : (Jvm.Cond.methodLink "InkBankLaw" (252 : Nat) ({ cls := "InkBank", name := "save", desc := "()I" } : Jvm.MethodName)) ∈ TT := tt_6 (List.mem_of_getElem? (i := 126) rfl) rfl
theorem wd_6_127 : (Jvm.Cond.instanceMethod ({ cls := "InkBank", name := "save", desc := "()I" } : Jvm.MethodName)) ∈ TT := tt_6 (List.mem_of_getElem? (i := 127) rfl) rfl
theorem wd_6_128 : (Jvm.Cond.selects "InkBank" ({ cls := "InkBank", name := "save", desc := "()I" } : Jvm.MethodName) ({ cls := "InkBank", name := "save", desc := "()I" } : Jvm.MethodName)) ∈ TT := tt_6 (List.mem_of_getElem? (i := 128) rfl) rfl
theorem wd_6_129 : (Jvm.Cond.code ({ cls := "InkBank", name := "save", desc := "()I" } : Jvm.MethodName) prog_1_method_48_code (1 : Nat) (Option.some Jvm.ClassFile.FieldType.int)) ∈ TT := tt_6 (List.mem_of_getElem? (i := 129) rfl) rfl
theorem wd_6_130 : (Jvm.Cond.methodLink "InkBankLaw" (133 : Nat) ({ cls := "InkBank", name := "bounceCount", desc := "()I" } : Jvm.MethodName)) ∈ TT := tt_6 (List.mem_of_getElem? (i := 130) rfl) rfl
theorem wd_6_131 : (Jvm.Cond.instanceMethod ({ cls := "InkBank", name := "bounceCount", desc := "()I" } : Jvm.MethodName)) ∈ TT := tt_6 (List.mem_of_getElem? (i := 131) rfl) rfl
theorem wd_6_132 : (Jvm.Cond.selects "InkBank" ({ cls := "InkBank", name := "bounceCount", desc := "()I" } : Jvm.MethodName) ({ cls := "InkBank", name := "bounceCount", desc := "()I" } : Jvm.MethodName)) ∈ TT := tt_6 (List.mem_of_getElem? (i := 132) rfl) rfl
theorem wd_6_133 : (Jvm.Cond.code ({ cls := "InkBank", name := "bounceCount", desc := "()I" } : Jvm.MethodName) prog_1_method_33_code (1 : Nat) (Option.some Jvm.ClassFile.FieldType.int)) ∈ TT := tt_6 (List.mem_of_getElem? (i := 133) rfl) rfl
theorem wd_6_134 : (Jvm.Cond.methodLink "InkBankLaw" (255 : Nat) ({ cls := "InkBank", name := "restore", desc := "()I" } : Jvm.MethodName)) ∈ TT := tt_6 (List.mem_of_getElem? (i := 134) rfl) rfl
theorem wd_6_135 : (Jvm.Cond.instanceMethod ({ cls := "InkBank", name := "restore", desc := "()I" } : Jvm.MethodName)) ∈ TT := tt_6 (List.mem_of_getElem? (i := 135) rfl) rfl
theorem wd_6_136 : (Jvm.Cond.selects "InkBank" ({ cls := "InkBank", name := "restore", desc := "()I" } : Jvm.MethodName) ({ cls := "InkBank", name := "restore", desc := "()I" } : Jvm.MethodName)) ∈ TT := tt_6 (List.mem_of_getElem? (i := 136) rfl) rfl
theorem wd_6_137 : (Jvm.Cond.code ({ cls := "InkBank", name := "restore", desc := "()I" } : Jvm.MethodName) prog_1_method_49_code (1 : Nat) (Option.some Jvm.ClassFile.FieldType.int)) ∈ TT := tt_6 (List.mem_of_getElem? (i := 137) rfl) rfl
theorem wd_6_140 : (Jvm.Cond.code ({ cls := "InkBankLaw", name := "isJournalRight", desc := "(LInkBank;)Z" } : Jvm.MethodName) method_19_code (6 : Nat) (Option.some Jvm.ClassFile.FieldType.boolean)) ∈ TT := tt_6 (List.mem_of_getElem? (i := 140) rfl) rfl
theorem wd_6_141 : (Jvm.Cond.methodLink "InkBankLaw" (164 : Nat) ({ cls := "InkBank", name := "journalLength", desc := "()I" } : Jvm.MethodName)) ∈ TT := tt_6 (List.mem_of_getElem? (i := 141) rfl) rfl
theorem wd_6_142 : (Jvm.Cond.instanceMethod ({ cls := "InkBank", name := "journalLength", desc := "()I" } : Jvm.MethodName)) ∈ TT := tt_6 (List.mem_of_getElem? (i := 142) rfl) rfl
theorem wd_6_143 : (Jvm.Cond.selects "InkBank" ({ cls := "InkBank", name := "journalLength", desc := "()I" } : Jvm.MethodName) ({ cls := "InkBank", name := "journalLength", desc := "()I" } : Jvm.MethodName)) ∈ TT := tt_6 (List.mem_of_getElem? (i := 143) rfl) rfl
theorem wd_6_144 : (Jvm.Cond.code ({ cls := "InkBank", name := "journalLength", desc := "()I" } : Jvm.MethodName) prog_1_method_37_code (1 : Nat) (Option.some Jvm.ClassFile.FieldType.int)) ∈ TT := tt_6 (List.mem_of_getElem? (i := 144) rfl) rfl
theorem wd_6_145 : (Jvm.Cond.methodLink "InkBankLaw" (167 : Nat) ({ cls := "InkBank", name := "movementKind", desc := "(I)C" } : Jvm.MethodName)) ∈ TT := tt_6 (List.mem_of_getElem? (i := 145) rfl) rfl
theorem wd_6_146 : (Jvm.Cond.instanceMethod ({ cls := "InkBank", name := "movementKind", desc := "(I)C" } : Jvm.MethodName)) ∈ TT := tt_6 (List.mem_of_getElem? (i := 146) rfl) rfl
theorem wd_6_147 : (Jvm.Cond.selects "InkBank" ({ cls := "InkBank", name := "movementKind", desc := "(I)C" } : Jvm.MethodName) ({ cls := "InkBank", name := "movementKind", desc := "(I)C" } : Jvm.MethodName)) ∈ TT := tt_6 (List.mem_of_getElem? (i := 147) rfl) rfl
theorem wd_6_148 : (Jvm.Cond.code ({ cls := "InkBank", name := "movementKind", desc := "(I)C" } : Jvm.MethodName) prog_1_method_38_code (2 : Nat) (Option.some Jvm.ClassFile.FieldType.char)) ∈ TT := tt_6 (List.mem_of_getElem? (i := 148) rfl) rfl
theorem wd_6_149 : (Jvm.Cond.methodLink "InkBankLaw" (171 : Nat) ({ cls := "InkBank", name := "movementAccount", desc := "(I)I" } : Jvm.MethodName)) ∈ TT := tt_6 (List.mem_of_getElem? (i := 149) rfl) rfl
theorem wd_6_150 : (Jvm.Cond.instanceMethod ({ cls := "InkBank", name := "movementAccount", desc := "(I)I" } : Jvm.MethodName)) ∈ TT := tt_6 (List.mem_of_getElem? (i := 150) rfl) rfl
theorem wd_6_151 : (Jvm.Cond.selects "InkBank" ({ cls := "InkBank", name := "movementAccount", desc := "(I)I" } : Jvm.MethodName) ({ cls := "InkBank", name := "movementAccount", desc := "(I)I" } : Jvm.MethodName)) ∈ TT := tt_6 (List.mem_of_getElem? (i := 151) rfl) rfl
theorem wd_6_152 : (Jvm.Cond.code ({ cls := "InkBank", name := "movementAccount", desc := "(I)I" } : Jvm.MethodName) prog_1_method_40_code (2 : Nat) (Option.some Jvm.ClassFile.FieldType.int)) ∈ TT := tt_6 (List.mem_of_getElem? (i := 152) rfl) rfl
theorem wd_6_164 : (Jvm.Cond.selects "java/lang/StringBuilder" ({ cls := "java/lang/StringBuilder", name := "length", desc := "()I" } : Jvm.MethodName) ({ cls := "java/lang/StringBuilder", name := "length", desc := "()I" } : Jvm.MethodName)) ∈ TT := tt_6 (List.mem_of_getElem? (i := 164) rfl) rfl
theorem cd_J0_charAt_5068e : Card yJ0_charAt_5068e cJ0_charAt_5068e 2 (some .char) 1 := ⟨wd_4_56, wd_1_10, by decide, by decide, by decide +kernel⟩
theorem cv_J0_charAt_5068e : CardV yJ0_charAt_5068e := ⟨wd_4_54, wd_4_55⟩
theorem cd_J0_checkIndex_df160 : Card yJ0_checkIndex_df160 cJ0_checkIndex_df160 2 none 2 := ⟨wd_4_62, wd_1_10, by decide, by decide, by decide +kernel⟩
theorem cd_J0_coder_7d493 : Card yJ0_coder_7d493 cJ0_coder_7d493 1 (some .byte) 0 := ⟨wd_3_221, wd_1_10, by decide, by decide, by decide +kernel⟩
theorem cv_J0_coder_7d493 : CardV yJ0_coder_7d493 := ⟨wd_3_219, wd_3_220⟩
theorem cd_J0_getBytes_840e7 : Card yJ0_getBytes_840e7 cJ0_getBytes_840e7 4 none 3 := ⟨wd_5_128, wd_1_10, by decide, by decide, by decide +kernel⟩
theorem cv_J0_getBytes_840e7 : CardV yJ0_getBytes_840e7 := ⟨wd_5_126, wd_5_127⟩
theorem cd_J0_isLatin1_aae02 : Card yJ0_isLatin1_aae02 cJ0_isLatin1_aae02 1 (some .boolean) 0 := ⟨wd_3_212, wd_1_10, by decide, by decide, by decide +kernel⟩
theorem cv_J0_isLatin1_aae02 : CardV yJ0_isLatin1_aae02 := ⟨wd_3_210, wd_3_211⟩
theorem cd_J0_length_8abf5 : Card yJ0_length_8abf5 cJ0_length_8abf5 1 (some .int) 0 := ⟨wd_3_217, wd_1_10, by decide, by decide, by decide +kernel⟩
theorem cv_J0_length_8abf5 : CardV yJ0_length_8abf5 := ⟨wd_3_215, wd_3_216⟩
theorem cd_J1_canEncode_fc78d : Card yJ1_canEncode_fc78d cJ1_canEncode_fc78d 1 (some .boolean) 1 := ⟨wd_6_24, wd_1_22, by decide, by decide, by decide +kernel⟩
theorem cd_J1_charAt_3b067 : Card yJ1_charAt_3b067 cJ1_charAt_3b067 2 (some .char) 2 := ⟨wd_4_59, wd_1_22, by decide, by decide, by decide +kernel⟩
theorem cd_J3_checkIndex_8e157 : Card yJ3_checkIndex_8e157 cJ3_checkIndex_8e157 3 (some .int) 3 := ⟨wd_4_65, wd_1_23, by decide, by decide, by decide +kernel⟩
theorem cd_J4_append_15ec4 : Card yJ4_append_15ec4 cJ4_append_15ec4 2 (some (.object "java/lang/StringBuilder")) 1 := ⟨wd_5_46, wd_1_9, by decide, by decide, by decide +kernel⟩
theorem cv_J4_append_15ec4 : CardV yJ4_append_15ec4 := ⟨wd_5_44, wd_5_45⟩
theorem cd_J4_append_bf812 : Card yJ4_append_bf812 cJ4_append_bf812 2 (some (.object "java/lang/StringBuilder")) 1 := ⟨wd_5_134, wd_1_9, by decide, by decide, by decide +kernel⟩
theorem cv_J4_append_bf812 : CardV yJ4_append_bf812 := ⟨wd_5_132, wd_5_133⟩
theorem cd_J4_append_cf468 : Card yJ4_append_cf468 cJ4_append_cf468 2 (some (.object "java/lang/StringBuilder")) 1 := ⟨wd_6_18, wd_1_9, by decide, by decide, by decide +kernel⟩
theorem cv_J4_append_cf468 : CardV yJ4_append_cf468 := ⟨wd_6_16, wd_6_17⟩
theorem cd_J4_charAt_5068e : Card yJ4_charAt_5068e cJ4_charAt_5068e 2 (some .char) 1 := ⟨wd_6_50, wd_1_9, by decide, by decide, by decide +kernel⟩
theorem cv_J4_charAt_5068e : CardV yJ4_charAt_5068e := ⟨wd_6_48, wd_6_49⟩
theorem cd_J4_length_8abf5 : Card yJ4_length_8abf5 cJ4_length_8abf5 1 (some .int) 0 := ⟨wd_5_178, wd_1_9, by decide, by decide, by decide +kernel⟩
theorem cv_J4_length_8abf5 : CardV yJ4_length_8abf5 := ⟨wd_5_177, wd_6_164⟩
theorem cd_J4_setLength_d00df : Card yJ4_setLength_d00df cJ4_setLength_d00df 2 none 1 := ⟨wd_5_31, wd_1_9, by decide, by decide, by decide +kernel⟩
theorem cv_J4_setLength_d00df : CardV yJ4_setLength_d00df := ⟨wd_5_29, wd_5_30⟩
theorem cd_J5_append_3fe6f : Card yJ5_append_3fe6f cJ5_append_3fe6f 2 (some (.object "java/lang/AbstractStringBuilder")) 1 := ⟨wd_6_21, wd_1_8, by decide, by decide, by decide +kernel⟩
theorem cd_J5_append_c97b9 : Card yJ5_append_c97b9 cJ5_append_c97b9 4 (some (.object "java/lang/AbstractStringBuilder")) 1 := ⟨wd_5_137, wd_1_8, by decide, by decide, by decide +kernel⟩
theorem cd_J5_append_cf1ce : Card yJ5_append_cf1ce cJ5_append_cf1ce 3 (some (.object "java/lang/AbstractStringBuilder")) 1 := ⟨wd_5_49, wd_1_8, by decide, by decide, by decide +kernel⟩
theorem cd_J5_charAt_5068e : Card yJ5_charAt_5068e cJ5_charAt_5068e 5 (some .char) 1 := ⟨wd_6_53, wd_1_8, by decide, by decide, by decide +kernel⟩
theorem cd_J5_ensureCapacityInternal_d00df : Card yJ5_ensureCapacityInternal_d00df cJ5_ensureCapacityInternal_d00df 3 none 1 := ⟨wd_5_57, wd_1_8, by decide, by decide, by decide +kernel⟩
theorem cd_J5_inflateIfNeededFor_a7421 : Card yJ5_inflateIfNeededFor_a7421 cJ5_inflateIfNeededFor_a7421 2 none 1 := ⟨wd_5_104, wd_1_8, by decide, by decide, by decide +kernel⟩
theorem cd_J5_isLatin1_aae02 : Card yJ5_isLatin1_aae02 cJ5_isLatin1_aae02 1 (some .boolean) 0 := ⟨wd_5_89, wd_1_8, by decide, by decide, by decide +kernel⟩
theorem cd_J5_length_8abf5 : Card yJ5_length_8abf5 cJ5_length_8abf5 1 (some .int) 0 := ⟨wd_5_180, wd_1_8, by decide, by decide, by decide +kernel⟩
theorem cd_J5_putStringAt_47b60 : Card yJ5_putStringAt_47b60 cJ5_putStringAt_47b60 3 none 2 := ⟨wd_5_100, wd_1_8, by decide, by decide, by decide +kernel⟩
theorem cd_J5_setLength_d00df : Card yJ5_setLength_d00df cJ5_setLength_d00df 2 none 1 := ⟨wd_5_34, wd_1_8, by decide, by decide, by decide +kernel⟩
theorem cd_J6_getChars_ba4f3 : Card yJ6_getChars_ba4f3 cJ6_getChars_ba4f3 7 (some .int) 3 := ⟨wd_5_143, wd_1_30, by decide, by decide, by decide +kernel⟩
theorem cd_J6_stringSize_0f7a4 : Card yJ6_stringSize_0f7a4 cJ6_stringSize_0f7a4 4 (some .int) 1 := ⟨wd_5_140, wd_1_30, by decide, by decide, by decide +kernel⟩
theorem cd_J9_floorMod_7cf53 : Card yJ9_floorMod_7cf53 cJ9_floorMod_7cf53 3 (some .int) 2 := ⟨wd_3_27, wd_1_21, by decide, by decide, by decide +kernel⟩
theorem cd_L_any : Card yL_any cL_any 5 (some .int) 3 := ⟨wd_4_114, wd_1_0, by decide, by decide, by decide +kernel⟩
theorem cd_L_arePredictionsRight : Card yL_arePredictionsRight cL_arePredictionsRight 16 (some .boolean) 2 := ⟨wd_6_125, wd_1_0, by decide, by decide, by decide +kernel⟩
theorem cd_L_areTransfersRight : Card yL_areTransfersRight cL_areTransfersRight 9 (some .boolean) 3 := ⟨wd_6_103, wd_1_0, by decide, by decide, by decide +kernel⟩
theorem cd_L_asked : Card yL_asked cL_asked 4 (some .int) 4 := ⟨wd_4_143, wd_1_0, by decide, by decide, by decide +kernel⟩
theorem cd_L_cell : Card yL_cell cL_cell 3 (some .int) 2 := ⟨wd_2_70, wd_1_0, by decide, by decide, by decide +kernel⟩
theorem cd_L_id : Card yL_id cL_id 2 (some .int) 2 := ⟨wd_4_118, wd_1_0, by decide, by decide, by decide +kernel⟩
theorem cd_L_interest : Card yL_interest cL_interest 6 (some .int) 4 := ⟨wd_5_22, wd_1_0, by decide, by decide, by decide +kernel⟩
theorem cd_L_isJournalRight : Card yL_isJournalRight cL_isJournalRight 6 (some .boolean) 1 := ⟨wd_6_140, wd_1_0, by decide, by decide, by decide +kernel⟩
theorem cd_L_isLine : Card yL_isLine cL_isLine 5 (some .boolean) 3 := ⟨wd_6_41, wd_1_0, by decide, by decide, by decide +kernel⟩
theorem cd_L_lay : Card yL_lay cL_lay 5 none 2 := ⟨wd_2_75, wd_1_0, by decide, by decide, by decide +kernel⟩
theorem cd_L_leads : Card yL_leads cL_leads 6 (some .boolean) 4 := ⟨wd_6_122, wd_1_0, by decide, by decide, by decide +kernel⟩
theorem cd_L_pick : Card yL_pick cL_pick 3 (some .int) 3 := ⟨wd_2_67, wd_1_0, by decide, by decide, by decide +kernel⟩
theorem cd_L_plain : Card yL_plain cL_plain 6 (some .int) 6 := ⟨wd_2_165, wd_1_0, by decide, by decide, by decide +kernel⟩
theorem cd_L_told : Card yL_told cL_told 1 (some .int) 1 := ⟨wd_4_193, wd_1_0, by decide, by decide, by decide +kernel⟩
theorem cd_X0_add : Card yX0_add cX0_add 3 (some .int) 1 := ⟨wd_3_54, wd_1_3, by decide, by decide, by decide +kernel⟩
theorem cv_X0_add : CardV yX0_add := ⟨wd_3_52, wd_3_53⟩
theorem cd_X0_atRank : Card yX0_atRank cX0_atRank 4 (some .int) 1 := ⟨wd_4_160, wd_1_3, by decide, by decide, by decide +kernel⟩
theorem cv_X0_atRank : CardV yX0_atRank := ⟨wd_4_158, wd_4_159⟩
theorem cd_X0_available : Card yX0_available cX0_available 2 (some .int) 1 := ⟨wd_3_92, wd_1_3, by decide, by decide, by decide +kernel⟩
theorem cv_X0_available : CardV yX0_available := ⟨wd_3_90, wd_3_91⟩
theorem cd_X0_changeLimit : Card yX0_changeLimit cX0_changeLimit 4 (some .int) 2 := ⟨wd_3_108, wd_1_3, by decide, by decide, by decide +kernel⟩
theorem cv_X0_changeLimit : CardV yX0_changeLimit := ⟨wd_3_106, wd_3_107⟩
theorem cd_X0_copyFrom : Card yX0_copyFrom cX0_copyFrom 3 none 1 := ⟨wd_3_35, wd_1_3, by decide, by decide, by decide +kernel⟩
theorem cv_X0_copyFrom : CardV yX0_copyFrom := ⟨wd_3_33, wd_3_34⟩
theorem cd_X0_forgetTouches : Card yX0_forgetTouches cX0_forgetTouches 2 none 0 := ⟨wd_3_187, wd_1_3, by decide, by decide, by decide +kernel⟩
theorem cv_X0_forgetTouches : CardV yX0_forgetTouches := ⟨wd_3_185, wd_3_186⟩
theorem cd_X0_fullCharge : Card yX0_fullCharge cX0_fullCharge 2 (some .int) 1 := ⟨wd_3_178, wd_1_3, by decide, by decide, by decide +kernel⟩
theorem cv_X0_fullCharge : CardV yX0_fullCharge := ⟨wd_3_177, (tt_s (List.mem_map.mpr ⟨_, List.mem_of_getElem? (l := lw_privs) (i := 6) rfl, rfl⟩) rfl)⟩
theorem cd_X0_has : Card yX0_has cX0_has 2 (some .boolean) 1 := ⟨wd_3_70, wd_1_3, by decide, by decide, by decide +kernel⟩
theorem cv_X0_has : CardV yX0_has := ⟨wd_3_68, wd_3_69⟩
theorem cd_X0_interest : Card yX0_interest cX0_interest 4 (some .int) 1 := ⟨wd_3_174, wd_1_3, by decide, by decide, by decide +kernel⟩
theorem cv_X0_interest : CardV yX0_interest := ⟨wd_3_172, wd_3_173⟩
theorem cd_X0_rankOf : Card yX0_rankOf cX0_rankOf 6 (some .int) 1 := ⟨wd_4_164, wd_1_3, by decide, by decide, by decide +kernel⟩
theorem cv_X0_rankOf : CardV yX0_rankOf := ⟨wd_4_163, (tt_s (List.mem_map.mpr ⟨_, List.mem_of_getElem? (l := lw_privs) (i := 13) rfl, rfl⟩) rfl)⟩
theorem cd_X0_sum : Card yX0_sum cX0_sum 4 (some .long) 0 := ⟨wd_6_65, wd_1_3, by decide, by decide, by decide +kernel⟩
theorem cv_X0_sum : CardV yX0_sum := ⟨wd_6_63, wd_6_64⟩
theorem cd_X1_remember : Card yX1_remember cX1_remember 2 none 1 := ⟨wd_3_24, wd_1_6, by decide, by decide, by decide +kernel⟩
theorem cv_X1_remember : CardV yX1_remember := ⟨wd_3_22, wd_3_23⟩
theorem cd_X2_add : Card yX2_add cX2_add 4 none 3 := ⟨wd_3_78, wd_1_5, by decide, by decide, by decide +kernel⟩
theorem cv_X2_add : CardV yX2_add := ⟨wd_3_76, wd_3_77⟩
theorem cd_X2_copyFrom : Card yX2_copyFrom cX2_copyFrom 3 none 1 := ⟨wd_3_47, wd_1_5, by decide, by decide, by decide +kernel⟩
theorem cv_X2_copyFrom : CardV yX2_copyFrom := ⟨wd_3_45, wd_3_46⟩
theorem cd_X2_slot : Card yX2_slot cX2_slot 2 (some .int) 1 := ⟨wd_4_221, wd_1_5, by decide, by decide, by decide +kernel⟩
theorem cv_X2_slot : CardV yX2_slot := ⟨wd_4_219, wd_4_220⟩
theorem cd_X3_argumentFault : Card yX3_argumentFault cX3_argumentFault 5 (some .int) 4 := ⟨wd_3_66, wd_1_2, by decide, by decide, by decide +kernel⟩
theorem cv_X3_argumentFault : CardV yX3_argumentFault := ⟨wd_3_65, (tt_s (List.mem_map.mpr ⟨_, List.mem_of_getElem? (l := lw_privs) (i := 1) rfl, rfl⟩) rfl)⟩
theorem cd_X3_balanceAfterFault : Card yX3_balanceAfterFault cX3_balanceAfterFault 3 (some .int) 2 := ⟨wd_4_172, wd_1_2, by decide, by decide, by decide +kernel⟩
theorem cv_X3_balanceAfterFault : CardV yX3_balanceAfterFault := ⟨wd_4_170, wd_4_171⟩
theorem cd_X3_cancelFault : Card yX3_cancelFault cX3_cancelFault 2 (some .int) 1 := ⟨wd_3_128, wd_1_2, by decide, by decide, by decide +kernel⟩
theorem cv_X3_cancelFault : CardV yX3_cancelFault := ⟨wd_3_126, wd_3_127⟩
theorem cd_X3_collect : Card yX3_collect cX3_collect 5 none 3 := ⟨wd_3_165, wd_1_2, by decide, by decide, by decide +kernel⟩
theorem cv_X3_collect : CardV yX3_collect := ⟨wd_3_164, (tt_s (List.mem_map.mpr ⟨_, List.mem_of_getElem? (l := lw_privs) (i := 4) rfl, rfl⟩) rfl)⟩
theorem cd_X3_copyFrom : Card yX3_copyFrom cX3_copyFrom 2 none 1 := ⟨wd_3_31, wd_1_2, by decide, by decide, by decide +kernel⟩
theorem cv_X3_copyFrom : CardV yX3_copyFrom := ⟨wd_3_29, wd_3_30⟩
theorem cd_X3_covers : Card yX3_covers cX3_covers 2 (some .boolean) 1 := ⟨wd_3_161, wd_1_2, by decide, by decide, by decide +kernel⟩
theorem cv_X3_covers : CardV yX3_covers := ⟨wd_3_159, wd_3_160⟩
theorem cd_X3_endDaysFault : Card yX3_endDaysFault cX3_endDaysFault 2 (some .int) 1 := ⟨wd_3_144, wd_1_2, by decide, by decide, by decide +kernel⟩
theorem cv_X3_endDaysFault : CardV yX3_endDaysFault := ⟨wd_3_142, wd_3_143⟩
theorem cd_X3_limitFault : Card yX3_limitFault cX3_limitFault 5 (some .int) 2 := ⟨wd_3_104, wd_1_2, by decide, by decide, by decide +kernel⟩
theorem cv_X3_limitFault : CardV yX3_limitFault := ⟨wd_3_102, wd_3_103⟩
theorem cd_X3_openFault : Card yX3_openFault cX3_openFault 2 (some .int) 1 := ⟨wd_2_173, wd_1_2, by decide, by decide, by decide +kernel⟩
theorem cv_X3_openFault : CardV yX3_openFault := ⟨wd_2_171, wd_2_172⟩
theorem cd_X3_passDays : Card yX3_passDays cX3_passDays 4 (some .int) 1 := ⟨wd_3_148, wd_1_2, by decide, by decide, by decide +kernel⟩
theorem cv_X3_passDays : CardV yX3_passDays := ⟨wd_3_146, wd_3_147⟩
theorem cd_X3_payIn : Card yX3_payIn cX3_payIn 3 (some .int) 2 := ⟨wd_3_74, wd_1_2, by decide, by decide, by decide +kernel⟩
theorem cv_X3_payIn : CardV yX3_payIn := ⟨wd_3_72, wd_3_73⟩
theorem cd_X3_payInFault : Card yX3_payInFault cX3_payInFault 4 (some .int) 2 := ⟨wd_3_62, wd_1_2, by decide, by decide, by decide +kernel⟩
theorem cv_X3_payInFault : CardV yX3_payInFault := ⟨wd_3_60, wd_3_61⟩
theorem cd_X3_payInterest : Card yX3_payInterest cX3_payInterest 3 none 0 := ⟨wd_3_170, wd_1_2, by decide, by decide, by decide +kernel⟩
theorem cv_X3_payInterest : CardV yX3_payInterest := ⟨wd_3_169, (tt_s (List.mem_map.mpr ⟨_, List.mem_of_getElem? (l := lw_privs) (i := 5) rfl, rfl⟩) rfl)⟩
theorem cd_X3_payOut : Card yX3_payOut cX3_payOut 3 (some .int) 2 := ⟨wd_3_96, wd_1_2, by decide, by decide, by decide +kernel⟩
theorem cv_X3_payOut : CardV yX3_payOut := ⟨wd_3_94, wd_3_95⟩
theorem cd_X3_payOutFault : Card yX3_payOutFault cX3_payOutFault 4 (some .int) 2 := ⟨wd_3_88, wd_1_2, by decide, by decide, by decide +kernel⟩
theorem cv_X3_payOutFault : CardV yX3_payOutFault := ⟨wd_3_86, wd_3_87⟩
theorem cd_X3_sealFault : Card yX3_sealFault cX3_sealFault 5 (some .int) 4 := ⟨wd_3_116, wd_1_2, by decide, by decide, by decide +kernel⟩
theorem cv_X3_sealFault : CardV yX3_sealFault := ⟨wd_3_114, wd_3_115⟩
theorem cd_X3_settle : Card yX3_settle cX3_settle 4 (some .boolean) 1 := ⟨wd_3_157, wd_1_2, by decide, by decide, by decide +kernel⟩
theorem cv_X3_settle : CardV yX3_settle := ⟨wd_3_156, (tt_s (List.mem_map.mpr ⟨_, List.mem_of_getElem? (l := lw_privs) (i := 3) rfl, rfl⟩) rfl)⟩
theorem cd_X3_settleDue : Card yX3_settleDue cX3_settleDue 4 (some .int) 0 := ⟨wd_3_152, wd_1_2, by decide, by decide, by decide +kernel⟩
theorem cv_X3_settleDue : CardV yX3_settleDue := ⟨wd_3_151, (tt_s (List.mem_map.mpr ⟨_, List.mem_of_getElem? (l := lw_privs) (i := 2) rfl, rfl⟩) rfl)⟩
theorem cd_X3_settleDueBefore : Card yX3_settleDueBefore cX3_settleDueBefore 3 none 1 := ⟨wd_4_189, wd_1_2, by decide, by decide, by decide +kernel⟩
theorem cv_X3_settleDueBefore : CardV yX3_settleDueBefore := ⟨wd_4_187, wd_4_188⟩
theorem cd_X5_add : Card yX5_add cX5_add 6 (some .int) 4 := ⟨wd_3_120, wd_1_4, by decide, by decide, by decide +kernel⟩
theorem cv_X5_add : CardV yX5_add := ⟨wd_3_118, wd_3_119⟩
theorem cd_X5_connect : Card yX5_connect cX5_connect 7 (some .boolean) 2 := ⟨wd_4_209, wd_1_4, by decide, by decide, by decide +kernel⟩
theorem cv_X5_connect : CardV yX5_connect := ⟨wd_4_207, wd_4_208⟩
theorem cd_X5_copyFrom : Card yX5_copyFrom cX5_copyFrom 3 none 1 := ⟨wd_3_39, wd_1_4, by decide, by decide, by decide +kernel⟩
theorem cv_X5_copyFrom : CardV yX5_copyFrom := ⟨wd_3_37, wd_3_38⟩
theorem cd_X5_copySlot : Card yX5_copySlot cX5_copySlot 4 none 3 := ⟨wd_3_43, wd_1_4, by decide, by decide, by decide +kernel⟩
theorem cv_X5_copySlot : CardV yX5_copySlot := ⟨wd_3_41, wd_3_42⟩
theorem cd_X5_find : Card yX5_find cX5_find 3 (some .int) 1 := ⟨wd_3_132, wd_1_4, by decide, by decide, by decide +kernel⟩
theorem cv_X5_find : CardV yX5_find := ⟨wd_3_130, wd_3_131⟩
theorem cd_X5_idAt : Card yX5_idAt cX5_idAt 4 (some .int) 1 := ⟨wd_4_130, wd_1_4, by decide, by decide, by decide +kernel⟩
theorem cv_X5_idAt : CardV yX5_idAt := ⟨wd_4_128, wd_4_129⟩
theorem cd_X5_net : Card yX5_net cX5_net 4 (some .int) 1 := ⟨wd_4_201, wd_1_4, by decide, by decide, by decide +kernel⟩
theorem cv_X5_net : CardV yX5_net := ⟨wd_4_199, wd_4_200⟩
theorem cd_X5_positionOf : Card yX5_positionOf cX5_positionOf 6 (some .int) 1 := ⟨wd_4_134, wd_1_4, by decide, by decide, by decide +kernel⟩
theorem cv_X5_positionOf : CardV yX5_positionOf := ⟨wd_4_133, (tt_s (List.mem_map.mpr ⟨_, List.mem_of_getElem? (l := lw_privs) (i := 11) rfl, rfl⟩) rfl)⟩
theorem cd_X5_remove : Card yX5_remove cX5_remove 5 (some .int) 1 := ⟨wd_3_136, wd_1_4, by decide, by decide, by decide +kernel⟩
theorem cv_X5_remove : CardV yX5_remove := ⟨wd_3_134, wd_3_135⟩
theorem cd_X6_accountAtRank : Card yX6_accountAtRank cX6_accountAtRank 2 (some .int) 1 := ⟨wd_4_156, wd_1_1, by decide, by decide, by decide +kernel⟩
theorem cv_X6_accountAtRank : CardV yX6_accountAtRank := ⟨wd_4_154, wd_4_155⟩
theorem cd_X6_accountCount : Card yX6_accountCount cX6_accountCount 1 (some .int) 0 := ⟨wd_2_64, wd_1_1, by decide, by decide, by decide +kernel⟩
theorem cv_X6_accountCount : CardV yX6_accountCount := ⟨wd_2_62, wd_2_63⟩
theorem cd_X6_amountOf : Card yX6_amountOf cX6_amountOf 2 (some .int) 1 := ⟨wd_4_176, wd_1_1, by decide, by decide, by decide +kernel⟩
theorem cv_X6_amountOf : CardV yX6_amountOf := ⟨wd_4_174, wd_4_175⟩
theorem cd_X6_availableIn : Card yX6_availableIn cX6_availableIn 2 (some .int) 1 := ⟨wd_5_9, wd_1_1, by decide, by decide, by decide +kernel⟩
theorem cv_X6_availableIn : CardV yX6_availableIn := ⟨wd_5_7, wd_5_8⟩
theorem cd_X6_balanceAfter : Card yX6_balanceAfter cX6_balanceAfter 3 (some .int) 2 := ⟨wd_4_168, wd_1_1, by decide, by decide, by decide +kernel⟩
theorem cv_X6_balanceAfter : CardV yX6_balanceAfter := ⟨wd_4_166, wd_4_167⟩
theorem cd_X6_balanceOf : Card yX6_balanceOf cX6_balanceOf 2 (some .int) 1 := ⟨wd_4_147, wd_1_1, by decide, by decide, by decide +kernel⟩
theorem cv_X6_balanceOf : CardV yX6_balanceOf := ⟨wd_4_145, wd_4_146⟩
theorem cd_X6_bankBalance : Card yX6_bankBalance cX6_bankBalance 1 (some .int) 0 := ⟨wd_6_69, wd_1_1, by decide, by decide, by decide +kernel⟩
theorem cv_X6_bankBalance : CardV yX6_bankBalance := ⟨wd_6_67, wd_6_68⟩
theorem cd_X6_bounceCount : Card yX6_bounceCount cX6_bounceCount 1 (some .int) 0 := ⟨wd_6_133, wd_1_1, by decide, by decide, by decide +kernel⟩
theorem cv_X6_bounceCount : CardV yX6_bounceCount := ⟨wd_6_131, wd_6_132⟩
theorem cd_X6_cancel : Card yX6_cancel cX6_cancel 2 (some .int) 1 := ⟨wd_3_124, wd_1_1, by decide, by decide, by decide +kernel⟩
theorem cv_X6_cancel : CardV yX6_cancel := ⟨wd_3_122, wd_3_123⟩
theorem cd_X6_chargesPaid : Card yX6_chargesPaid cX6_chargesPaid 1 (some .long) 0 := ⟨wd_6_77, wd_1_1, by decide, by decide, by decide +kernel⟩
theorem cv_X6_chargesPaid : CardV yX6_chargesPaid := ⟨wd_6_75, wd_6_76⟩
theorem cd_X6_daysUntilDue : Card yX6_daysUntilDue cX6_daysUntilDue 2 (some .int) 1 := ⟨wd_4_233, wd_1_1, by decide, by decide, by decide +kernel⟩
theorem cv_X6_daysUntilDue : CardV yX6_daysUntilDue := ⟨wd_4_231, wd_4_232⟩
theorem cd_X6_deposit : Card yX6_deposit cX6_deposit 3 (some .int) 2 := ⟨wd_3_58, wd_1_1, by decide, by decide, by decide +kernel⟩
theorem cv_X6_deposit : CardV yX6_deposit := ⟨wd_3_56, wd_3_57⟩
theorem cd_X6_endDays : Card yX6_endDays cX6_endDays 2 (some .int) 1 := ⟨wd_3_140, wd_1_1, by decide, by decide, by decide +kernel⟩
theorem cv_X6_endDays : CardV yX6_endDays := ⟨wd_3_138, wd_3_139⟩
theorem cd_X6_errorPosition : Card yX6_errorPosition cX6_errorPosition 1 (some .int) 0 := ⟨wd_4_225, wd_1_1, by decide, by decide, by decide +kernel⟩
theorem cv_X6_errorPosition : CardV yX6_errorPosition := ⟨wd_4_223, wd_4_224⟩
theorem cd_X6_failedCommand : Card yX6_failedCommand cX6_failedCommand 1 (some .int) 0 := ⟨wd_4_229, wd_1_1, by decide, by decide, by decide +kernel⟩
theorem cv_X6_failedCommand : CardV yX6_failedCommand := ⟨wd_4_227, wd_4_228⟩
theorem cd_X6_fillSums : Card yX6_fillSums cX6_fillSums 3 none 0 := ⟨wd_6_119, wd_1_1, by decide, by decide, by decide +kernel⟩
theorem cv_X6_fillSums : CardV yX6_fillSums := ⟨wd_6_118, (tt_s (List.mem_map.mpr ⟨_, List.mem_of_getElem? (l := lw_privs) (i := 16) rfl, rfl⟩) rfl)⟩
theorem cd_X6_interestOf : Card yX6_interestOf cX6_interestOf 2 (some .int) 1 := ⟨wd_5_14, wd_1_1, by decide, by decide, by decide +kernel⟩
theorem cv_X6_interestOf : CardV yX6_interestOf := ⟨wd_5_12, wd_5_13⟩
theorem cd_X6_interestPaid : Card yX6_interestPaid cX6_interestPaid 1 (some .long) 0 := ⟨wd_6_81, wd_1_1, by decide, by decide, by decide +kernel⟩
theorem cv_X6_interestPaid : CardV yX6_interestPaid := ⟨wd_6_79, wd_6_80⟩
theorem cd_X6_isIn : Card yX6_isIn cX6_isIn 3 (some .boolean) 3 := ⟨wd_2_176, wd_1_1, by decide, by decide, by decide +kernel⟩
theorem cd_X6_journalLength : Card yX6_journalLength cX6_journalLength 1 (some .int) 0 := ⟨wd_6_144, wd_1_1, by decide, by decide, by decide +kernel⟩
theorem cv_X6_journalLength : CardV yX6_journalLength := ⟨wd_6_142, wd_6_143⟩
theorem cd_X6_kindOf : Card yX6_kindOf cX6_kindOf 2 (some .int) 1 := ⟨wd_5_1, wd_1_1, by decide, by decide, by decide +kernel⟩
theorem cv_X6_kindOf : CardV yX6_kindOf := ⟨wd_4_239, wd_5_0⟩
theorem cd_X6_leadsTo : Card yX6_leadsTo cX6_leadsTo 3 (some .boolean) 2 := ⟨wd_4_205, wd_1_1, by decide, by decide, by decide +kernel⟩
theorem cv_X6_leadsTo : CardV yX6_leadsTo := ⟨wd_4_203, wd_4_204⟩
theorem cd_X6_limitOf : Card yX6_limitOf cX6_limitOf 2 (some .int) 1 := ⟨wd_4_237, wd_1_1, by decide, by decide, by decide +kernel⟩
theorem cv_X6_limitOf : CardV yX6_limitOf := ⟨wd_4_235, wd_4_236⟩
theorem cd_X6_meanBalance : Card yX6_meanBalance cX6_meanBalance 1 (some .double) 0 := ⟨wd_6_85, wd_1_1, by decide, by decide, by decide +kernel⟩
theorem cv_X6_meanBalance : CardV yX6_meanBalance := ⟨wd_6_83, wd_6_84⟩
theorem cd_X6_movementAccount : Card yX6_movementAccount cX6_movementAccount 2 (some .int) 1 := ⟨wd_6_152, wd_1_1, by decide, by decide, by decide +kernel⟩
theorem cv_X6_movementAccount : CardV yX6_movementAccount := ⟨wd_6_150, wd_6_151⟩
theorem cd_X6_movementAmount : Card yX6_movementAmount cX6_movementAmount 2 (some .int) 1 := ⟨wd_4_213, wd_1_1, by decide, by decide, by decide +kernel⟩
theorem cv_X6_movementAmount : CardV yX6_movementAmount := ⟨wd_4_211, wd_4_212⟩
theorem cd_X6_movementKind : Card yX6_movementKind cX6_movementKind 2 (some .char) 1 := ⟨wd_6_148, wd_1_1, by decide, by decide, by decide +kernel⟩
theorem cv_X6_movementKind : CardV yX6_movementKind := ⟨wd_6_146, wd_6_147⟩
theorem cd_X6_netByTable : Card yX6_netByTable cX6_netByTable 4 (some .int) 1 := ⟨wd_6_115, wd_1_1, by decide, by decide, by decide +kernel⟩
theorem cv_X6_netByTable : CardV yX6_netByTable := ⟨wd_6_113, wd_6_114⟩
theorem cd_X6_netOf : Card yX6_netOf cX6_netOf 2 (some .int) 1 := ⟨wd_4_197, wd_1_1, by decide, by decide, by decide +kernel⟩
theorem cv_X6_netOf : CardV yX6_netOf := ⟨wd_4_195, wd_4_196⟩
theorem cd_X6_open : Card yX6_open cX6_open 2 (some .int) 1 := ⟨wd_2_169, wd_1_1, by decide, by decide, by decide +kernel⟩
theorem cv_X6_open : CardV yX6_open := ⟨wd_2_167, wd_2_168⟩
theorem cd_X6_raise : Card yX6_raise cX6_raise 1 none 1 := ⟨wd_2_179, wd_1_1, by decide, by decide, by decide +kernel⟩
theorem cd_X6_receiverOf : Card yX6_receiverOf cX6_receiverOf 2 (some .int) 1 := ⟨wd_6_107, wd_1_1, by decide, by decide, by decide +kernel⟩
theorem cv_X6_receiverOf : CardV yX6_receiverOf := ⟨wd_6_105, wd_6_106⟩
theorem cd_X6_requireAccount : Card yX6_requireAccount cX6_requireAccount 2 none 1 := ⟨wd_4_151, wd_1_1, by decide, by decide, by decide +kernel⟩
theorem cv_X6_requireAccount : CardV yX6_requireAccount := ⟨wd_4_150, (tt_s (List.mem_map.mpr ⟨_, List.mem_of_getElem? (l := lw_privs) (i := 12) rfl, rfl⟩) rfl)⟩
theorem cd_X6_requireMovement : Card yX6_requireMovement cX6_requireMovement 2 (some .int) 1 := ⟨wd_4_217, wd_1_1, by decide, by decide, by decide +kernel⟩
theorem cv_X6_requireMovement : CardV yX6_requireMovement := ⟨wd_4_216, (tt_s (List.mem_map.mpr ⟨_, List.mem_of_getElem? (l := lw_privs) (i := 15) rfl, rfl⟩) rfl)⟩
theorem cd_X6_requireTransfer : Card yX6_requireTransfer cX6_requireTransfer 3 (some .int) 1 := ⟨wd_4_180, wd_1_1, by decide, by decide, by decide +kernel⟩
theorem cv_X6_requireTransfer : CardV yX6_requireTransfer := ⟨wd_4_179, (tt_s (List.mem_map.mpr ⟨_, List.mem_of_getElem? (l := lw_privs) (i := 14) rfl, rfl⟩) rfl)⟩
theorem cd_X6_restore : Card yX6_restore cX6_restore 1 (some .int) 0 := ⟨wd_6_137, wd_1_1, by decide, by decide, by decide +kernel⟩
theorem cv_X6_restore : CardV yX6_restore := ⟨wd_6_135, wd_6_136⟩
theorem cd_X6_save : Card yX6_save cX6_save 1 (some .int) 0 := ⟨wd_6_129, wd_1_1, by decide, by decide, by decide +kernel⟩
theorem cv_X6_save : CardV yX6_save := ⟨wd_6_127, wd_6_128⟩
theorem cd_X6_seal : Card yX6_seal cX6_seal 5 (some .int) 4 := ⟨wd_3_112, wd_1_1, by decide, by decide, by decide +kernel⟩
theorem cv_X6_seal : CardV yX6_seal := ⟨wd_3_110, wd_3_111⟩
theorem cd_X6_senderOf : Card yX6_senderOf cX6_senderOf 2 (some .int) 1 := ⟨wd_6_111, wd_1_1, by decide, by decide, by decide +kernel⟩
theorem cv_X6_senderOf : CardV yX6_senderOf := ⟨wd_6_109, wd_6_110⟩
theorem cd_X6_setLimit : Card yX6_setLimit cX6_setLimit 3 (some .int) 2 := ⟨wd_3_100, wd_1_1, by decide, by decide, by decide +kernel⟩
theorem cv_X6_setLimit : CardV yX6_setLimit := ⟨wd_3_98, wd_3_99⟩
theorem cd_X6_statementAt : Card yX6_statementAt cX6_statementAt 2 (some .char) 1 := ⟨wd_6_46, wd_1_1, by decide, by decide, by decide +kernel⟩
theorem cv_X6_statementAt : CardV yX6_statementAt := ⟨wd_6_44, wd_6_45⟩
theorem cd_X6_totalInk : Card yX6_totalInk cX6_totalInk 1 (some .long) 0 := ⟨wd_6_61, wd_1_1, by decide, by decide, by decide +kernel⟩
theorem cv_X6_totalInk : CardV yX6_totalInk := ⟨wd_6_59, wd_6_60⟩
theorem cd_X6_totalInkByMovements : Card yX6_totalInkByMovements cX6_totalInkByMovements 1 (some .long) 0 := ⟨wd_6_73, wd_1_1, by decide, by decide, by decide +kernel⟩
theorem cv_X6_totalInkByMovements : CardV yX6_totalInkByMovements := ⟨wd_6_71, wd_6_72⟩
theorem cd_X6_transferAt : Card yX6_transferAt cX6_transferAt 2 (some .int) 1 := ⟨wd_4_126, wd_1_1, by decide, by decide, by decide +kernel⟩
theorem cv_X6_transferAt : CardV yX6_transferAt := ⟨wd_4_124, wd_4_125⟩
theorem cd_X6_transferCount : Card yX6_transferCount cX6_transferCount 1 (some .int) 0 := ⟨wd_4_122, wd_1_1, by decide, by decide, by decide +kernel⟩
theorem cv_X6_transferCount : CardV yX6_transferCount := ⟨wd_4_120, wd_4_121⟩
theorem cd_X6_wasTouched : Card yX6_wasTouched cX6_wasTouched 2 (some .boolean) 1 := ⟨wd_5_19, wd_1_1, by decide, by decide, by decide +kernel⟩
theorem cv_X6_wasTouched : CardV yX6_wasTouched := ⟨wd_5_17, wd_5_18⟩
theorem cd_X6_withdraw : Card yX6_withdraw cX6_withdraw 3 (some .int) 2 := ⟨wd_3_84, wd_1_1, by decide, by decide, by decide +kernel⟩
theorem cv_X6_withdraw : CardV yX6_withdraw := ⟨wd_3_82, wd_3_83⟩
theorem cd_X6_wouldBounce : Card yX6_wouldBounce cX6_wouldBounce 3 (some .boolean) 1 := ⟨wd_4_185, wd_1_1, by decide, by decide, by decide +kernel⟩
theorem cv_X6_wouldBounce : CardV yX6_wouldBounce := ⟨wd_4_183, wd_4_184⟩
theorem cd_X6_writeStatement : Card yX6_writeStatement cX6_writeStatement 3 (some .int) 1 := ⟨wd_5_27, wd_1_1, by decide, by decide, by decide +kernel⟩
theorem cv_X6_writeStatement : CardV yX6_writeStatement := ⟨wd_5_25, wd_5_26⟩
theorem cu_J5_append_3fe6f : CardSU RJ4 yJ5_append_3fe6f := ⟨by decide +kernel, by decide +kernel, by decide +kernel, by decide⟩
theorem cu_J5_append_c97b9 : CardSU RJ4 yJ5_append_c97b9 := ⟨by decide +kernel, by decide +kernel, by decide +kernel, by decide⟩
theorem cu_J5_append_cf1ce : CardSU RJ4 yJ5_append_cf1ce := ⟨by decide +kernel, by decide +kernel, by decide +kernel, by decide⟩
theorem cu_J5_charAt_5068e : CardSU RJ4 yJ5_charAt_5068e := ⟨by decide +kernel, by decide +kernel, by decide +kernel, by decide⟩
theorem cu_J5_length_8abf5 : CardSU RJ4 yJ5_length_8abf5 := ⟨by decide +kernel, by decide +kernel, by decide +kernel, by decide⟩
theorem cu_J5_setLength_d00df : CardSU RJ4 yJ5_setLength_d00df := ⟨by decide +kernel, by decide +kernel, by decide +kernel, by decide⟩
