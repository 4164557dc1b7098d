theorem wd_1_1 : (Jvm.Cond.initialized "InkBank") ∈ TT := tt_1 (List.mem_of_getElem? (i := 1) rfl) rfl
theorem wd_1_2 : (Jvm.Cond.initialized "InkBank$Ledger") ∈ TT := tt_1 (List.mem_of_getElem? (i := 2) rfl) rfl
theorem wd_1_3 : (Jvm.Cond.initialized "InkBank$Accounts") ∈ TT := tt_1 (List.mem_of_getElem? (i := 3) rfl) rfl
theorem wd_1_4 : (Jvm.Cond.initialized "InkBank$Transfers") ∈ TT := tt_1 (List.mem_of_getElem? (i := 4) rfl) rfl
theorem wd_1_5 : (Jvm.Cond.initialized "InkBank$Journal") ∈ TT := tt_1 (List.mem_of_getElem? (i := 5) rfl) rfl
theorem wd_1_6 : (Jvm.Cond.initialized "InkBank$History") ∈ TT := tt_1 (List.mem_of_getElem? (i := 6) rfl) rfl
theorem wd_1_7 : (Jvm.Cond.initialized "InkBank$Reader") ∈ TT := tt_1 (List.mem_of_getElem? (i := 7) rfl) rfl
theorem wd_1_8 : (Jvm.Cond.initialized "java/lang/AbstractStringBuilder") ∈ TT := tt_1 (List.mem_of_getElem? (i := 8) rfl) rfl
theorem wd_1_9 : (Jvm.Cond.initialized "java/lang/StringBuilder") ∈ TT := tt_1 (List.mem_of_getElem? (i := 9) rfl) rfl
theorem wd_1_10 : (Jvm.Cond.initialized "java/lang/String") ∈ TT := tt_1 (List.mem_of_getElem? (i := 10) rfl) rfl
theorem wd_1_12 : (Jvm.Cond.initialized "InkBankModel") ∈ TT := tt_1 (List.mem_of_getElem? (i := 12) rfl) rfl
theorem wd_1_21 : (Jvm.Cond.initialized "java/lang/Math") ∈ TT := tt_1 (List.mem_of_getElem? (i := 21) rfl) rfl
theorem wd_1_28 : (Jvm.Cond.initialized "jdk/internal/util/Preconditions") ∈ TT := tt_1 (List.mem_of_getElem? (i := 28) rfl) rfl
theorem wd_1_29 : (Jvm.Cond.initialized "java/lang/StringLatin1") ∈ TT := tt_1 (List.mem_of_getElem? (i := 29) rfl) rfl
theorem wd_1_31 : (Jvm.Cond.initialized "java/lang/Integer") ∈ TT := tt_1 (List.mem_of_getElem? (i := 31) rfl) rfl
theorem wd_1_53 : (Jvm.Cond.fieldLink "InkBank$Accounts" (25 : Nat) "InkBank$Accounts" "count" "I") ∈ TT := tt_1 (List.mem_of_getElem? (i := 53) rfl) rfl
theorem wd_1_54 : (Jvm.Cond.fieldLink "InkBank$Ledger" (72 : Nat) "InkBank$Accounts" "count" "I") ∈ TT := tt_1 (List.mem_of_getElem? (i := 54) rfl) rfl
theorem wd_1_55 : (Jvm.Cond.fieldLink "InkBank" (99 : Nat) "InkBank$Accounts" "count" "I") ∈ TT := tt_1 (List.mem_of_getElem? (i := 55) rfl) rfl
theorem wd_1_56 : (Jvm.Cond.fieldLink "InkBank$Accounts" (9 : Nat) "InkBank$Accounts" "kinds" "[I") ∈ TT := tt_1 (List.mem_of_getElem? (i := 56) rfl) rfl
theorem wd_1_57 : (Jvm.Cond.fieldLink "InkBank" (105 : Nat) "InkBank$Accounts" "kinds" "[I") ∈ TT := tt_1 (List.mem_of_getElem? (i := 57) rfl) rfl
theorem wd_1_58 : (Jvm.Cond.fieldLink "InkBank$Ledger" (99 : Nat) "InkBank$Accounts" "kinds" "[I") ∈ TT := tt_1 (List.mem_of_getElem? (i := 58) rfl) rfl
theorem wd_1_59 : (Jvm.Cond.fieldLink "InkBank$Accounts" (15 : Nat) "InkBank$Accounts" "balances" "[I") ∈ TT := tt_1 (List.mem_of_getElem? (i := 59) rfl) rfl
theorem wd_1_60 : (Jvm.Cond.fieldLink "InkBank$Ledger" (79 : Nat) "InkBank$Accounts" "balances" "[I") ∈ TT := tt_1 (List.mem_of_getElem? (i := 60) rfl) rfl
theorem wd_1_61 : (Jvm.Cond.fieldLink "InkBank" (109 : Nat) "InkBank$Accounts" "balances" "[I") ∈ TT := tt_1 (List.mem_of_getElem? (i := 61) rfl) rfl
theorem wd_1_62 : (Jvm.Cond.fieldLink "InkBank$Accounts" (18 : Nat) "InkBank$Accounts" "limits" "[I") ∈ TT := tt_1 (List.mem_of_getElem? (i := 62) rfl) rfl
theorem wd_1_63 : (Jvm.Cond.fieldLink "InkBank" (112 : Nat) "InkBank$Accounts" "limits" "[I") ∈ TT := tt_1 (List.mem_of_getElem? (i := 63) rfl) rfl
theorem wd_1_64 : (Jvm.Cond.fieldLink "InkBank$Accounts" (21 : Nat) "InkBank$Accounts" "touched" "[Z") ∈ TT := tt_1 (List.mem_of_getElem? (i := 64) rfl) rfl
theorem wd_1_65 : (Jvm.Cond.fieldLink "InkBank$Ledger" (95 : Nat) "InkBank$Accounts" "touched" "[Z") ∈ TT := tt_1 (List.mem_of_getElem? (i := 65) rfl) rfl
theorem wd_1_66 : (Jvm.Cond.fieldLink "InkBank" (118 : Nat) "InkBank$Accounts" "touched" "[Z") ∈ TT := tt_1 (List.mem_of_getElem? (i := 66) rfl) rfl
theorem wd_1_86 : (Jvm.Cond.fieldLink "InkBank$Transfers" (27 : Nat) "InkBank$Transfers" "count" "I") ∈ TT := tt_1 (List.mem_of_getElem? (i := 86) rfl) rfl
theorem wd_1_87 : (Jvm.Cond.fieldLink "InkBank$Ledger" (102 : Nat) "InkBank$Transfers" "count" "I") ∈ TT := tt_1 (List.mem_of_getElem? (i := 87) rfl) rfl
theorem wd_1_88 : (Jvm.Cond.fieldLink "InkBank" (193 : Nat) "InkBank$Transfers" "count" "I") ∈ TT := tt_1 (List.mem_of_getElem? (i := 88) rfl) rfl
theorem wd_1_89 : (Jvm.Cond.fieldLink "InkBank$Transfers" (31 : Nat) "InkBank$Transfers" "nextId" "I") ∈ TT := tt_1 (List.mem_of_getElem? (i := 89) rfl) rfl
theorem wd_1_90 : (Jvm.Cond.fieldLink "InkBank$Transfers" (9 : Nat) "InkBank$Transfers" "ids" "[I") ∈ TT := tt_1 (List.mem_of_getElem? (i := 90) rfl) rfl
theorem wd_1_91 : (Jvm.Cond.fieldLink "InkBank$Ledger" (126 : Nat) "InkBank$Transfers" "ids" "[I") ∈ TT := tt_1 (List.mem_of_getElem? (i := 91) rfl) rfl
theorem wd_1_92 : (Jvm.Cond.fieldLink "InkBank$Transfers" (15 : Nat) "InkBank$Transfers" "senders" "[I") ∈ TT := tt_1 (List.mem_of_getElem? (i := 92) rfl) rfl
theorem wd_1_93 : (Jvm.Cond.fieldLink "InkBank$Ledger" (129 : Nat) "InkBank$Transfers" "senders" "[I") ∈ TT := tt_1 (List.mem_of_getElem? (i := 93) rfl) rfl
theorem wd_1_94 : (Jvm.Cond.fieldLink "InkBank" (200 : Nat) "InkBank$Transfers" "senders" "[I") ∈ TT := tt_1 (List.mem_of_getElem? (i := 94) rfl) rfl
theorem wd_1_95 : (Jvm.Cond.fieldLink "InkBank$Transfers" (18 : Nat) "InkBank$Transfers" "receivers" "[I") ∈ TT := tt_1 (List.mem_of_getElem? (i := 95) rfl) rfl
theorem wd_1_96 : (Jvm.Cond.fieldLink "InkBank$Ledger" (141 : Nat) "InkBank$Transfers" "receivers" "[I") ∈ TT := tt_1 (List.mem_of_getElem? (i := 96) rfl) rfl
theorem wd_1_97 : (Jvm.Cond.fieldLink "InkBank" (206 : Nat) "InkBank$Transfers" "receivers" "[I") ∈ TT := tt_1 (List.mem_of_getElem? (i := 97) rfl) rfl
theorem wd_1_98 : (Jvm.Cond.fieldLink "InkBank$Transfers" (21 : Nat) "InkBank$Transfers" "amounts" "[I") ∈ TT := tt_1 (List.mem_of_getElem? (i := 98) rfl) rfl
theorem wd_1_99 : (Jvm.Cond.fieldLink "InkBank$Ledger" (132 : Nat) "InkBank$Transfers" "amounts" "[I") ∈ TT := tt_1 (List.mem_of_getElem? (i := 99) rfl) rfl
theorem wd_1_100 : (Jvm.Cond.fieldLink "InkBank" (209 : Nat) "InkBank$Transfers" "amounts" "[I") ∈ TT := tt_1 (List.mem_of_getElem? (i := 100) rfl) rfl
theorem wd_1_101 : (Jvm.Cond.fieldLink "InkBank$Transfers" (24 : Nat) "InkBank$Transfers" "dueDays" "[I") ∈ TT := tt_1 (List.mem_of_getElem? (i := 101) rfl) rfl
theorem wd_1_102 : (Jvm.Cond.fieldLink "InkBank$Ledger" (116 : Nat) "InkBank$Transfers" "dueDays" "[I") ∈ TT := tt_1 (List.mem_of_getElem? (i := 102) rfl) rfl
theorem wd_1_103 : (Jvm.Cond.fieldLink "InkBank" (212 : Nat) "InkBank$Transfers" "dueDays" "[I") ∈ TT := tt_1 (List.mem_of_getElem? (i := 103) rfl) rfl
theorem wd_1_125 : (Jvm.Cond.fieldLink "InkBank$Journal" (22 : Nat) "InkBank$Journal" "length" "I") ∈ TT := tt_1 (List.mem_of_getElem? (i := 125) rfl) rfl
theorem wd_1_126 : (Jvm.Cond.fieldLink "InkBank" (241 : Nat) "InkBank$Journal" "length" "I") ∈ TT := tt_1 (List.mem_of_getElem? (i := 126) rfl) rfl
theorem wd_1_127 : (Jvm.Cond.fieldLink "InkBank$Journal" (26 : Nat) "InkBank$Journal" "newest" "I") ∈ TT := tt_1 (List.mem_of_getElem? (i := 127) rfl) rfl
theorem wd_1_128 : (Jvm.Cond.fieldLink "InkBank$Journal" (9 : Nat) "InkBank$Journal" "kinds" "[C") ∈ TT := tt_1 (List.mem_of_getElem? (i := 128) rfl) rfl
theorem wd_1_129 : (Jvm.Cond.fieldLink "InkBank" (246 : Nat) "InkBank$Journal" "kinds" "[C") ∈ TT := tt_1 (List.mem_of_getElem? (i := 129) rfl) rfl
theorem wd_1_130 : (Jvm.Cond.fieldLink "InkBank$Journal" (15 : Nat) "InkBank$Journal" "amounts" "[I") ∈ TT := tt_1 (List.mem_of_getElem? (i := 130) rfl) rfl
theorem wd_1_131 : (Jvm.Cond.fieldLink "InkBank" (252 : Nat) "InkBank$Journal" "amounts" "[I") ∈ TT := tt_1 (List.mem_of_getElem? (i := 131) rfl) rfl
theorem wd_1_132 : (Jvm.Cond.fieldLink "InkBank$Journal" (19 : Nat) "InkBank$Journal" "accounts" "[I") ∈ TT := tt_1 (List.mem_of_getElem? (i := 132) rfl) rfl
theorem wd_1_133 : (Jvm.Cond.fieldLink "InkBank" (253 : Nat) "InkBank$Journal" "accounts" "[I") ∈ TT := tt_1 (List.mem_of_getElem? (i := 133) rfl) rfl
theorem wd_1_146 : (Jvm.Cond.fieldLink "InkBank$Ledger" (12 : Nat) "InkBank$Ledger" "accounts" "LInkBank$Accounts;") ∈ TT := tt_1 (List.mem_of_getElem? (i := 146) rfl) rfl
theorem wd_1_147 : (Jvm.Cond.fieldLink "InkBank" (71 : Nat) "InkBank$Ledger" "accounts" "LInkBank$Accounts;") ∈ TT := tt_1 (List.mem_of_getElem? (i := 147) rfl) rfl
theorem wd_1_148 : (Jvm.Cond.fieldLink "InkBank$Ledger" (21 : Nat) "InkBank$Ledger" "transfers" "LInkBank$Transfers;") ∈ TT := tt_1 (List.mem_of_getElem? (i := 148) rfl) rfl
theorem wd_1_149 : (Jvm.Cond.fieldLink "InkBank" (179 : Nat) "InkBank$Ledger" "transfers" "LInkBank$Transfers;") ∈ TT := tt_1 (List.mem_of_getElem? (i := 149) rfl) rfl
theorem wd_1_150 : (Jvm.Cond.fieldLink "InkBank$Ledger" (28 : Nat) "InkBank$Ledger" "journal" "LInkBank$Journal;") ∈ TT := tt_1 (List.mem_of_getElem? (i := 150) rfl) rfl
theorem wd_1_151 : (Jvm.Cond.fieldLink "InkBank" (237 : Nat) "InkBank$Ledger" "journal" "LInkBank$Journal;") ∈ TT := tt_1 (List.mem_of_getElem? (i := 151) rfl) rfl
theorem wd_1_152 : (Jvm.Cond.fieldLink "InkBank$Ledger" (42 : Nat) "InkBank$Ledger" "today" "I") ∈ TT := tt_1 (List.mem_of_getElem? (i := 152) rfl) rfl
theorem wd_1_153 : (Jvm.Cond.fieldLink "InkBank" (160 : Nat) "InkBank$Ledger" "today" "I") ∈ TT := tt_1 (List.mem_of_getElem? (i := 153) rfl) rfl
theorem wd_1_154 : (Jvm.Cond.fieldLink "InkBank$Ledger" (46 : Nat) "InkBank$Ledger" "bank" "I") ∈ TT := tt_1 (List.mem_of_getElem? (i := 154) rfl) rfl
theorem wd_1_155 : (Jvm.Cond.fieldLink "InkBank" (142 : Nat) "InkBank$Ledger" "bank" "I") ∈ TT := tt_1 (List.mem_of_getElem? (i := 155) rfl) rfl
theorem wd_1_156 : (Jvm.Cond.fieldLink "InkBank$Ledger" (49 : Nat) "InkBank$Ledger" "bounced" "I") ∈ TT := tt_1 (List.mem_of_getElem? (i := 156) rfl) rfl
theorem wd_1_157 : (Jvm.Cond.fieldLink "InkBank" (224 : Nat) "InkBank$Ledger" "bounced" "I") ∈ TT := tt_1 (List.mem_of_getElem? (i := 157) rfl) rfl
theorem wd_1_158 : (Jvm.Cond.fieldLink "InkBank$Ledger" (52 : Nat) "InkBank$Ledger" "deposited" "J") ∈ TT := tt_1 (List.mem_of_getElem? (i := 158) rfl) rfl
theorem wd_1_159 : (Jvm.Cond.fieldLink "InkBank" (145 : Nat) "InkBank$Ledger" "deposited" "J") ∈ TT := tt_1 (List.mem_of_getElem? (i := 159) rfl) rfl
theorem wd_1_160 : (Jvm.Cond.fieldLink "InkBank$Ledger" (56 : Nat) "InkBank$Ledger" "withdrawn" "J") ∈ TT := tt_1 (List.mem_of_getElem? (i := 160) rfl) rfl
theorem wd_1_161 : (Jvm.Cond.fieldLink "InkBank" (149 : Nat) "InkBank$Ledger" "withdrawn" "J") ∈ TT := tt_1 (List.mem_of_getElem? (i := 161) rfl) rfl
theorem wd_1_162 : (Jvm.Cond.fieldLink "InkBank$Ledger" (59 : Nat) "InkBank$Ledger" "transferred" "J") ∈ TT := tt_1 (List.mem_of_getElem? (i := 162) rfl) rfl
theorem wd_1_163 : (Jvm.Cond.fieldLink "InkBank" (152 : Nat) "InkBank$Ledger" "transferred" "J") ∈ TT := tt_1 (List.mem_of_getElem? (i := 163) rfl) rfl
theorem wd_1_164 : (Jvm.Cond.fieldLink "InkBank$Ledger" (62 : Nat) "InkBank$Ledger" "interest" "J") ∈ TT := tt_1 (List.mem_of_getElem? (i := 164) rfl) rfl
theorem wd_1_165 : (Jvm.Cond.fieldLink "InkBank" (155 : Nat) "InkBank$Ledger" "interest" "J") ∈ TT := tt_1 (List.mem_of_getElem? (i := 165) rfl) rfl
theorem wd_1_166 : (Jvm.Cond.fieldLink "InkBank$Ledger" (65 : Nat) "InkBank$Ledger" "charges" "J") ∈ TT := tt_1 (List.mem_of_getElem? (i := 166) rfl) rfl
theorem wd_1_167 : (Jvm.Cond.fieldLink "InkBank" (157 : Nat) "InkBank$Ledger" "charges" "J") ∈ TT := tt_1 (List.mem_of_getElem? (i := 167) rfl) rfl
theorem wd_1_200 : (Jvm.Cond.fieldLink "InkBank$History" (32 : Nat) "InkBank$History" "length" "I") ∈ TT := tt_1 (List.mem_of_getElem? (i := 200) rfl) rfl
theorem wd_1_201 : (Jvm.Cond.fieldLink "InkBank" (307 : Nat) "InkBank$History" "length" "I") ∈ TT := tt_1 (List.mem_of_getElem? (i := 201) rfl) rfl
theorem wd_1_202 : (Jvm.Cond.fieldLink "InkBank$History" (18 : Nat) "InkBank$History" "newest" "I") ∈ TT := tt_1 (List.mem_of_getElem? (i := 202) rfl) rfl
theorem wd_1_203 : (Jvm.Cond.fieldLink "InkBank$History" (11 : Nat) "InkBank$History" "states" "[LInkBank$Ledger;") ∈ TT := tt_1 (List.mem_of_getElem? (i := 203) rfl) rfl
theorem wd_1_217 : (Jvm.Cond.fieldLink "InkBank$Reader" (9 : Nat) "InkBank$Reader" "text" "[C") ∈ TT := tt_1 (List.mem_of_getElem? (i := 217) rfl) rfl
theorem wd_1_218 : (Jvm.Cond.fieldLink "InkBank$Reader" (19 : Nat) "InkBank$Reader" "length" "I") ∈ TT := tt_1 (List.mem_of_getElem? (i := 218) rfl) rfl
theorem wd_1_219 : (Jvm.Cond.fieldLink "InkBank" (280 : Nat) "InkBank$Reader" "length" "I") ∈ TT := tt_1 (List.mem_of_getElem? (i := 219) rfl) rfl
theorem wd_1_220 : (Jvm.Cond.fieldLink "InkBank$Reader" (23 : Nat) "InkBank$Reader" "position" "I") ∈ TT := tt_1 (List.mem_of_getElem? (i := 220) rfl) rfl
theorem wd_1_221 : (Jvm.Cond.fieldLink "InkBank" (290 : Nat) "InkBank$Reader" "position" "I") ∈ TT := tt_1 (List.mem_of_getElem? (i := 221) rfl) rfl
theorem wd_1_222 : (Jvm.Cond.fieldLink "InkBank$Reader" (42 : Nat) "InkBank$Reader" "verb" "I") ∈ TT := tt_1 (List.mem_of_getElem? (i := 222) rfl) rfl
theorem wd_1_223 : (Jvm.Cond.fieldLink "InkBank" (297 : Nat) "InkBank$Reader" "verb" "I") ∈ TT := tt_1 (List.mem_of_getElem? (i := 223) rfl) rfl
theorem wd_1_224 : (Jvm.Cond.fieldLink "InkBank$Reader" (15 : Nat) "InkBank$Reader" "values" "[I") ∈ TT := tt_1 (List.mem_of_getElem? (i := 224) rfl) rfl
theorem wd_1_225 : (Jvm.Cond.fieldLink "InkBank" (300 : Nat) "InkBank$Reader" "values" "[I") ∈ TT := tt_1 (List.mem_of_getElem? (i := 225) rfl) rfl
theorem wd_2_6 : (Jvm.Cond.fieldLink "java/lang/AbstractStringBuilder" (18 : Nat) "java/lang/String" "COMPACT_STRINGS" "Z") ∈ TT := tt_2 (List.mem_of_getElem? (i := 6) rfl) rfl
theorem wd_2_15 : (Jvm.Cond.fieldLink "java/lang/AbstractStringBuilder" (15 : Nat) "java/lang/AbstractStringBuilder" "value" "[B") ∈ TT := tt_2 (List.mem_of_getElem? (i := 15) rfl) rfl
theorem wd_2_16 : (Jvm.Cond.fieldLink "java/lang/AbstractStringBuilder" (22 : Nat) "java/lang/AbstractStringBuilder" "coder" "B") ∈ TT := tt_2 (List.mem_of_getElem? (i := 16) rfl) rfl
theorem wd_2_17 : (Jvm.Cond.fieldLink "java/lang/AbstractStringBuilder" (73 : Nat) "java/lang/AbstractStringBuilder" "maybeLatin1" "Z") ∈ TT := tt_2 (List.mem_of_getElem? (i := 17) rfl) rfl
theorem wd_2_19 : (Jvm.Cond.fieldLink "java/lang/AbstractStringBuilder" (79 : Nat) "java/lang/AbstractStringBuilder" "count" "I") ∈ TT := tt_2 (List.mem_of_getElem? (i := 19) rfl) rfl
theorem wd_2_32 : (Jvm.Cond.fieldLink "InkBank" (10 : Nat) "InkBank" "now" "LInkBank$Ledger;") ∈ TT := tt_2 (List.mem_of_getElem? (i := 32) rfl) rfl
theorem wd_2_33 : (Jvm.Cond.fieldLink "InkBank" (16 : Nat) "InkBank" "trial" "LInkBank$Ledger;") ∈ TT := tt_2 (List.mem_of_getElem? (i := 33) rfl) rfl
theorem wd_2_34 : (Jvm.Cond.fieldLink "InkBank" (19 : Nat) "InkBank" "snapshot" "LInkBank$Ledger;") ∈ TT := tt_2 (List.mem_of_getElem? (i := 34) rfl) rfl
theorem wd_2_35 : (Jvm.Cond.fieldLink "InkBank" (25 : Nat) "InkBank" "history" "LInkBank$History;") ∈ TT := tt_2 (List.mem_of_getElem? (i := 35) rfl) rfl
theorem wd_2_36 : (Jvm.Cond.fieldLink "InkBank" (32 : Nat) "InkBank" "reader" "LInkBank$Reader;") ∈ TT := tt_2 (List.mem_of_getElem? (i := 36) rfl) rfl
theorem wd_2_37 : (Jvm.Cond.fieldLink "InkBank" (39 : Nat) "InkBank" "statement" "Ljava/lang/StringBuilder;") ∈ TT := tt_2 (List.mem_of_getElem? (i := 37) rfl) rfl
theorem wd_2_38 : (Jvm.Cond.fieldLink "InkBank" (45 : Nat) "InkBank" "sums" "[[I") ∈ TT := tt_2 (List.mem_of_getElem? (i := 38) rfl) rfl
theorem wd_2_39 : (Jvm.Cond.fieldLink "InkBank" (48 : Nat) "InkBank" "saved" "Z") ∈ TT := tt_2 (List.mem_of_getElem? (i := 39) rfl) rfl
theorem wd_2_40 : (Jvm.Cond.fieldLink "InkBank" (52 : Nat) "InkBank" "malformedAt" "I") ∈ TT := tt_2 (List.mem_of_getElem? (i := 40) rfl) rfl
theorem wd_2_41 : (Jvm.Cond.fieldLink "InkBank" (56 : Nat) "InkBank" "failedAt" "I") ∈ TT := tt_2 (List.mem_of_getElem? (i := 41) rfl) rfl
theorem wd_2_64 : (Jvm.Cond.instanceMethod ({ cls := "InkBank", name := "accountCount", desc := "()I" } : Jvm.MethodName)) ∈ TT := tt_2 (List.mem_of_getElem? (i := 64) rfl) rfl
theorem wd_2_65 : (Jvm.Cond.selects "InkBank" ({ cls := "InkBank", name := "accountCount", desc := "()I" } : Jvm.MethodName) ({ cls := "InkBank", name := "accountCount", desc := "()I" } : Jvm.MethodName)) ∈ TT := tt_2 (List.mem_of_getElem? (i := 65) rfl) rfl
theorem wd_2_66 : (Jvm.Cond.code ({ cls := "InkBank", name := "accountCount", desc := "()I" } : Jvm.MethodName) prog_1_method_6_code (1 : Nat) (Option.some Jvm.ClassFile.FieldType.int)) ∈ TT := tt_2 (List.mem_of_getElem? (i := 66) rfl) rfl
theorem wd_2_68 : (Jvm.Cond.instanceMethod ({ cls := "InkBank", name := "bankBalance", desc := "()I" } : Jvm.MethodName)) ∈ TT := tt_2 (List.mem_of_getElem? (i := 68) rfl) rfl
theorem wd_2_69 : (Jvm.Cond.selects "InkBank" ({ cls := "InkBank", name := "bankBalance", desc := "()I" } : Jvm.MethodName) ({ cls := "InkBank", name := "bankBalance", desc := "()I" } : Jvm.MethodName)) ∈ TT := tt_2 (List.mem_of_getElem? (i := 69) rfl) rfl
theorem wd_2_70 : (Jvm.Cond.code ({ cls := "InkBank", name := "bankBalance", desc := "()I" } : Jvm.MethodName) prog_1_method_15_code (1 : Nat) (Option.some Jvm.ClassFile.FieldType.int)) ∈ TT := tt_2 (List.mem_of_getElem? (i := 70) rfl) rfl
theorem wd_2_72 : (Jvm.Cond.instanceMethod ({ cls := "InkBank", name := "totalInk", desc := "()J" } : Jvm.MethodName)) ∈ TT := tt_2 (List.mem_of_getElem? (i := 72) rfl) rfl
theorem wd_2_73 : (Jvm.Cond.selects "InkBank" ({ cls := "InkBank", name := "totalInk", desc := "()J" } : Jvm.MethodName) ({ cls := "InkBank", name := "totalInk", desc := "()J" } : Jvm.MethodName)) ∈ TT := tt_2 (List.mem_of_getElem? (i := 73) rfl) rfl
theorem wd_2_74 : (Jvm.Cond.code ({ cls := "InkBank", name := "totalInk", desc := "()J" } : Jvm.MethodName) prog_1_method_16_code (1 : Nat) (Option.some Jvm.ClassFile.FieldType.long)) ∈ TT := tt_2 (List.mem_of_getElem? (i := 74) rfl) rfl
theorem wd_2_75 : (Jvm.Cond.methodLink "InkBank" (138 : Nat) ({ cls := "InkBank$Accounts", name := "sum", desc := "()J" } : Jvm.MethodName)) ∈ TT := tt_2 (List.mem_of_getElem? (i := 75) rfl) rfl
theorem wd_2_76 : (Jvm.Cond.instanceMethod ({ cls := "InkBank$Accounts", name := "sum", desc := "()J" } : Jvm.MethodName)) ∈ TT := tt_2 (List.mem_of_getElem? (i := 76) rfl) rfl
theorem wd_2_77 : (Jvm.Cond.selects "InkBank$Accounts" ({ cls := "InkBank$Accounts", name := "sum", desc := "()J" } : Jvm.MethodName) ({ cls := "InkBank$Accounts", name := "sum", desc := "()J" } : Jvm.MethodName)) ∈ TT := tt_2 (List.mem_of_getElem? (i := 77) rfl) rfl
theorem wd_2_78 : (Jvm.Cond.code ({ cls := "InkBank$Accounts", name := "sum", desc := "()J" } : Jvm.MethodName) prog_2_method_8_code (4 : Nat) (Option.some Jvm.ClassFile.FieldType.long)) ∈ TT := tt_2 (List.mem_of_getElem? (i := 78) rfl) rfl
theorem wd_2_80 : (Jvm.Cond.instanceMethod ({ cls := "InkBank", name := "totalInkByMovements", desc := "()J" } : Jvm.MethodName)) ∈ TT := tt_2 (List.mem_of_getElem? (i := 80) rfl) rfl
theorem wd_2_81 : (Jvm.Cond.selects "InkBank" ({ cls := "InkBank", name := "totalInkByMovements", desc := "()J" } : Jvm.MethodName) ({ cls := "InkBank", name := "totalInkByMovements", desc := "()J" } : Jvm.MethodName)) ∈ TT := tt_2 (List.mem_of_getElem? (i := 81) rfl) rfl
theorem wd_2_82 : (Jvm.Cond.code ({ cls := "InkBank", name := "totalInkByMovements", desc := "()J" } : Jvm.MethodName) prog_1_method_17_code (1 : Nat) (Option.some Jvm.ClassFile.FieldType.long)) ∈ TT := tt_2 (List.mem_of_getElem? (i := 82) rfl) rfl
theorem wd_2_84 : (Jvm.Cond.instanceMethod ({ cls := "InkBank", name := "transferredInk", desc := "()J" } : Jvm.MethodName)) ∈ TT := tt_2 (List.mem_of_getElem? (i := 84) rfl) rfl
theorem wd_2_85 : (Jvm.Cond.selects "InkBank" ({ cls := "InkBank", name := "transferredInk", desc := "()J" } : Jvm.MethodName) ({ cls := "InkBank", name := "transferredInk", desc := "()J" } : Jvm.MethodName)) ∈ TT := tt_2 (List.mem_of_getElem? (i := 85) rfl) rfl
theorem wd_2_86 : (Jvm.Cond.code ({ cls := "InkBank", name := "transferredInk", desc := "()J" } : Jvm.MethodName) prog_1_method_18_code (1 : Nat) (Option.some Jvm.ClassFile.FieldType.long)) ∈ TT := tt_2 (List.mem_of_getElem? (i := 86) rfl) rfl
theorem wd_2_88 : (Jvm.Cond.instanceMethod ({ cls := "InkBank", name := "interestPaid", desc := "()J" } : Jvm.MethodName)) ∈ TT := tt_2 (List.mem_of_getElem? (i := 88) rfl) rfl
theorem wd_2_89 : (Jvm.Cond.selects "InkBank" ({ cls := "InkBank", name := "interestPaid", desc := "()J" } : Jvm.MethodName) ({ cls := "InkBank", name := "interestPaid", desc := "()J" } : Jvm.MethodName)) ∈ TT := tt_2 (List.mem_of_getElem? (i := 89) rfl) rfl
theorem wd_2_90 : (Jvm.Cond.code ({ cls := "InkBank", name := "interestPaid", desc := "()J" } : Jvm.MethodName) prog_1_method_19_code (1 : Nat) (Option.some Jvm.ClassFile.FieldType.long)) ∈ TT := tt_2 (List.mem_of_getElem? (i := 90) rfl) rfl
theorem wd_2_92 : (Jvm.Cond.instanceMethod ({ cls := "InkBank", name := "chargesPaid", desc := "()J" } : Jvm.MethodName)) ∈ TT := tt_2 (List.mem_of_getElem? (i := 92) rfl) rfl
theorem wd_2_93 : (Jvm.Cond.selects "InkBank" ({ cls := "InkBank", name := "chargesPaid", desc := "()J" } : Jvm.MethodName) ({ cls := "InkBank", name := "chargesPaid", desc := "()J" } : Jvm.MethodName)) ∈ TT := tt_2 (List.mem_of_getElem? (i := 93) rfl) rfl
theorem wd_2_94 : (Jvm.Cond.code ({ cls := "InkBank", name := "chargesPaid", desc := "()J" } : Jvm.MethodName) prog_1_method_20_code (1 : Nat) (Option.some Jvm.ClassFile.FieldType.long)) ∈ TT := tt_2 (List.mem_of_getElem? (i := 94) rfl) rfl
theorem wd_2_96 : (Jvm.Cond.instanceMethod ({ cls := "InkBank", name := "day", desc := "()I" } : Jvm.MethodName)) ∈ TT := tt_2 (List.mem_of_getElem? (i := 96) rfl) rfl
theorem wd_2_97 : (Jvm.Cond.selects "InkBank" ({ cls := "InkBank", name := "day", desc := "()I" } : Jvm.MethodName) ({ cls := "InkBank", name := "day", desc := "()I" } : Jvm.MethodName)) ∈ TT := tt_2 (List.mem_of_getElem? (i := 97) rfl) rfl
theorem wd_2_98 : (Jvm.Cond.code ({ cls := "InkBank", name := "day", desc := "()I" } : Jvm.MethodName) prog_1_method_21_code (1 : Nat) (Option.some Jvm.ClassFile.FieldType.int)) ∈ TT := tt_2 (List.mem_of_getElem? (i := 98) rfl) rfl
theorem wd_2_100 : (Jvm.Cond.instanceMethod ({ cls := "InkBank", name := "transferCount", desc := "()I" } : Jvm.MethodName)) ∈ TT := tt_2 (List.mem_of_getElem? (i := 100) rfl) rfl
theorem wd_2_101 : (Jvm.Cond.selects "InkBank" ({ cls := "InkBank", name := "transferCount", desc := "()I" } : Jvm.MethodName) ({ cls := "InkBank", name := "transferCount", desc := "()I" } : Jvm.MethodName)) ∈ TT := tt_2 (List.mem_of_getElem? (i := 101) rfl) rfl
theorem wd_2_102 : (Jvm.Cond.code ({ cls := "InkBank", name := "transferCount", desc := "()I" } : Jvm.MethodName) prog_1_method_26_code (1 : Nat) (Option.some Jvm.ClassFile.FieldType.int)) ∈ TT := tt_2 (List.mem_of_getElem? (i := 102) rfl) rfl
theorem wd_2_104 : (Jvm.Cond.instanceMethod ({ cls := "InkBank", name := "bounceCount", desc := "()I" } : Jvm.MethodName)) ∈ TT := tt_2 (List.mem_of_getElem? (i := 104) rfl) rfl
theorem wd_2_105 : (Jvm.Cond.selects "InkBank" ({ cls := "InkBank", name := "bounceCount", desc := "()I" } : Jvm.MethodName) ({ cls := "InkBank", name := "bounceCount", desc := "()I" } : Jvm.MethodName)) ∈ TT := tt_2 (List.mem_of_getElem? (i := 105) rfl) rfl
theorem wd_2_106 : (Jvm.Cond.code ({ cls := "InkBank", name := "bounceCount", desc := "()I" } : Jvm.MethodName) prog_1_method_33_code (1 : Nat) (Option.some Jvm.ClassFile.FieldType.int)) ∈ TT := tt_2 (List.mem_of_getElem? (i := 106) rfl) rfl
theorem wd_2_108 : (Jvm.Cond.instanceMethod ({ cls := "InkBank", name := "journalLength", desc := "()I" } : Jvm.MethodName)) ∈ TT := tt_2 (List.mem_of_getElem? (i := 108) rfl) rfl
theorem wd_2_109 : (Jvm.Cond.selects "InkBank" ({ cls := "InkBank", name := "journalLength", desc := "()I" } : Jvm.MethodName) ({ cls := "InkBank", name := "journalLength", desc := "()I" } : Jvm.MethodName)) ∈ TT := tt_2 (List.mem_of_getElem? (i := 109) rfl) rfl
theorem wd_2_110 : (Jvm.Cond.code ({ cls := "InkBank", name := "journalLength", desc := "()I" } : Jvm.MethodName) prog_1_method_37_code (1 : Nat) (Option.some Jvm.ClassFile.FieldType.int)) ∈ TT := tt_2 (List.mem_of_getElem? (i := 110) rfl) rfl
theorem wd_2_112 : (Jvm.Cond.instanceMethod ({ cls := "InkBank", name := "save", desc := "()I" } : Jvm.MethodName)) ∈ TT := tt_2 (List.mem_of_getElem? (i := 112) rfl) rfl
theorem wd_2_113 : (Jvm.Cond.selects "InkBank" ({ cls := "InkBank", name := "save", desc := "()I" } : Jvm.MethodName) ({ cls := "InkBank", name := "save", desc := "()I" } : Jvm.MethodName)) ∈ TT := tt_2 (List.mem_of_getElem? (i := 113) rfl) rfl
theorem wd_2_114 : (Jvm.Cond.code ({ cls := "InkBank", name := "save", desc := "()I" } : Jvm.MethodName) prog_1_method_48_code (1 : Nat) (Option.some Jvm.ClassFile.FieldType.int)) ∈ TT := tt_2 (List.mem_of_getElem? (i := 114) rfl) rfl
theorem wd_2_115 : (Jvm.Cond.methodLink "InkBank" (172 : Nat) ({ cls := "InkBank$Ledger", name := "copyFrom", desc := "(LInkBank$Ledger;)V" } : Jvm.MethodName)) ∈ TT := tt_2 (List.mem_of_getElem? (i := 115) rfl) rfl
theorem wd_2_116 : (Jvm.Cond.instanceMethod ({ cls := "InkBank$Ledger", name := "copyFrom", desc := "(LInkBank$Ledger;)V" } : Jvm.MethodName)) ∈ TT := tt_2 (List.mem_of_getElem? (i := 116) rfl) rfl
theorem wd_2_117 : (Jvm.Cond.selects "InkBank$Ledger" ({ cls := "InkBank$Ledger", name := "copyFrom", desc := "(LInkBank$Ledger;)V" } : Jvm.MethodName) ({ cls := "InkBank$Ledger", name := "copyFrom", desc := "(LInkBank$Ledger;)V" } : Jvm.MethodName)) ∈ TT := tt_2 (List.mem_of_getElem? (i := 117) rfl) rfl
theorem wd_2_118 : (Jvm.Cond.code ({ cls := "InkBank$Ledger", name := "copyFrom", desc := "(LInkBank$Ledger;)V" } : Jvm.MethodName) prog_5_method_2_code (2 : Nat) (Option.none : Option Jvm.ClassFile.FieldType)) ∈ TT := tt_2 (List.mem_of_getElem? (i := 118) rfl) rfl
theorem wd_2_119 : (Jvm.Cond.methodLink "InkBank$Ledger" (32 : Nat) ({ cls := "InkBank$Accounts", name := "copyFrom", desc := "(LInkBank$Accounts;)V" } : Jvm.MethodName)) ∈ TT := tt_2 (List.mem_of_getElem? (i := 119) rfl) rfl
theorem wd_2_120 : (Jvm.Cond.instanceMethod ({ cls := "InkBank$Accounts", name := "copyFrom", desc := "(LInkBank$Accounts;)V" } : Jvm.MethodName)) ∈ TT := tt_2 (List.mem_of_getElem? (i := 120) rfl) rfl
theorem wd_2_121 : (Jvm.Cond.selects "InkBank$Accounts" ({ cls := "InkBank$Accounts", name := "copyFrom", desc := "(LInkBank$Accounts;)V" } : Jvm.MethodName) ({ cls := "InkBank$Accounts", name := "copyFrom", desc := "(LInkBank$Accounts;)V" } : Jvm.MethodName)) ∈ TT := tt_2 (List.mem_of_getElem? (i := 121) rfl) rfl
theorem wd_2_122 : (Jvm.Cond.code ({ cls := "InkBank$Accounts", name := "copyFrom", desc := "(LInkBank$Accounts;)V" } : Jvm.MethodName) prog_2_method_2_code (3 : Nat) (Option.none : Option Jvm.ClassFile.FieldType)) ∈ TT := tt_2 (List.mem_of_getElem? (i := 122) rfl) rfl
theorem wd_2_123 : (Jvm.Cond.methodLink "InkBank$Ledger" (36 : Nat) ({ cls := "InkBank$Transfers", name := "copyFrom", desc := "(LInkBank$Transfers;)V" } : Jvm.MethodName)) ∈ TT := tt_2 (List.mem_of_getElem? (i := 123) rfl) rfl
theorem wd_2_124 : (Jvm.Cond.instanceMethod ({ cls := "InkBank$Transfers", name := "copyFrom", desc := "(LInkBank$Transfers;)V" } : Jvm.MethodName)) ∈ TT := tt_2 (List.mem_of_getElem? (i := 124) rfl) rfl
theorem wd_2_125 : (Jvm.Cond.selects "InkBank$Transfers" ({ cls := "InkBank$Transfers", name := "copyFrom", desc := "(LInkBank$Transfers;)V" } : Jvm.MethodName) ({ cls := "InkBank$Transfers", name := "copyFrom", desc := "(LInkBank$Transfers;)V" } : Jvm.MethodName)) ∈ TT := tt_2 (List.mem_of_getElem? (i := 125) rfl) rfl
theorem wd_2_126 : (Jvm.Cond.code ({ cls := "InkBank$Transfers", name := "copyFrom", desc := "(LInkBank$Transfers;)V" } : Jvm.MethodName) prog_7_method_2_code (3 : Nat) (Option.none : Option Jvm.ClassFile.FieldType)) ∈ TT := tt_2 (List.mem_of_getElem? (i := 126) rfl) rfl
theorem wd_2_127 : (Jvm.Cond.methodLink "InkBank$Transfers" (34 : Nat) ({ cls := "InkBank$Transfers", name := "copySlot", desc := "(LInkBank$Transfers;II)V" } : Jvm.MethodName)) ∈ TT := tt_2 (List.mem_of_getElem? (i := 127) rfl) rfl
theorem wd_2_128 : (Jvm.Cond.instanceMethod ({ cls := "InkBank$Transfers", name := "copySlot", desc := "(LInkBank$Transfers;II)V" } : Jvm.MethodName)) ∈ TT := tt_2 (List.mem_of_getElem? (i := 128) rfl) rfl
theorem wd_2_129 : (Jvm.Cond.selects "InkBank$Transfers" ({ cls := "InkBank$Transfers", name := "copySlot", desc := "(LInkBank$Transfers;II)V" } : Jvm.MethodName) ({ cls := "InkBank$Transfers", name := "copySlot", desc := "(LInkBank$Transfers;II)V" } : Jvm.MethodName)) ∈ TT := tt_2 (List.mem_of_getElem? (i := 129) rfl) rfl
theorem wd_2_130 : (Jvm.Cond.code ({ cls := "InkBank$Transfers", name := "copySlot", desc := "(LInkBank$Transfers;II)V" } : Jvm.MethodName) prog_7_method_3_code (4 : Nat) (Option.none : Option Jvm.ClassFile.FieldType)) ∈ TT := tt_2 (List.mem_of_getElem? (i := 130) rfl) rfl
theorem wd_2_131 : (Jvm.Cond.methodLink "InkBank$Ledger" (39 : Nat) ({ cls := "InkBank$Journal", name := "copyFrom", desc := "(LInkBank$Journal;)V" } : Jvm.MethodName)) ∈ TT := tt_2 (List.mem_of_getElem? (i := 131) rfl) rfl
theorem wd_2_132 : (Jvm.Cond.instanceMethod ({ cls := "InkBank$Journal", name := "copyFrom", desc := "(LInkBank$Journal;)V" } : Jvm.MethodName)) ∈ TT := tt_2 (List.mem_of_getElem? (i := 132) rfl) rfl
theorem wd_2_133 : (Jvm.Cond.selects "InkBank$Journal" ({ cls := "InkBank$Journal", name := "copyFrom", desc := "(LInkBank$Journal;)V" } : Jvm.MethodName) ({ cls := "InkBank$Journal", name := "copyFrom", desc := "(LInkBank$Journal;)V" } : Jvm.MethodName)) ∈ TT := tt_2 (List.mem_of_getElem? (i := 133) rfl) rfl
theorem wd_2_134 : (Jvm.Cond.code ({ cls := "InkBank$Journal", name := "copyFrom", desc := "(LInkBank$Journal;)V" } : Jvm.MethodName) prog_4_method_2_code (3 : Nat) (Option.none : Option Jvm.ClassFile.FieldType)) ∈ TT := tt_2 (List.mem_of_getElem? (i := 134) rfl) rfl
theorem wd_2_141 : (Jvm.Cond.instanceMethod ({ cls := "InkBank", name := "open", desc := "(I)I" } : Jvm.MethodName)) ∈ TT := tt_2 (List.mem_of_getElem? (i := 141) rfl) rfl
theorem wd_2_142 : (Jvm.Cond.selects "InkBank" ({ cls := "InkBank", name := "open", desc := "(I)I" } : Jvm.MethodName) ({ cls := "InkBank", name := "open", desc := "(I)I" } : Jvm.MethodName)) ∈ TT := tt_2 (List.mem_of_getElem? (i := 142) rfl) rfl
theorem wd_2_143 : (Jvm.Cond.code ({ cls := "InkBank", name := "open", desc := "(I)I" } : Jvm.MethodName) prog_1_method_2_code (2 : Nat) (Option.some Jvm.ClassFile.FieldType.int)) ∈ TT := tt_2 (List.mem_of_getElem? (i := 143) rfl) rfl
theorem wd_2_144 : (Jvm.Cond.methodLink "InkBank" (59 : Nat) ({ cls := "InkBank$Ledger", name := "openFault", desc := "(I)I" } : Jvm.MethodName)) ∈ TT := tt_2 (List.mem_of_getElem? (i := 144) rfl) rfl
theorem wd_2_145 : (Jvm.Cond.instanceMethod ({ cls := "InkBank$Ledger", name := "openFault", desc := "(I)I" } : Jvm.MethodName)) ∈ TT := tt_2 (List.mem_of_getElem? (i := 145) rfl) rfl
theorem wd_2_146 : (Jvm.Cond.selects "InkBank$Ledger" ({ cls := "InkBank$Ledger", name := "openFault", desc := "(I)I" } : Jvm.MethodName) ({ cls := "InkBank$Ledger", name := "openFault", desc := "(I)I" } : Jvm.MethodName)) ∈ TT := tt_2 (List.mem_of_getElem? (i := 146) rfl) rfl
theorem wd_2_147 : (Jvm.Cond.code ({ cls := "InkBank$Ledger", name := "openFault", desc := "(I)I" } : Jvm.MethodName) prog_5_method_3_code (2 : Nat) (Option.some Jvm.ClassFile.FieldType.int)) ∈ TT := tt_2 (List.mem_of_getElem? (i := 147) rfl) rfl
theorem wd_2_149 : (Jvm.Cond.static ({ cls := "InkBank", name := "isIn", desc := "(III)Z" } : Jvm.MethodName)) ∈ TT := tt_2 (List.mem_of_getElem? (i := 149) rfl) rfl
theorem wd_2_150 : (Jvm.Cond.code ({ cls := "InkBank", name := "isIn", desc := "(III)Z" } : Jvm.MethodName) prog_1_method_55_code (3 : Nat) (Option.some Jvm.ClassFile.FieldType.boolean)) ∈ TT := tt_2 (List.mem_of_getElem? (i := 150) rfl) rfl
theorem wd_2_151 : (Jvm.Cond.methodLink "InkBank" (63 : Nat) ({ cls := "InkBank", name := "raise", desc := "(I)V" } : Jvm.MethodName)) ∈ TT := tt_2 (List.mem_of_getElem? (i := 151) rfl) rfl
theorem wd_2_152 : (Jvm.Cond.static ({ cls := "InkBank", name := "raise", desc := "(I)V" } : Jvm.MethodName)) ∈ TT := tt_2 (List.mem_of_getElem? (i := 152) rfl) rfl
theorem wd_2_153 : (Jvm.Cond.code ({ cls := "InkBank", name := "raise", desc := "(I)V" } : Jvm.MethodName) prog_1_method_50_code (1 : Nat) (Option.none : Option Jvm.ClassFile.FieldType)) ∈ TT := tt_2 (List.mem_of_getElem? (i := 153) rfl) rfl
theorem wd_3_43 : (Jvm.Cond.methodLink "InkBank" (67 : Nat) ({ cls := "InkBank$History", name := "remember", desc := "(LInkBank$Ledger;)V" } : Jvm.MethodName)) ∈ TT := tt_3 (List.mem_of_getElem? (i := 43) rfl) rfl
theorem wd_3_44 : (Jvm.Cond.instanceMethod ({ cls := "InkBank$History", name := "remember", desc := "(LInkBank$Ledger;)V" } : Jvm.MethodName)) ∈ TT := tt_3 (List.mem_of_getElem? (i := 44) rfl) rfl
theorem wd_3_45 : (Jvm.Cond.selects "InkBank$History" ({ cls := "InkBank$History", name := "remember", desc := "(LInkBank$Ledger;)V" } : Jvm.MethodName) ({ cls := "InkBank$History", name := "remember", desc := "(LInkBank$Ledger;)V" } : Jvm.MethodName)) ∈ TT := tt_3 (List.mem_of_getElem? (i := 45) rfl) rfl
theorem wd_3_46 : (Jvm.Cond.code ({ cls := "InkBank$History", name := "remember", desc := "(LInkBank$Ledger;)V" } : Jvm.MethodName) prog_3_method_2_code (2 : Nat) (Option.none : Option Jvm.ClassFile.FieldType)) ∈ TT := tt_3 (List.mem_of_getElem? (i := 46) rfl) rfl
theorem wd_3_47 : (Jvm.Cond.methodLink "InkBank$History" (22 : Nat) ({ cls := "java/lang/Math", name := "floorMod", desc := "(II)I" } : Jvm.MethodName)) ∈ TT := tt_3 (List.mem_of_getElem? (i := 47) rfl) rfl
theorem wd_3_48 : (Jvm.Cond.static ({ cls := "java/lang/Math", name := "floorMod", desc := "(II)I" } : Jvm.MethodName)) ∈ TT := tt_3 (List.mem_of_getElem? (i := 48) rfl) rfl
theorem wd_3_49 : (Jvm.Cond.code ({ cls := "java/lang/Math", name := "floorMod", desc := "(II)I" } : Jvm.MethodName) prog_24_method_50_code (3 : Nat) (Option.some Jvm.ClassFile.FieldType.int)) ∈ TT := tt_3 (List.mem_of_getElem? (i := 49) rfl) rfl
theorem wd_3_50 : (Jvm.Cond.methodLink "InkBank$History" (28 : Nat) ({ cls := "InkBank$Ledger", name := "copyFrom", desc := "(LInkBank$Ledger;)V" } : Jvm.MethodName)) ∈ TT := tt_3 (List.mem_of_getElem? (i := 50) rfl) rfl
theorem wd_3_51 : (Jvm.Cond.methodLink "InkBank$History" (35 : Nat) ({ cls := "java/lang/Math", name := "min", desc := "(II)I" } : Jvm.MethodName)) ∈ TT := tt_3 (List.mem_of_getElem? (i := 51) rfl) rfl
theorem wd_3_52 : (Jvm.Cond.static ({ cls := "java/lang/Math", name := "min", desc := "(II)I" } : Jvm.MethodName)) ∈ TT := tt_3 (List.mem_of_getElem? (i := 52) rfl) rfl
theorem wd_3_53 : (Jvm.Cond.code ({ cls := "java/lang/Math", name := "min", desc := "(II)I" } : Jvm.MethodName) prog_24_method_69_code (2 : Nat) (Option.some Jvm.ClassFile.FieldType.int)) ∈ TT := tt_3 (List.mem_of_getElem? (i := 53) rfl) rfl
theorem wd_3_54 : (Jvm.Cond.methodLink "InkBank" (75 : Nat) ({ cls := "InkBank$Accounts", name := "add", desc := "(I)I" } : Jvm.MethodName)) ∈ TT := tt_3 (List.mem_of_getElem? (i := 54) rfl) rfl
theorem wd_3_55 : (Jvm.Cond.instanceMethod ({ cls := "InkBank$Accounts", name := "add", desc := "(I)I" } : Jvm.MethodName)) ∈ TT := tt_3 (List.mem_of_getElem? (i := 55) rfl) rfl
theorem wd_3_56 : (Jvm.Cond.selects "InkBank$Accounts" ({ cls := "InkBank$Accounts", name := "add", desc := "(I)I" } : Jvm.MethodName) ({ cls := "InkBank$Accounts", name := "add", desc := "(I)I" } : Jvm.MethodName)) ∈ TT := tt_3 (List.mem_of_getElem? (i := 56) rfl) rfl
theorem wd_3_57 : (Jvm.Cond.code ({ cls := "InkBank$Accounts", name := "add", desc := "(I)I" } : Jvm.MethodName) prog_2_method_4_code (3 : Nat) (Option.some Jvm.ClassFile.FieldType.int)) ∈ TT := tt_3 (List.mem_of_getElem? (i := 57) rfl) rfl
theorem wd_3_94 : (Jvm.Cond.instanceMethod ({ cls := "InkBank", name := "deposit", desc := "(II)I" } : Jvm.MethodName)) ∈ TT := tt_3 (List.mem_of_getElem? (i := 94) rfl) rfl
theorem wd_3_95 : (Jvm.Cond.selects "InkBank" ({ cls := "InkBank", name := "deposit", desc := "(II)I" } : Jvm.MethodName) ({ cls := "InkBank", name := "deposit", desc := "(II)I" } : Jvm.MethodName)) ∈ TT := tt_3 (List.mem_of_getElem? (i := 95) rfl) rfl
theorem wd_3_96 : (Jvm.Cond.code ({ cls := "InkBank", name := "deposit", desc := "(II)I" } : Jvm.MethodName) prog_1_method_3_code (3 : Nat) (Option.some Jvm.ClassFile.FieldType.int)) ∈ TT := tt_3 (List.mem_of_getElem? (i := 96) rfl) rfl
theorem wd_3_97 : (Jvm.Cond.methodLink "InkBank" (80 : Nat) ({ cls := "InkBank$Ledger", name := "payInFault", desc := "(II)I" } : Jvm.MethodName)) ∈ TT := tt_3 (List.mem_of_getElem? (i := 97) rfl) rfl
theorem wd_3_98 : (Jvm.Cond.instanceMethod ({ cls := "InkBank$Ledger", name := "payInFault", desc := "(II)I" } : Jvm.MethodName)) ∈ TT := tt_3 (List.mem_of_getElem? (i := 98) rfl) rfl
theorem wd_3_99 : (Jvm.Cond.selects "InkBank$Ledger" ({ cls := "InkBank$Ledger", name := "payInFault", desc := "(II)I" } : Jvm.MethodName) ({ cls := "InkBank$Ledger", name := "payInFault", desc := "(II)I" } : Jvm.MethodName)) ∈ TT := tt_3 (List.mem_of_getElem? (i := 99) rfl) rfl
theorem wd_3_100 : (Jvm.Cond.code ({ cls := "InkBank$Ledger", name := "payInFault", desc := "(II)I" } : Jvm.MethodName) prog_5_method_4_code (4 : Nat) (Option.some Jvm.ClassFile.FieldType.int)) ∈ TT := tt_3 (List.mem_of_getElem? (i := 100) rfl) rfl
theorem wd_3_101 : (Jvm.Cond.methodLink "InkBank$Ledger" (75 : Nat) ({ cls := "InkBank$Ledger", name := "argumentFault", desc := "(IIII)I" } : Jvm.MethodName)) ∈ TT := tt_3 (List.mem_of_getElem? (i := 101) rfl) rfl
theorem wd_3_103 : (Jvm.Cond.instanceMethod ({ cls := "InkBank$Ledger", name := "argumentFault", desc := "(IIII)I" } : Jvm.MethodName)) ∈ TT := tt_3 (List.mem_of_getElem? (i := 103) rfl) rfl
theorem wd_3_104 : (Jvm.Cond.code ({ cls := "InkBank$Ledger", name := "argumentFault", desc := "(IIII)I" } : Jvm.MethodName) prog_5_method_5_code (5 : Nat) (Option.some Jvm.ClassFile.FieldType.int)) ∈ TT := tt_3 (List.mem_of_getElem? (i := 104) rfl) rfl
theorem wd_3_105 : (Jvm.Cond.methodLink "InkBank$Ledger" (83 : Nat) ({ cls := "InkBank$Accounts", name := "has", desc := "(I)Z" } : Jvm.MethodName)) ∈ TT := tt_3 (List.mem_of_getElem? (i := 105) rfl) rfl
theorem wd_3_106 : (Jvm.Cond.instanceMethod ({ cls := "InkBank$Accounts", name := "has", desc := "(I)Z" } : Jvm.MethodName)) ∈ TT := tt_3 (List.mem_of_getElem? (i := 106) rfl) rfl
theorem wd_3_107 : (Jvm.Cond.selects "InkBank$Accounts" ({ cls := "InkBank$Accounts", name := "has", desc := "(I)Z" } : Jvm.MethodName) ({ cls := "InkBank$Accounts", name := "has", desc := "(I)Z" } : Jvm.MethodName)) ∈ TT := tt_3 (List.mem_of_getElem? (i := 107) rfl) rfl
theorem wd_3_108 : (Jvm.Cond.code ({ cls := "InkBank$Accounts", name := "has", desc := "(I)Z" } : Jvm.MethodName) prog_2_method_3_code (2 : Nat) (Option.some Jvm.ClassFile.FieldType.boolean)) ∈ TT := tt_3 (List.mem_of_getElem? (i := 108) rfl) rfl
theorem wd_3_109 : (Jvm.Cond.methodLink "InkBank" (84 : Nat) ({ cls := "InkBank$Ledger", name := "payIn", desc := "(II)I" } : Jvm.MethodName)) ∈ TT := tt_3 (List.mem_of_getElem? (i := 109) rfl) rfl
theorem wd_3_110 : (Jvm.Cond.instanceMethod ({ cls := "InkBank$Ledger", name := "payIn", desc := "(II)I" } : Jvm.MethodName)) ∈ TT := tt_3 (List.mem_of_getElem? (i := 110) rfl) rfl
theorem wd_3_111 : (Jvm.Cond.selects "InkBank$Ledger" ({ cls := "InkBank$Ledger", name := "payIn", desc := "(II)I" } : Jvm.MethodName) ({ cls := "InkBank$Ledger", name := "payIn", desc := "(II)I" } : Jvm.MethodName)) ∈ TT := tt_3 (List.mem_of_getElem? (i := 111) rfl) rfl
theorem wd_3_112 : (Jvm.Cond.code ({ cls := "InkBank$Ledger", name := "payIn", desc := "(II)I" } : Jvm.MethodName) prog_5_method_6_code (3 : Nat) (Option.some Jvm.ClassFile.FieldType.int)) ∈ TT := tt_3 (List.mem_of_getElem? (i := 112) rfl) rfl
theorem wd_3_113 : (Jvm.Cond.methodLink "InkBank$Ledger" (87 : Nat) ({ cls := "InkBank$Journal", name := "add", desc := "(CII)V" } : Jvm.MethodName)) ∈ TT := tt_3 (List.mem_of_getElem? (i := 113) rfl) rfl
theorem wd_3_114 : (Jvm.Cond.instanceMethod ({ cls := "InkBank$Journal", name := "add", desc := "(CII)V" } : Jvm.MethodName)) ∈ TT := tt_3 (List.mem_of_getElem? (i := 114) rfl) rfl
theorem wd_3_115 : (Jvm.Cond.selects "InkBank$Journal" ({ cls := "InkBank$Journal", name := "add", desc := "(CII)V" } : Jvm.MethodName) ({ cls := "InkBank$Journal", name := "add", desc := "(CII)V" } : Jvm.MethodName)) ∈ TT := tt_3 (List.mem_of_getElem? (i := 115) rfl) rfl
theorem wd_3_116 : (Jvm.Cond.code ({ cls := "InkBank$Journal", name := "add", desc := "(CII)V" } : Jvm.MethodName) prog_4_method_4_code (4 : Nat) (Option.none : Option Jvm.ClassFile.FieldType)) ∈ TT := tt_3 (List.mem_of_getElem? (i := 116) rfl) rfl
theorem wd_3_117 : (Jvm.Cond.methodLink "InkBank$Journal" (29 : Nat) ({ cls := "java/lang/Math", name := "floorMod", desc := "(II)I" } : Jvm.MethodName)) ∈ TT := tt_3 (List.mem_of_getElem? (i := 117) rfl) rfl
theorem wd_3_118 : (Jvm.Cond.methodLink "InkBank$Journal" (35 : Nat) ({ cls := "java/lang/Math", name := "min", desc := "(II)I" } : Jvm.MethodName)) ∈ TT := tt_3 (List.mem_of_getElem? (i := 118) rfl) rfl
theorem wd_3_123 : (Jvm.Cond.instanceMethod ({ cls := "InkBank", name := "withdraw", desc := "(II)I" } : Jvm.MethodName)) ∈ TT := tt_3 (List.mem_of_getElem? (i := 123) rfl) rfl
theorem wd_3_124 : (Jvm.Cond.selects "InkBank" ({ cls := "InkBank", name := "withdraw", desc := "(II)I" } : Jvm.MethodName) ({ cls := "InkBank", name := "withdraw", desc := "(II)I" } : Jvm.MethodName)) ∈ TT := tt_3 (List.mem_of_getElem? (i := 124) rfl) rfl
theorem wd_3_125 : (Jvm.Cond.code ({ cls := "InkBank", name := "withdraw", desc := "(II)I" } : Jvm.MethodName) prog_1_method_4_code (3 : Nat) (Option.some Jvm.ClassFile.FieldType.int)) ∈ TT := tt_3 (List.mem_of_getElem? (i := 125) rfl) rfl
theorem wd_3_126 : (Jvm.Cond.methodLink "InkBank" (87 : Nat) ({ cls := "InkBank$Ledger", name := "payOutFault", desc := "(II)I" } : Jvm.MethodName)) ∈ TT := tt_3 (List.mem_of_getElem? (i := 126) rfl) rfl
theorem wd_3_127 : (Jvm.Cond.instanceMethod ({ cls := "InkBank$Ledger", name := "payOutFault", desc := "(II)I" } : Jvm.MethodName)) ∈ TT := tt_3 (List.mem_of_getElem? (i := 127) rfl) rfl
theorem wd_3_128 : (Jvm.Cond.selects "InkBank$Ledger" ({ cls := "InkBank$Ledger", name := "payOutFault", desc := "(II)I" } : Jvm.MethodName) ({ cls := "InkBank$Ledger", name := "payOutFault", desc := "(II)I" } : Jvm.MethodName)) ∈ TT := tt_3 (List.mem_of_getElem? (i := 128) rfl) rfl
theorem wd_3_129 : (Jvm.Cond.code ({ cls := "InkBank$Ledger", name := "payOutFault", desc := "(II)I" } : Jvm.MethodName) prog_5_method_7_code (4 : Nat) (Option.some Jvm.ClassFile.FieldType.int)) ∈ TT := tt_3 (List.mem_of_getElem? (i := 129) rfl) rfl
theorem wd_3_130 : (Jvm.Cond.methodLink "InkBank$Ledger" (91 : Nat) ({ cls := "InkBank$Accounts", name := "available", desc := "(I)I" } : Jvm.MethodName)) ∈ TT := tt_3 (List.mem_of_getElem? (i := 130) rfl) rfl
theorem wd_3_131 : (Jvm.Cond.instanceMethod ({ cls := "InkBank$Accounts", name := "available", desc := "(I)I" } : Jvm.MethodName)) ∈ TT := tt_3 (List.mem_of_getElem? (i := 131) rfl) rfl
theorem wd_3_132 : (Jvm.Cond.selects "InkBank$Accounts" ({ cls := "InkBank$Accounts", name := "available", desc := "(I)I" } : Jvm.MethodName) ({ cls := "InkBank$Accounts", name := "available", desc := "(I)I" } : Jvm.MethodName)) ∈ TT := tt_3 (List.mem_of_getElem? (i := 132) rfl) rfl
theorem wd_3_133 : (Jvm.Cond.code ({ cls := "InkBank$Accounts", name := "available", desc := "(I)I" } : Jvm.MethodName) prog_2_method_6_code (2 : Nat) (Option.some Jvm.ClassFile.FieldType.int)) ∈ TT := tt_3 (List.mem_of_getElem? (i := 133) rfl) rfl
theorem wd_3_134 : (Jvm.Cond.methodLink "InkBank" (90 : Nat) ({ cls := "InkBank$Ledger", name := "payOut", desc := "(II)I" } : Jvm.MethodName)) ∈ TT := tt_3 (List.mem_of_getElem? (i := 134) rfl) rfl
theorem wd_3_135 : (Jvm.Cond.instanceMethod ({ cls := "InkBank$Ledger", name := "payOut", desc := "(II)I" } : Jvm.MethodName)) ∈ TT := tt_3 (List.mem_of_getElem? (i := 135) rfl) rfl
theorem wd_3_136 : (Jvm.Cond.selects "InkBank$Ledger" ({ cls := "InkBank$Ledger", name := "payOut", desc := "(II)I" } : Jvm.MethodName) ({ cls := "InkBank$Ledger", name := "payOut", desc := "(II)I" } : Jvm.MethodName)) ∈ TT := tt_3 (List.mem_of_getElem? (i := 136) rfl) rfl
theorem wd_3_137 : (Jvm.Cond.code ({ cls := "InkBank$Ledger", name := "payOut", desc := "(II)I" } : Jvm.MethodName) prog_5_method_8_code (3 : Nat) (Option.some Jvm.ClassFile.FieldType.int)) ∈ TT := tt_3 (List.mem_of_getElem? (i := 137) rfl) rfl
theorem wd_3_143 : (Jvm.Cond.instanceMethod ({ cls := "InkBank", name := "setLimit", desc := "(II)I" } : Jvm.MethodName)) ∈ TT := tt_3 (List.mem_of_getElem? (i := 143) rfl) rfl
theorem wd_3_144 : (Jvm.Cond.selects "InkBank" ({ cls := "InkBank", name := "setLimit", desc := "(II)I" } : Jvm.MethodName) ({ cls := "InkBank", name := "setLimit", desc := "(II)I" } : Jvm.MethodName)) ∈ TT := tt_3 (List.mem_of_getElem? (i := 144) rfl) rfl
theorem wd_3_145 : (Jvm.Cond.code ({ cls := "InkBank", name := "setLimit", desc := "(II)I" } : Jvm.MethodName) prog_1_method_5_code (3 : Nat) (Option.some Jvm.ClassFile.FieldType.int)) ∈ TT := tt_3 (List.mem_of_getElem? (i := 145) rfl) rfl
theorem wd_3_146 : (Jvm.Cond.methodLink "InkBank" (93 : Nat) ({ cls := "InkBank$Ledger", name := "limitFault", desc := "(II)I" } : Jvm.MethodName)) ∈ TT := tt_3 (List.mem_of_getElem? (i := 146) rfl) rfl
theorem wd_3_147 : (Jvm.Cond.instanceMethod ({ cls := "InkBank$Ledger", name := "limitFault", desc := "(II)I" } : Jvm.MethodName)) ∈ TT := tt_3 (List.mem_of_getElem? (i := 147) rfl) rfl
theorem wd_3_148 : (Jvm.Cond.selects "InkBank$Ledger" ({ cls := "InkBank$Ledger", name := "limitFault", desc := "(II)I" } : Jvm.MethodName) ({ cls := "InkBank$Ledger", name := "limitFault", desc := "(II)I" } : Jvm.MethodName)) ∈ TT := tt_3 (List.mem_of_getElem? (i := 148) rfl) rfl
theorem wd_3_149 : (Jvm.Cond.code ({ cls := "InkBank$Ledger", name := "limitFault", desc := "(II)I" } : Jvm.MethodName) prog_5_method_9_code (5 : Nat) (Option.some Jvm.ClassFile.FieldType.int)) ∈ TT := tt_3 (List.mem_of_getElem? (i := 149) rfl) rfl
theorem wd_3_150 : (Jvm.Cond.methodLink "InkBank" (96 : Nat) ({ cls := "InkBank$Accounts", name := "changeLimit", desc := "(II)I" } : Jvm.MethodName)) ∈ TT := tt_3 (List.mem_of_getElem? (i := 150) rfl) rfl
theorem wd_3_151 : (Jvm.Cond.instanceMethod ({ cls := "InkBank$Accounts", name := "changeLimit", desc := "(II)I" } : Jvm.MethodName)) ∈ TT := tt_3 (List.mem_of_getElem? (i := 151) rfl) rfl
theorem wd_3_152 : (Jvm.Cond.selects "InkBank$Accounts" ({ cls := "InkBank$Accounts", name := "changeLimit", desc := "(II)I" } : Jvm.MethodName) ({ cls := "InkBank$Accounts", name := "changeLimit", desc := "(II)I" } : Jvm.MethodName)) ∈ TT := tt_3 (List.mem_of_getElem? (i := 152) rfl) rfl
theorem wd_3_153 : (Jvm.Cond.code ({ cls := "InkBank$Accounts", name := "changeLimit", desc := "(II)I" } : Jvm.MethodName) prog_2_method_5_code (4 : Nat) (Option.some Jvm.ClassFile.FieldType.int)) ∈ TT := tt_3 (List.mem_of_getElem? (i := 153) rfl) rfl
theorem wd_3_158 : (Jvm.Cond.instanceMethod ({ cls := "InkBank", name := "kindOf", desc := "(I)I" } : Jvm.MethodName)) ∈ TT := tt_3 (List.mem_of_getElem? (i := 158) rfl) rfl
theorem wd_3_159 : (Jvm.Cond.selects "InkBank" ({ cls := "InkBank", name := "kindOf", desc := "(I)I" } : Jvm.MethodName) ({ cls := "InkBank", name := "kindOf", desc := "(I)I" } : Jvm.MethodName)) ∈ TT := tt_3 (List.mem_of_getElem? (i := 159) rfl) rfl
theorem wd_3_160 : (Jvm.Cond.code ({ cls := "InkBank", name := "kindOf", desc := "(I)I" } : Jvm.MethodName) prog_1_method_7_code (2 : Nat) (Option.some Jvm.ClassFile.FieldType.int)) ∈ TT := tt_3 (List.mem_of_getElem? (i := 160) rfl) rfl
theorem wd_3_161 : (Jvm.Cond.methodLink "InkBank" (102 : Nat) ({ cls := "InkBank", name := "requireAccount", desc := "(I)V" } : Jvm.MethodName)) ∈ TT := tt_3 (List.mem_of_getElem? (i := 161) rfl) rfl
theorem wd_3_163 : (Jvm.Cond.instanceMethod ({ cls := "InkBank", name := "requireAccount", desc := "(I)V" } : Jvm.MethodName)) ∈ TT := tt_3 (List.mem_of_getElem? (i := 163) rfl) rfl
theorem wd_3_164 : (Jvm.Cond.code ({ cls := "InkBank", name := "requireAccount", desc := "(I)V" } : Jvm.MethodName) prog_1_method_51_code (2 : Nat) (Option.none : Option Jvm.ClassFile.FieldType)) ∈ TT := tt_3 (List.mem_of_getElem? (i := 164) rfl) rfl
theorem wd_3_165 : (Jvm.Cond.methodLink "InkBank" (125 : Nat) ({ cls := "InkBank$Accounts", name := "has", desc := "(I)Z" } : Jvm.MethodName)) ∈ TT := tt_3 (List.mem_of_getElem? (i := 165) rfl) rfl
theorem wd_3_170 : (Jvm.Cond.instanceMethod ({ cls := "InkBank", name := "balanceOf", desc := "(I)I" } : Jvm.MethodName)) ∈ TT := tt_3 (List.mem_of_getElem? (i := 170) rfl) rfl
theorem wd_3_171 : (Jvm.Cond.selects "InkBank" ({ cls := "InkBank", name := "balanceOf", desc := "(I)I" } : Jvm.MethodName) ({ cls := "InkBank", name := "balanceOf", desc := "(I)I" } : Jvm.MethodName)) ∈ TT := tt_3 (List.mem_of_getElem? (i := 171) rfl) rfl
theorem wd_3_172 : (Jvm.Cond.code ({ cls := "InkBank", name := "balanceOf", desc := "(I)I" } : Jvm.MethodName) prog_1_method_8_code (2 : Nat) (Option.some Jvm.ClassFile.FieldType.int)) ∈ TT := tt_3 (List.mem_of_getElem? (i := 172) rfl) rfl
theorem wd_3_177 : (Jvm.Cond.instanceMethod ({ cls := "InkBank", name := "limitOf", desc := "(I)I" } : Jvm.MethodName)) ∈ TT := tt_3 (List.mem_of_getElem? (i := 177) rfl) rfl
theorem wd_3_178 : (Jvm.Cond.selects "InkBank" ({ cls := "InkBank", name := "limitOf", desc := "(I)I" } : Jvm.MethodName) ({ cls := "InkBank", name := "limitOf", desc := "(I)I" } : Jvm.MethodName)) ∈ TT := tt_3 (List.mem_of_getElem? (i := 178) rfl) rfl
theorem wd_3_179 : (Jvm.Cond.code ({ cls := "InkBank", name := "limitOf", desc := "(I)I" } : Jvm.MethodName) prog_1_method_9_code (2 : Nat) (Option.some Jvm.ClassFile.FieldType.int)) ∈ TT := tt_3 (List.mem_of_getElem? (i := 179) rfl) rfl
theorem wd_3_184 : (Jvm.Cond.instanceMethod ({ cls := "InkBank", name := "availableIn", desc := "(I)I" } : Jvm.MethodName)) ∈ TT := tt_3 (List.mem_of_getElem? (i := 184) rfl) rfl
theorem wd_3_185 : (Jvm.Cond.selects "InkBank" ({ cls := "InkBank", name := "availableIn", desc := "(I)I" } : Jvm.MethodName) ({ cls := "InkBank", name := "availableIn", desc := "(I)I" } : Jvm.MethodName)) ∈ TT := tt_3 (List.mem_of_getElem? (i := 185) rfl) rfl
theorem wd_3_186 : (Jvm.Cond.code ({ cls := "InkBank", name := "availableIn", desc := "(I)I" } : Jvm.MethodName) prog_1_method_10_code (2 : Nat) (Option.some Jvm.ClassFile.FieldType.int)) ∈ TT := tt_3 (List.mem_of_getElem? (i := 186) rfl) rfl
theorem wd_3_187 : (Jvm.Cond.methodLink "InkBank" (115 : Nat) ({ cls := "InkBank$Accounts", name := "available", desc := "(I)I" } : Jvm.MethodName)) ∈ TT := tt_3 (List.mem_of_getElem? (i := 187) rfl) rfl
theorem wd_3_192 : (Jvm.Cond.instanceMethod ({ cls := "InkBank", name := "wasTouched", desc := "(I)Z" } : Jvm.MethodName)) ∈ TT := tt_3 (List.mem_of_getElem? (i := 192) rfl) rfl
theorem wd_3_193 : (Jvm.Cond.selects "InkBank" ({ cls := "InkBank", name := "wasTouched", desc := "(I)Z" } : Jvm.MethodName) ({ cls := "InkBank", name := "wasTouched", desc := "(I)Z" } : Jvm.MethodName)) ∈ TT := tt_3 (List.mem_of_getElem? (i := 193) rfl) rfl
theorem wd_3_194 : (Jvm.Cond.code ({ cls := "InkBank", name := "wasTouched", desc := "(I)Z" } : Jvm.MethodName) prog_1_method_11_code (2 : Nat) (Option.some Jvm.ClassFile.FieldType.boolean)) ∈ TT := tt_3 (List.mem_of_getElem? (i := 194) rfl) rfl
theorem wd_3_199 : (Jvm.Cond.instanceMethod ({ cls := "InkBank", name := "interestOf", desc := "(I)I" } : Jvm.MethodName)) ∈ TT := tt_3 (List.mem_of_getElem? (i := 199) rfl) rfl
theorem wd_3_200 : (Jvm.Cond.selects "InkBank" ({ cls := "InkBank", name := "interestOf", desc := "(I)I" } : Jvm.MethodName) ({ cls := "InkBank", name := "interestOf", desc := "(I)I" } : Jvm.MethodName)) ∈ TT := tt_3 (List.mem_of_getElem? (i := 200) rfl) rfl
theorem wd_3_201 : (Jvm.Cond.code ({ cls := "InkBank", name := "interestOf", desc := "(I)I" } : Jvm.MethodName) prog_1_method_12_code (2 : Nat) (Option.some Jvm.ClassFile.FieldType.int)) ∈ TT := tt_3 (List.mem_of_getElem? (i := 201) rfl) rfl
theorem wd_3_202 : (Jvm.Cond.methodLink "InkBank" (122 : Nat) ({ cls := "InkBank$Accounts", name := "interest", desc := "(I)I" } : Jvm.MethodName)) ∈ TT := tt_3 (List.mem_of_getElem? (i := 202) rfl) rfl
theorem wd_3_203 : (Jvm.Cond.instanceMethod ({ cls := "InkBank$Accounts", name := "interest", desc := "(I)I" } : Jvm.MethodName)) ∈ TT := tt_3 (List.mem_of_getElem? (i := 203) rfl) rfl
theorem wd_3_204 : (Jvm.Cond.selects "InkBank$Accounts" ({ cls := "InkBank$Accounts", name := "interest", desc := "(I)I" } : Jvm.MethodName) ({ cls := "InkBank$Accounts", name := "interest", desc := "(I)I" } : Jvm.MethodName)) ∈ TT := tt_3 (List.mem_of_getElem? (i := 204) rfl) rfl
theorem wd_3_205 : (Jvm.Cond.code ({ cls := "InkBank$Accounts", name := "interest", desc := "(I)I" } : Jvm.MethodName) prog_2_method_9_code (4 : Nat) (Option.some Jvm.ClassFile.FieldType.int)) ∈ TT := tt_3 (List.mem_of_getElem? (i := 205) rfl) rfl
theorem wd_3_206 : (Jvm.Cond.methodLink "InkBank$Accounts" (29 : Nat) ({ cls := "InkBank$Accounts", name := "fullCharge", desc := "(I)I" } : Jvm.MethodName)) ∈ TT := tt_3 (List.mem_of_getElem? (i := 206) rfl) rfl
theorem wd_3_208 : (Jvm.Cond.instanceMethod ({ cls := "InkBank$Accounts", name := "fullCharge", desc := "(I)I" } : Jvm.MethodName)) ∈ TT := tt_3 (List.mem_of_getElem? (i := 208) rfl) rfl
theorem wd_3_209 : (Jvm.Cond.code ({ cls := "InkBank$Accounts", name := "fullCharge", desc := "(I)I" } : Jvm.MethodName) prog_2_method_10_code (2 : Nat) (Option.some Jvm.ClassFile.FieldType.int)) ∈ TT := tt_3 (List.mem_of_getElem? (i := 209) rfl) rfl
theorem wd_3_210 : (Jvm.Cond.methodLink "InkBank$Accounts" (42 : Nat) ({ cls := "java/lang/Math", name := "max", desc := "(II)I" } : Jvm.MethodName)) ∈ TT := tt_3 (List.mem_of_getElem? (i := 210) rfl) rfl
theorem wd_3_211 : (Jvm.Cond.static ({ cls := "java/lang/Math", name := "max", desc := "(II)I" } : Jvm.MethodName)) ∈ TT := tt_3 (List.mem_of_getElem? (i := 211) rfl) rfl
theorem wd_3_212 : (Jvm.Cond.code ({ cls := "java/lang/Math", name := "max", desc := "(II)I" } : Jvm.MethodName) prog_24_method_65_code (2 : Nat) (Option.some Jvm.ClassFile.FieldType.int)) ∈ TT := tt_3 (List.mem_of_getElem? (i := 212) rfl) rfl
theorem wd_3_213 : (Jvm.Cond.methodLink "InkBank$Accounts" (33 : Nat) ({ cls := "InkBank$Accounts", name := "available", desc := "(I)I" } : Jvm.MethodName)) ∈ TT := tt_3 (List.mem_of_getElem? (i := 213) rfl) rfl
theorem wd_3_214 : (Jvm.Cond.methodLink "InkBank$Accounts" (36 : Nat) ({ cls := "java/lang/Math", name := "min", desc := "(II)I" } : Jvm.MethodName)) ∈ TT := tt_3 (List.mem_of_getElem? (i := 214) rfl) rfl
theorem wd_3_220 : (Jvm.Cond.instanceMethod ({ cls := "InkBank", name := "accountAtRank", desc := "(I)I" } : Jvm.MethodName)) ∈ TT := tt_3 (List.mem_of_getElem? (i := 220) rfl) rfl
theorem wd_3_221 : (Jvm.Cond.selects "InkBank" ({ cls := "InkBank", name := "accountAtRank", desc := "(I)I" } : Jvm.MethodName) ({ cls := "InkBank", name := "accountAtRank", desc := "(I)I" } : Jvm.MethodName)) ∈ TT := tt_3 (List.mem_of_getElem? (i := 221) rfl) rfl
theorem wd_3_222 : (Jvm.Cond.code ({ cls := "InkBank", name := "accountAtRank", desc := "(I)I" } : Jvm.MethodName) prog_1_method_13_code (2 : Nat) (Option.some Jvm.ClassFile.FieldType.int)) ∈ TT := tt_3 (List.mem_of_getElem? (i := 222) rfl) rfl
theorem wd_3_223 : (Jvm.Cond.methodLink "InkBank" (132 : Nat) ({ cls := "InkBank$Accounts", name := "atRank", desc := "(I)I" } : Jvm.MethodName)) ∈ TT := tt_3 (List.mem_of_getElem? (i := 223) rfl) rfl
theorem wd_3_224 : (Jvm.Cond.instanceMethod ({ cls := "InkBank$Accounts", name := "atRank", desc := "(I)I" } : Jvm.MethodName)) ∈ TT := tt_3 (List.mem_of_getElem? (i := 224) rfl) rfl
theorem wd_3_225 : (Jvm.Cond.selects "InkBank$Accounts" ({ cls := "InkBank$Accounts", name := "atRank", desc := "(I)I" } : Jvm.MethodName) ({ cls := "InkBank$Accounts", name := "atRank", desc := "(I)I" } : Jvm.MethodName)) ∈ TT := tt_3 (List.mem_of_getElem? (i := 225) rfl) rfl
theorem wd_3_226 : (Jvm.Cond.code ({ cls := "InkBank$Accounts", name := "atRank", desc := "(I)I" } : Jvm.MethodName) prog_2_method_11_code (4 : Nat) (Option.some Jvm.ClassFile.FieldType.int)) ∈ TT := tt_3 (List.mem_of_getElem? (i := 226) rfl) rfl
theorem wd_3_227 : (Jvm.Cond.methodLink "InkBank$Accounts" (45 : Nat) ({ cls := "InkBank$Accounts", name := "rankOf", desc := "(I)I" } : Jvm.MethodName)) ∈ TT := tt_3 (List.mem_of_getElem? (i := 227) rfl) rfl
theorem wd_3_229 : (Jvm.Cond.instanceMethod ({ cls := "InkBank$Accounts", name := "rankOf", desc := "(I)I" } : Jvm.MethodName)) ∈ TT := tt_3 (List.mem_of_getElem? (i := 229) rfl) rfl
theorem wd_3_230 : (Jvm.Cond.code ({ cls := "InkBank$Accounts", name := "rankOf", desc := "(I)I" } : Jvm.MethodName) prog_2_method_12_code (6 : Nat) (Option.some Jvm.ClassFile.FieldType.int)) ∈ TT := tt_3 (List.mem_of_getElem? (i := 230) rfl) rfl
theorem wd_4_9 : (Jvm.Cond.instanceMethod ({ cls := "InkBank", name := "meanBalance", desc := "()D" } : Jvm.MethodName)) ∈ TT := tt_4 (List.mem_of_getElem? (i := 9) rfl) rfl
theorem wd_4_10 : (Jvm.Cond.selects "InkBank" ({ cls := "InkBank", name := "meanBalance", desc := "()D" } : Jvm.MethodName) ({ cls := "InkBank", name := "meanBalance", desc := "()D" } : Jvm.MethodName)) ∈ TT := tt_4 (List.mem_of_getElem? (i := 10) rfl) rfl
theorem wd_4_11 : (Jvm.Cond.code ({ cls := "InkBank", name := "meanBalance", desc := "()D" } : Jvm.MethodName) prog_1_method_14_code (1 : Nat) (Option.some Jvm.ClassFile.FieldType.double)) ∈ TT := tt_4 (List.mem_of_getElem? (i := 11) rfl) rfl
theorem wd_4_21 : (Jvm.Cond.instanceMethod ({ cls := "InkBank", name := "endDays", desc := "(I)I" } : Jvm.MethodName)) ∈ TT := tt_4 (List.mem_of_getElem? (i := 21) rfl) rfl
theorem wd_4_22 : (Jvm.Cond.selects "InkBank" ({ cls := "InkBank", name := "endDays", desc := "(I)I" } : Jvm.MethodName) ({ cls := "InkBank", name := "endDays", desc := "(I)I" } : Jvm.MethodName)) ∈ TT := tt_4 (List.mem_of_getElem? (i := 22) rfl) rfl
theorem wd_4_23 : (Jvm.Cond.code ({ cls := "InkBank", name := "endDays", desc := "(I)I" } : Jvm.MethodName) prog_1_method_22_code (2 : Nat) (Option.some Jvm.ClassFile.FieldType.int)) ∈ TT := tt_4 (List.mem_of_getElem? (i := 23) rfl) rfl
theorem wd_4_24 : (Jvm.Cond.methodLink "InkBank" (163 : Nat) ({ cls := "InkBank$Ledger", name := "endDaysFault", desc := "(I)I" } : Jvm.MethodName)) ∈ TT := tt_4 (List.mem_of_getElem? (i := 24) rfl) rfl
theorem wd_4_25 : (Jvm.Cond.instanceMethod ({ cls := "InkBank$Ledger", name := "endDaysFault", desc := "(I)I" } : Jvm.MethodName)) ∈ TT := tt_4 (List.mem_of_getElem? (i := 25) rfl) rfl
theorem wd_4_26 : (Jvm.Cond.selects "InkBank$Ledger" ({ cls := "InkBank$Ledger", name := "endDaysFault", desc := "(I)I" } : Jvm.MethodName) ({ cls := "InkBank$Ledger", name := "endDaysFault", desc := "(I)I" } : Jvm.MethodName)) ∈ TT := tt_4 (List.mem_of_getElem? (i := 26) rfl) rfl
theorem wd_4_27 : (Jvm.Cond.code ({ cls := "InkBank$Ledger", name := "endDaysFault", desc := "(I)I" } : Jvm.MethodName) prog_5_method_12_code (2 : Nat) (Option.some Jvm.ClassFile.FieldType.int)) ∈ TT := tt_4 (List.mem_of_getElem? (i := 27) rfl) rfl
theorem wd_4_28 : (Jvm.Cond.methodLink "InkBank" (166 : Nat) ({ cls := "InkBank$Ledger", name := "passDays", desc := "(I)I" } : Jvm.MethodName)) ∈ TT := tt_4 (List.mem_of_getElem? (i := 28) rfl) rfl
theorem wd_4_29 : (Jvm.Cond.instanceMethod ({ cls := "InkBank$Ledger", name := "passDays", desc := "(I)I" } : Jvm.MethodName)) ∈ TT := tt_4 (List.mem_of_getElem? (i := 29) rfl) rfl
theorem wd_4_30 : (Jvm.Cond.selects "InkBank$Ledger" ({ cls := "InkBank$Ledger", name := "passDays", desc := "(I)I" } : Jvm.MethodName) ({ cls := "InkBank$Ledger", name := "passDays", desc := "(I)I" } : Jvm.MethodName)) ∈ TT := tt_4 (List.mem_of_getElem? (i := 30) rfl) rfl
theorem wd_4_31 : (Jvm.Cond.code ({ cls := "InkBank$Ledger", name := "passDays", desc := "(I)I" } : Jvm.MethodName) prog_5_method_14_code (4 : Nat) (Option.some Jvm.ClassFile.FieldType.int)) ∈ TT := tt_4 (List.mem_of_getElem? (i := 31) rfl) rfl
theorem wd_4_32 : (Jvm.Cond.methodLink "InkBank$Ledger" (106 : Nat) ({ cls := "InkBank$Ledger", name := "settleDue", desc := "()I" } : Jvm.MethodName)) ∈ TT := tt_4 (List.mem_of_getElem? (i := 32) rfl) rfl
theorem wd_4_34 : (Jvm.Cond.instanceMethod ({ cls := "InkBank$Ledger", name := "settleDue", desc := "()I" } : Jvm.MethodName)) ∈ TT := tt_4 (List.mem_of_getElem? (i := 34) rfl) rfl
theorem wd_4_35 : (Jvm.Cond.code ({ cls := "InkBank$Ledger", name := "settleDue", desc := "()I" } : Jvm.MethodName) prog_5_method_15_code (4 : Nat) (Option.some Jvm.ClassFile.FieldType.int)) ∈ TT := tt_4 (List.mem_of_getElem? (i := 35) rfl) rfl
theorem wd_4_36 : (Jvm.Cond.methodLink "InkBank$Ledger" (119 : Nat) ({ cls := "InkBank$Transfers", name := "copySlot", desc := "(LInkBank$Transfers;II)V" } : Jvm.MethodName)) ∈ TT := tt_4 (List.mem_of_getElem? (i := 36) rfl) rfl
theorem wd_4_37 : (Jvm.Cond.methodLink "InkBank$Ledger" (123 : Nat) ({ cls := "InkBank$Ledger", name := "settle", desc := "(I)Z" } : Jvm.MethodName)) ∈ TT := tt_4 (List.mem_of_getElem? (i := 37) rfl) rfl
theorem wd_4_39 : (Jvm.Cond.instanceMethod ({ cls := "InkBank$Ledger", name := "settle", desc := "(I)Z" } : Jvm.MethodName)) ∈ TT := tt_4 (List.mem_of_getElem? (i := 39) rfl) rfl
theorem wd_4_40 : (Jvm.Cond.code ({ cls := "InkBank$Ledger", name := "settle", desc := "(I)Z" } : Jvm.MethodName) prog_5_method_18_code (4 : Nat) (Option.some Jvm.ClassFile.FieldType.boolean)) ∈ TT := tt_4 (List.mem_of_getElem? (i := 40) rfl) rfl
theorem wd_4_41 : (Jvm.Cond.methodLink "InkBank$Ledger" (135 : Nat) ({ cls := "InkBank$Ledger", name := "covers", desc := "(I)Z" } : Jvm.MethodName)) ∈ TT := tt_4 (List.mem_of_getElem? (i := 41) rfl) rfl
theorem wd_4_42 : (Jvm.Cond.instanceMethod ({ cls := "InkBank$Ledger", name := "covers", desc := "(I)Z" } : Jvm.MethodName)) ∈ TT := tt_4 (List.mem_of_getElem? (i := 42) rfl) rfl
theorem wd_4_43 : (Jvm.Cond.selects "InkBank$Ledger" ({ cls := "InkBank$Ledger", name := "covers", desc := "(I)Z" } : Jvm.MethodName) ({ cls := "InkBank$Ledger", name := "covers", desc := "(I)Z" } : Jvm.MethodName)) ∈ TT := tt_4 (List.mem_of_getElem? (i := 43) rfl) rfl
theorem wd_4_44 : (Jvm.Cond.code ({ cls := "InkBank$Ledger", name := "covers", desc := "(I)Z" } : Jvm.MethodName) prog_5_method_17_code (2 : Nat) (Option.some Jvm.ClassFile.FieldType.boolean)) ∈ TT := tt_4 (List.mem_of_getElem? (i := 44) rfl) rfl
theorem wd_4_45 : (Jvm.Cond.methodLink "InkBank$Ledger" (138 : Nat) ({ cls := "InkBank$Ledger", name := "collect", desc := "(CII)V" } : Jvm.MethodName)) ∈ TT := tt_4 (List.mem_of_getElem? (i := 45) rfl) rfl
theorem wd_4_47 : (Jvm.Cond.instanceMethod ({ cls := "InkBank$Ledger", name := "collect", desc := "(CII)V" } : Jvm.MethodName)) ∈ TT := tt_4 (List.mem_of_getElem? (i := 47) rfl) rfl
theorem wd_4_48 : (Jvm.Cond.code ({ cls := "InkBank$Ledger", name := "collect", desc := "(CII)V" } : Jvm.MethodName) prog_5_method_19_code (5 : Nat) (Option.none : Option Jvm.ClassFile.FieldType)) ∈ TT := tt_4 (List.mem_of_getElem? (i := 48) rfl) rfl
theorem wd_4_49 : (Jvm.Cond.methodLink "InkBank$Ledger" (144 : Nat) ({ cls := "java/lang/Math", name := "min", desc := "(II)I" } : Jvm.MethodName)) ∈ TT := tt_4 (List.mem_of_getElem? (i := 49) rfl) rfl
theorem wd_4_50 : (Jvm.Cond.methodLink "InkBank$Ledger" (110 : Nat) ({ cls := "InkBank$Ledger", name := "payInterest", desc := "()V" } : Jvm.MethodName)) ∈ TT := tt_4 (List.mem_of_getElem? (i := 50) rfl) rfl
theorem wd_4_52 : (Jvm.Cond.instanceMethod ({ cls := "InkBank$Ledger", name := "payInterest", desc := "()V" } : Jvm.MethodName)) ∈ TT := tt_4 (List.mem_of_getElem? (i := 52) rfl) rfl
theorem wd_4_53 : (Jvm.Cond.code ({ cls := "InkBank$Ledger", name := "payInterest", desc := "()V" } : Jvm.MethodName) prog_5_method_20_code (3 : Nat) (Option.none : Option Jvm.ClassFile.FieldType)) ∈ TT := tt_4 (List.mem_of_getElem? (i := 53) rfl) rfl
theorem wd_4_54 : (Jvm.Cond.methodLink "InkBank$Ledger" (150 : Nat) ({ cls := "InkBank$Accounts", name := "interest", desc := "(I)I" } : Jvm.MethodName)) ∈ TT := tt_4 (List.mem_of_getElem? (i := 54) rfl) rfl
theorem wd_4_55 : (Jvm.Cond.methodLink "InkBank$Ledger" (113 : Nat) ({ cls := "InkBank$Accounts", name := "forgetTouches", desc := "()V" } : Jvm.MethodName)) ∈ TT := tt_4 (List.mem_of_getElem? (i := 55) rfl) rfl
theorem wd_4_56 : (Jvm.Cond.instanceMethod ({ cls := "InkBank$Accounts", name := "forgetTouches", desc := "()V" } : Jvm.MethodName)) ∈ TT := tt_4 (List.mem_of_getElem? (i := 56) rfl) rfl
theorem wd_4_57 : (Jvm.Cond.selects "InkBank$Accounts" ({ cls := "InkBank$Accounts", name := "forgetTouches", desc := "()V" } : Jvm.MethodName) ({ cls := "InkBank$Accounts", name := "forgetTouches", desc := "()V" } : Jvm.MethodName)) ∈ TT := tt_4 (List.mem_of_getElem? (i := 57) rfl) rfl
theorem wd_4_58 : (Jvm.Cond.code ({ cls := "InkBank$Accounts", name := "forgetTouches", desc := "()V" } : Jvm.MethodName) prog_2_method_7_code (2 : Nat) (Option.none : Option Jvm.ClassFile.FieldType)) ∈ TT := tt_4 (List.mem_of_getElem? (i := 58) rfl) rfl
theorem wd_4_63 : (Jvm.Cond.instanceMethod ({ cls := "InkBank", name := "balanceAfter", desc := "(II)I" } : Jvm.MethodName)) ∈ TT := tt_4 (List.mem_of_getElem? (i := 63) rfl) rfl
theorem wd_4_64 : (Jvm.Cond.selects "InkBank" ({ cls := "InkBank", name := "balanceAfter", desc := "(II)I" } : Jvm.MethodName) ({ cls := "InkBank", name := "balanceAfter", desc := "(II)I" } : Jvm.MethodName)) ∈ TT := tt_4 (List.mem_of_getElem? (i := 64) rfl) rfl
theorem wd_4_65 : (Jvm.Cond.code ({ cls := "InkBank", name := "balanceAfter", desc := "(II)I" } : Jvm.MethodName) prog_1_method_23_code (3 : Nat) (Option.some Jvm.ClassFile.FieldType.int)) ∈ TT := tt_4 (List.mem_of_getElem? (i := 65) rfl) rfl
theorem wd_4_66 : (Jvm.Cond.methodLink "InkBank" (169 : Nat) ({ cls := "InkBank$Ledger", name := "balanceAfterFault", desc := "(II)I" } : Jvm.MethodName)) ∈ TT := tt_4 (List.mem_of_getElem? (i := 66) rfl) rfl
theorem wd_4_67 : (Jvm.Cond.instanceMethod ({ cls := "InkBank$Ledger", name := "balanceAfterFault", desc := "(II)I" } : Jvm.MethodName)) ∈ TT := tt_4 (List.mem_of_getElem? (i := 67) rfl) rfl
theorem wd_4_68 : (Jvm.Cond.selects "InkBank$Ledger" ({ cls := "InkBank$Ledger", name := "balanceAfterFault", desc := "(II)I" } : Jvm.MethodName) ({ cls := "InkBank$Ledger", name := "balanceAfterFault", desc := "(II)I" } : Jvm.MethodName)) ∈ TT := tt_4 (List.mem_of_getElem? (i := 68) rfl) rfl
theorem wd_4_69 : (Jvm.Cond.code ({ cls := "InkBank$Ledger", name := "balanceAfterFault", desc := "(II)I" } : Jvm.MethodName) prog_5_method_13_code (3 : Nat) (Option.some Jvm.ClassFile.FieldType.int)) ∈ TT := tt_4 (List.mem_of_getElem? (i := 69) rfl) rfl
theorem wd_4_74 : (Jvm.Cond.instanceMethod ({ cls := "InkBank", name := "seal", desc := "(IIII)I" } : Jvm.MethodName)) ∈ TT := tt_4 (List.mem_of_getElem? (i := 74) rfl) rfl
theorem wd_4_75 : (Jvm.Cond.selects "InkBank" ({ cls := "InkBank", name := "seal", desc := "(IIII)I" } : Jvm.MethodName) ({ cls := "InkBank", name := "seal", desc := "(IIII)I" } : Jvm.MethodName)) ∈ TT := tt_4 (List.mem_of_getElem? (i := 75) rfl) rfl
theorem wd_4_76 : (Jvm.Cond.code ({ cls := "InkBank", name := "seal", desc := "(IIII)I" } : Jvm.MethodName) prog_1_method_24_code (5 : Nat) (Option.some Jvm.ClassFile.FieldType.int)) ∈ TT := tt_4 (List.mem_of_getElem? (i := 76) rfl) rfl
theorem wd_4_77 : (Jvm.Cond.methodLink "InkBank" (175 : Nat) ({ cls := "InkBank$Ledger", name := "sealFault", desc := "(IIII)I" } : Jvm.MethodName)) ∈ TT := tt_4 (List.mem_of_getElem? (i := 77) rfl) rfl
theorem wd_4_78 : (Jvm.Cond.instanceMethod ({ cls := "InkBank$Ledger", name := "sealFault", desc := "(IIII)I" } : Jvm.MethodName)) ∈ TT := tt_4 (List.mem_of_getElem? (i := 78) rfl) rfl
theorem wd_4_79 : (Jvm.Cond.selects "InkBank$Ledger" ({ cls := "InkBank$Ledger", name := "sealFault", desc := "(IIII)I" } : Jvm.MethodName) ({ cls := "InkBank$Ledger", name := "sealFault", desc := "(IIII)I" } : Jvm.MethodName)) ∈ TT := tt_4 (List.mem_of_getElem? (i := 79) rfl) rfl
theorem wd_4_80 : (Jvm.Cond.code ({ cls := "InkBank$Ledger", name := "sealFault", desc := "(IIII)I" } : Jvm.MethodName) prog_5_method_10_code (5 : Nat) (Option.some Jvm.ClassFile.FieldType.int)) ∈ TT := tt_4 (List.mem_of_getElem? (i := 80) rfl) rfl
theorem wd_4_81 : (Jvm.Cond.methodLink "InkBank" (183 : Nat) ({ cls := "InkBank$Transfers", name := "add", desc := "(IIII)I" } : Jvm.MethodName)) ∈ TT := tt_4 (List.mem_of_getElem? (i := 81) rfl) rfl
theorem wd_4_82 : (Jvm.Cond.instanceMethod ({ cls := "InkBank$Transfers", name := "add", desc := "(IIII)I" } : Jvm.MethodName)) ∈ TT := tt_4 (List.mem_of_getElem? (i := 82) rfl) rfl
theorem wd_4_83 : (Jvm.Cond.selects "InkBank$Transfers" ({ cls := "InkBank$Transfers", name := "add", desc := "(IIII)I" } : Jvm.MethodName) ({ cls := "InkBank$Transfers", name := "add", desc := "(IIII)I" } : Jvm.MethodName)) ∈ TT := tt_4 (List.mem_of_getElem? (i := 83) rfl) rfl
theorem wd_4_84 : (Jvm.Cond.code ({ cls := "InkBank$Transfers", name := "add", desc := "(IIII)I" } : Jvm.MethodName) prog_7_method_5_code (6 : Nat) (Option.some Jvm.ClassFile.FieldType.int)) ∈ TT := tt_4 (List.mem_of_getElem? (i := 84) rfl) rfl
theorem wd_4_89 : (Jvm.Cond.instanceMethod ({ cls := "InkBank", name := "cancel", desc := "(I)I" } : Jvm.MethodName)) ∈ TT := tt_4 (List.mem_of_getElem? (i := 89) rfl) rfl
theorem wd_4_90 : (Jvm.Cond.selects "InkBank" ({ cls := "InkBank", name := "cancel", desc := "(I)I" } : Jvm.MethodName) ({ cls := "InkBank", name := "cancel", desc := "(I)I" } : Jvm.MethodName)) ∈ TT := tt_4 (List.mem_of_getElem? (i := 90) rfl) rfl
theorem wd_4_91 : (Jvm.Cond.code ({ cls := "InkBank", name := "cancel", desc := "(I)I" } : Jvm.MethodName) prog_1_method_25_code (2 : Nat) (Option.some Jvm.ClassFile.FieldType.int)) ∈ TT := tt_4 (List.mem_of_getElem? (i := 91) rfl) rfl
theorem wd_4_92 : (Jvm.Cond.methodLink "InkBank" (187 : Nat) ({ cls := "InkBank$Ledger", name := "cancelFault", desc := "(I)I" } : Jvm.MethodName)) ∈ TT := tt_4 (List.mem_of_getElem? (i := 92) rfl) rfl
theorem wd_4_93 : (Jvm.Cond.instanceMethod ({ cls := "InkBank$Ledger", name := "cancelFault", desc := "(I)I" } : Jvm.MethodName)) ∈ TT := tt_4 (List.mem_of_getElem? (i := 93) rfl) rfl
theorem wd_4_94 : (Jvm.Cond.selects "InkBank$Ledger" ({ cls := "InkBank$Ledger", name := "cancelFault", desc := "(I)I" } : Jvm.MethodName) ({ cls := "InkBank$Ledger", name := "cancelFault", desc := "(I)I" } : Jvm.MethodName)) ∈ TT := tt_4 (List.mem_of_getElem? (i := 94) rfl) rfl
theorem wd_4_95 : (Jvm.Cond.code ({ cls := "InkBank$Ledger", name := "cancelFault", desc := "(I)I" } : Jvm.MethodName) prog_5_method_11_code (2 : Nat) (Option.some Jvm.ClassFile.FieldType.int)) ∈ TT := tt_4 (List.mem_of_getElem? (i := 95) rfl) rfl
theorem wd_4_96 : (Jvm.Cond.methodLink "InkBank$Ledger" (103 : Nat) ({ cls := "InkBank$Transfers", name := "find", desc := "(I)I" } : Jvm.MethodName)) ∈ TT := tt_4 (List.mem_of_getElem? (i := 96) rfl) rfl
theorem wd_4_97 : (Jvm.Cond.instanceMethod ({ cls := "InkBank$Transfers", name := "find", desc := "(I)I" } : Jvm.MethodName)) ∈ TT := tt_4 (List.mem_of_getElem? (i := 97) rfl) rfl
theorem wd_4_98 : (Jvm.Cond.selects "InkBank$Transfers" ({ cls := "InkBank$Transfers", name := "find", desc := "(I)I" } : Jvm.MethodName) ({ cls := "InkBank$Transfers", name := "find", desc := "(I)I" } : Jvm.MethodName)) ∈ TT := tt_4 (List.mem_of_getElem? (i := 98) rfl) rfl
theorem wd_4_99 : (Jvm.Cond.code ({ cls := "InkBank$Transfers", name := "find", desc := "(I)I" } : Jvm.MethodName) prog_7_method_4_code (3 : Nat) (Option.some Jvm.ClassFile.FieldType.int)) ∈ TT := tt_4 (List.mem_of_getElem? (i := 99) rfl) rfl
theorem wd_4_100 : (Jvm.Cond.methodLink "InkBank" (190 : Nat) ({ cls := "InkBank$Transfers", name := "remove", desc := "(I)I" } : Jvm.MethodName)) ∈ TT := tt_4 (List.mem_of_getElem? (i := 100) rfl) rfl
theorem wd_4_101 : (Jvm.Cond.instanceMethod ({ cls := "InkBank$Transfers", name := "remove", desc := "(I)I" } : Jvm.MethodName)) ∈ TT := tt_4 (List.mem_of_getElem? (i := 101) rfl) rfl
theorem wd_4_102 : (Jvm.Cond.selects "InkBank$Transfers" ({ cls := "InkBank$Transfers", name := "remove", desc := "(I)I" } : Jvm.MethodName) ({ cls := "InkBank$Transfers", name := "remove", desc := "(I)I" } : Jvm.MethodName)) ∈ TT := tt_4 (List.mem_of_getElem? (i := 102) rfl) rfl
theorem wd_4_103 : (Jvm.Cond.code ({ cls := "InkBank$Transfers", name := "remove", desc := "(I)I" } : Jvm.MethodName) prog_7_method_6_code (5 : Nat) (Option.some Jvm.ClassFile.FieldType.int)) ∈ TT := tt_4 (List.mem_of_getElem? (i := 103) rfl) rfl
theorem wd_4_108 : (Jvm.Cond.instanceMethod ({ cls := "InkBank", name := "transferAt", desc := "(I)I" } : Jvm.MethodName)) ∈ TT := tt_4 (List.mem_of_getElem? (i := 108) rfl) rfl
theorem wd_4_109 : (Jvm.Cond.selects "InkBank" ({ cls := "InkBank", name := "transferAt", desc := "(I)I" } : Jvm.MethodName) ({ cls := "InkBank", name := "transferAt", desc := "(I)I" } : Jvm.MethodName)) ∈ TT := tt_4 (List.mem_of_getElem? (i := 109) rfl) rfl
theorem wd_4_110 : (Jvm.Cond.code ({ cls := "InkBank", name := "transferAt", desc := "(I)I" } : Jvm.MethodName) prog_1_method_27_code (2 : Nat) (Option.some Jvm.ClassFile.FieldType.int)) ∈ TT := tt_4 (List.mem_of_getElem? (i := 110) rfl) rfl
theorem wd_4_111 : (Jvm.Cond.methodLink "InkBank" (197 : Nat) ({ cls := "InkBank$Transfers", name := "idAt", desc := "(I)I" } : Jvm.MethodName)) ∈ TT := tt_4 (List.mem_of_getElem? (i := 111) rfl) rfl
theorem wd_4_112 : (Jvm.Cond.instanceMethod ({ cls := "InkBank$Transfers", name := "idAt", desc := "(I)I" } : Jvm.MethodName)) ∈ TT := tt_4 (List.mem_of_getElem? (i := 112) rfl) rfl
theorem wd_4_113 : (Jvm.Cond.selects "InkBank$Transfers" ({ cls := "InkBank$Transfers", name := "idAt", desc := "(I)I" } : Jvm.MethodName) ({ cls := "InkBank$Transfers", name := "idAt", desc := "(I)I" } : Jvm.MethodName)) ∈ TT := tt_4 (List.mem_of_getElem? (i := 113) rfl) rfl
theorem wd_4_114 : (Jvm.Cond.code ({ cls := "InkBank$Transfers", name := "idAt", desc := "(I)I" } : Jvm.MethodName) prog_7_method_7_code (4 : Nat) (Option.some Jvm.ClassFile.FieldType.int)) ∈ TT := tt_4 (List.mem_of_getElem? (i := 114) rfl) rfl
theorem wd_4_115 : (Jvm.Cond.methodLink "InkBank$Transfers" (38 : Nat) ({ cls := "InkBank$Transfers", name := "positionOf", desc := "(I)I" } : Jvm.MethodName)) ∈ TT := tt_4 (List.mem_of_getElem? (i := 115) rfl) rfl
theorem wd_4_117 : (Jvm.Cond.instanceMethod ({ cls := "InkBank$Transfers", name := "positionOf", desc := "(I)I" } : Jvm.MethodName)) ∈ TT := tt_4 (List.mem_of_getElem? (i := 117) rfl) rfl
theorem wd_4_118 : (Jvm.Cond.code ({ cls := "InkBank$Transfers", name := "positionOf", desc := "(I)I" } : Jvm.MethodName) prog_7_method_8_code (6 : Nat) (Option.some Jvm.ClassFile.FieldType.int)) ∈ TT := tt_4 (List.mem_of_getElem? (i := 118) rfl) rfl
theorem wd_4_123 : (Jvm.Cond.instanceMethod ({ cls := "InkBank", name := "senderOf", desc := "(I)I" } : Jvm.MethodName)) ∈ TT := tt_4 (List.mem_of_getElem? (i := 123) rfl) rfl
theorem wd_4_124 : (Jvm.Cond.selects "InkBank" ({ cls := "InkBank", name := "senderOf", desc := "(I)I" } : Jvm.MethodName) ({ cls := "InkBank", name := "senderOf", desc := "(I)I" } : Jvm.MethodName)) ∈ TT := tt_4 (List.mem_of_getElem? (i := 124) rfl) rfl
theorem wd_4_125 : (Jvm.Cond.code ({ cls := "InkBank", name := "senderOf", desc := "(I)I" } : Jvm.MethodName) prog_1_method_28_code (2 : Nat) (Option.some Jvm.ClassFile.FieldType.int)) ∈ TT := tt_4 (List.mem_of_getElem? (i := 125) rfl) rfl
theorem wd_4_126 : (Jvm.Cond.methodLink "InkBank" (203 : Nat) ({ cls := "InkBank", name := "requireTransfer", desc := "(I)I" } : Jvm.MethodName)) ∈ TT := tt_4 (List.mem_of_getElem? (i := 126) rfl) rfl
theorem wd_4_128 : (Jvm.Cond.instanceMethod ({ cls := "InkBank", name := "requireTransfer", desc := "(I)I" } : Jvm.MethodName)) ∈ TT := tt_4 (List.mem_of_getElem? (i := 128) rfl) rfl
theorem wd_4_129 : (Jvm.Cond.code ({ cls := "InkBank", name := "requireTransfer", desc := "(I)I" } : Jvm.MethodName) prog_1_method_52_code (3 : Nat) (Option.some Jvm.ClassFile.FieldType.int)) ∈ TT := tt_4 (List.mem_of_getElem? (i := 129) rfl) rfl
theorem wd_4_130 : (Jvm.Cond.methodLink "InkBank" (218 : Nat) ({ cls := "InkBank$Transfers", name := "find", desc := "(I)I" } : Jvm.MethodName)) ∈ TT := tt_4 (List.mem_of_getElem? (i := 130) rfl) rfl
theorem wd_4_135 : (Jvm.Cond.instanceMethod ({ cls := "InkBank", name := "receiverOf", desc := "(I)I" } : Jvm.MethodName)) ∈ TT := tt_4 (List.mem_of_getElem? (i := 135) rfl) rfl
theorem wd_4_136 : (Jvm.Cond.selects "InkBank" ({ cls := "InkBank", name := "receiverOf", desc := "(I)I" } : Jvm.MethodName) ({ cls := "InkBank", name := "receiverOf", desc := "(I)I" } : Jvm.MethodName)) ∈ TT := tt_4 (List.mem_of_getElem? (i := 136) rfl) rfl
theorem wd_4_137 : (Jvm.Cond.code ({ cls := "InkBank", name := "receiverOf", desc := "(I)I" } : Jvm.MethodName) prog_1_method_29_code (2 : Nat) (Option.some Jvm.ClassFile.FieldType.int)) ∈ TT := tt_4 (List.mem_of_getElem? (i := 137) rfl) rfl
theorem wd_4_142 : (Jvm.Cond.instanceMethod ({ cls := "InkBank", name := "amountOf", desc := "(I)I" } : Jvm.MethodName)) ∈ TT := tt_4 (List.mem_of_getElem? (i := 142) rfl) rfl
theorem wd_4_143 : (Jvm.Cond.selects "InkBank" ({ cls := "InkBank", name := "amountOf", desc := "(I)I" } : Jvm.MethodName) ({ cls := "InkBank", name := "amountOf", desc := "(I)I" } : Jvm.MethodName)) ∈ TT := tt_4 (List.mem_of_getElem? (i := 143) rfl) rfl
theorem wd_4_144 : (Jvm.Cond.code ({ cls := "InkBank", name := "amountOf", desc := "(I)I" } : Jvm.MethodName) prog_1_method_30_code (2 : Nat) (Option.some Jvm.ClassFile.FieldType.int)) ∈ TT := tt_4 (List.mem_of_getElem? (i := 144) rfl) rfl
theorem wd_4_149 : (Jvm.Cond.instanceMethod ({ cls := "InkBank", name := "daysUntilDue", desc := "(I)I" } : Jvm.MethodName)) ∈ TT := tt_4 (List.mem_of_getElem? (i := 149) rfl) rfl
theorem wd_4_150 : (Jvm.Cond.selects "InkBank" ({ cls := "InkBank", name := "daysUntilDue", desc := "(I)I" } : Jvm.MethodName) ({ cls := "InkBank", name := "daysUntilDue", desc := "(I)I" } : Jvm.MethodName)) ∈ TT := tt_4 (List.mem_of_getElem? (i := 150) rfl) rfl
theorem wd_4_151 : (Jvm.Cond.code ({ cls := "InkBank", name := "daysUntilDue", desc := "(I)I" } : Jvm.MethodName) prog_1_method_31_code (2 : Nat) (Option.some Jvm.ClassFile.FieldType.int)) ∈ TT := tt_4 (List.mem_of_getElem? (i := 151) rfl) rfl
theorem wd_4_156 : (Jvm.Cond.instanceMethod ({ cls := "InkBank", name := "wouldBounce", desc := "(I)Z" } : Jvm.MethodName)) ∈ TT := tt_4 (List.mem_of_getElem? (i := 156) rfl) rfl
theorem wd_4_157 : (Jvm.Cond.selects "InkBank" ({ cls := "InkBank", name := "wouldBounce", desc := "(I)Z" } : Jvm.MethodName) ({ cls := "InkBank", name := "wouldBounce", desc := "(I)Z" } : Jvm.MethodName)) ∈ TT := tt_4 (List.mem_of_getElem? (i := 157) rfl) rfl
theorem wd_4_158 : (Jvm.Cond.code ({ cls := "InkBank", name := "wouldBounce", desc := "(I)Z" } : Jvm.MethodName) prog_1_method_32_code (3 : Nat) (Option.some Jvm.ClassFile.FieldType.boolean)) ∈ TT := tt_4 (List.mem_of_getElem? (i := 158) rfl) rfl
theorem wd_4_159 : (Jvm.Cond.methodLink "InkBank" (215 : Nat) ({ cls := "InkBank$Ledger", name := "settleDueBefore", desc := "(I)V" } : Jvm.MethodName)) ∈ TT := tt_4 (List.mem_of_getElem? (i := 159) rfl) rfl
theorem wd_4_160 : (Jvm.Cond.instanceMethod ({ cls := "InkBank$Ledger", name := "settleDueBefore", desc := "(I)V" } : Jvm.MethodName)) ∈ TT := tt_4 (List.mem_of_getElem? (i := 160) rfl) rfl
theorem wd_4_161 : (Jvm.Cond.selects "InkBank$Ledger" ({ cls := "InkBank$Ledger", name := "settleDueBefore", desc := "(I)V" } : Jvm.MethodName) ({ cls := "InkBank$Ledger", name := "settleDueBefore", desc := "(I)V" } : Jvm.MethodName)) ∈ TT := tt_4 (List.mem_of_getElem? (i := 161) rfl) rfl
theorem wd_4_162 : (Jvm.Cond.code ({ cls := "InkBank$Ledger", name := "settleDueBefore", desc := "(I)V" } : Jvm.MethodName) prog_5_method_16_code (3 : Nat) (Option.none : Option Jvm.ClassFile.FieldType)) ∈ TT := tt_4 (List.mem_of_getElem? (i := 162) rfl) rfl
theorem wd_4_163 : (Jvm.Cond.methodLink "InkBank" (221 : Nat) ({ cls := "InkBank$Ledger", name := "covers", desc := "(I)Z" } : Jvm.MethodName)) ∈ TT := tt_4 (List.mem_of_getElem? (i := 163) rfl) rfl
theorem wd_4_168 : (Jvm.Cond.instanceMethod ({ cls := "InkBank", name := "netOf", desc := "(I)I" } : Jvm.MethodName)) ∈ TT := tt_4 (List.mem_of_getElem? (i := 168) rfl) rfl
theorem wd_4_169 : (Jvm.Cond.selects "InkBank" ({ cls := "InkBank", name := "netOf", desc := "(I)I" } : Jvm.MethodName) ({ cls := "InkBank", name := "netOf", desc := "(I)I" } : Jvm.MethodName)) ∈ TT := tt_4 (List.mem_of_getElem? (i := 169) rfl) rfl
theorem wd_4_170 : (Jvm.Cond.code ({ cls := "InkBank", name := "netOf", desc := "(I)I" } : Jvm.MethodName) prog_1_method_34_code (2 : Nat) (Option.some Jvm.ClassFile.FieldType.int)) ∈ TT := tt_4 (List.mem_of_getElem? (i := 170) rfl) rfl
theorem wd_4_171 : (Jvm.Cond.methodLink "InkBank" (227 : Nat) ({ cls := "InkBank$Transfers", name := "net", desc := "(I)I" } : Jvm.MethodName)) ∈ TT := tt_4 (List.mem_of_getElem? (i := 171) rfl) rfl
theorem wd_4_172 : (Jvm.Cond.instanceMethod ({ cls := "InkBank$Transfers", name := "net", desc := "(I)I" } : Jvm.MethodName)) ∈ TT := tt_4 (List.mem_of_getElem? (i := 172) rfl) rfl
theorem wd_4_173 : (Jvm.Cond.selects "InkBank$Transfers" ({ cls := "InkBank$Transfers", name := "net", desc := "(I)I" } : Jvm.MethodName) ({ cls := "InkBank$Transfers", name := "net", desc := "(I)I" } : Jvm.MethodName)) ∈ TT := tt_4 (List.mem_of_getElem? (i := 173) rfl) rfl
theorem wd_4_174 : (Jvm.Cond.code ({ cls := "InkBank$Transfers", name := "net", desc := "(I)I" } : Jvm.MethodName) prog_7_method_9_code (4 : Nat) (Option.some Jvm.ClassFile.FieldType.int)) ∈ TT := tt_4 (List.mem_of_getElem? (i := 174) rfl) rfl
theorem wd_4_179 : (Jvm.Cond.instanceMethod ({ cls := "InkBank", name := "netByTable", desc := "(I)I" } : Jvm.MethodName)) ∈ TT := tt_4 (List.mem_of_getElem? (i := 179) rfl) rfl
theorem wd_4_180 : (Jvm.Cond.selects "InkBank" ({ cls := "InkBank", name := "netByTable", desc := "(I)I" } : Jvm.MethodName) ({ cls := "InkBank", name := "netByTable", desc := "(I)I" } : Jvm.MethodName)) ∈ TT := tt_4 (List.mem_of_getElem? (i := 180) rfl) rfl
theorem wd_4_181 : (Jvm.Cond.code ({ cls := "InkBank", name := "netByTable", desc := "(I)I" } : Jvm.MethodName) prog_1_method_35_code (4 : Nat) (Option.some Jvm.ClassFile.FieldType.int)) ∈ TT := tt_4 (List.mem_of_getElem? (i := 181) rfl) rfl
theorem wd_4_182 : (Jvm.Cond.methodLink "InkBank" (230 : Nat) ({ cls := "InkBank", name := "fillSums", desc := "()V" } : Jvm.MethodName)) ∈ TT := tt_4 (List.mem_of_getElem? (i := 182) rfl) rfl
theorem wd_4_184 : (Jvm.Cond.instanceMethod ({ cls := "InkBank", name := "fillSums", desc := "()V" } : Jvm.MethodName)) ∈ TT := tt_4 (List.mem_of_getElem? (i := 184) rfl) rfl
theorem wd_4_185 : (Jvm.Cond.code ({ cls := "InkBank", name := "fillSums", desc := "()V" } : Jvm.MethodName) prog_1_method_54_code (3 : Nat) (Option.none : Option Jvm.ClassFile.FieldType)) ∈ TT := tt_4 (List.mem_of_getElem? (i := 185) rfl) rfl
theorem wd_4_190 : (Jvm.Cond.instanceMethod ({ cls := "InkBank", name := "leadsTo", desc := "(II)Z" } : Jvm.MethodName)) ∈ TT := tt_4 (List.mem_of_getElem? (i := 190) rfl) rfl
theorem wd_4_191 : (Jvm.Cond.selects "InkBank" ({ cls := "InkBank", name := "leadsTo", desc := "(II)Z" } : Jvm.MethodName) ({ cls := "InkBank", name := "leadsTo", desc := "(II)Z" } : Jvm.MethodName)) ∈ TT := tt_4 (List.mem_of_getElem? (i := 191) rfl) rfl
theorem wd_4_192 : (Jvm.Cond.code ({ cls := "InkBank", name := "leadsTo", desc := "(II)Z" } : Jvm.MethodName) prog_1_method_36_code (3 : Nat) (Option.some Jvm.ClassFile.FieldType.boolean)) ∈ TT := tt_4 (List.mem_of_getElem? (i := 192) rfl) rfl
theorem wd_4_193 : (Jvm.Cond.methodLink "InkBank" (233 : Nat) ({ cls := "InkBank$Transfers", name := "connect", desc := "(II)Z" } : Jvm.MethodName)) ∈ TT := tt_4 (List.mem_of_getElem? (i := 193) rfl) rfl
theorem wd_4_194 : (Jvm.Cond.instanceMethod ({ cls := "InkBank$Transfers", name := "connect", desc := "(II)Z" } : Jvm.MethodName)) ∈ TT := tt_4 (List.mem_of_getElem? (i := 194) rfl) rfl
theorem wd_4_195 : (Jvm.Cond.selects "InkBank$Transfers" ({ cls := "InkBank$Transfers", name := "connect", desc := "(II)Z" } : Jvm.MethodName) ({ cls := "InkBank$Transfers", name := "connect", desc := "(II)Z" } : Jvm.MethodName)) ∈ TT := tt_4 (List.mem_of_getElem? (i := 195) rfl) rfl
theorem wd_4_196 : (Jvm.Cond.code ({ cls := "InkBank$Transfers", name := "connect", desc := "(II)Z" } : Jvm.MethodName) prog_7_method_10_code (7 : Nat) (Option.some Jvm.ClassFile.FieldType.boolean)) ∈ TT := tt_4 (List.mem_of_getElem? (i := 196) rfl) rfl
theorem wd_4_201 : (Jvm.Cond.instanceMethod ({ cls := "InkBank", name := "movementKind", desc := "(I)C" } : Jvm.MethodName)) ∈ TT := tt_4 (List.mem_of_getElem? (i := 201) rfl) rfl
theorem wd_4_202 : (Jvm.Cond.selects "InkBank" ({ cls := "InkBank", name := "movementKind", desc := "(I)C" } : Jvm.MethodName) ({ cls := "InkBank", name := "movementKind", desc := "(I)C" } : Jvm.MethodName)) ∈ TT := tt_4 (List.mem_of_getElem? (i := 202) rfl) rfl
theorem wd_4_203 : (Jvm.Cond.code ({ cls := "InkBank", name := "movementKind", desc := "(I)C" } : Jvm.MethodName) prog_1_method_38_code (2 : Nat) (Option.some Jvm.ClassFile.FieldType.char)) ∈ TT := tt_4 (List.mem_of_getElem? (i := 203) rfl) rfl
theorem wd_4_204 : (Jvm.Cond.methodLink "InkBank" (249 : Nat) ({ cls := "InkBank", name := "requireMovement", desc := "(I)I" } : Jvm.MethodName)) ∈ TT := tt_4 (List.mem_of_getElem? (i := 204) rfl) rfl
theorem wd_4_206 : (Jvm.Cond.instanceMethod ({ cls := "InkBank", name := "requireMovement", desc := "(I)I" } : Jvm.MethodName)) ∈ TT := tt_4 (List.mem_of_getElem? (i := 206) rfl) rfl
theorem wd_4_207 : (Jvm.Cond.code ({ cls := "InkBank", name := "requireMovement", desc := "(I)I" } : Jvm.MethodName) prog_1_method_53_code (2 : Nat) (Option.some Jvm.ClassFile.FieldType.int)) ∈ TT := tt_4 (List.mem_of_getElem? (i := 207) rfl) rfl
theorem wd_4_208 : (Jvm.Cond.methodLink "InkBank" (315 : Nat) ({ cls := "InkBank$Journal", name := "slot", desc := "(I)I" } : Jvm.MethodName)) ∈ TT := tt_4 (List.mem_of_getElem? (i := 208) rfl) rfl
theorem wd_4_209 : (Jvm.Cond.instanceMethod ({ cls := "InkBank$Journal", name := "slot", desc := "(I)I" } : Jvm.MethodName)) ∈ TT := tt_4 (List.mem_of_getElem? (i := 209) rfl) rfl
theorem wd_4_210 : (Jvm.Cond.selects "InkBank$Journal" ({ cls := "InkBank$Journal", name := "slot", desc := "(I)I" } : Jvm.MethodName) ({ cls := "InkBank$Journal", name := "slot", desc := "(I)I" } : Jvm.MethodName)) ∈ TT := tt_4 (List.mem_of_getElem? (i := 210) rfl) rfl
theorem wd_4_211 : (Jvm.Cond.code ({ cls := "InkBank$Journal", name := "slot", desc := "(I)I" } : Jvm.MethodName) prog_4_method_3_code (2 : Nat) (Option.some Jvm.ClassFile.FieldType.int)) ∈ TT := tt_4 (List.mem_of_getElem? (i := 211) rfl) rfl
theorem wd_4_216 : (Jvm.Cond.instanceMethod ({ cls := "InkBank", name := "movementAmount", desc := "(I)I" } : Jvm.MethodName)) ∈ TT := tt_4 (List.mem_of_getElem? (i := 216) rfl) rfl
theorem wd_4_217 : (Jvm.Cond.selects "InkBank" ({ cls := "InkBank", name := "movementAmount", desc := "(I)I" } : Jvm.MethodName) ({ cls := "InkBank", name := "movementAmount", desc := "(I)I" } : Jvm.MethodName)) ∈ TT := tt_4 (List.mem_of_getElem? (i := 217) rfl) rfl
theorem wd_4_218 : (Jvm.Cond.code ({ cls := "InkBank", name := "movementAmount", desc := "(I)I" } : Jvm.MethodName) prog_1_method_39_code (2 : Nat) (Option.some Jvm.ClassFile.FieldType.int)) ∈ TT := tt_4 (List.mem_of_getElem? (i := 218) rfl) rfl
theorem wd_4_223 : (Jvm.Cond.instanceMethod ({ cls := "InkBank", name := "movementAccount", desc := "(I)I" } : Jvm.MethodName)) ∈ TT := tt_4 (List.mem_of_getElem? (i := 223) rfl) rfl
theorem wd_4_224 : (Jvm.Cond.selects "InkBank" ({ cls := "InkBank", name := "movementAccount", desc := "(I)I" } : Jvm.MethodName) ({ cls := "InkBank", name := "movementAccount", desc := "(I)I" } : Jvm.MethodName)) ∈ TT := tt_4 (List.mem_of_getElem? (i := 224) rfl) rfl
theorem wd_4_225 : (Jvm.Cond.code ({ cls := "InkBank", name := "movementAccount", desc := "(I)I" } : Jvm.MethodName) prog_1_method_40_code (2 : Nat) (Option.some Jvm.ClassFile.FieldType.int)) ∈ TT := tt_4 (List.mem_of_getElem? (i := 225) rfl) rfl
theorem wd_4_230 : (Jvm.Cond.instanceMethod ({ cls := "InkBank", name := "writeStatement", desc := "(I)I" } : Jvm.MethodName)) ∈ TT := tt_4 (List.mem_of_getElem? (i := 230) rfl) rfl
theorem wd_4_231 : (Jvm.Cond.selects "InkBank" ({ cls := "InkBank", name := "writeStatement", desc := "(I)I" } : Jvm.MethodName) ({ cls := "InkBank", name := "writeStatement", desc := "(I)I" } : Jvm.MethodName)) ∈ TT := tt_4 (List.mem_of_getElem? (i := 231) rfl) rfl
theorem wd_4_232 : (Jvm.Cond.code ({ cls := "InkBank", name := "writeStatement", desc := "(I)I" } : Jvm.MethodName) prog_1_method_41_code (3 : Nat) (Option.some Jvm.ClassFile.FieldType.int)) ∈ TT := tt_4 (List.mem_of_getElem? (i := 232) rfl) rfl
theorem wd_4_233 : (Jvm.Cond.methodLink "InkBank" (255 : Nat) ({ cls := "java/lang/StringBuilder", name := "setLength", desc := "(I)V" } : Jvm.MethodName)) ∈ TT := tt_4 (List.mem_of_getElem? (i := 233) rfl) rfl
theorem wd_4_234 : (Jvm.Cond.instanceMethod ({ cls := "java/lang/StringBuilder", name := "setLength", desc := "(I)V" } : Jvm.MethodName)) ∈ TT := tt_4 (List.mem_of_getElem? (i := 234) rfl) rfl
theorem wd_4_235 : (Jvm.Cond.selects "java/lang/StringBuilder" ({ cls := "java/lang/StringBuilder", name := "setLength", desc := "(I)V" } : Jvm.MethodName) ({ cls := "java/lang/StringBuilder", name := "setLength", desc := "(I)V" } : Jvm.MethodName)) ∈ TT := tt_4 (List.mem_of_getElem? (i := 235) rfl) rfl
theorem wd_4_236 : (Jvm.Cond.code ({ cls := "java/lang/StringBuilder", name := "setLength", desc := "(I)V" } : Jvm.MethodName) prog_28_method_89_code (2 : Nat) (Option.none : Option Jvm.ClassFile.FieldType)) ∈ TT := tt_4 (List.mem_of_getElem? (i := 236) rfl) rfl
theorem wd_4_237 : (Jvm.Cond.methodLink "java/lang/StringBuilder" (333 : Nat) ({ cls := "java/lang/AbstractStringBuilder", name := "setLength", desc := "(I)V" } : Jvm.MethodName)) ∈ TT := tt_4 (List.mem_of_getElem? (i := 237) rfl) rfl
theorem wd_4_239 : (Jvm.Cond.code ({ cls := "java/lang/AbstractStringBuilder", name := "setLength", desc := "(I)V" } : Jvm.MethodName) prog_11_method_13_code (2 : Nat) (Option.none : Option Jvm.ClassFile.FieldType)) ∈ TT := tt_4 (List.mem_of_getElem? (i := 239) rfl) rfl
theorem wd_5_19 : (Jvm.Cond.methodLink "java/lang/AbstractStringBuilder" (100 : Nat) ({ cls := "java/lang/AbstractStringBuilder", name := "ensureCapacityInternal", desc := "(I)V" } : Jvm.MethodName)) ∈ TT := tt_5 (List.mem_of_getElem? (i := 19) rfl) rfl
theorem wd_5_21 : (Jvm.Cond.instanceMethod ({ cls := "java/lang/AbstractStringBuilder", name := "ensureCapacityInternal", desc := "(I)V" } : Jvm.MethodName)) ∈ TT := tt_5 (List.mem_of_getElem? (i := 21) rfl) rfl
theorem wd_5_22 : (Jvm.Cond.code ({ cls := "java/lang/AbstractStringBuilder", name := "ensureCapacityInternal", desc := "(I)V" } : Jvm.MethodName) prog_11_method_9_code (3 : Nat) (Option.none : Option Jvm.ClassFile.FieldType)) ∈ TT := tt_5 (List.mem_of_getElem? (i := 22) rfl) rfl
theorem wd_5_50 : (Jvm.Cond.methodLink "java/lang/AbstractStringBuilder" (83 : Nat) ({ cls := "java/lang/AbstractStringBuilder", name := "isLatin1", desc := "()Z" } : Jvm.MethodName)) ∈ TT := tt_5 (List.mem_of_getElem? (i := 50) rfl) rfl
theorem wd_5_51 : (Jvm.Cond.instanceMethod ({ cls := "java/lang/AbstractStringBuilder", name := "isLatin1", desc := "()Z" } : Jvm.MethodName)) ∈ TT := tt_5 (List.mem_of_getElem? (i := 51) rfl) rfl
theorem wd_5_54 : (Jvm.Cond.code ({ cls := "java/lang/AbstractStringBuilder", name := "isLatin1", desc := "()Z" } : Jvm.MethodName) prog_11_method_68_code (1 : Nat) (Option.some Jvm.ClassFile.FieldType.boolean)) ∈ TT := tt_5 (List.mem_of_getElem? (i := 54) rfl) rfl
theorem wd_5_67 : (Jvm.Cond.fieldLink "java/lang/String" (1053 : Nat) "jdk/internal/util/Preconditions" "SIOOBE_FORMATTER" "Ljava/util/function/BiFunction;") ∈ TT := tt_5 (List.mem_of_getElem? (i := 67) rfl) rfl
theorem wd_5_82 : (Jvm.Cond.instanceMethod ({ cls := "java/lang/String", name := "length", desc := "()I" } : Jvm.MethodName)) ∈ TT := tt_5 (List.mem_of_getElem? (i := 82) rfl) rfl
theorem wd_5_83 : (Jvm.Cond.selects "java/lang/String" ({ cls := "java/lang/String", name := "length", desc := "()I" } : Jvm.MethodName) ({ cls := "java/lang/String", name := "length", desc := "()I" } : Jvm.MethodName)) ∈ TT := tt_5 (List.mem_of_getElem? (i := 83) rfl) rfl
theorem wd_5_84 : (Jvm.Cond.code ({ cls := "java/lang/String", name := "length", desc := "()I" } : Jvm.MethodName) prog_27_method_54_code (1 : Nat) (Option.some Jvm.ClassFile.FieldType.int)) ∈ TT := tt_5 (List.mem_of_getElem? (i := 84) rfl) rfl
theorem wd_5_85 : (Jvm.Cond.methodLink "java/lang/String" (335 : Nat) ({ cls := "java/lang/String", name := "coder", desc := "()B" } : Jvm.MethodName)) ∈ TT := tt_5 (List.mem_of_getElem? (i := 85) rfl) rfl
theorem wd_5_86 : (Jvm.Cond.instanceMethod ({ cls := "java/lang/String", name := "coder", desc := "()B" } : Jvm.MethodName)) ∈ TT := tt_5 (List.mem_of_getElem? (i := 86) rfl) rfl
theorem wd_5_87 : (Jvm.Cond.selects "java/lang/String" ({ cls := "java/lang/String", name := "coder", desc := "()B" } : Jvm.MethodName) ({ cls := "java/lang/String", name := "coder", desc := "()B" } : Jvm.MethodName)) ∈ TT := tt_5 (List.mem_of_getElem? (i := 87) rfl) rfl
theorem wd_5_88 : (Jvm.Cond.code ({ cls := "java/lang/String", name := "coder", desc := "()B" } : Jvm.MethodName) prog_27_method_152_code (1 : Nat) (Option.some Jvm.ClassFile.FieldType.byte)) ∈ TT := tt_5 (List.mem_of_getElem? (i := 88) rfl) rfl
theorem wd_5_89 : (Jvm.Cond.fieldLink "java/lang/String" (38 : Nat) "java/lang/String" "COMPACT_STRINGS" "Z") ∈ TT := tt_5 (List.mem_of_getElem? (i := 89) rfl) rfl
theorem wd_5_125 : (Jvm.Cond.instanceMethod ({ cls := "java/lang/StringBuilder", name := "append", desc := "(I)Ljava/lang/StringBuilder;" } : Jvm.MethodName)) ∈ TT := tt_5 (List.mem_of_getElem? (i := 125) rfl) rfl
theorem wd_5_126 : (Jvm.Cond.selects "java/lang/StringBuilder" ({ cls := "java/lang/StringBuilder", name := "append", desc := "(I)Ljava/lang/StringBuilder;" } : Jvm.MethodName) ({ cls := "java/lang/StringBuilder", name := "append", desc := "(I)Ljava/lang/StringBuilder;" } : Jvm.MethodName)) ∈ TT := tt_5 (List.mem_of_getElem? (i := 126) rfl) rfl
theorem wd_5_127 : (Jvm.Cond.code ({ cls := "java/lang/StringBuilder", name := "append", desc := "(I)Ljava/lang/StringBuilder;" } : Jvm.MethodName) prog_28_method_15_code (2 : Nat) (Option.some (Jvm.ClassFile.FieldType.object "java/lang/StringBuilder"))) ∈ TT := tt_5 (List.mem_of_getElem? (i := 127) rfl) rfl
theorem wd_5_128 : (Jvm.Cond.methodLink "java/lang/StringBuilder" (53 : Nat) ({ cls := "java/lang/AbstractStringBuilder", name := "append", desc := "(I)Ljava/lang/AbstractStringBuilder;" } : Jvm.MethodName)) ∈ TT := tt_5 (List.mem_of_getElem? (i := 128) rfl) rfl
theorem wd_5_130 : (Jvm.Cond.code ({ cls := "java/lang/AbstractStringBuilder", name := "append", desc := "(I)Ljava/lang/AbstractStringBuilder;" } : Jvm.MethodName) prog_11_method_32_code (4 : Nat) (Option.some (Jvm.ClassFile.FieldType.object "java/lang/AbstractStringBuilder"))) ∈ TT := tt_5 (List.mem_of_getElem? (i := 130) rfl) rfl
theorem wd_5_131 : (Jvm.Cond.methodLink "java/lang/AbstractStringBuilder" (245 : Nat) ({ cls := "java/lang/Integer", name := "stringSize", desc := "(I)I" } : Jvm.MethodName)) ∈ TT := tt_5 (List.mem_of_getElem? (i := 131) rfl) rfl
theorem wd_5_132 : (Jvm.Cond.static ({ cls := "java/lang/Integer", name := "stringSize", desc := "(I)I" } : Jvm.MethodName)) ∈ TT := tt_5 (List.mem_of_getElem? (i := 132) rfl) rfl
theorem wd_5_133 : (Jvm.Cond.code ({ cls := "java/lang/Integer", name := "stringSize", desc := "(I)I" } : Jvm.MethodName) prog_23_method_13_code (4 : Nat) (Option.some Jvm.ClassFile.FieldType.int)) ∈ TT := tt_5 (List.mem_of_getElem? (i := 133) rfl) rfl
theorem wd_5_134 : (Jvm.Cond.methodLink "java/lang/AbstractStringBuilder" (248 : Nat) ({ cls := "java/lang/Integer", name := "getChars", desc := "(II[B)I" } : Jvm.MethodName)) ∈ TT := tt_5 (List.mem_of_getElem? (i := 134) rfl) rfl
theorem wd_5_135 : (Jvm.Cond.static ({ cls := "java/lang/Integer", name := "getChars", desc := "(II[B)I" } : Jvm.MethodName)) ∈ TT := tt_5 (List.mem_of_getElem? (i := 135) rfl) rfl
theorem wd_5_136 : (Jvm.Cond.code ({ cls := "java/lang/Integer", name := "getChars", desc := "(II[B)I" } : Jvm.MethodName) prog_23_method_12_code (7 : Nat) (Option.some Jvm.ClassFile.FieldType.int)) ∈ TT := tt_5 (List.mem_of_getElem? (i := 136) rfl) rfl
theorem wd_5_137 : (Jvm.Cond.fieldLink "java/lang/Integer" (83 : Nat) "java/lang/Integer" "DigitOnes" "[B") ∈ TT := tt_5 (List.mem_of_getElem? (i := 137) rfl) rfl
theorem wd_5_139 : (Jvm.Cond.fieldLink "java/lang/Integer" (87 : Nat) "java/lang/Integer" "DigitTens" "[B") ∈ TT := tt_5 (List.mem_of_getElem? (i := 139) rfl) rfl
theorem wd_5_170 : (Jvm.Cond.instanceMethod ({ cls := "java/lang/StringBuilder", name := "length", desc := "()I" } : Jvm.MethodName)) ∈ TT := tt_5 (List.mem_of_getElem? (i := 170) rfl) rfl
theorem wd_5_171 : (Jvm.Cond.code ({ cls := "java/lang/StringBuilder", name := "length", desc := "()I" } : Jvm.MethodName) prog_28_method_93_code (1 : Nat) (Option.some Jvm.ClassFile.FieldType.int)) ∈ TT := tt_5 (List.mem_of_getElem? (i := 171) rfl) rfl
theorem wd_5_172 : (Jvm.Cond.methodLink "java/lang/StringBuilder" (343 : Nat) ({ cls := "java/lang/AbstractStringBuilder", name := "length", desc := "()I" } : Jvm.MethodName)) ∈ TT := tt_5 (List.mem_of_getElem? (i := 172) rfl) rfl
theorem wd_5_173 : (Jvm.Cond.code ({ cls := "java/lang/AbstractStringBuilder", name := "length", desc := "()I" } : Jvm.MethodName) prog_11_method_6_code (1 : Nat) (Option.some Jvm.ClassFile.FieldType.int)) ∈ TT := tt_5 (List.mem_of_getElem? (i := 173) rfl) rfl
theorem wd_5_208 : (Jvm.Cond.fieldLink "java/lang/String" (9 : Nat) "java/lang/String" "value" "[B") ∈ TT := tt_5 (List.mem_of_getElem? (i := 208) rfl) rfl
theorem wd_5_209 : (Jvm.Cond.fieldLink "java/lang/String" (15 : Nat) "java/lang/String" "coder" "B") ∈ TT := tt_5 (List.mem_of_getElem? (i := 209) rfl) rfl
theorem wd_6_10 : (Jvm.Cond.methodLink "InkBank" (260 : Nat) ({ cls := "java/lang/String", name := "charAt", desc := "(I)C" } : Jvm.MethodName)) ∈ TT := tt_6 (List.mem_of_getElem? (i := 10) rfl) rfl
theorem wd_6_11 : (Jvm.Cond.instanceMethod ({ cls := "java/lang/String", name := "charAt", desc := "(I)C" } : Jvm.MethodName)) ∈ TT := tt_6 (List.mem_of_getElem? (i := 11) rfl) rfl
theorem wd_6_12 : (Jvm.Cond.selects "java/lang/String" ({ cls := "java/lang/String", name := "charAt", desc := "(I)C" } : Jvm.MethodName) ({ cls := "java/lang/String", name := "charAt", desc := "(I)C" } : Jvm.MethodName)) ∈ TT := tt_6 (List.mem_of_getElem? (i := 12) rfl) rfl
theorem wd_6_13 : (Jvm.Cond.code ({ cls := "java/lang/String", name := "charAt", desc := "(I)C" } : Jvm.MethodName) prog_27_method_56_code (2 : Nat) (Option.some Jvm.ClassFile.FieldType.char)) ∈ TT := tt_6 (List.mem_of_getElem? (i := 13) rfl) rfl
theorem wd_6_14 : (Jvm.Cond.methodLink "java/lang/String" (492 : Nat) ({ cls := "java/lang/String", name := "isLatin1", desc := "()Z" } : Jvm.MethodName)) ∈ TT := tt_6 (List.mem_of_getElem? (i := 14) rfl) rfl
theorem wd_6_15 : (Jvm.Cond.instanceMethod ({ cls := "java/lang/String", name := "isLatin1", desc := "()Z" } : Jvm.MethodName)) ∈ TT := tt_6 (List.mem_of_getElem? (i := 15) rfl) rfl
theorem wd_6_16 : (Jvm.Cond.selects "java/lang/String" ({ cls := "java/lang/String", name := "isLatin1", desc := "()Z" } : Jvm.MethodName) ({ cls := "java/lang/String", name := "isLatin1", desc := "()Z" } : Jvm.MethodName)) ∈ TT := tt_6 (List.mem_of_getElem? (i := 16) rfl) rfl
theorem wd_6_17 : (Jvm.Cond.code ({ cls := "java/lang/String", name := "isLatin1", desc := "()Z" } : Jvm.MethodName) prog_27_method_154_code (1 : Nat) (Option.some Jvm.ClassFile.FieldType.boolean)) ∈ TT := tt_6 (List.mem_of_getElem? (i := 17) rfl) rfl
theorem wd_6_18 : (Jvm.Cond.methodLink "java/lang/String" (495 : Nat) ({ cls := "java/lang/StringLatin1", name := "charAt", desc := "([BI)C" } : Jvm.MethodName)) ∈ TT := tt_6 (List.mem_of_getElem? (i := 18) rfl) rfl
theorem wd_6_19 : (Jvm.Cond.static ({ cls := "java/lang/StringLatin1", name := "charAt", desc := "([BI)C" } : Jvm.MethodName)) ∈ TT := tt_6 (List.mem_of_getElem? (i := 19) rfl) rfl
theorem wd_6_20 : (Jvm.Cond.code ({ cls := "java/lang/StringLatin1", name := "charAt", desc := "([BI)C" } : Jvm.MethodName) prog_30_method_2_code (2 : Nat) (Option.some Jvm.ClassFile.FieldType.char)) ∈ TT := tt_6 (List.mem_of_getElem? (i := 20) rfl) rfl
theorem wd_6_21 : (Jvm.Cond.methodLink "java/lang/StringLatin1" (9 : Nat) ({ cls := "java/lang/String", name := "checkIndex", desc := "(II)V" } : Jvm.MethodName)) ∈ TT := tt_6 (List.mem_of_getElem? (i := 21) rfl) rfl
theorem wd_6_22 : (Jvm.Cond.static ({ cls := "java/lang/String", name := "checkIndex", desc := "(II)V" } : Jvm.MethodName)) ∈ TT := tt_6 (List.mem_of_getElem? (i := 22) rfl) rfl
theorem wd_6_23 : (Jvm.Cond.code ({ cls := "java/lang/String", name := "checkIndex", desc := "(II)V" } : Jvm.MethodName) prog_27_method_155_code (2 : Nat) (Option.none : Option Jvm.ClassFile.FieldType)) ∈ TT := tt_6 (List.mem_of_getElem? (i := 23) rfl) rfl
theorem wd_6_24 : (Jvm.Cond.methodLink "java/lang/String" (1059 : Nat) ({ cls := "jdk/internal/util/Preconditions", name := "checkIndex", desc := "(IILjava/util/function/BiFunction;)I" } : Jvm.MethodName)) ∈ TT := tt_6 (List.mem_of_getElem? (i := 24) rfl) rfl
theorem wd_6_25 : (Jvm.Cond.static ({ cls := "jdk/internal/util/Preconditions", name := "checkIndex", desc := "(IILjava/util/function/BiFunction;)I" } : Jvm.MethodName)) ∈ TT := tt_6 (List.mem_of_getElem? (i := 25) rfl) rfl
theorem wd_6_26 : (Jvm.Cond.code ({ cls := "jdk/internal/util/Preconditions", name := "checkIndex", desc := "(IILjava/util/function/BiFunction;)I" } : Jvm.MethodName) prog_40_method_11_code (3 : Nat) (Option.some Jvm.ClassFile.FieldType.int)) ∈ TT := tt_6 (List.mem_of_getElem? (i := 26) rfl) rfl
theorem wd_6_34 : (Jvm.Cond.methodLink "InkBank" (266 : Nat) ({ cls := "java/lang/StringBuilder", name := "append", desc := "(C)Ljava/lang/StringBuilder;" } : Jvm.MethodName)) ∈ TT := tt_6 (List.mem_of_getElem? (i := 34) rfl) rfl
theorem wd_6_35 : (Jvm.Cond.instanceMethod ({ cls := "java/lang/StringBuilder", name := "append", desc := "(C)Ljava/lang/StringBuilder;" } : Jvm.MethodName)) ∈ TT := tt_6 (List.mem_of_getElem? (i := 35) rfl) rfl
theorem wd_6_36 : (Jvm.Cond.selects "java/lang/StringBuilder" ({ cls := "java/lang/StringBuilder", name := "append", desc := "(C)Ljava/lang/StringBuilder;" } : Jvm.MethodName) ({ cls := "java/lang/StringBuilder", name := "append", desc := "(C)Ljava/lang/StringBuilder;" } : Jvm.MethodName)) ∈ TT := tt_6 (List.mem_of_getElem? (i := 36) rfl) rfl
theorem wd_6_37 : (Jvm.Cond.code ({ cls := "java/lang/StringBuilder", name := "append", desc := "(C)Ljava/lang/StringBuilder;" } : Jvm.MethodName) prog_28_method_14_code (2 : Nat) (Option.some (Jvm.ClassFile.FieldType.object "java/lang/StringBuilder"))) ∈ TT := tt_6 (List.mem_of_getElem? (i := 37) rfl) rfl
theorem wd_6_38 : (Jvm.Cond.methodLink "java/lang/StringBuilder" (50 : Nat) ({ cls := "java/lang/AbstractStringBuilder", name := "append", desc := "(C)Ljava/lang/AbstractStringBuilder;" } : Jvm.MethodName)) ∈ TT := tt_6 (List.mem_of_getElem? (i := 38) rfl) rfl
theorem wd_6_40 : (Jvm.Cond.code ({ cls := "java/lang/AbstractStringBuilder", name := "append", desc := "(C)Ljava/lang/AbstractStringBuilder;" } : Jvm.MethodName) prog_11_method_31_code (2 : Nat) (Option.some (Jvm.ClassFile.FieldType.object "java/lang/AbstractStringBuilder"))) ∈ TT := tt_6 (List.mem_of_getElem? (i := 40) rfl) rfl
theorem wd_6_41 : (Jvm.Cond.methodLink "java/lang/AbstractStringBuilder" (191 : Nat) ({ cls := "java/lang/StringLatin1", name := "canEncode", desc := "(C)Z" } : Jvm.MethodName)) ∈ TT := tt_6 (List.mem_of_getElem? (i := 41) rfl) rfl
theorem wd_6_42 : (Jvm.Cond.static ({ cls := "java/lang/StringLatin1", name := "canEncode", desc := "(C)Z" } : Jvm.MethodName)) ∈ TT := tt_6 (List.mem_of_getElem? (i := 42) rfl) rfl
theorem wd_6_43 : (Jvm.Cond.code ({ cls := "java/lang/StringLatin1", name := "canEncode", desc := "(C)Z" } : Jvm.MethodName) prog_30_method_3_code (1 : Nat) (Option.some Jvm.ClassFile.FieldType.boolean)) ∈ TT := tt_6 (List.mem_of_getElem? (i := 43) rfl) rfl
theorem wd_6_47 : (Jvm.Cond.methodLink "InkBank" (270 : Nat) ({ cls := "java/lang/StringBuilder", name := "append", desc := "(I)Ljava/lang/StringBuilder;" } : Jvm.MethodName)) ∈ TT := tt_6 (List.mem_of_getElem? (i := 47) rfl) rfl
theorem wd_6_48 : (Jvm.Cond.methodLink "InkBank" (273 : Nat) ({ cls := "java/lang/StringBuilder", name := "length", desc := "()I" } : Jvm.MethodName)) ∈ TT := tt_6 (List.mem_of_getElem? (i := 48) rfl) rfl
theorem wd_6_53 : (Jvm.Cond.instanceMethod ({ cls := "InkBank", name := "statementAt", desc := "(I)C" } : Jvm.MethodName)) ∈ TT := tt_6 (List.mem_of_getElem? (i := 53) rfl) rfl
theorem wd_6_54 : (Jvm.Cond.selects "InkBank" ({ cls := "InkBank", name := "statementAt", desc := "(I)C" } : Jvm.MethodName) ({ cls := "InkBank", name := "statementAt", desc := "(I)C" } : Jvm.MethodName)) ∈ TT := tt_6 (List.mem_of_getElem? (i := 54) rfl) rfl
theorem wd_6_55 : (Jvm.Cond.code ({ cls := "InkBank", name := "statementAt", desc := "(I)C" } : Jvm.MethodName) prog_1_method_42_code (2 : Nat) (Option.some Jvm.ClassFile.FieldType.char)) ∈ TT := tt_6 (List.mem_of_getElem? (i := 55) rfl) rfl
theorem wd_6_56 : (Jvm.Cond.methodLink "InkBank" (276 : Nat) ({ cls := "java/lang/StringBuilder", name := "charAt", desc := "(I)C" } : Jvm.MethodName)) ∈ TT := tt_6 (List.mem_of_getElem? (i := 56) rfl) rfl
theorem wd_6_57 : (Jvm.Cond.instanceMethod ({ cls := "java/lang/StringBuilder", name := "charAt", desc := "(I)C" } : Jvm.MethodName)) ∈ TT := tt_6 (List.mem_of_getElem? (i := 57) rfl) rfl
theorem wd_6_58 : (Jvm.Cond.selects "java/lang/StringBuilder" ({ cls := "java/lang/StringBuilder", name := "charAt", desc := "(I)C" } : Jvm.MethodName) ({ cls := "java/lang/StringBuilder", name := "charAt", desc := "(I)C" } : Jvm.MethodName)) ∈ TT := tt_6 (List.mem_of_getElem? (i := 58) rfl) rfl
theorem wd_6_59 : (Jvm.Cond.code ({ cls := "java/lang/StringBuilder", name := "charAt", desc := "(I)C" } : Jvm.MethodName) prog_28_method_88_code (2 : Nat) (Option.some Jvm.ClassFile.FieldType.char)) ∈ TT := tt_6 (List.mem_of_getElem? (i := 59) rfl) rfl
theorem wd_6_60 : (Jvm.Cond.methodLink "java/lang/StringBuilder" (329 : Nat) ({ cls := "java/lang/AbstractStringBuilder", name := "charAt", desc := "(I)C" } : Jvm.MethodName)) ∈ TT := tt_6 (List.mem_of_getElem? (i := 60) rfl) rfl
theorem wd_6_62 : (Jvm.Cond.code ({ cls := "java/lang/AbstractStringBuilder", name := "charAt", desc := "(I)C" } : Jvm.MethodName) prog_11_method_14_code (5 : Nat) (Option.some Jvm.ClassFile.FieldType.char)) ∈ TT := tt_6 (List.mem_of_getElem? (i := 62) rfl) rfl
theorem wd_6_63 : (Jvm.Cond.methodLink "java/lang/AbstractStringBuilder" (138 : Nat) ({ cls := "java/lang/Math", name := "min", desc := "(II)I" } : Jvm.MethodName)) ∈ TT := tt_6 (List.mem_of_getElem? (i := 63) rfl) rfl
theorem wd_6_64 : (Jvm.Cond.methodLink "java/lang/AbstractStringBuilder" (144 : Nat) ({ cls := "java/lang/String", name := "checkIndex", desc := "(II)V" } : Jvm.MethodName)) ∈ TT := tt_6 (List.mem_of_getElem? (i := 64) rfl) rfl
theorem wd_6_70 : (Jvm.Cond.instanceMethod ({ cls := "InkBank", name := "type", desc := "(C)I" } : Jvm.MethodName)) ∈ TT := tt_6 (List.mem_of_getElem? (i := 70) rfl) rfl
theorem wd_6_71 : (Jvm.Cond.selects "InkBank" ({ cls := "InkBank", name := "type", desc := "(C)I" } : Jvm.MethodName) ({ cls := "InkBank", name := "type", desc := "(C)I" } : Jvm.MethodName)) ∈ TT := tt_6 (List.mem_of_getElem? (i := 71) rfl) rfl
theorem wd_6_72 : (Jvm.Cond.code ({ cls := "InkBank", name := "type", desc := "(C)I" } : Jvm.MethodName) prog_1_method_43_code (2 : Nat) (Option.some Jvm.ClassFile.FieldType.int)) ∈ TT := tt_6 (List.mem_of_getElem? (i := 72) rfl) rfl
theorem wd_6_73 : (Jvm.Cond.methodLink "InkBank" (284 : Nat) ({ cls := "InkBank$Reader", name := "append", desc := "(C)I" } : Jvm.MethodName)) ∈ TT := tt_6 (List.mem_of_getElem? (i := 73) rfl) rfl
theorem wd_6_74 : (Jvm.Cond.instanceMethod ({ cls := "InkBank$Reader", name := "append", desc := "(C)I" } : Jvm.MethodName)) ∈ TT := tt_6 (List.mem_of_getElem? (i := 74) rfl) rfl
theorem wd_6_75 : (Jvm.Cond.selects "InkBank$Reader" ({ cls := "InkBank$Reader", name := "append", desc := "(C)I" } : Jvm.MethodName) ({ cls := "InkBank$Reader", name := "append", desc := "(C)I" } : Jvm.MethodName)) ∈ TT := tt_6 (List.mem_of_getElem? (i := 75) rfl) rfl
theorem wd_6_76 : (Jvm.Cond.code ({ cls := "InkBank$Reader", name := "append", desc := "(C)I" } : Jvm.MethodName) prog_6_method_2_code (2 : Nat) (Option.some Jvm.ClassFile.FieldType.int)) ∈ TT := tt_6 (List.mem_of_getElem? (i := 76) rfl) rfl
theorem wd_6_81 : (Jvm.Cond.instanceMethod ({ cls := "InkBank", name := "execute", desc := "()I" } : Jvm.MethodName)) ∈ TT := tt_6 (List.mem_of_getElem? (i := 81) rfl) rfl
theorem wd_6_82 : (Jvm.Cond.selects "InkBank" ({ cls := "InkBank", name := "execute", desc := "()I" } : Jvm.MethodName) ({ cls := "InkBank", name := "execute", desc := "()I" } : Jvm.MethodName)) ∈ TT := tt_6 (List.mem_of_getElem? (i := 82) rfl) rfl
theorem wd_6_83 : (Jvm.Cond.code ({ cls := "InkBank", name := "execute", desc := "()I" } : Jvm.MethodName) prog_1_method_44_code (3 : Nat) (Option.some Jvm.ClassFile.FieldType.int)) ∈ TT := tt_6 (List.mem_of_getElem? (i := 83) rfl) rfl
theorem wd_6_84 : (Jvm.Cond.methodLink "InkBank" (287 : Nat) ({ cls := "InkBank$Reader", name := "countCommands", desc := "()I" } : Jvm.MethodName)) ∈ TT := tt_6 (List.mem_of_getElem? (i := 84) rfl) rfl
theorem wd_6_85 : (Jvm.Cond.instanceMethod ({ cls := "InkBank$Reader", name := "countCommands", desc := "()I" } : Jvm.MethodName)) ∈ TT := tt_6 (List.mem_of_getElem? (i := 85) rfl) rfl
theorem wd_6_86 : (Jvm.Cond.selects "InkBank$Reader" ({ cls := "InkBank$Reader", name := "countCommands", desc := "()I" } : Jvm.MethodName) ({ cls := "InkBank$Reader", name := "countCommands", desc := "()I" } : Jvm.MethodName)) ∈ TT := tt_6 (List.mem_of_getElem? (i := 86) rfl) rfl
theorem wd_6_87 : (Jvm.Cond.code ({ cls := "InkBank$Reader", name := "countCommands", desc := "()I" } : Jvm.MethodName) prog_6_method_3_code (2 : Nat) (Option.some Jvm.ClassFile.FieldType.int)) ∈ TT := tt_6 (List.mem_of_getElem? (i := 87) rfl) rfl
theorem wd_6_88 : (Jvm.Cond.methodLink "InkBank$Reader" (26 : Nat) ({ cls := "InkBank$Reader", name := "readCommand", desc := "()Z" } : Jvm.MethodName)) ∈ TT := tt_6 (List.mem_of_getElem? (i := 88) rfl) rfl
theorem wd_6_89 : (Jvm.Cond.instanceMethod ({ cls := "InkBank$Reader", name := "readCommand", desc := "()Z" } : Jvm.MethodName)) ∈ TT := tt_6 (List.mem_of_getElem? (i := 89) rfl) rfl
theorem wd_6_90 : (Jvm.Cond.selects "InkBank$Reader" ({ cls := "InkBank$Reader", name := "readCommand", desc := "()Z" } : Jvm.MethodName) ({ cls := "InkBank$Reader", name := "readCommand", desc := "()Z" } : Jvm.MethodName)) ∈ TT := tt_6 (List.mem_of_getElem? (i := 90) rfl) rfl
theorem wd_6_91 : (Jvm.Cond.code ({ cls := "InkBank$Reader", name := "readCommand", desc := "()Z" } : Jvm.MethodName) prog_6_method_4_code (6 : Nat) (Option.some Jvm.ClassFile.FieldType.boolean)) ∈ TT := tt_6 (List.mem_of_getElem? (i := 91) rfl) rfl
theorem wd_6_93 : (Jvm.Cond.methodLink "InkBank$Reader" (36 : Nat) ({ cls := "java/lang/String", name := "indexOf", desc := "(I)I" } : Jvm.MethodName)) ∈ TT := tt_6 (List.mem_of_getElem? (i := 93) rfl) rfl
theorem wd_6_94 : (Jvm.Cond.instanceMethod ({ cls := "java/lang/String", name := "indexOf", desc := "(I)I" } : Jvm.MethodName)) ∈ TT := tt_6 (List.mem_of_getElem? (i := 94) rfl) rfl
theorem wd_6_95 : (Jvm.Cond.selects "java/lang/String" ({ cls := "java/lang/String", name := "indexOf", desc := "(I)I" } : Jvm.MethodName) ({ cls := "java/lang/String", name := "indexOf", desc := "(I)I" } : Jvm.MethodName)) ∈ TT := tt_6 (List.mem_of_getElem? (i := 95) rfl) rfl
theorem wd_6_96 : (Jvm.Cond.code ({ cls := "java/lang/String", name := "indexOf", desc := "(I)I" } : Jvm.MethodName) prog_27_method_79_code (2 : Nat) (Option.some Jvm.ClassFile.FieldType.int)) ∈ TT := tt_6 (List.mem_of_getElem? (i := 96) rfl) rfl
theorem wd_6_97 : (Jvm.Cond.methodLink "java/lang/String" (633 : Nat) ({ cls := "java/lang/String", name := "indexOf", desc := "(II)I" } : Jvm.MethodName)) ∈ TT := tt_6 (List.mem_of_getElem? (i := 97) rfl) rfl
theorem wd_6_98 : (Jvm.Cond.instanceMethod ({ cls := "java/lang/String", name := "indexOf", desc := "(II)I" } : Jvm.MethodName)) ∈ TT := tt_6 (List.mem_of_getElem? (i := 98) rfl) rfl
theorem wd_6_99 : (Jvm.Cond.selects "java/lang/String" ({ cls := "java/lang/String", name := "indexOf", desc := "(II)I" } : Jvm.MethodName) ({ cls := "java/lang/String", name := "indexOf", desc := "(II)I" } : Jvm.MethodName)) ∈ TT := tt_6 (List.mem_of_getElem? (i := 99) rfl) rfl
theorem wd_6_100 : (Jvm.Cond.code ({ cls := "java/lang/String", name := "indexOf", desc := "(II)I" } : Jvm.MethodName) prog_27_method_80_code (3 : Nat) (Option.some Jvm.ClassFile.FieldType.int)) ∈ TT := tt_6 (List.mem_of_getElem? (i := 100) rfl) rfl
theorem wd_6_101 : (Jvm.Cond.methodLink "java/lang/String" (505 : Nat) ({ cls := "java/lang/String", name := "length", desc := "()I" } : Jvm.MethodName)) ∈ TT := tt_6 (List.mem_of_getElem? (i := 101) rfl) rfl
theorem wd_6_102 : (Jvm.Cond.methodLink "java/lang/String" (637 : Nat) ({ cls := "java/lang/StringLatin1", name := "indexOf", desc := "([BIII)I" } : Jvm.MethodName)) ∈ TT := tt_6 (List.mem_of_getElem? (i := 102) rfl) rfl
theorem wd_6_103 : (Jvm.Cond.static ({ cls := "java/lang/StringLatin1", name := "indexOf", desc := "([BIII)I" } : Jvm.MethodName)) ∈ TT := tt_6 (List.mem_of_getElem? (i := 103) rfl) rfl
theorem wd_6_104 : (Jvm.Cond.code ({ cls := "java/lang/StringLatin1", name := "indexOf", desc := "([BIII)I" } : Jvm.MethodName) prog_30_method_22_code (4 : Nat) (Option.some Jvm.ClassFile.FieldType.int)) ∈ TT := tt_6 (List.mem_of_getElem? (i := 104) rfl) rfl
theorem wd_6_105 : (Jvm.Cond.methodLink "java/lang/StringLatin1" (88 : Nat) ({ cls := "java/lang/StringLatin1", name := "canEncode", desc := "(I)Z" } : Jvm.MethodName)) ∈ TT := tt_6 (List.mem_of_getElem? (i := 105) rfl) rfl
theorem wd_6_106 : (Jvm.Cond.static ({ cls := "java/lang/StringLatin1", name := "canEncode", desc := "(I)Z" } : Jvm.MethodName)) ∈ TT := tt_6 (List.mem_of_getElem? (i := 106) rfl) rfl
theorem wd_6_107 : (Jvm.Cond.code ({ cls := "java/lang/StringLatin1", name := "canEncode", desc := "(I)Z" } : Jvm.MethodName) prog_30_method_4_code (1 : Nat) (Option.some Jvm.ClassFile.FieldType.boolean)) ∈ TT := tt_6 (List.mem_of_getElem? (i := 107) rfl) rfl
theorem wd_6_108 : (Jvm.Cond.methodLink "java/lang/StringLatin1" (92 : Nat) ({ cls := "java/lang/Math", name := "max", desc := "(II)I" } : Jvm.MethodName)) ∈ TT := tt_6 (List.mem_of_getElem? (i := 108) rfl) rfl
theorem wd_6_109 : (Jvm.Cond.methodLink "java/lang/StringLatin1" (38 : Nat) ({ cls := "java/lang/Math", name := "min", desc := "(II)I" } : Jvm.MethodName)) ∈ TT := tt_6 (List.mem_of_getElem? (i := 109) rfl) rfl
theorem wd_6_110 : (Jvm.Cond.methodLink "java/lang/StringLatin1" (95 : Nat) ({ cls := "java/lang/StringLatin1", name := "indexOfChar", desc := "([BIII)I" } : Jvm.MethodName)) ∈ TT := tt_6 (List.mem_of_getElem? (i := 110) rfl) rfl
theorem wd_6_111 : (Jvm.Cond.static ({ cls := "java/lang/StringLatin1", name := "indexOfChar", desc := "([BIII)I" } : Jvm.MethodName)) ∈ TT := tt_6 (List.mem_of_getElem? (i := 111) rfl) rfl
theorem wd_6_112 : (Jvm.Cond.code ({ cls := "java/lang/StringLatin1", name := "indexOfChar", desc := "([BIII)I" } : Jvm.MethodName) prog_30_method_23_code (6 : Nat) (Option.some Jvm.ClassFile.FieldType.int)) ∈ TT := tt_6 (List.mem_of_getElem? (i := 112) rfl) rfl
theorem wd_6_139 : (Jvm.Cond.methodLink "InkBank$Reader" (45 : Nat) ({ cls := "InkBank$Reader", name := "formOf", desc := "(I)Ljava/lang/String;" } : Jvm.MethodName)) ∈ TT := tt_6 (List.mem_of_getElem? (i := 139) rfl) rfl
theorem wd_6_140 : (Jvm.Cond.static ({ cls := "InkBank$Reader", name := "formOf", desc := "(I)Ljava/lang/String;" } : Jvm.MethodName)) ∈ TT := tt_6 (List.mem_of_getElem? (i := 140) rfl) rfl
theorem wd_6_141 : (Jvm.Cond.code ({ cls := "InkBank$Reader", name := "formOf", desc := "(I)Ljava/lang/String;" } : Jvm.MethodName) prog_6_method_5_code (1 : Nat) (Option.some (Jvm.ClassFile.FieldType.object "java/lang/String"))) ∈ TT := tt_6 (List.mem_of_getElem? (i := 141) rfl) rfl
theorem wd_6_149 : (Jvm.Cond.methodLink "InkBank$Reader" (49 : Nat) ({ cls := "java/lang/String", name := "length", desc := "()I" } : Jvm.MethodName)) ∈ TT := tt_6 (List.mem_of_getElem? (i := 149) rfl) rfl
theorem wd_6_150 : (Jvm.Cond.methodLink "InkBank$Reader" (52 : Nat) ({ cls := "java/lang/String", name := "charAt", desc := "(I)C" } : Jvm.MethodName)) ∈ TT := tt_6 (List.mem_of_getElem? (i := 150) rfl) rfl
theorem wd_6_151 : (Jvm.Cond.methodLink "InkBank$Reader" (30 : Nat) ({ cls := "InkBank$Reader", name := "readSign", desc := "(C)Z" } : Jvm.MethodName)) ∈ TT := tt_6 (List.mem_of_getElem? (i := 151) rfl) rfl
theorem wd_6_153 : (Jvm.Cond.instanceMethod ({ cls := "InkBank$Reader", name := "readSign", desc := "(C)Z" } : Jvm.MethodName)) ∈ TT := tt_6 (List.mem_of_getElem? (i := 153) rfl) rfl
theorem wd_6_154 : (Jvm.Cond.code ({ cls := "InkBank$Reader", name := "readSign", desc := "(C)Z" } : Jvm.MethodName) prog_6_method_6_code (2 : Nat) (Option.some Jvm.ClassFile.FieldType.boolean)) ∈ TT := tt_6 (List.mem_of_getElem? (i := 154) rfl) rfl
theorem wd_6_155 : (Jvm.Cond.methodLink "InkBank$Reader" (56 : Nat) ({ cls := "InkBank$Reader", name := "readNumber", desc := "(I)I" } : Jvm.MethodName)) ∈ TT := tt_6 (List.mem_of_getElem? (i := 155) rfl) rfl
theorem wd_6_157 : (Jvm.Cond.instanceMethod ({ cls := "InkBank$Reader", name := "readNumber", desc := "(I)I" } : Jvm.MethodName)) ∈ TT := tt_6 (List.mem_of_getElem? (i := 157) rfl) rfl
theorem wd_6_158 : (Jvm.Cond.code ({ cls := "InkBank$Reader", name := "readNumber", desc := "(I)I" } : Jvm.MethodName) prog_6_method_7_code (4 : Nat) (Option.some Jvm.ClassFile.FieldType.int)) ∈ TT := tt_6 (List.mem_of_getElem? (i := 158) rfl) rfl
theorem wd_6_159 : (Jvm.Cond.methodLink "InkBank$Reader" (76 : Nat) ({ cls := "InkBank$Reader", name := "isDigitHere", desc := "()Z" } : Jvm.MethodName)) ∈ TT := tt_6 (List.mem_of_getElem? (i := 159) rfl) rfl
theorem wd_6_161 : (Jvm.Cond.instanceMethod ({ cls := "InkBank$Reader", name := "isDigitHere", desc := "()Z" } : Jvm.MethodName)) ∈ TT := tt_6 (List.mem_of_getElem? (i := 161) rfl) rfl
theorem wd_6_162 : (Jvm.Cond.code ({ cls := "InkBank$Reader", name := "isDigitHere", desc := "()Z" } : Jvm.MethodName) prog_6_method_8_code (1 : Nat) (Option.some Jvm.ClassFile.FieldType.boolean)) ∈ TT := tt_6 (List.mem_of_getElem? (i := 162) rfl) rfl
theorem wd_6_163 : (Jvm.Cond.methodLink "InkBank$Reader" (79 : Nat) ({ cls := "java/lang/Math", name := "max", desc := "(II)I" } : Jvm.MethodName)) ∈ TT := tt_6 (List.mem_of_getElem? (i := 163) rfl) rfl
theorem wd_6_164 : (Jvm.Cond.methodLink "InkBank$Reader" (59 : Nat) ({ cls := "java/lang/String", name := "isEmpty", desc := "()Z" } : Jvm.MethodName)) ∈ TT := tt_6 (List.mem_of_getElem? (i := 164) rfl) rfl
theorem wd_6_165 : (Jvm.Cond.instanceMethod ({ cls := "java/lang/String", name := "isEmpty", desc := "()Z" } : Jvm.MethodName)) ∈ TT := tt_6 (List.mem_of_getElem? (i := 165) rfl) rfl
theorem wd_6_166 : (Jvm.Cond.selects "java/lang/String" ({ cls := "java/lang/String", name := "isEmpty", desc := "()Z" } : Jvm.MethodName) ({ cls := "java/lang/String", name := "isEmpty", desc := "()Z" } : Jvm.MethodName)) ∈ TT := tt_6 (List.mem_of_getElem? (i := 166) rfl) rfl
theorem wd_6_167 : (Jvm.Cond.code ({ cls := "java/lang/String", name := "isEmpty", desc := "()Z" } : Jvm.MethodName) prog_27_method_55_code (1 : Nat) (Option.some Jvm.ClassFile.FieldType.boolean)) ∈ TT := tt_6 (List.mem_of_getElem? (i := 167) rfl) rfl
theorem wd_6_168 : (Jvm.Cond.methodLink "InkBank" (293 : Nat) ({ cls := "InkBank$Reader", name := "readCommand", desc := "()Z" } : Jvm.MethodName)) ∈ TT := tt_6 (List.mem_of_getElem? (i := 168) rfl) rfl
theorem wd_6_169 : (Jvm.Cond.methodLink "InkBank" (303 : Nat) ({ cls := "InkBank$Ledger", name := "obey", desc := "(I[I)I" } : Jvm.MethodName)) ∈ TT := tt_6 (List.mem_of_getElem? (i := 169) rfl) rfl
theorem wd_6_170 : (Jvm.Cond.instanceMethod ({ cls := "InkBank$Ledger", name := "obey", desc := "(I[I)I" } : Jvm.MethodName)) ∈ TT := tt_6 (List.mem_of_getElem? (i := 170) rfl) rfl
theorem wd_6_171 : (Jvm.Cond.selects "InkBank$Ledger" ({ cls := "InkBank$Ledger", name := "obey", desc := "(I[I)I" } : Jvm.MethodName) ({ cls := "InkBank$Ledger", name := "obey", desc := "(I[I)I" } : Jvm.MethodName)) ∈ TT := tt_6 (List.mem_of_getElem? (i := 171) rfl) rfl
theorem wd_6_172 : (Jvm.Cond.code ({ cls := "InkBank$Ledger", name := "obey", desc := "(I[I)I" } : Jvm.MethodName) prog_5_method_21_code (4 : Nat) (Option.some Jvm.ClassFile.FieldType.int)) ∈ TT := tt_6 (List.mem_of_getElem? (i := 172) rfl) rfl
theorem wd_6_173 : (Jvm.Cond.methodLink "InkBank$Ledger" (152 : Nat) ({ cls := "InkBank$Ledger", name := "faultOf", desc := "(I[I)I" } : Jvm.MethodName)) ∈ TT := tt_6 (List.mem_of_getElem? (i := 173) rfl) rfl
theorem wd_6_175 : (Jvm.Cond.instanceMethod ({ cls := "InkBank$Ledger", name := "faultOf", desc := "(I[I)I" } : Jvm.MethodName)) ∈ TT := tt_6 (List.mem_of_getElem? (i := 175) rfl) rfl
theorem wd_6_176 : (Jvm.Cond.code ({ cls := "InkBank$Ledger", name := "faultOf", desc := "(I[I)I" } : Jvm.MethodName) prog_5_method_22_code (3 : Nat) (Option.some Jvm.ClassFile.FieldType.int)) ∈ TT := tt_6 (List.mem_of_getElem? (i := 176) rfl) rfl
theorem wd_6_177 : (Jvm.Cond.methodLink "InkBank$Ledger" (173 : Nat) ({ cls := "InkBank$Ledger", name := "payInFault", desc := "(II)I" } : Jvm.MethodName)) ∈ TT := tt_6 (List.mem_of_getElem? (i := 177) rfl) rfl
theorem wd_6_178 : (Jvm.Cond.methodLink "InkBank$Ledger" (176 : Nat) ({ cls := "InkBank$Ledger", name := "payOutFault", desc := "(II)I" } : Jvm.MethodName)) ∈ TT := tt_6 (List.mem_of_getElem? (i := 178) rfl) rfl
theorem wd_6_179 : (Jvm.Cond.methodLink "InkBank$Ledger" (179 : Nat) ({ cls := "InkBank$Ledger", name := "limitFault", desc := "(II)I" } : Jvm.MethodName)) ∈ TT := tt_6 (List.mem_of_getElem? (i := 179) rfl) rfl
theorem wd_6_180 : (Jvm.Cond.methodLink "InkBank$Ledger" (182 : Nat) ({ cls := "InkBank$Ledger", name := "sealFault", desc := "(IIII)I" } : Jvm.MethodName)) ∈ TT := tt_6 (List.mem_of_getElem? (i := 180) rfl) rfl
theorem wd_6_181 : (Jvm.Cond.methodLink "InkBank$Ledger" (185 : Nat) ({ cls := "InkBank$Ledger", name := "cancelFault", desc := "(I)I" } : Jvm.MethodName)) ∈ TT := tt_6 (List.mem_of_getElem? (i := 181) rfl) rfl
theorem wd_6_182 : (Jvm.Cond.methodLink "InkBank$Ledger" (188 : Nat) ({ cls := "InkBank$Ledger", name := "endDaysFault", desc := "(I)I" } : Jvm.MethodName)) ∈ TT := tt_6 (List.mem_of_getElem? (i := 182) rfl) rfl
theorem wd_6_183 : (Jvm.Cond.methodLink "InkBank$Ledger" (156 : Nat) ({ cls := "InkBank$Ledger", name := "payIn", desc := "(II)I" } : Jvm.MethodName)) ∈ TT := tt_6 (List.mem_of_getElem? (i := 183) rfl) rfl
theorem wd_6_184 : (Jvm.Cond.methodLink "InkBank$Ledger" (159 : Nat) ({ cls := "InkBank$Ledger", name := "payOut", desc := "(II)I" } : Jvm.MethodName)) ∈ TT := tt_6 (List.mem_of_getElem? (i := 184) rfl) rfl
theorem wd_6_185 : (Jvm.Cond.methodLink "InkBank$Ledger" (162 : Nat) ({ cls := "InkBank$Accounts", name := "changeLimit", desc := "(II)I" } : Jvm.MethodName)) ∈ TT := tt_6 (List.mem_of_getElem? (i := 185) rfl) rfl
theorem wd_6_186 : (Jvm.Cond.methodLink "InkBank$Ledger" (165 : Nat) ({ cls := "InkBank$Transfers", name := "add", desc := "(IIII)I" } : Jvm.MethodName)) ∈ TT := tt_6 (List.mem_of_getElem? (i := 186) rfl) rfl
theorem wd_6_187 : (Jvm.Cond.methodLink "InkBank$Ledger" (167 : Nat) ({ cls := "InkBank$Transfers", name := "remove", desc := "(I)I" } : Jvm.MethodName)) ∈ TT := tt_6 (List.mem_of_getElem? (i := 187) rfl) rfl
theorem wd_6_188 : (Jvm.Cond.methodLink "InkBank$Ledger" (170 : Nat) ({ cls := "InkBank$Ledger", name := "passDays", desc := "(I)I" } : Jvm.MethodName)) ∈ TT := tt_6 (List.mem_of_getElem? (i := 188) rfl) rfl
theorem wd_6_193 : (Jvm.Cond.instanceMethod ({ cls := "InkBank", name := "errorPosition", desc := "()I" } : Jvm.MethodName)) ∈ TT := tt_6 (List.mem_of_getElem? (i := 193) rfl) rfl
theorem wd_6_194 : (Jvm.Cond.selects "InkBank" ({ cls := "InkBank", name := "errorPosition", desc := "()I" } : Jvm.MethodName) ({ cls := "InkBank", name := "errorPosition", desc := "()I" } : Jvm.MethodName)) ∈ TT := tt_6 (List.mem_of_getElem? (i := 194) rfl) rfl
theorem wd_6_195 : (Jvm.Cond.code ({ cls := "InkBank", name := "errorPosition", desc := "()I" } : Jvm.MethodName) prog_1_method_45_code (1 : Nat) (Option.some Jvm.ClassFile.FieldType.int)) ∈ TT := tt_6 (List.mem_of_getElem? (i := 195) rfl) rfl
theorem wd_6_200 : (Jvm.Cond.instanceMethod ({ cls := "InkBank", name := "failedCommand", desc := "()I" } : Jvm.MethodName)) ∈ TT := tt_6 (List.mem_of_getElem? (i := 200) rfl) rfl
theorem wd_6_201 : (Jvm.Cond.selects "InkBank" ({ cls := "InkBank", name := "failedCommand", desc := "()I" } : Jvm.MethodName) ({ cls := "InkBank", name := "failedCommand", desc := "()I" } : Jvm.MethodName)) ∈ TT := tt_6 (List.mem_of_getElem? (i := 201) rfl) rfl
theorem wd_6_202 : (Jvm.Cond.code ({ cls := "InkBank", name := "failedCommand", desc := "()I" } : Jvm.MethodName) prog_1_method_46_code (1 : Nat) (Option.some Jvm.ClassFile.FieldType.int)) ∈ TT := tt_6 (List.mem_of_getElem? (i := 202) rfl) rfl
theorem wd_6_207 : (Jvm.Cond.instanceMethod ({ cls := "InkBank", name := "undo", desc := "()I" } : Jvm.MethodName)) ∈ TT := tt_6 (List.mem_of_getElem? (i := 207) rfl) rfl
theorem wd_6_208 : (Jvm.Cond.selects "InkBank" ({ cls := "InkBank", name := "undo", desc := "()I" } : Jvm.MethodName) ({ cls := "InkBank", name := "undo", desc := "()I" } : Jvm.MethodName)) ∈ TT := tt_6 (List.mem_of_getElem? (i := 208) rfl) rfl
theorem wd_6_209 : (Jvm.Cond.code ({ cls := "InkBank", name := "undo", desc := "()I" } : Jvm.MethodName) prog_1_method_47_code (1 : Nat) (Option.some Jvm.ClassFile.FieldType.int)) ∈ TT := tt_6 (List.mem_of_getElem? (i := 209) rfl) rfl
theorem wd_6_210 : (Jvm.Cond.methodLink "InkBank" (308 : Nat) ({ cls := "InkBank$History", name := "takeBack", desc := "(LInkBank$Ledger;)I" } : Jvm.MethodName)) ∈ TT := tt_6 (List.mem_of_getElem? (i := 210) rfl) rfl
theorem wd_6_211 : (Jvm.Cond.instanceMethod ({ cls := "InkBank$History", name := "takeBack", desc := "(LInkBank$Ledger;)I" } : Jvm.MethodName)) ∈ TT := tt_6 (List.mem_of_getElem? (i := 211) rfl) rfl
theorem wd_6_212 : (Jvm.Cond.selects "InkBank$History" ({ cls := "InkBank$History", name := "takeBack", desc := "(LInkBank$Ledger;)I" } : Jvm.MethodName) ({ cls := "InkBank$History", name := "takeBack", desc := "(LInkBank$Ledger;)I" } : Jvm.MethodName)) ∈ TT := tt_6 (List.mem_of_getElem? (i := 212) rfl) rfl
theorem wd_6_213 : (Jvm.Cond.code ({ cls := "InkBank$History", name := "takeBack", desc := "(LInkBank$Ledger;)I" } : Jvm.MethodName) prog_3_method_3_code (2 : Nat) (Option.some Jvm.ClassFile.FieldType.int)) ∈ TT := tt_6 (List.mem_of_getElem? (i := 213) rfl) rfl
theorem wd_6_218 : (Jvm.Cond.instanceMethod ({ cls := "InkBank", name := "restore", desc := "()I" } : Jvm.MethodName)) ∈ TT := tt_6 (List.mem_of_getElem? (i := 218) rfl) rfl
theorem wd_6_219 : (Jvm.Cond.selects "InkBank" ({ cls := "InkBank", name := "restore", desc := "()I" } : Jvm.MethodName) ({ cls := "InkBank", name := "restore", desc := "()I" } : Jvm.MethodName)) ∈ TT := tt_6 (List.mem_of_getElem? (i := 219) rfl) rfl
theorem wd_6_220 : (Jvm.Cond.code ({ cls := "InkBank", name := "restore", desc := "()I" } : Jvm.MethodName) prog_1_method_49_code (1 : Nat) (Option.some Jvm.ClassFile.FieldType.int)) ∈ TT := tt_6 (List.mem_of_getElem? (i := 220) rfl) rfl
theorem wd_6_227 : (Jvm.Cond.fieldLink "InkBankModel" (9 : Nat) "InkBankModel" "now" "[I") ∈ TT := tt_6 (List.mem_of_getElem? (i := 227) rfl) rfl
theorem wd_6_228 : (Jvm.Cond.fieldLink "InkBankModel" (13 : Nat) "InkBankModel" "before" "[I") ∈ TT := tt_6 (List.mem_of_getElem? (i := 228) rfl) rfl
theorem wd_6_229 : (Jvm.Cond.fieldLink "InkBankModel" (16 : Nat) "InkBankModel" "trial" "[I") ∈ TT := tt_6 (List.mem_of_getElem? (i := 229) rfl) rfl
theorem wd_6_230 : (Jvm.Cond.fieldLink "InkBankModel" (19 : Nat) "InkBankModel" "saved" "[I") ∈ TT := tt_6 (List.mem_of_getElem? (i := 230) rfl) rfl
theorem wd_6_231 : (Jvm.Cond.fieldLink "InkBankModel" (22 : Nat) "InkBankModel" "history" "[I") ∈ TT := tt_6 (List.mem_of_getElem? (i := 231) rfl) rfl
theorem wd_6_232 : (Jvm.Cond.fieldLink "InkBankModel" (65 : Nat) "InkBankModel" "isSaved" "Z") ∈ TT := tt_6 (List.mem_of_getElem? (i := 232) rfl) rfl
theorem wd_6_233 : (Jvm.Cond.fieldLink "InkBankModel" (55 : Nat) "InkBankModel" "remembered" "I") ∈ TT := tt_6 (List.mem_of_getElem? (i := 233) rfl) rfl
theorem wd_6_234 : (Jvm.Cond.fieldLink "InkBankModel" (25 : Nat) "InkBankModel" "errorAt" "I") ∈ TT := tt_6 (List.mem_of_getElem? (i := 234) rfl) rfl
theorem wd_6_235 : (Jvm.Cond.fieldLink "InkBankModel" (29 : Nat) "InkBankModel" "failedAt" "I") ∈ TT := tt_6 (List.mem_of_getElem? (i := 235) rfl) rfl
theorem wd_6_236 : (Jvm.Cond.fieldLink "InkBankModel" (32 : Nat) "InkBankModel" "watched" "I") ∈ TT := tt_6 (List.mem_of_getElem? (i := 236) rfl) rfl
theorem wd_6_237 : (Jvm.Cond.fieldLink "InkBankModel" (145 : Nat) "InkBankModel" "hasBounced" "Z") ∈ TT := tt_6 (List.mem_of_getElem? (i := 237) rfl) rfl
theorem wd_6_238 : (Jvm.Cond.fieldLink "InkBankModel" (35 : Nat) "InkBankModel" "text" "[I") ∈ TT := tt_6 (List.mem_of_getElem? (i := 238) rfl) rfl
theorem wd_6_239 : (Jvm.Cond.fieldLink "InkBankModel" (195 : Nat) "InkBankModel" "typed" "I") ∈ TT := tt_6 (List.mem_of_getElem? (i := 239) rfl) rfl
theorem wd_7_0 : (Jvm.Cond.fieldLink "InkBankModel" (38 : Nat) "InkBankModel" "line" "[I") ∈ TT := tt_7 (List.mem_of_getElem? (i := 0) rfl) rfl
theorem wd_7_1 : (Jvm.Cond.fieldLink "InkBankModel" (192 : Nat) "InkBankModel" "lined" "I") ∈ TT := tt_7 (List.mem_of_getElem? (i := 1) rfl) rfl
theorem wd_7_2 : (Jvm.Cond.fieldLink "InkBankModel" (44 : Nat) "InkBankModel" "thrown" "I") ∈ TT := tt_7 (List.mem_of_getElem? (i := 2) rfl) rfl
theorem wd_7_3 : (Jvm.Cond.fieldLink "InkBankModel" (201 : Nat) "InkBankModel" "size" "I") ∈ TT := tt_7 (List.mem_of_getElem? (i := 3) rfl) rfl
theorem wd_7_4 : (Jvm.Cond.fieldLink "InkBankModel" (198 : Nat) "InkBankModel" "spot" "I") ∈ TT := tt_7 (List.mem_of_getElem? (i := 4) rfl) rfl
theorem wd_7_5 : (Jvm.Cond.fieldLink "InkBankModel" (204 : Nat) "InkBankModel" "wrong" "I") ∈ TT := tt_7 (List.mem_of_getElem? (i := 5) rfl) rfl
theorem wd_7_6 : (Jvm.Cond.fieldLink "InkBankModel" (230 : Nat) "InkBankModel" "told" "I") ∈ TT := tt_7 (List.mem_of_getElem? (i := 6) rfl) rfl
theorem wd_7_7 : (Jvm.Cond.fieldLink "InkBankModel" (41 : Nat) "InkBankModel" "numbers" "[I") ∈ TT := tt_7 (List.mem_of_getElem? (i := 7) rfl) rfl
theorem wd_7_52 : (Jvm.Cond.instanceMethod ({ cls := "InkBankModel", name := "thrown", desc := "()I" } : Jvm.MethodName)) ∈ TT := tt_7 (List.mem_of_getElem? (i := 52) rfl) rfl
theorem wd_7_53 : (Jvm.Cond.selects "InkBankModel" ({ cls := "InkBankModel", name := "thrown", desc := "()I" } : Jvm.MethodName) ({ cls := "InkBankModel", name := "thrown", desc := "()I" } : Jvm.MethodName)) ∈ TT := tt_7 (List.mem_of_getElem? (i := 53) rfl) rfl
theorem wd_7_54 : (Jvm.Cond.code ({ cls := "InkBankModel", name := "thrown", desc := "()I" } : Jvm.MethodName) prog_9_method_2_code (1 : Nat) (Option.some Jvm.ClassFile.FieldType.int)) ∈ TT := tt_7 (List.mem_of_getElem? (i := 54) rfl) rfl
theorem wd_7_56 : (Jvm.Cond.instanceMethod ({ cls := "InkBankModel", name := "undo", desc := "()I" } : Jvm.MethodName)) ∈ TT := tt_7 (List.mem_of_getElem? (i := 56) rfl) rfl
theorem wd_7_57 : (Jvm.Cond.selects "InkBankModel" ({ cls := "InkBankModel", name := "undo", desc := "()I" } : Jvm.MethodName) ({ cls := "InkBankModel", name := "undo", desc := "()I" } : Jvm.MethodName)) ∈ TT := tt_7 (List.mem_of_getElem? (i := 57) rfl) rfl
theorem wd_7_58 : (Jvm.Cond.code ({ cls := "InkBankModel", name := "undo", desc := "()I" } : Jvm.MethodName) prog_9_method_10_code (1 : Nat) (Option.some Jvm.ClassFile.FieldType.int)) ∈ TT := tt_7 (List.mem_of_getElem? (i := 58) rfl) rfl
theorem wd_7_59 : (Jvm.Cond.methodLink "InkBankModel" (61 : Nat) ({ cls := "InkBankModel", name := "goes", desc := "(Z)Z" } : Jvm.MethodName)) ∈ TT := tt_7 (List.mem_of_getElem? (i := 59) rfl) rfl
theorem wd_7_61 : (Jvm.Cond.instanceMethod ({ cls := "InkBankModel", name := "goes", desc := "(Z)Z" } : Jvm.MethodName)) ∈ TT := tt_7 (List.mem_of_getElem? (i := 61) rfl) rfl
theorem wd_7_62 : (Jvm.Cond.code ({ cls := "InkBankModel", name := "goes", desc := "(Z)Z" } : Jvm.MethodName) prog_9_method_6_code (2 : Nat) (Option.some Jvm.ClassFile.FieldType.boolean)) ∈ TT := tt_7 (List.mem_of_getElem? (i := 62) rfl) rfl
theorem wd_7_63 : (Jvm.Cond.methodLink "InkBankModel" (47 : Nat) ({ cls := "InkBankModel", name := "holds", desc := "(ZZZZ)Z" } : Jvm.MethodName)) ∈ TT := tt_7 (List.mem_of_getElem? (i := 63) rfl) rfl
theorem wd_7_65 : (Jvm.Cond.instanceMethod ({ cls := "InkBankModel", name := "holds", desc := "(ZZZZ)Z" } : Jvm.MethodName)) ∈ TT := tt_7 (List.mem_of_getElem? (i := 65) rfl) rfl
theorem wd_7_66 : (Jvm.Cond.code ({ cls := "InkBankModel", name := "holds", desc := "(ZZZZ)Z" } : Jvm.MethodName) prog_9_method_5_code (5 : Nat) (Option.some Jvm.ClassFile.FieldType.boolean)) ∈ TT := tt_7 (List.mem_of_getElem? (i := 66) rfl) rfl
theorem wd_7_67 : (Jvm.Cond.methodLink "InkBankModel" (51 : Nat) ({ cls := "InkBankModel", name := "copies", desc := "([II[II)V" } : Jvm.MethodName)) ∈ TT := tt_7 (List.mem_of_getElem? (i := 67) rfl) rfl
theorem wd_7_68 : (Jvm.Cond.static ({ cls := "InkBankModel", name := "copies", desc := "([II[II)V" } : Jvm.MethodName)) ∈ TT := tt_7 (List.mem_of_getElem? (i := 68) rfl) rfl
theorem wd_7_69 : (Jvm.Cond.code ({ cls := "InkBankModel", name := "copies", desc := "([II[II)V" } : Jvm.MethodName) prog_9_method_4_code (5 : Nat) (Option.none : Option Jvm.ClassFile.FieldType)) ∈ TT := tt_7 (List.mem_of_getElem? (i := 69) rfl) rfl
theorem wd_7_71 : (Jvm.Cond.instanceMethod ({ cls := "InkBankModel", name := "save", desc := "()I" } : Jvm.MethodName)) ∈ TT := tt_7 (List.mem_of_getElem? (i := 71) rfl) rfl
theorem wd_7_72 : (Jvm.Cond.selects "InkBankModel" ({ cls := "InkBankModel", name := "save", desc := "()I" } : Jvm.MethodName) ({ cls := "InkBankModel", name := "save", desc := "()I" } : Jvm.MethodName)) ∈ TT := tt_7 (List.mem_of_getElem? (i := 72) rfl) rfl
theorem wd_7_73 : (Jvm.Cond.code ({ cls := "InkBankModel", name := "save", desc := "()I" } : Jvm.MethodName) prog_9_method_11_code (1 : Nat) (Option.some Jvm.ClassFile.FieldType.int)) ∈ TT := tt_7 (List.mem_of_getElem? (i := 73) rfl) rfl
theorem wd_7_75 : (Jvm.Cond.instanceMethod ({ cls := "InkBankModel", name := "restore", desc := "()I" } : Jvm.MethodName)) ∈ TT := tt_7 (List.mem_of_getElem? (i := 75) rfl) rfl
theorem wd_7_76 : (Jvm.Cond.selects "InkBankModel" ({ cls := "InkBankModel", name := "restore", desc := "()I" } : Jvm.MethodName) ({ cls := "InkBankModel", name := "restore", desc := "()I" } : Jvm.MethodName)) ∈ TT := tt_7 (List.mem_of_getElem? (i := 76) rfl) rfl
theorem wd_7_77 : (Jvm.Cond.code ({ cls := "InkBankModel", name := "restore", desc := "()I" } : Jvm.MethodName) prog_9_method_12_code (1 : Nat) (Option.some Jvm.ClassFile.FieldType.int)) ∈ TT := tt_7 (List.mem_of_getElem? (i := 77) rfl) rfl
theorem wd_7_79 : (Jvm.Cond.instanceMethod ({ cls := "InkBankModel", name := "open", desc := "(I)I" } : Jvm.MethodName)) ∈ TT := tt_7 (List.mem_of_getElem? (i := 79) rfl) rfl
theorem wd_7_80 : (Jvm.Cond.selects "InkBankModel" ({ cls := "InkBankModel", name := "open", desc := "(I)I" } : Jvm.MethodName) ({ cls := "InkBankModel", name := "open", desc := "(I)I" } : Jvm.MethodName)) ∈ TT := tt_7 (List.mem_of_getElem? (i := 80) rfl) rfl
theorem wd_7_81 : (Jvm.Cond.code ({ cls := "InkBankModel", name := "open", desc := "(I)I" } : Jvm.MethodName) prog_9_method_23_code (2 : Nat) (Option.some Jvm.ClassFile.FieldType.int)) ∈ TT := tt_7 (List.mem_of_getElem? (i := 81) rfl) rfl
theorem wd_7_82 : (Jvm.Cond.methodLink "InkBankModel" (87 : Nat) ({ cls := "InkBankModel", name := "begins", desc := "()V" } : Jvm.MethodName)) ∈ TT := tt_7 (List.mem_of_getElem? (i := 82) rfl) rfl
theorem wd_7_84 : (Jvm.Cond.instanceMethod ({ cls := "InkBankModel", name := "begins", desc := "()V" } : Jvm.MethodName)) ∈ TT := tt_7 (List.mem_of_getElem? (i := 84) rfl) rfl
theorem wd_7_85 : (Jvm.Cond.code ({ cls := "InkBankModel", name := "begins", desc := "()V" } : Jvm.MethodName) prog_9_method_7_code (1 : Nat) (Option.none : Option Jvm.ClassFile.FieldType)) ∈ TT := tt_7 (List.mem_of_getElem? (i := 85) rfl) rfl
theorem wd_7_86 : (Jvm.Cond.methodLink "InkBankModel" (90 : Nat) ({ cls := "InkBankModel", name := "opens", desc := "(I)I" } : Jvm.MethodName)) ∈ TT := tt_7 (List.mem_of_getElem? (i := 86) rfl) rfl
theorem wd_7_88 : (Jvm.Cond.instanceMethod ({ cls := "InkBankModel", name := "opens", desc := "(I)I" } : Jvm.MethodName)) ∈ TT := tt_7 (List.mem_of_getElem? (i := 88) rfl) rfl
theorem wd_7_89 : (Jvm.Cond.code ({ cls := "InkBankModel", name := "opens", desc := "(I)I" } : Jvm.MethodName) prog_9_method_22_code (3 : Nat) (Option.some Jvm.ClassFile.FieldType.int)) ∈ TT := tt_7 (List.mem_of_getElem? (i := 89) rfl) rfl
theorem wd_7_90 : (Jvm.Cond.methodLink "InkBankModel" (69 : Nat) ({ cls := "InkBankModel", name := "isIn", desc := "(III)Z" } : Jvm.MethodName)) ∈ TT := tt_7 (List.mem_of_getElem? (i := 90) rfl) rfl
theorem wd_7_91 : (Jvm.Cond.static ({ cls := "InkBankModel", name := "isIn", desc := "(III)Z" } : Jvm.MethodName)) ∈ TT := tt_7 (List.mem_of_getElem? (i := 91) rfl) rfl
theorem wd_7_92 : (Jvm.Cond.code ({ cls := "InkBankModel", name := "isIn", desc := "(III)Z" } : Jvm.MethodName) prog_9_method_3_code (3 : Nat) (Option.some Jvm.ClassFile.FieldType.boolean)) ∈ TT := tt_7 (List.mem_of_getElem? (i := 92) rfl) rfl
theorem wd_7_93 : (Jvm.Cond.methodLink "InkBankModel" (77 : Nat) ({ cls := "InkBankModel", name := "accountAt", desc := "(I)I" } : Jvm.MethodName)) ∈ TT := tt_7 (List.mem_of_getElem? (i := 93) rfl) rfl
theorem wd_7_94 : (Jvm.Cond.static ({ cls := "InkBankModel", name := "accountAt", desc := "(I)I" } : Jvm.MethodName)) ∈ TT := tt_7 (List.mem_of_getElem? (i := 94) rfl) rfl
theorem wd_7_95 : (Jvm.Cond.code ({ cls := "InkBankModel", name := "accountAt", desc := "(I)I" } : Jvm.MethodName) prog_9_method_14_code (1 : Nat) (Option.some Jvm.ClassFile.FieldType.int)) ∈ TT := tt_7 (List.mem_of_getElem? (i := 95) rfl) rfl
theorem wd_7_96 : (Jvm.Cond.methodLink "InkBankModel" (93 : Nat) ({ cls := "InkBankModel", name := "ends", desc := "(I)I" } : Jvm.MethodName)) ∈ TT := tt_7 (List.mem_of_getElem? (i := 96) rfl) rfl
theorem wd_7_98 : (Jvm.Cond.instanceMethod ({ cls := "InkBankModel", name := "ends", desc := "(I)I" } : Jvm.MethodName)) ∈ TT := tt_7 (List.mem_of_getElem? (i := 98) rfl) rfl
theorem wd_7_99 : (Jvm.Cond.code ({ cls := "InkBankModel", name := "ends", desc := "(I)I" } : Jvm.MethodName) prog_9_method_9_code (2 : Nat) (Option.some Jvm.ClassFile.FieldType.int)) ∈ TT := tt_7 (List.mem_of_getElem? (i := 99) rfl) rfl
theorem wd_7_100 : (Jvm.Cond.methodLink "InkBankModel" (58 : Nat) ({ cls := "InkBankModel", name := "remembers", desc := "()V" } : Jvm.MethodName)) ∈ TT := tt_7 (List.mem_of_getElem? (i := 100) rfl) rfl
theorem wd_7_102 : (Jvm.Cond.instanceMethod ({ cls := "InkBankModel", name := "remembers", desc := "()V" } : Jvm.MethodName)) ∈ TT := tt_7 (List.mem_of_getElem? (i := 102) rfl) rfl
theorem wd_7_103 : (Jvm.Cond.code ({ cls := "InkBankModel", name := "remembers", desc := "()V" } : Jvm.MethodName) prog_9_method_8_code (2 : Nat) (Option.none : Option Jvm.ClassFile.FieldType)) ∈ TT := tt_7 (List.mem_of_getElem? (i := 103) rfl) rfl
theorem wd_7_105 : (Jvm.Cond.instanceMethod ({ cls := "InkBankModel", name := "deposit", desc := "(II)I" } : Jvm.MethodName)) ∈ TT := tt_7 (List.mem_of_getElem? (i := 105) rfl) rfl
theorem wd_7_106 : (Jvm.Cond.selects "InkBankModel" ({ cls := "InkBankModel", name := "deposit", desc := "(II)I" } : Jvm.MethodName) ({ cls := "InkBankModel", name := "deposit", desc := "(II)I" } : Jvm.MethodName)) ∈ TT := tt_7 (List.mem_of_getElem? (i := 106) rfl) rfl
theorem wd_7_107 : (Jvm.Cond.code ({ cls := "InkBankModel", name := "deposit", desc := "(II)I" } : Jvm.MethodName) prog_9_method_25_code (3 : Nat) (Option.some Jvm.ClassFile.FieldType.int)) ∈ TT := tt_7 (List.mem_of_getElem? (i := 107) rfl) rfl
theorem wd_7_108 : (Jvm.Cond.methodLink "InkBankModel" (110 : Nat) ({ cls := "InkBankModel", name := "pays", desc := "(II)I" } : Jvm.MethodName)) ∈ TT := tt_7 (List.mem_of_getElem? (i := 108) rfl) rfl
theorem wd_7_110 : (Jvm.Cond.instanceMethod ({ cls := "InkBankModel", name := "pays", desc := "(II)I" } : Jvm.MethodName)) ∈ TT := tt_7 (List.mem_of_getElem? (i := 110) rfl) rfl
theorem wd_7_111 : (Jvm.Cond.code ({ cls := "InkBankModel", name := "pays", desc := "(II)I" } : Jvm.MethodName) prog_9_method_24_code (4 : Nat) (Option.some Jvm.ClassFile.FieldType.int)) ∈ TT := tt_7 (List.mem_of_getElem? (i := 111) rfl) rfl
theorem wd_7_112 : (Jvm.Cond.methodLink "InkBankModel" (96 : Nat) ({ cls := "InkBankModel", name := "isAmount", desc := "(I)Z" } : Jvm.MethodName)) ∈ TT := tt_7 (List.mem_of_getElem? (i := 112) rfl) rfl
theorem wd_7_113 : (Jvm.Cond.static ({ cls := "InkBankModel", name := "isAmount", desc := "(I)Z" } : Jvm.MethodName)) ∈ TT := tt_7 (List.mem_of_getElem? (i := 113) rfl) rfl
theorem wd_7_114 : (Jvm.Cond.code ({ cls := "InkBankModel", name := "isAmount", desc := "(I)Z" } : Jvm.MethodName) prog_9_method_16_code (1 : Nat) (Option.some Jvm.ClassFile.FieldType.boolean)) ∈ TT := tt_7 (List.mem_of_getElem? (i := 114) rfl) rfl
theorem wd_7_115 : (Jvm.Cond.methodLink "InkBankModel" (73 : Nat) ({ cls := "InkBankModel", name := "isAccount", desc := "(I)Z" } : Jvm.MethodName)) ∈ TT := tt_7 (List.mem_of_getElem? (i := 115) rfl) rfl
theorem wd_7_117 : (Jvm.Cond.instanceMethod ({ cls := "InkBankModel", name := "isAccount", desc := "(I)Z" } : Jvm.MethodName)) ∈ TT := tt_7 (List.mem_of_getElem? (i := 117) rfl) rfl
theorem wd_7_118 : (Jvm.Cond.code ({ cls := "InkBankModel", name := "isAccount", desc := "(I)Z" } : Jvm.MethodName) prog_9_method_13_code (2 : Nat) (Option.some Jvm.ClassFile.FieldType.boolean)) ∈ TT := tt_7 (List.mem_of_getElem? (i := 118) rfl) rfl
theorem wd_7_119 : (Jvm.Cond.methodLink "InkBankModel" (99 : Nat) ({ cls := "InkBankModel", name := "of", desc := "(II)I" } : Jvm.MethodName)) ∈ TT := tt_7 (List.mem_of_getElem? (i := 119) rfl) rfl
theorem wd_7_121 : (Jvm.Cond.instanceMethod ({ cls := "InkBankModel", name := "of", desc := "(II)I" } : Jvm.MethodName)) ∈ TT := tt_7 (List.mem_of_getElem? (i := 121) rfl) rfl
theorem wd_7_122 : (Jvm.Cond.code ({ cls := "InkBankModel", name := "of", desc := "(II)I" } : Jvm.MethodName) prog_9_method_15_code (3 : Nat) (Option.some Jvm.ClassFile.FieldType.int)) ∈ TT := tt_7 (List.mem_of_getElem? (i := 122) rfl) rfl
theorem wd_7_123 : (Jvm.Cond.methodLink "InkBankModel" (102 : Nat) ({ cls := "InkBankModel", name := "changes", desc := "(II)V" } : Jvm.MethodName)) ∈ TT := tt_7 (List.mem_of_getElem? (i := 123) rfl) rfl
theorem wd_7_125 : (Jvm.Cond.instanceMethod ({ cls := "InkBankModel", name := "changes", desc := "(II)V" } : Jvm.MethodName)) ∈ TT := tt_7 (List.mem_of_getElem? (i := 125) rfl) rfl
theorem wd_7_126 : (Jvm.Cond.code ({ cls := "InkBankModel", name := "changes", desc := "(II)V" } : Jvm.MethodName) prog_9_method_21_code (3 : Nat) (Option.none : Option Jvm.ClassFile.FieldType)) ∈ TT := tt_7 (List.mem_of_getElem? (i := 126) rfl) rfl
theorem wd_7_127 : (Jvm.Cond.methodLink "InkBankModel" (106 : Nat) ({ cls := "InkBankModel", name := "writes", desc := "(III)V" } : Jvm.MethodName)) ∈ TT := tt_7 (List.mem_of_getElem? (i := 127) rfl) rfl
theorem wd_7_129 : (Jvm.Cond.instanceMethod ({ cls := "InkBankModel", name := "writes", desc := "(III)V" } : Jvm.MethodName)) ∈ TT := tt_7 (List.mem_of_getElem? (i := 129) rfl) rfl
theorem wd_7_130 : (Jvm.Cond.code ({ cls := "InkBankModel", name := "writes", desc := "(III)V" } : Jvm.MethodName) prog_9_method_20_code (5 : Nat) (Option.none : Option Jvm.ClassFile.FieldType)) ∈ TT := tt_7 (List.mem_of_getElem? (i := 130) rfl) rfl
theorem wd_7_131 : (Jvm.Cond.methodLink "InkBankModel" (81 : Nat) ({ cls := "java/lang/Math", name := "min", desc := "(II)I" } : Jvm.MethodName)) ∈ TT := tt_7 (List.mem_of_getElem? (i := 131) rfl) rfl
theorem wd_7_133 : (Jvm.Cond.instanceMethod ({ cls := "InkBankModel", name := "withdraw", desc := "(II)I" } : Jvm.MethodName)) ∈ TT := tt_7 (List.mem_of_getElem? (i := 133) rfl) rfl
theorem wd_7_134 : (Jvm.Cond.selects "InkBankModel" ({ cls := "InkBankModel", name := "withdraw", desc := "(II)I" } : Jvm.MethodName) ({ cls := "InkBankModel", name := "withdraw", desc := "(II)I" } : Jvm.MethodName)) ∈ TT := tt_7 (List.mem_of_getElem? (i := 134) rfl) rfl
theorem wd_7_135 : (Jvm.Cond.code ({ cls := "InkBankModel", name := "withdraw", desc := "(II)I" } : Jvm.MethodName) prog_9_method_27_code (3 : Nat) (Option.some Jvm.ClassFile.FieldType.int)) ∈ TT := tt_7 (List.mem_of_getElem? (i := 135) rfl) rfl
theorem wd_7_136 : (Jvm.Cond.methodLink "InkBankModel" (113 : Nat) ({ cls := "InkBankModel", name := "draws", desc := "(II)I" } : Jvm.MethodName)) ∈ TT := tt_7 (List.mem_of_getElem? (i := 136) rfl) rfl
theorem wd_7_138 : (Jvm.Cond.instanceMethod ({ cls := "InkBankModel", name := "draws", desc := "(II)I" } : Jvm.MethodName)) ∈ TT := tt_7 (List.mem_of_getElem? (i := 138) rfl) rfl
theorem wd_7_139 : (Jvm.Cond.code ({ cls := "InkBankModel", name := "draws", desc := "(II)I" } : Jvm.MethodName) prog_9_method_26_code (4 : Nat) (Option.some Jvm.ClassFile.FieldType.int)) ∈ TT := tt_7 (List.mem_of_getElem? (i := 139) rfl) rfl
theorem wd_7_141 : (Jvm.Cond.instanceMethod ({ cls := "InkBankModel", name := "setLimit", desc := "(II)I" } : Jvm.MethodName)) ∈ TT := tt_7 (List.mem_of_getElem? (i := 141) rfl) rfl
theorem wd_7_142 : (Jvm.Cond.selects "InkBankModel" ({ cls := "InkBankModel", name := "setLimit", desc := "(II)I" } : Jvm.MethodName) ({ cls := "InkBankModel", name := "setLimit", desc := "(II)I" } : Jvm.MethodName)) ∈ TT := tt_7 (List.mem_of_getElem? (i := 142) rfl) rfl
theorem wd_7_143 : (Jvm.Cond.code ({ cls := "InkBankModel", name := "setLimit", desc := "(II)I" } : Jvm.MethodName) prog_9_method_29_code (3 : Nat) (Option.some Jvm.ClassFile.FieldType.int)) ∈ TT := tt_7 (List.mem_of_getElem? (i := 143) rfl) rfl
theorem wd_7_144 : (Jvm.Cond.methodLink "InkBankModel" (116 : Nat) ({ cls := "InkBankModel", name := "limits", desc := "(II)I" } : Jvm.MethodName)) ∈ TT := tt_7 (List.mem_of_getElem? (i := 144) rfl) rfl
theorem wd_7_146 : (Jvm.Cond.instanceMethod ({ cls := "InkBankModel", name := "limits", desc := "(II)I" } : Jvm.MethodName)) ∈ TT := tt_7 (List.mem_of_getElem? (i := 146) rfl) rfl
theorem wd_7_147 : (Jvm.Cond.code ({ cls := "InkBankModel", name := "limits", desc := "(II)I" } : Jvm.MethodName) prog_9_method_28_code (6 : Nat) (Option.some Jvm.ClassFile.FieldType.int)) ∈ TT := tt_7 (List.mem_of_getElem? (i := 147) rfl) rfl
theorem wd_7_149 : (Jvm.Cond.instanceMethod ({ cls := "InkBankModel", name := "seal", desc := "(IIII)I" } : Jvm.MethodName)) ∈ TT := tt_7 (List.mem_of_getElem? (i := 149) rfl) rfl
theorem wd_7_150 : (Jvm.Cond.selects "InkBankModel" ({ cls := "InkBankModel", name := "seal", desc := "(IIII)I" } : Jvm.MethodName) ({ cls := "InkBankModel", name := "seal", desc := "(IIII)I" } : Jvm.MethodName)) ∈ TT := tt_7 (List.mem_of_getElem? (i := 150) rfl) rfl
theorem wd_7_151 : (Jvm.Cond.code ({ cls := "InkBankModel", name := "seal", desc := "(IIII)I" } : Jvm.MethodName) prog_9_method_31_code (5 : Nat) (Option.some Jvm.ClassFile.FieldType.int)) ∈ TT := tt_7 (List.mem_of_getElem? (i := 151) rfl) rfl
theorem wd_7_152 : (Jvm.Cond.methodLink "InkBankModel" (119 : Nat) ({ cls := "InkBankModel", name := "seals", desc := "(IIII)I" } : Jvm.MethodName)) ∈ TT := tt_7 (List.mem_of_getElem? (i := 152) rfl) rfl
theorem wd_7_154 : (Jvm.Cond.instanceMethod ({ cls := "InkBankModel", name := "seals", desc := "(IIII)I" } : Jvm.MethodName)) ∈ TT := tt_7 (List.mem_of_getElem? (i := 154) rfl) rfl
theorem wd_7_155 : (Jvm.Cond.code ({ cls := "InkBankModel", name := "seals", desc := "(IIII)I" } : Jvm.MethodName) prog_9_method_30_code (7 : Nat) (Option.some Jvm.ClassFile.FieldType.int)) ∈ TT := tt_7 (List.mem_of_getElem? (i := 155) rfl) rfl
theorem wd_7_157 : (Jvm.Cond.instanceMethod ({ cls := "InkBankModel", name := "cancel", desc := "(I)I" } : Jvm.MethodName)) ∈ TT := tt_7 (List.mem_of_getElem? (i := 157) rfl) rfl
theorem wd_7_158 : (Jvm.Cond.selects "InkBankModel" ({ cls := "InkBankModel", name := "cancel", desc := "(I)I" } : Jvm.MethodName) ({ cls := "InkBankModel", name := "cancel", desc := "(I)I" } : Jvm.MethodName)) ∈ TT := tt_7 (List.mem_of_getElem? (i := 158) rfl) rfl
theorem wd_7_159 : (Jvm.Cond.code ({ cls := "InkBankModel", name := "cancel", desc := "(I)I" } : Jvm.MethodName) prog_9_method_33_code (2 : Nat) (Option.some Jvm.ClassFile.FieldType.int)) ∈ TT := tt_7 (List.mem_of_getElem? (i := 159) rfl) rfl
theorem wd_7_160 : (Jvm.Cond.methodLink "InkBankModel" (133 : Nat) ({ cls := "InkBankModel", name := "voids", desc := "(I)I" } : Jvm.MethodName)) ∈ TT := tt_7 (List.mem_of_getElem? (i := 160) rfl) rfl
theorem wd_7_162 : (Jvm.Cond.instanceMethod ({ cls := "InkBankModel", name := "voids", desc := "(I)I" } : Jvm.MethodName)) ∈ TT := tt_7 (List.mem_of_getElem? (i := 162) rfl) rfl
theorem wd_7_163 : (Jvm.Cond.code ({ cls := "InkBankModel", name := "voids", desc := "(I)I" } : Jvm.MethodName) prog_9_method_32_code (4 : Nat) (Option.some Jvm.ClassFile.FieldType.int)) ∈ TT := tt_7 (List.mem_of_getElem? (i := 163) rfl) rfl
theorem wd_7_164 : (Jvm.Cond.methodLink "InkBankModel" (123 : Nat) ({ cls := "InkBankModel", name := "find", desc := "(I)I" } : Jvm.MethodName)) ∈ TT := tt_7 (List.mem_of_getElem? (i := 164) rfl) rfl
theorem wd_7_166 : (Jvm.Cond.instanceMethod ({ cls := "InkBankModel", name := "find", desc := "(I)I" } : Jvm.MethodName)) ∈ TT := tt_7 (List.mem_of_getElem? (i := 166) rfl) rfl
theorem wd_7_167 : (Jvm.Cond.code ({ cls := "InkBankModel", name := "find", desc := "(I)I" } : Jvm.MethodName) prog_9_method_17_code (4 : Nat) (Option.some Jvm.ClassFile.FieldType.int)) ∈ TT := tt_7 (List.mem_of_getElem? (i := 167) rfl) rfl
theorem wd_7_168 : (Jvm.Cond.methodLink "InkBankModel" (126 : Nat) ({ cls := "InkBankModel", name := "ofPlace", desc := "(II)I" } : Jvm.MethodName)) ∈ TT := tt_7 (List.mem_of_getElem? (i := 168) rfl) rfl
theorem wd_7_170 : (Jvm.Cond.instanceMethod ({ cls := "InkBankModel", name := "ofPlace", desc := "(II)I" } : Jvm.MethodName)) ∈ TT := tt_7 (List.mem_of_getElem? (i := 170) rfl) rfl
theorem wd_7_171 : (Jvm.Cond.code ({ cls := "InkBankModel", name := "ofPlace", desc := "(II)I" } : Jvm.MethodName) prog_9_method_18_code (3 : Nat) (Option.some Jvm.ClassFile.FieldType.int)) ∈ TT := tt_7 (List.mem_of_getElem? (i := 171) rfl) rfl
theorem wd_7_172 : (Jvm.Cond.methodLink "InkBankModel" (129 : Nat) ({ cls := "InkBankModel", name := "drops", desc := "(I)V" } : Jvm.MethodName)) ∈ TT := tt_7 (List.mem_of_getElem? (i := 172) rfl) rfl
theorem wd_7_174 : (Jvm.Cond.instanceMethod ({ cls := "InkBankModel", name := "drops", desc := "(I)V" } : Jvm.MethodName)) ∈ TT := tt_7 (List.mem_of_getElem? (i := 174) rfl) rfl
theorem wd_7_175 : (Jvm.Cond.code ({ cls := "InkBankModel", name := "drops", desc := "(I)V" } : Jvm.MethodName) prog_9_method_19_code (3 : Nat) (Option.none : Option Jvm.ClassFile.FieldType)) ∈ TT := tt_7 (List.mem_of_getElem? (i := 175) rfl) rfl
theorem wd_7_177 : (Jvm.Cond.instanceMethod ({ cls := "InkBankModel", name := "endDays", desc := "(I)I" } : Jvm.MethodName)) ∈ TT := tt_7 (List.mem_of_getElem? (i := 177) rfl) rfl
theorem wd_7_178 : (Jvm.Cond.selects "InkBankModel" ({ cls := "InkBankModel", name := "endDays", desc := "(I)I" } : Jvm.MethodName) ({ cls := "InkBankModel", name := "endDays", desc := "(I)I" } : Jvm.MethodName)) ∈ TT := tt_7 (List.mem_of_getElem? (i := 178) rfl) rfl
theorem wd_7_179 : (Jvm.Cond.code ({ cls := "InkBankModel", name := "endDays", desc := "(I)I" } : Jvm.MethodName) prog_9_method_41_code (2 : Nat) (Option.some Jvm.ClassFile.FieldType.int)) ∈ TT := tt_7 (List.mem_of_getElem? (i := 179) rfl) rfl
theorem wd_7_180 : (Jvm.Cond.methodLink "InkBankModel" (161 : Nat) ({ cls := "InkBankModel", name := "waits", desc := "(I)I" } : Jvm.MethodName)) ∈ TT := tt_7 (List.mem_of_getElem? (i := 180) rfl) rfl
theorem wd_7_182 : (Jvm.Cond.instanceMethod ({ cls := "InkBankModel", name := "waits", desc := "(I)I" } : Jvm.MethodName)) ∈ TT := tt_7 (List.mem_of_getElem? (i := 182) rfl) rfl
theorem wd_7_183 : (Jvm.Cond.code ({ cls := "InkBankModel", name := "waits", desc := "(I)I" } : Jvm.MethodName) prog_9_method_40_code (4 : Nat) (Option.some Jvm.ClassFile.FieldType.int)) ∈ TT := tt_7 (List.mem_of_getElem? (i := 183) rfl) rfl
theorem wd_7_184 : (Jvm.Cond.methodLink "InkBankModel" (157 : Nat) ({ cls := "InkBankModel", name := "closesDay", desc := "()I" } : Jvm.MethodName)) ∈ TT := tt_7 (List.mem_of_getElem? (i := 184) rfl) rfl
theorem wd_7_186 : (Jvm.Cond.instanceMethod ({ cls := "InkBankModel", name := "closesDay", desc := "()I" } : Jvm.MethodName)) ∈ TT := tt_7 (List.mem_of_getElem? (i := 186) rfl) rfl
theorem wd_7_187 : (Jvm.Cond.code ({ cls := "InkBankModel", name := "closesDay", desc := "()I" } : Jvm.MethodName) prog_9_method_39_code (4 : Nat) (Option.some Jvm.ClassFile.FieldType.int)) ∈ TT := tt_7 (List.mem_of_getElem? (i := 187) rfl) rfl
theorem wd_7_188 : (Jvm.Cond.methodLink "InkBankModel" (151 : Nat) ({ cls := "InkBankModel", name := "isMoved", desc := "(I)Z" } : Jvm.MethodName)) ∈ TT := tt_7 (List.mem_of_getElem? (i := 188) rfl) rfl
theorem wd_7_190 : (Jvm.Cond.instanceMethod ({ cls := "InkBankModel", name := "isMoved", desc := "(I)Z" } : Jvm.MethodName)) ∈ TT := tt_7 (List.mem_of_getElem? (i := 190) rfl) rfl
theorem wd_7_191 : (Jvm.Cond.code ({ cls := "InkBankModel", name := "isMoved", desc := "(I)Z" } : Jvm.MethodName) prog_9_method_36_code (6 : Nat) (Option.some Jvm.ClassFile.FieldType.boolean)) ∈ TT := tt_7 (List.mem_of_getElem? (i := 191) rfl) rfl
theorem wd_7_192 : (Jvm.Cond.methodLink "InkBankModel" (139 : Nat) ({ cls := "InkBankModel", name := "atMost", desc := "(II)I" } : Jvm.MethodName)) ∈ TT := tt_7 (List.mem_of_getElem? (i := 192) rfl) rfl
theorem wd_7_194 : (Jvm.Cond.instanceMethod ({ cls := "InkBankModel", name := "atMost", desc := "(II)I" } : Jvm.MethodName)) ∈ TT := tt_7 (List.mem_of_getElem? (i := 194) rfl) rfl
theorem wd_7_195 : (Jvm.Cond.code ({ cls := "InkBankModel", name := "atMost", desc := "(II)I" } : Jvm.MethodName) prog_9_method_34_code (3 : Nat) (Option.some Jvm.ClassFile.FieldType.int)) ∈ TT := tt_7 (List.mem_of_getElem? (i := 195) rfl) rfl
theorem wd_7_196 : (Jvm.Cond.methodLink "InkBankModel" (142 : Nat) ({ cls := "InkBankModel", name := "gives", desc := "(III)V" } : Jvm.MethodName)) ∈ TT := tt_7 (List.mem_of_getElem? (i := 196) rfl) rfl
theorem wd_7_198 : (Jvm.Cond.instanceMethod ({ cls := "InkBankModel", name := "gives", desc := "(III)V" } : Jvm.MethodName)) ∈ TT := tt_7 (List.mem_of_getElem? (i := 198) rfl) rfl
theorem wd_7_199 : (Jvm.Cond.code ({ cls := "InkBankModel", name := "gives", desc := "(III)V" } : Jvm.MethodName) prog_9_method_37_code (4 : Nat) (Option.none : Option Jvm.ClassFile.FieldType)) ∈ TT := tt_7 (List.mem_of_getElem? (i := 199) rfl) rfl
theorem wd_7_200 : (Jvm.Cond.methodLink "InkBankModel" (154 : Nat) ({ cls := "InkBankModel", name := "gains", desc := "(I)V" } : Jvm.MethodName)) ∈ TT := tt_7 (List.mem_of_getElem? (i := 200) rfl) rfl
theorem wd_7_202 : (Jvm.Cond.instanceMethod ({ cls := "InkBankModel", name := "gains", desc := "(I)V" } : Jvm.MethodName)) ∈ TT := tt_7 (List.mem_of_getElem? (i := 202) rfl) rfl
theorem wd_7_203 : (Jvm.Cond.code ({ cls := "InkBankModel", name := "gains", desc := "(I)V" } : Jvm.MethodName) prog_9_method_38_code (3 : Nat) (Option.none : Option Jvm.ClassFile.FieldType)) ∈ TT := tt_7 (List.mem_of_getElem? (i := 203) rfl) rfl
theorem wd_7_204 : (Jvm.Cond.methodLink "InkBankModel" (148 : Nat) ({ cls := "InkBankModel", name := "earns", desc := "(I)I" } : Jvm.MethodName)) ∈ TT := tt_7 (List.mem_of_getElem? (i := 204) rfl) rfl
theorem wd_7_206 : (Jvm.Cond.instanceMethod ({ cls := "InkBankModel", name := "earns", desc := "(I)I" } : Jvm.MethodName)) ∈ TT := tt_7 (List.mem_of_getElem? (i := 206) rfl) rfl
theorem wd_7_207 : (Jvm.Cond.code ({ cls := "InkBankModel", name := "earns", desc := "(I)I" } : Jvm.MethodName) prog_9_method_35_code (4 : Nat) (Option.some Jvm.ClassFile.FieldType.int)) ∈ TT := tt_7 (List.mem_of_getElem? (i := 207) rfl) rfl
theorem wd_7_208 : (Jvm.Cond.methodLink "InkBankModel" (136 : Nat) ({ cls := "java/lang/Math", name := "max", desc := "(II)I" } : Jvm.MethodName)) ∈ TT := tt_7 (List.mem_of_getElem? (i := 208) rfl) rfl
theorem wd_7_210 : (Jvm.Cond.instanceMethod ({ cls := "InkBankModel", name := "accountCount", desc := "()I" } : Jvm.MethodName)) ∈ TT := tt_7 (List.mem_of_getElem? (i := 210) rfl) rfl
theorem wd_7_211 : (Jvm.Cond.selects "InkBankModel" ({ cls := "InkBankModel", name := "accountCount", desc := "()I" } : Jvm.MethodName) ({ cls := "InkBankModel", name := "accountCount", desc := "()I" } : Jvm.MethodName)) ∈ TT := tt_7 (List.mem_of_getElem? (i := 211) rfl) rfl
theorem wd_7_212 : (Jvm.Cond.code ({ cls := "InkBankModel", name := "accountCount", desc := "()I" } : Jvm.MethodName) prog_9_method_42_code (1 : Nat) (Option.some Jvm.ClassFile.FieldType.int)) ∈ TT := tt_7 (List.mem_of_getElem? (i := 212) rfl) rfl
theorem wd_7_214 : (Jvm.Cond.instanceMethod ({ cls := "InkBankModel", name := "kindOf", desc := "(I)I" } : Jvm.MethodName)) ∈ TT := tt_7 (List.mem_of_getElem? (i := 214) rfl) rfl
theorem wd_7_215 : (Jvm.Cond.selects "InkBankModel" ({ cls := "InkBankModel", name := "kindOf", desc := "(I)I" } : Jvm.MethodName) ({ cls := "InkBankModel", name := "kindOf", desc := "(I)I" } : Jvm.MethodName)) ∈ TT := tt_7 (List.mem_of_getElem? (i := 215) rfl) rfl
theorem wd_7_216 : (Jvm.Cond.code ({ cls := "InkBankModel", name := "kindOf", desc := "(I)I" } : Jvm.MethodName) prog_9_method_44_code (2 : Nat) (Option.some Jvm.ClassFile.FieldType.int)) ∈ TT := tt_7 (List.mem_of_getElem? (i := 216) rfl) rfl
theorem wd_7_217 : (Jvm.Cond.methodLink "InkBankModel" (164 : Nat) ({ cls := "InkBankModel", name := "asks", desc := "(II)I" } : Jvm.MethodName)) ∈ TT := tt_7 (List.mem_of_getElem? (i := 217) rfl) rfl
theorem wd_7_219 : (Jvm.Cond.instanceMethod ({ cls := "InkBankModel", name := "asks", desc := "(II)I" } : Jvm.MethodName)) ∈ TT := tt_7 (List.mem_of_getElem? (i := 219) rfl) rfl
theorem wd_7_220 : (Jvm.Cond.code ({ cls := "InkBankModel", name := "asks", desc := "(II)I" } : Jvm.MethodName) prog_9_method_43_code (3 : Nat) (Option.some Jvm.ClassFile.FieldType.int)) ∈ TT := tt_7 (List.mem_of_getElem? (i := 220) rfl) rfl
theorem wd_7_222 : (Jvm.Cond.instanceMethod ({ cls := "InkBankModel", name := "balanceOf", desc := "(I)I" } : Jvm.MethodName)) ∈ TT := tt_7 (List.mem_of_getElem? (i := 222) rfl) rfl
theorem wd_7_223 : (Jvm.Cond.selects "InkBankModel" ({ cls := "InkBankModel", name := "balanceOf", desc := "(I)I" } : Jvm.MethodName) ({ cls := "InkBankModel", name := "balanceOf", desc := "(I)I" } : Jvm.MethodName)) ∈ TT := tt_7 (List.mem_of_getElem? (i := 223) rfl) rfl
theorem wd_7_224 : (Jvm.Cond.code ({ cls := "InkBankModel", name := "balanceOf", desc := "(I)I" } : Jvm.MethodName) prog_9_method_45_code (2 : Nat) (Option.some Jvm.ClassFile.FieldType.int)) ∈ TT := tt_7 (List.mem_of_getElem? (i := 224) rfl) rfl
theorem wd_7_226 : (Jvm.Cond.instanceMethod ({ cls := "InkBankModel", name := "limitOf", desc := "(I)I" } : Jvm.MethodName)) ∈ TT := tt_7 (List.mem_of_getElem? (i := 226) rfl) rfl
theorem wd_7_227 : (Jvm.Cond.selects "InkBankModel" ({ cls := "InkBankModel", name := "limitOf", desc := "(I)I" } : Jvm.MethodName) ({ cls := "InkBankModel", name := "limitOf", desc := "(I)I" } : Jvm.MethodName)) ∈ TT := tt_7 (List.mem_of_getElem? (i := 227) rfl) rfl
theorem wd_7_228 : (Jvm.Cond.code ({ cls := "InkBankModel", name := "limitOf", desc := "(I)I" } : Jvm.MethodName) prog_9_method_46_code (2 : Nat) (Option.some Jvm.ClassFile.FieldType.int)) ∈ TT := tt_7 (List.mem_of_getElem? (i := 228) rfl) rfl
theorem wd_7_230 : (Jvm.Cond.instanceMethod ({ cls := "InkBankModel", name := "availableIn", desc := "(I)I" } : Jvm.MethodName)) ∈ TT := tt_7 (List.mem_of_getElem? (i := 230) rfl) rfl
theorem wd_7_231 : (Jvm.Cond.selects "InkBankModel" ({ cls := "InkBankModel", name := "availableIn", desc := "(I)I" } : Jvm.MethodName) ({ cls := "InkBankModel", name := "availableIn", desc := "(I)I" } : Jvm.MethodName)) ∈ TT := tt_7 (List.mem_of_getElem? (i := 231) rfl) rfl
theorem wd_7_232 : (Jvm.Cond.code ({ cls := "InkBankModel", name := "availableIn", desc := "(I)I" } : Jvm.MethodName) prog_9_method_47_code (2 : Nat) (Option.some Jvm.ClassFile.FieldType.int)) ∈ TT := tt_7 (List.mem_of_getElem? (i := 232) rfl) rfl
theorem wd_7_234 : (Jvm.Cond.instanceMethod ({ cls := "InkBankModel", name := "wasTouched", desc := "(I)Z" } : Jvm.MethodName)) ∈ TT := tt_7 (List.mem_of_getElem? (i := 234) rfl) rfl
theorem wd_7_235 : (Jvm.Cond.selects "InkBankModel" ({ cls := "InkBankModel", name := "wasTouched", desc := "(I)Z" } : Jvm.MethodName) ({ cls := "InkBankModel", name := "wasTouched", desc := "(I)Z" } : Jvm.MethodName)) ∈ TT := tt_7 (List.mem_of_getElem? (i := 235) rfl) rfl
theorem wd_7_236 : (Jvm.Cond.code ({ cls := "InkBankModel", name := "wasTouched", desc := "(I)Z" } : Jvm.MethodName) prog_9_method_48_code (2 : Nat) (Option.some Jvm.ClassFile.FieldType.boolean)) ∈ TT := tt_7 (List.mem_of_getElem? (i := 236) rfl) rfl
theorem wd_7_238 : (Jvm.Cond.instanceMethod ({ cls := "InkBankModel", name := "interestOf", desc := "(I)I" } : Jvm.MethodName)) ∈ TT := tt_7 (List.mem_of_getElem? (i := 238) rfl) rfl
theorem wd_7_239 : (Jvm.Cond.selects "InkBankModel" ({ cls := "InkBankModel", name := "interestOf", desc := "(I)I" } : Jvm.MethodName) ({ cls := "InkBankModel", name := "interestOf", desc := "(I)I" } : Jvm.MethodName)) ∈ TT := tt_7 (List.mem_of_getElem? (i := 239) rfl) rfl
theorem wd_8_0 : (Jvm.Cond.code ({ cls := "InkBankModel", name := "interestOf", desc := "(I)I" } : Jvm.MethodName) prog_9_method_49_code (2 : Nat) (Option.some Jvm.ClassFile.FieldType.int)) ∈ TT := tt_8 (List.mem_of_getElem? (i := 0) rfl) rfl
theorem wd_8_2 : (Jvm.Cond.instanceMethod ({ cls := "InkBankModel", name := "accountAtRank", desc := "(I)I" } : Jvm.MethodName)) ∈ TT := tt_8 (List.mem_of_getElem? (i := 2) rfl) rfl
theorem wd_8_3 : (Jvm.Cond.selects "InkBankModel" ({ cls := "InkBankModel", name := "accountAtRank", desc := "(I)I" } : Jvm.MethodName) ({ cls := "InkBankModel", name := "accountAtRank", desc := "(I)I" } : Jvm.MethodName)) ∈ TT := tt_8 (List.mem_of_getElem? (i := 3) rfl) rfl
theorem wd_8_4 : (Jvm.Cond.code ({ cls := "InkBankModel", name := "accountAtRank", desc := "(I)I" } : Jvm.MethodName) prog_9_method_50_code (7 : Nat) (Option.some Jvm.ClassFile.FieldType.int)) ∈ TT := tt_8 (List.mem_of_getElem? (i := 4) rfl) rfl
theorem wd_8_6 : (Jvm.Cond.instanceMethod ({ cls := "InkBankModel", name := "meanBalance", desc := "()D" } : Jvm.MethodName)) ∈ TT := tt_8 (List.mem_of_getElem? (i := 6) rfl) rfl
theorem wd_8_7 : (Jvm.Cond.selects "InkBankModel" ({ cls := "InkBankModel", name := "meanBalance", desc := "()D" } : Jvm.MethodName) ({ cls := "InkBankModel", name := "meanBalance", desc := "()D" } : Jvm.MethodName)) ∈ TT := tt_8 (List.mem_of_getElem? (i := 7) rfl) rfl
theorem wd_8_8 : (Jvm.Cond.code ({ cls := "InkBankModel", name := "meanBalance", desc := "()D" } : Jvm.MethodName) prog_9_method_52_code (1 : Nat) (Option.some Jvm.ClassFile.FieldType.double)) ∈ TT := tt_8 (List.mem_of_getElem? (i := 8) rfl) rfl
theorem wd_8_9 : (Jvm.Cond.methodLink "InkBankModel" (167 : Nat) ({ cls := "InkBankModel", name := "balances", desc := "()J" } : Jvm.MethodName)) ∈ TT := tt_8 (List.mem_of_getElem? (i := 9) rfl) rfl
theorem wd_8_11 : (Jvm.Cond.instanceMethod ({ cls := "InkBankModel", name := "balances", desc := "()J" } : Jvm.MethodName)) ∈ TT := tt_8 (List.mem_of_getElem? (i := 11) rfl) rfl
theorem wd_8_12 : (Jvm.Cond.code ({ cls := "InkBankModel", name := "balances", desc := "()J" } : Jvm.MethodName) prog_9_method_51_code (4 : Nat) (Option.some Jvm.ClassFile.FieldType.long)) ∈ TT := tt_8 (List.mem_of_getElem? (i := 12) rfl) rfl
theorem wd_8_14 : (Jvm.Cond.instanceMethod ({ cls := "InkBankModel", name := "bankBalance", desc := "()I" } : Jvm.MethodName)) ∈ TT := tt_8 (List.mem_of_getElem? (i := 14) rfl) rfl
theorem wd_8_15 : (Jvm.Cond.selects "InkBankModel" ({ cls := "InkBankModel", name := "bankBalance", desc := "()I" } : Jvm.MethodName) ({ cls := "InkBankModel", name := "bankBalance", desc := "()I" } : Jvm.MethodName)) ∈ TT := tt_8 (List.mem_of_getElem? (i := 15) rfl) rfl
theorem wd_8_16 : (Jvm.Cond.code ({ cls := "InkBankModel", name := "bankBalance", desc := "()I" } : Jvm.MethodName) prog_9_method_53_code (1 : Nat) (Option.some Jvm.ClassFile.FieldType.int)) ∈ TT := tt_8 (List.mem_of_getElem? (i := 16) rfl) rfl
theorem wd_8_18 : (Jvm.Cond.instanceMethod ({ cls := "InkBankModel", name := "totalInk", desc := "()J" } : Jvm.MethodName)) ∈ TT := tt_8 (List.mem_of_getElem? (i := 18) rfl) rfl
theorem wd_8_19 : (Jvm.Cond.selects "InkBankModel" ({ cls := "InkBankModel", name := "totalInk", desc := "()J" } : Jvm.MethodName) ({ cls := "InkBankModel", name := "totalInk", desc := "()J" } : Jvm.MethodName)) ∈ TT := tt_8 (List.mem_of_getElem? (i := 19) rfl) rfl
theorem wd_8_20 : (Jvm.Cond.code ({ cls := "InkBankModel", name := "totalInk", desc := "()J" } : Jvm.MethodName) prog_9_method_54_code (1 : Nat) (Option.some Jvm.ClassFile.FieldType.long)) ∈ TT := tt_8 (List.mem_of_getElem? (i := 20) rfl) rfl
theorem wd_8_22 : (Jvm.Cond.instanceMethod ({ cls := "InkBankModel", name := "totalInkByMovements", desc := "()J" } : Jvm.MethodName)) ∈ TT := tt_8 (List.mem_of_getElem? (i := 22) rfl) rfl
theorem wd_8_23 : (Jvm.Cond.selects "InkBankModel" ({ cls := "InkBankModel", name := "totalInkByMovements", desc := "()J" } : Jvm.MethodName) ({ cls := "InkBankModel", name := "totalInkByMovements", desc := "()J" } : Jvm.MethodName)) ∈ TT := tt_8 (List.mem_of_getElem? (i := 23) rfl) rfl
theorem wd_8_24 : (Jvm.Cond.code ({ cls := "InkBankModel", name := "totalInkByMovements", desc := "()J" } : Jvm.MethodName) prog_9_method_55_code (1 : Nat) (Option.some Jvm.ClassFile.FieldType.long)) ∈ TT := tt_8 (List.mem_of_getElem? (i := 24) rfl) rfl
theorem wd_8_26 : (Jvm.Cond.instanceMethod ({ cls := "InkBankModel", name := "transferredInk", desc := "()J" } : Jvm.MethodName)) ∈ TT := tt_8 (List.mem_of_getElem? (i := 26) rfl) rfl
theorem wd_8_27 : (Jvm.Cond.selects "InkBankModel" ({ cls := "InkBankModel", name := "transferredInk", desc := "()J" } : Jvm.MethodName) ({ cls := "InkBankModel", name := "transferredInk", desc := "()J" } : Jvm.MethodName)) ∈ TT := tt_8 (List.mem_of_getElem? (i := 27) rfl) rfl
theorem wd_8_28 : (Jvm.Cond.code ({ cls := "InkBankModel", name := "transferredInk", desc := "()J" } : Jvm.MethodName) prog_9_method_56_code (1 : Nat) (Option.some Jvm.ClassFile.FieldType.long)) ∈ TT := tt_8 (List.mem_of_getElem? (i := 28) rfl) rfl
theorem wd_8_30 : (Jvm.Cond.instanceMethod ({ cls := "InkBankModel", name := "interestPaid", desc := "()J" } : Jvm.MethodName)) ∈ TT := tt_8 (List.mem_of_getElem? (i := 30) rfl) rfl
theorem wd_8_31 : (Jvm.Cond.selects "InkBankModel" ({ cls := "InkBankModel", name := "interestPaid", desc := "()J" } : Jvm.MethodName) ({ cls := "InkBankModel", name := "interestPaid", desc := "()J" } : Jvm.MethodName)) ∈ TT := tt_8 (List.mem_of_getElem? (i := 31) rfl) rfl
theorem wd_8_32 : (Jvm.Cond.code ({ cls := "InkBankModel", name := "interestPaid", desc := "()J" } : Jvm.MethodName) prog_9_method_57_code (1 : Nat) (Option.some Jvm.ClassFile.FieldType.long)) ∈ TT := tt_8 (List.mem_of_getElem? (i := 32) rfl) rfl
theorem wd_8_34 : (Jvm.Cond.instanceMethod ({ cls := "InkBankModel", name := "chargesPaid", desc := "()J" } : Jvm.MethodName)) ∈ TT := tt_8 (List.mem_of_getElem? (i := 34) rfl) rfl
theorem wd_8_35 : (Jvm.Cond.selects "InkBankModel" ({ cls := "InkBankModel", name := "chargesPaid", desc := "()J" } : Jvm.MethodName) ({ cls := "InkBankModel", name := "chargesPaid", desc := "()J" } : Jvm.MethodName)) ∈ TT := tt_8 (List.mem_of_getElem? (i := 35) rfl) rfl
theorem wd_8_36 : (Jvm.Cond.code ({ cls := "InkBankModel", name := "chargesPaid", desc := "()J" } : Jvm.MethodName) prog_9_method_58_code (1 : Nat) (Option.some Jvm.ClassFile.FieldType.long)) ∈ TT := tt_8 (List.mem_of_getElem? (i := 36) rfl) rfl
theorem wd_8_38 : (Jvm.Cond.instanceMethod ({ cls := "InkBankModel", name := "day", desc := "()I" } : Jvm.MethodName)) ∈ TT := tt_8 (List.mem_of_getElem? (i := 38) rfl) rfl
theorem wd_8_39 : (Jvm.Cond.selects "InkBankModel" ({ cls := "InkBankModel", name := "day", desc := "()I" } : Jvm.MethodName) ({ cls := "InkBankModel", name := "day", desc := "()I" } : Jvm.MethodName)) ∈ TT := tt_8 (List.mem_of_getElem? (i := 39) rfl) rfl
theorem wd_8_40 : (Jvm.Cond.code ({ cls := "InkBankModel", name := "day", desc := "()I" } : Jvm.MethodName) prog_9_method_59_code (1 : Nat) (Option.some Jvm.ClassFile.FieldType.int)) ∈ TT := tt_8 (List.mem_of_getElem? (i := 40) rfl) rfl
theorem wd_8_42 : (Jvm.Cond.instanceMethod ({ cls := "InkBankModel", name := "balanceAfter", desc := "(II)I" } : Jvm.MethodName)) ∈ TT := tt_8 (List.mem_of_getElem? (i := 42) rfl) rfl
theorem wd_8_43 : (Jvm.Cond.selects "InkBankModel" ({ cls := "InkBankModel", name := "balanceAfter", desc := "(II)I" } : Jvm.MethodName) ({ cls := "InkBankModel", name := "balanceAfter", desc := "(II)I" } : Jvm.MethodName)) ∈ TT := tt_8 (List.mem_of_getElem? (i := 43) rfl) rfl
theorem wd_8_44 : (Jvm.Cond.code ({ cls := "InkBankModel", name := "balanceAfter", desc := "(II)I" } : Jvm.MethodName) prog_9_method_60_code (5 : Nat) (Option.some Jvm.ClassFile.FieldType.int)) ∈ TT := tt_8 (List.mem_of_getElem? (i := 44) rfl) rfl
theorem wd_8_46 : (Jvm.Cond.instanceMethod ({ cls := "InkBankModel", name := "transferCount", desc := "()I" } : Jvm.MethodName)) ∈ TT := tt_8 (List.mem_of_getElem? (i := 46) rfl) rfl
theorem wd_8_47 : (Jvm.Cond.selects "InkBankModel" ({ cls := "InkBankModel", name := "transferCount", desc := "()I" } : Jvm.MethodName) ({ cls := "InkBankModel", name := "transferCount", desc := "()I" } : Jvm.MethodName)) ∈ TT := tt_8 (List.mem_of_getElem? (i := 47) rfl) rfl
theorem wd_8_48 : (Jvm.Cond.code ({ cls := "InkBankModel", name := "transferCount", desc := "()I" } : Jvm.MethodName) prog_9_method_61_code (1 : Nat) (Option.some Jvm.ClassFile.FieldType.int)) ∈ TT := tt_8 (List.mem_of_getElem? (i := 48) rfl) rfl
theorem wd_8_50 : (Jvm.Cond.instanceMethod ({ cls := "InkBankModel", name := "transferAt", desc := "(I)I" } : Jvm.MethodName)) ∈ TT := tt_8 (List.mem_of_getElem? (i := 50) rfl) rfl
theorem wd_8_51 : (Jvm.Cond.selects "InkBankModel" ({ cls := "InkBankModel", name := "transferAt", desc := "(I)I" } : Jvm.MethodName) ({ cls := "InkBankModel", name := "transferAt", desc := "(I)I" } : Jvm.MethodName)) ∈ TT := tt_8 (List.mem_of_getElem? (i := 51) rfl) rfl
theorem wd_8_52 : (Jvm.Cond.code ({ cls := "InkBankModel", name := "transferAt", desc := "(I)I" } : Jvm.MethodName) prog_9_method_62_code (7 : Nat) (Option.some Jvm.ClassFile.FieldType.int)) ∈ TT := tt_8 (List.mem_of_getElem? (i := 52) rfl) rfl
theorem wd_8_54 : (Jvm.Cond.instanceMethod ({ cls := "InkBankModel", name := "senderOf", desc := "(I)I" } : Jvm.MethodName)) ∈ TT := tt_8 (List.mem_of_getElem? (i := 54) rfl) rfl
theorem wd_8_55 : (Jvm.Cond.selects "InkBankModel" ({ cls := "InkBankModel", name := "senderOf", desc := "(I)I" } : Jvm.MethodName) ({ cls := "InkBankModel", name := "senderOf", desc := "(I)I" } : Jvm.MethodName)) ∈ TT := tt_8 (List.mem_of_getElem? (i := 55) rfl) rfl
theorem wd_8_56 : (Jvm.Cond.code ({ cls := "InkBankModel", name := "senderOf", desc := "(I)I" } : Jvm.MethodName) prog_9_method_64_code (2 : Nat) (Option.some Jvm.ClassFile.FieldType.int)) ∈ TT := tt_8 (List.mem_of_getElem? (i := 56) rfl) rfl
theorem wd_8_57 : (Jvm.Cond.methodLink "InkBankModel" (171 : Nat) ({ cls := "InkBankModel", name := "asksTransfer", desc := "(II)I" } : Jvm.MethodName)) ∈ TT := tt_8 (List.mem_of_getElem? (i := 57) rfl) rfl
theorem wd_8_59 : (Jvm.Cond.instanceMethod ({ cls := "InkBankModel", name := "asksTransfer", desc := "(II)I" } : Jvm.MethodName)) ∈ TT := tt_8 (List.mem_of_getElem? (i := 59) rfl) rfl
theorem wd_8_60 : (Jvm.Cond.code ({ cls := "InkBankModel", name := "asksTransfer", desc := "(II)I" } : Jvm.MethodName) prog_9_method_63_code (4 : Nat) (Option.some Jvm.ClassFile.FieldType.int)) ∈ TT := tt_8 (List.mem_of_getElem? (i := 60) rfl) rfl
theorem wd_8_62 : (Jvm.Cond.instanceMethod ({ cls := "InkBankModel", name := "receiverOf", desc := "(I)I" } : Jvm.MethodName)) ∈ TT := tt_8 (List.mem_of_getElem? (i := 62) rfl) rfl
theorem wd_8_63 : (Jvm.Cond.selects "InkBankModel" ({ cls := "InkBankModel", name := "receiverOf", desc := "(I)I" } : Jvm.MethodName) ({ cls := "InkBankModel", name := "receiverOf", desc := "(I)I" } : Jvm.MethodName)) ∈ TT := tt_8 (List.mem_of_getElem? (i := 63) rfl) rfl
theorem wd_8_64 : (Jvm.Cond.code ({ cls := "InkBankModel", name := "receiverOf", desc := "(I)I" } : Jvm.MethodName) prog_9_method_65_code (2 : Nat) (Option.some Jvm.ClassFile.FieldType.int)) ∈ TT := tt_8 (List.mem_of_getElem? (i := 64) rfl) rfl
theorem wd_8_66 : (Jvm.Cond.instanceMethod ({ cls := "InkBankModel", name := "amountOf", desc := "(I)I" } : Jvm.MethodName)) ∈ TT := tt_8 (List.mem_of_getElem? (i := 66) rfl) rfl
theorem wd_8_67 : (Jvm.Cond.selects "InkBankModel" ({ cls := "InkBankModel", name := "amountOf", desc := "(I)I" } : Jvm.MethodName) ({ cls := "InkBankModel", name := "amountOf", desc := "(I)I" } : Jvm.MethodName)) ∈ TT := tt_8 (List.mem_of_getElem? (i := 67) rfl) rfl
theorem wd_8_68 : (Jvm.Cond.code ({ cls := "InkBankModel", name := "amountOf", desc := "(I)I" } : Jvm.MethodName) prog_9_method_66_code (2 : Nat) (Option.some Jvm.ClassFile.FieldType.int)) ∈ TT := tt_8 (List.mem_of_getElem? (i := 68) rfl) rfl
theorem wd_8_70 : (Jvm.Cond.instanceMethod ({ cls := "InkBankModel", name := "daysUntilDue", desc := "(I)I" } : Jvm.MethodName)) ∈ TT := tt_8 (List.mem_of_getElem? (i := 70) rfl) rfl
theorem wd_8_71 : (Jvm.Cond.selects "InkBankModel" ({ cls := "InkBankModel", name := "daysUntilDue", desc := "(I)I" } : Jvm.MethodName) ({ cls := "InkBankModel", name := "daysUntilDue", desc := "(I)I" } : Jvm.MethodName)) ∈ TT := tt_8 (List.mem_of_getElem? (i := 71) rfl) rfl
theorem wd_8_72 : (Jvm.Cond.code ({ cls := "InkBankModel", name := "daysUntilDue", desc := "(I)I" } : Jvm.MethodName) prog_9_method_67_code (3 : Nat) (Option.some Jvm.ClassFile.FieldType.int)) ∈ TT := tt_8 (List.mem_of_getElem? (i := 72) rfl) rfl
theorem wd_8_74 : (Jvm.Cond.instanceMethod ({ cls := "InkBankModel", name := "wouldBounce", desc := "(I)Z" } : Jvm.MethodName)) ∈ TT := tt_8 (List.mem_of_getElem? (i := 74) rfl) rfl
theorem wd_8_75 : (Jvm.Cond.selects "InkBankModel" ({ cls := "InkBankModel", name := "wouldBounce", desc := "(I)Z" } : Jvm.MethodName) ({ cls := "InkBankModel", name := "wouldBounce", desc := "(I)Z" } : Jvm.MethodName)) ∈ TT := tt_8 (List.mem_of_getElem? (i := 75) rfl) rfl
theorem wd_8_76 : (Jvm.Cond.code ({ cls := "InkBankModel", name := "wouldBounce", desc := "(I)Z" } : Jvm.MethodName) prog_9_method_68_code (3 : Nat) (Option.some Jvm.ClassFile.FieldType.boolean)) ∈ TT := tt_8 (List.mem_of_getElem? (i := 76) rfl) rfl
theorem wd_8_78 : (Jvm.Cond.instanceMethod ({ cls := "InkBankModel", name := "bounceCount", desc := "()I" } : Jvm.MethodName)) ∈ TT := tt_8 (List.mem_of_getElem? (i := 78) rfl) rfl
theorem wd_8_79 : (Jvm.Cond.selects "InkBankModel" ({ cls := "InkBankModel", name := "bounceCount", desc := "()I" } : Jvm.MethodName) ({ cls := "InkBankModel", name := "bounceCount", desc := "()I" } : Jvm.MethodName)) ∈ TT := tt_8 (List.mem_of_getElem? (i := 79) rfl) rfl
theorem wd_8_80 : (Jvm.Cond.code ({ cls := "InkBankModel", name := "bounceCount", desc := "()I" } : Jvm.MethodName) prog_9_method_69_code (1 : Nat) (Option.some Jvm.ClassFile.FieldType.int)) ∈ TT := tt_8 (List.mem_of_getElem? (i := 80) rfl) rfl
theorem wd_8_82 : (Jvm.Cond.instanceMethod ({ cls := "InkBankModel", name := "netOf", desc := "(I)I" } : Jvm.MethodName)) ∈ TT := tt_8 (List.mem_of_getElem? (i := 82) rfl) rfl
theorem wd_8_83 : (Jvm.Cond.selects "InkBankModel" ({ cls := "InkBankModel", name := "netOf", desc := "(I)I" } : Jvm.MethodName) ({ cls := "InkBankModel", name := "netOf", desc := "(I)I" } : Jvm.MethodName)) ∈ TT := tt_8 (List.mem_of_getElem? (i := 83) rfl) rfl
theorem wd_8_84 : (Jvm.Cond.code ({ cls := "InkBankModel", name := "netOf", desc := "(I)I" } : Jvm.MethodName) prog_9_method_71_code (2 : Nat) (Option.some Jvm.ClassFile.FieldType.int)) ∈ TT := tt_8 (List.mem_of_getElem? (i := 84) rfl) rfl
theorem wd_8_85 : (Jvm.Cond.methodLink "InkBankModel" (174 : Nat) ({ cls := "InkBankModel", name := "net", desc := "(I)I" } : Jvm.MethodName)) ∈ TT := tt_8 (List.mem_of_getElem? (i := 85) rfl) rfl
theorem wd_8_87 : (Jvm.Cond.instanceMethod ({ cls := "InkBankModel", name := "net", desc := "(I)I" } : Jvm.MethodName)) ∈ TT := tt_8 (List.mem_of_getElem? (i := 87) rfl) rfl
theorem wd_8_88 : (Jvm.Cond.code ({ cls := "InkBankModel", name := "net", desc := "(I)I" } : Jvm.MethodName) prog_9_method_70_code (4 : Nat) (Option.some Jvm.ClassFile.FieldType.int)) ∈ TT := tt_8 (List.mem_of_getElem? (i := 88) rfl) rfl
theorem wd_8_90 : (Jvm.Cond.instanceMethod ({ cls := "InkBankModel", name := "netByTable", desc := "(I)I" } : Jvm.MethodName)) ∈ TT := tt_8 (List.mem_of_getElem? (i := 90) rfl) rfl
theorem wd_8_91 : (Jvm.Cond.selects "InkBankModel" ({ cls := "InkBankModel", name := "netByTable", desc := "(I)I" } : Jvm.MethodName) ({ cls := "InkBankModel", name := "netByTable", desc := "(I)I" } : Jvm.MethodName)) ∈ TT := tt_8 (List.mem_of_getElem? (i := 91) rfl) rfl
theorem wd_8_92 : (Jvm.Cond.code ({ cls := "InkBankModel", name := "netByTable", desc := "(I)I" } : Jvm.MethodName) prog_9_method_72_code (2 : Nat) (Option.some Jvm.ClassFile.FieldType.int)) ∈ TT := tt_8 (List.mem_of_getElem? (i := 92) rfl) rfl
theorem wd_8_94 : (Jvm.Cond.instanceMethod ({ cls := "InkBankModel", name := "leadsTo", desc := "(II)Z" } : Jvm.MethodName)) ∈ TT := tt_8 (List.mem_of_getElem? (i := 94) rfl) rfl
theorem wd_8_95 : (Jvm.Cond.selects "InkBankModel" ({ cls := "InkBankModel", name := "leadsTo", desc := "(II)Z" } : Jvm.MethodName) ({ cls := "InkBankModel", name := "leadsTo", desc := "(II)Z" } : Jvm.MethodName)) ∈ TT := tt_8 (List.mem_of_getElem? (i := 95) rfl) rfl
theorem wd_8_96 : (Jvm.Cond.code ({ cls := "InkBankModel", name := "leadsTo", desc := "(II)Z" } : Jvm.MethodName) prog_9_method_73_code (7 : Nat) (Option.some Jvm.ClassFile.FieldType.boolean)) ∈ TT := tt_8 (List.mem_of_getElem? (i := 96) rfl) rfl
theorem wd_8_98 : (Jvm.Cond.instanceMethod ({ cls := "InkBankModel", name := "journalLength", desc := "()I" } : Jvm.MethodName)) ∈ TT := tt_8 (List.mem_of_getElem? (i := 98) rfl) rfl
theorem wd_8_99 : (Jvm.Cond.selects "InkBankModel" ({ cls := "InkBankModel", name := "journalLength", desc := "()I" } : Jvm.MethodName) ({ cls := "InkBankModel", name := "journalLength", desc := "()I" } : Jvm.MethodName)) ∈ TT := tt_8 (List.mem_of_getElem? (i := 99) rfl) rfl
theorem wd_8_100 : (Jvm.Cond.code ({ cls := "InkBankModel", name := "journalLength", desc := "()I" } : Jvm.MethodName) prog_9_method_74_code (1 : Nat) (Option.some Jvm.ClassFile.FieldType.int)) ∈ TT := tt_8 (List.mem_of_getElem? (i := 100) rfl) rfl
theorem wd_8_102 : (Jvm.Cond.instanceMethod ({ cls := "InkBankModel", name := "movementKind", desc := "(I)C" } : Jvm.MethodName)) ∈ TT := tt_8 (List.mem_of_getElem? (i := 102) rfl) rfl
theorem wd_8_103 : (Jvm.Cond.selects "InkBankModel" ({ cls := "InkBankModel", name := "movementKind", desc := "(I)C" } : Jvm.MethodName) ({ cls := "InkBankModel", name := "movementKind", desc := "(I)C" } : Jvm.MethodName)) ∈ TT := tt_8 (List.mem_of_getElem? (i := 103) rfl) rfl
theorem wd_8_104 : (Jvm.Cond.code ({ cls := "InkBankModel", name := "movementKind", desc := "(I)C" } : Jvm.MethodName) prog_9_method_76_code (2 : Nat) (Option.some Jvm.ClassFile.FieldType.char)) ∈ TT := tt_8 (List.mem_of_getElem? (i := 104) rfl) rfl
theorem wd_8_105 : (Jvm.Cond.methodLink "InkBankModel" (177 : Nat) ({ cls := "InkBankModel", name := "written", desc := "(II)I" } : Jvm.MethodName)) ∈ TT := tt_8 (List.mem_of_getElem? (i := 105) rfl) rfl
theorem wd_8_107 : (Jvm.Cond.instanceMethod ({ cls := "InkBankModel", name := "written", desc := "(II)I" } : Jvm.MethodName)) ∈ TT := tt_8 (List.mem_of_getElem? (i := 107) rfl) rfl
theorem wd_8_108 : (Jvm.Cond.code ({ cls := "InkBankModel", name := "written", desc := "(II)I" } : Jvm.MethodName) prog_9_method_75_code (3 : Nat) (Option.some Jvm.ClassFile.FieldType.int)) ∈ TT := tt_8 (List.mem_of_getElem? (i := 108) rfl) rfl
theorem wd_8_110 : (Jvm.Cond.instanceMethod ({ cls := "InkBankModel", name := "movementAmount", desc := "(I)I" } : Jvm.MethodName)) ∈ TT := tt_8 (List.mem_of_getElem? (i := 110) rfl) rfl
theorem wd_8_111 : (Jvm.Cond.selects "InkBankModel" ({ cls := "InkBankModel", name := "movementAmount", desc := "(I)I" } : Jvm.MethodName) ({ cls := "InkBankModel", name := "movementAmount", desc := "(I)I" } : Jvm.MethodName)) ∈ TT := tt_8 (List.mem_of_getElem? (i := 111) rfl) rfl
theorem wd_8_112 : (Jvm.Cond.code ({ cls := "InkBankModel", name := "movementAmount", desc := "(I)I" } : Jvm.MethodName) prog_9_method_77_code (2 : Nat) (Option.some Jvm.ClassFile.FieldType.int)) ∈ TT := tt_8 (List.mem_of_getElem? (i := 112) rfl) rfl
theorem wd_8_114 : (Jvm.Cond.instanceMethod ({ cls := "InkBankModel", name := "movementAccount", desc := "(I)I" } : Jvm.MethodName)) ∈ TT := tt_8 (List.mem_of_getElem? (i := 114) rfl) rfl
theorem wd_8_115 : (Jvm.Cond.selects "InkBankModel" ({ cls := "InkBankModel", name := "movementAccount", desc := "(I)I" } : Jvm.MethodName) ({ cls := "InkBankModel", name := "movementAccount", desc := "(I)I" } : Jvm.MethodName)) ∈ TT := tt_8 (List.mem_of_getElem? (i := 115) rfl) rfl
theorem wd_8_116 : (Jvm.Cond.code ({ cls := "InkBankModel", name := "movementAccount", desc := "(I)I" } : Jvm.MethodName) prog_9_method_78_code (2 : Nat) (Option.some Jvm.ClassFile.FieldType.int)) ∈ TT := tt_8 (List.mem_of_getElem? (i := 116) rfl) rfl
theorem wd_8_118 : (Jvm.Cond.instanceMethod ({ cls := "InkBankModel", name := "writeStatement", desc := "(I)I" } : Jvm.MethodName)) ∈ TT := tt_8 (List.mem_of_getElem? (i := 118) rfl) rfl
theorem wd_8_119 : (Jvm.Cond.selects "InkBankModel" ({ cls := "InkBankModel", name := "writeStatement", desc := "(I)I" } : Jvm.MethodName) ({ cls := "InkBankModel", name := "writeStatement", desc := "(I)I" } : Jvm.MethodName)) ∈ TT := tt_8 (List.mem_of_getElem? (i := 119) rfl) rfl
theorem wd_8_120 : (Jvm.Cond.code ({ cls := "InkBankModel", name := "writeStatement", desc := "(I)I" } : Jvm.MethodName) prog_9_method_82_code (3 : Nat) (Option.some Jvm.ClassFile.FieldType.int)) ∈ TT := tt_8 (List.mem_of_getElem? (i := 120) rfl) rfl
theorem wd_8_121 : (Jvm.Cond.methodLink "InkBankModel" (186 : Nat) ({ cls := "InkBankModel", name := "letterFor", desc := "(I)I" } : Jvm.MethodName)) ∈ TT := tt_8 (List.mem_of_getElem? (i := 121) rfl) rfl
theorem wd_8_122 : (Jvm.Cond.static ({ cls := "InkBankModel", name := "letterFor", desc := "(I)I" } : Jvm.MethodName)) ∈ TT := tt_8 (List.mem_of_getElem? (i := 122) rfl) rfl
theorem wd_8_123 : (Jvm.Cond.code ({ cls := "InkBankModel", name := "letterFor", desc := "(I)I" } : Jvm.MethodName) prog_9_method_81_code (1 : Nat) (Option.some Jvm.ClassFile.FieldType.int)) ∈ TT := tt_8 (List.mem_of_getElem? (i := 123) rfl) rfl
theorem wd_8_124 : (Jvm.Cond.methodLink "InkBankModel" (180 : Nat) ({ cls := "InkBankModel", name := "put", desc := "(II)I" } : Jvm.MethodName)) ∈ TT := tt_8 (List.mem_of_getElem? (i := 124) rfl) rfl
theorem wd_8_126 : (Jvm.Cond.instanceMethod ({ cls := "InkBankModel", name := "put", desc := "(II)I" } : Jvm.MethodName)) ∈ TT := tt_8 (List.mem_of_getElem? (i := 126) rfl) rfl
theorem wd_8_127 : (Jvm.Cond.code ({ cls := "InkBankModel", name := "put", desc := "(II)I" } : Jvm.MethodName) prog_9_method_79_code (3 : Nat) (Option.some Jvm.ClassFile.FieldType.int)) ∈ TT := tt_8 (List.mem_of_getElem? (i := 127) rfl) rfl
theorem wd_8_128 : (Jvm.Cond.methodLink "InkBankModel" (189 : Nat) ({ cls := "InkBankModel", name := "writesNumber", desc := "(II)I" } : Jvm.MethodName)) ∈ TT := tt_8 (List.mem_of_getElem? (i := 128) rfl) rfl
theorem wd_8_130 : (Jvm.Cond.instanceMethod ({ cls := "InkBankModel", name := "writesNumber", desc := "(II)I" } : Jvm.MethodName)) ∈ TT := tt_8 (List.mem_of_getElem? (i := 130) rfl) rfl
theorem wd_8_131 : (Jvm.Cond.code ({ cls := "InkBankModel", name := "writesNumber", desc := "(II)I" } : Jvm.MethodName) prog_9_method_80_code (7 : Nat) (Option.some Jvm.ClassFile.FieldType.int)) ∈ TT := tt_8 (List.mem_of_getElem? (i := 131) rfl) rfl
theorem wd_8_132 : (Jvm.Cond.methodLink "InkBankModel" (183 : Nat) ({ cls := "java/lang/Math", name := "abs", desc := "(I)I" } : Jvm.MethodName)) ∈ TT := tt_8 (List.mem_of_getElem? (i := 132) rfl) rfl
theorem wd_8_133 : (Jvm.Cond.static ({ cls := "java/lang/Math", name := "abs", desc := "(I)I" } : Jvm.MethodName)) ∈ TT := tt_8 (List.mem_of_getElem? (i := 133) rfl) rfl
theorem wd_8_134 : (Jvm.Cond.code ({ cls := "java/lang/Math", name := "abs", desc := "(I)I" } : Jvm.MethodName) prog_24_method_59_code (1 : Nat) (Option.some Jvm.ClassFile.FieldType.int)) ∈ TT := tt_8 (List.mem_of_getElem? (i := 134) rfl) rfl
theorem wd_8_136 : (Jvm.Cond.instanceMethod ({ cls := "InkBankModel", name := "statementAt", desc := "(I)C" } : Jvm.MethodName)) ∈ TT := tt_8 (List.mem_of_getElem? (i := 136) rfl) rfl
theorem wd_8_137 : (Jvm.Cond.selects "InkBankModel" ({ cls := "InkBankModel", name := "statementAt", desc := "(I)C" } : Jvm.MethodName) ({ cls := "InkBankModel", name := "statementAt", desc := "(I)C" } : Jvm.MethodName)) ∈ TT := tt_8 (List.mem_of_getElem? (i := 137) rfl) rfl
theorem wd_8_138 : (Jvm.Cond.code ({ cls := "InkBankModel", name := "statementAt", desc := "(I)C" } : Jvm.MethodName) prog_9_method_83_code (2 : Nat) (Option.some Jvm.ClassFile.FieldType.char)) ∈ TT := tt_8 (List.mem_of_getElem? (i := 138) rfl) rfl
theorem wd_8_140 : (Jvm.Cond.instanceMethod ({ cls := "InkBankModel", name := "type", desc := "(C)I" } : Jvm.MethodName)) ∈ TT := tt_8 (List.mem_of_getElem? (i := 140) rfl) rfl
theorem wd_8_141 : (Jvm.Cond.selects "InkBankModel" ({ cls := "InkBankModel", name := "type", desc := "(C)I" } : Jvm.MethodName) ({ cls := "InkBankModel", name := "type", desc := "(C)I" } : Jvm.MethodName)) ∈ TT := tt_8 (List.mem_of_getElem? (i := 141) rfl) rfl
theorem wd_8_142 : (Jvm.Cond.code ({ cls := "InkBankModel", name := "type", desc := "(C)I" } : Jvm.MethodName) prog_9_method_84_code (2 : Nat) (Option.some Jvm.ClassFile.FieldType.int)) ∈ TT := tt_8 (List.mem_of_getElem? (i := 142) rfl) rfl
theorem wd_8_144 : (Jvm.Cond.instanceMethod ({ cls := "InkBankModel", name := "execute", desc := "()I" } : Jvm.MethodName)) ∈ TT := tt_8 (List.mem_of_getElem? (i := 144) rfl) rfl
theorem wd_8_145 : (Jvm.Cond.selects "InkBankModel" ({ cls := "InkBankModel", name := "execute", desc := "()I" } : Jvm.MethodName) ({ cls := "InkBankModel", name := "execute", desc := "()I" } : Jvm.MethodName)) ∈ TT := tt_8 (List.mem_of_getElem? (i := 145) rfl) rfl
theorem wd_8_146 : (Jvm.Cond.code ({ cls := "InkBankModel", name := "execute", desc := "()I" } : Jvm.MethodName) prog_9_method_95_code (3 : Nat) (Option.some Jvm.ClassFile.FieldType.int)) ∈ TT := tt_8 (List.mem_of_getElem? (i := 146) rfl) rfl
theorem wd_8_147 : (Jvm.Cond.methodLink "InkBankModel" (242 : Nat) ({ cls := "InkBankModel", name := "readsAll", desc := "()V" } : Jvm.MethodName)) ∈ TT := tt_8 (List.mem_of_getElem? (i := 147) rfl) rfl
theorem wd_8_149 : (Jvm.Cond.instanceMethod ({ cls := "InkBankModel", name := "readsAll", desc := "()V" } : Jvm.MethodName)) ∈ TT := tt_8 (List.mem_of_getElem? (i := 149) rfl) rfl
theorem wd_8_150 : (Jvm.Cond.code ({ cls := "InkBankModel", name := "readsAll", desc := "()V" } : Jvm.MethodName) prog_9_method_93_code (2 : Nat) (Option.none : Option Jvm.ClassFile.FieldType)) ∈ TT := tt_8 (List.mem_of_getElem? (i := 150) rfl) rfl
theorem wd_8_151 : (Jvm.Cond.methodLink "InkBankModel" (239 : Nat) ({ cls := "InkBankModel", name := "readsCommand", desc := "()V" } : Jvm.MethodName)) ∈ TT := tt_8 (List.mem_of_getElem? (i := 151) rfl) rfl
theorem wd_8_153 : (Jvm.Cond.instanceMethod ({ cls := "InkBankModel", name := "readsCommand", desc := "()V" } : Jvm.MethodName)) ∈ TT := tt_8 (List.mem_of_getElem? (i := 153) rfl) rfl
theorem wd_8_154 : (Jvm.Cond.code ({ cls := "InkBankModel", name := "readsCommand", desc := "()V" } : Jvm.MethodName) prog_9_method_92_code (3 : Nat) (Option.none : Option Jvm.ClassFile.FieldType)) ∈ TT := tt_8 (List.mem_of_getElem? (i := 154) rfl) rfl
theorem wd_8_155 : (Jvm.Cond.methodLink "InkBankModel" (233 : Nat) ({ cls := "InkBankModel", name := "kindHere", desc := "()I" } : Jvm.MethodName)) ∈ TT := tt_8 (List.mem_of_getElem? (i := 155) rfl) rfl
theorem wd_8_157 : (Jvm.Cond.instanceMethod ({ cls := "InkBankModel", name := "kindHere", desc := "()I" } : Jvm.MethodName)) ∈ TT := tt_8 (List.mem_of_getElem? (i := 157) rfl) rfl
theorem wd_8_158 : (Jvm.Cond.code ({ cls := "InkBankModel", name := "kindHere", desc := "()I" } : Jvm.MethodName) prog_9_method_91_code (6 : Nat) (Option.some Jvm.ClassFile.FieldType.int)) ∈ TT := tt_8 (List.mem_of_getElem? (i := 158) rfl) rfl
theorem wd_8_159 : (Jvm.Cond.methodLink "InkBankModel" (219 : Nat) ({ cls := "InkBankModel", name := "startOf", desc := "(I)I" } : Jvm.MethodName)) ∈ TT := tt_8 (List.mem_of_getElem? (i := 159) rfl) rfl
theorem wd_8_160 : (Jvm.Cond.static ({ cls := "InkBankModel", name := "startOf", desc := "(I)I" } : Jvm.MethodName)) ∈ TT := tt_8 (List.mem_of_getElem? (i := 160) rfl) rfl
theorem wd_8_161 : (Jvm.Cond.code ({ cls := "InkBankModel", name := "startOf", desc := "(I)I" } : Jvm.MethodName) prog_9_method_90_code (1 : Nat) (Option.some Jvm.ClassFile.FieldType.int)) ∈ TT := tt_8 (List.mem_of_getElem? (i := 161) rfl) rfl
theorem wd_8_163 : (Jvm.Cond.methodLink "InkBankModel" (224 : Nat) ({ cls := "java/lang/String", name := "charAt", desc := "(I)C" } : Jvm.MethodName)) ∈ TT := tt_8 (List.mem_of_getElem? (i := 163) rfl) rfl
theorem wd_8_164 : (Jvm.Cond.methodLink "InkBankModel" (213 : Nat) ({ cls := "InkBankModel", name := "digit", desc := "()I" } : Jvm.MethodName)) ∈ TT := tt_8 (List.mem_of_getElem? (i := 164) rfl) rfl
theorem wd_8_166 : (Jvm.Cond.instanceMethod ({ cls := "InkBankModel", name := "digit", desc := "()I" } : Jvm.MethodName)) ∈ TT := tt_8 (List.mem_of_getElem? (i := 166) rfl) rfl
theorem wd_8_167 : (Jvm.Cond.code ({ cls := "InkBankModel", name := "digit", desc := "()I" } : Jvm.MethodName) prog_9_method_87_code (1 : Nat) (Option.some Jvm.ClassFile.FieldType.int)) ∈ TT := tt_8 (List.mem_of_getElem? (i := 167) rfl) rfl
theorem wd_8_168 : (Jvm.Cond.methodLink "InkBankModel" (210 : Nat) ({ cls := "InkBankModel", name := "reads", desc := "(II)I" } : Jvm.MethodName)) ∈ TT := tt_8 (List.mem_of_getElem? (i := 168) rfl) rfl
theorem wd_8_170 : (Jvm.Cond.instanceMethod ({ cls := "InkBankModel", name := "reads", desc := "(II)I" } : Jvm.MethodName)) ∈ TT := tt_8 (List.mem_of_getElem? (i := 170) rfl) rfl
theorem wd_8_171 : (Jvm.Cond.code ({ cls := "InkBankModel", name := "reads", desc := "(II)I" } : Jvm.MethodName) prog_9_method_86_code (3 : Nat) (Option.some Jvm.ClassFile.FieldType.int)) ∈ TT := tt_8 (List.mem_of_getElem? (i := 171) rfl) rfl
theorem wd_8_172 : (Jvm.Cond.methodLink "InkBankModel" (207 : Nat) ({ cls := "InkBankModel", name := "letterHere", desc := "()I" } : Jvm.MethodName)) ∈ TT := tt_8 (List.mem_of_getElem? (i := 172) rfl) rfl
theorem wd_8_174 : (Jvm.Cond.instanceMethod ({ cls := "InkBankModel", name := "letterHere", desc := "()I" } : Jvm.MethodName)) ∈ TT := tt_8 (List.mem_of_getElem? (i := 174) rfl) rfl
theorem wd_8_175 : (Jvm.Cond.code ({ cls := "InkBankModel", name := "letterHere", desc := "()I" } : Jvm.MethodName) prog_9_method_85_code (1 : Nat) (Option.some Jvm.ClassFile.FieldType.int)) ∈ TT := tt_8 (List.mem_of_getElem? (i := 175) rfl) rfl
theorem wd_8_176 : (Jvm.Cond.methodLink "InkBankModel" (216 : Nat) ({ cls := "InkBankModel", name := "number", desc := "()I" } : Jvm.MethodName)) ∈ TT := tt_8 (List.mem_of_getElem? (i := 176) rfl) rfl
theorem wd_8_178 : (Jvm.Cond.instanceMethod ({ cls := "InkBankModel", name := "number", desc := "()I" } : Jvm.MethodName)) ∈ TT := tt_8 (List.mem_of_getElem? (i := 178) rfl) rfl
theorem wd_8_179 : (Jvm.Cond.code ({ cls := "InkBankModel", name := "number", desc := "()I" } : Jvm.MethodName) prog_9_method_88_code (3 : Nat) (Option.some Jvm.ClassFile.FieldType.int)) ∈ TT := tt_8 (List.mem_of_getElem? (i := 179) rfl) rfl
theorem wd_8_180 : (Jvm.Cond.methodLink "InkBankModel" (236 : Nat) ({ cls := "InkBankModel", name := "numberBehindBlank", desc := "()I" } : Jvm.MethodName)) ∈ TT := tt_8 (List.mem_of_getElem? (i := 180) rfl) rfl
theorem wd_8_182 : (Jvm.Cond.instanceMethod ({ cls := "InkBankModel", name := "numberBehindBlank", desc := "()I" } : Jvm.MethodName)) ∈ TT := tt_8 (List.mem_of_getElem? (i := 182) rfl) rfl
theorem wd_8_183 : (Jvm.Cond.code ({ cls := "InkBankModel", name := "numberBehindBlank", desc := "()I" } : Jvm.MethodName) prog_9_method_89_code (2 : Nat) (Option.some Jvm.ClassFile.FieldType.int)) ∈ TT := tt_8 (List.mem_of_getElem? (i := 183) rfl) rfl
theorem wd_8_184 : (Jvm.Cond.methodLink "InkBankModel" (245 : Nat) ({ cls := "InkBankModel", name := "does", desc := "(I)I" } : Jvm.MethodName)) ∈ TT := tt_8 (List.mem_of_getElem? (i := 184) rfl) rfl
theorem wd_8_186 : (Jvm.Cond.instanceMethod ({ cls := "InkBankModel", name := "does", desc := "(I)I" } : Jvm.MethodName)) ∈ TT := tt_8 (List.mem_of_getElem? (i := 186) rfl) rfl
theorem wd_8_187 : (Jvm.Cond.code ({ cls := "InkBankModel", name := "does", desc := "(I)I" } : Jvm.MethodName) prog_9_method_94_code (4 : Nat) (Option.some Jvm.ClassFile.FieldType.int)) ∈ TT := tt_8 (List.mem_of_getElem? (i := 187) rfl) rfl
theorem wd_8_189 : (Jvm.Cond.instanceMethod ({ cls := "InkBankModel", name := "errorPosition", desc := "()I" } : Jvm.MethodName)) ∈ TT := tt_8 (List.mem_of_getElem? (i := 189) rfl) rfl
theorem wd_8_190 : (Jvm.Cond.selects "InkBankModel" ({ cls := "InkBankModel", name := "errorPosition", desc := "()I" } : Jvm.MethodName) ({ cls := "InkBankModel", name := "errorPosition", desc := "()I" } : Jvm.MethodName)) ∈ TT := tt_8 (List.mem_of_getElem? (i := 190) rfl) rfl
theorem wd_8_191 : (Jvm.Cond.code ({ cls := "InkBankModel", name := "errorPosition", desc := "()I" } : Jvm.MethodName) prog_9_method_96_code (1 : Nat) (Option.some Jvm.ClassFile.FieldType.int)) ∈ TT := tt_8 (List.mem_of_getElem? (i := 191) rfl) rfl
theorem wd_8_193 : (Jvm.Cond.instanceMethod ({ cls := "InkBankModel", name := "failedCommand", desc := "()I" } : Jvm.MethodName)) ∈ TT := tt_8 (List.mem_of_getElem? (i := 193) rfl) rfl
theorem wd_8_194 : (Jvm.Cond.selects "InkBankModel" ({ cls := "InkBankModel", name := "failedCommand", desc := "()I" } : Jvm.MethodName) ({ cls := "InkBankModel", name := "failedCommand", desc := "()I" } : Jvm.MethodName)) ∈ TT := tt_8 (List.mem_of_getElem? (i := 194) rfl) rfl
theorem wd_8_195 : (Jvm.Cond.code ({ cls := "InkBankModel", name := "failedCommand", desc := "()I" } : Jvm.MethodName) prog_9_method_97_code (1 : Nat) (Option.some Jvm.ClassFile.FieldType.int)) ∈ TT := tt_8 (List.mem_of_getElem? (i := 195) rfl) rfl
theorem wd_8_209 : (Jvm.Cond.selects "java/lang/StringBuilder" ({ cls := "java/lang/StringBuilder", name := "length", desc := "()I" } : Jvm.MethodName) ({ cls := "java/lang/StringBuilder", name := "length", desc := "()I" } : Jvm.MethodName)) ∈ TT := tt_8 (List.mem_of_getElem? (i := 209) rfl) rfl
theorem cd_J0_charAt_5068e : Card yJ0_charAt_5068e cJ0_charAt_5068e 2 (some .char) 1 := ⟨wd_6_13, wd_1_10, by decide, by decide, by decide +kernel⟩
theorem cv_J0_charAt_5068e : CardV yJ0_charAt_5068e := ⟨wd_6_11, wd_6_12⟩
theorem cd_J0_checkIndex_df160 : Card yJ0_checkIndex_df160 cJ0_checkIndex_df160 2 none 2 := ⟨wd_6_23, wd_1_10, by decide, by decide, by decide +kernel⟩
theorem cd_J0_coder_7d493 : Card yJ0_coder_7d493 cJ0_coder_7d493 1 (some .byte) 0 := ⟨wd_5_88, wd_1_10, by decide, by decide, by decide +kernel⟩
theorem cv_J0_coder_7d493 : CardV yJ0_coder_7d493 := ⟨wd_5_86, wd_5_87⟩
theorem cd_J0_indexOf_0f7a4 : Card yJ0_indexOf_0f7a4 cJ0_indexOf_0f7a4 2 (some .int) 1 := ⟨wd_6_96, wd_1_10, by decide, by decide, by decide +kernel⟩
theorem cv_J0_indexOf_0f7a4 : CardV yJ0_indexOf_0f7a4 := ⟨wd_6_94, wd_6_95⟩
theorem cd_J0_indexOf_7cf53 : Card yJ0_indexOf_7cf53 cJ0_indexOf_7cf53 3 (some .int) 2 := ⟨wd_6_100, wd_1_10, by decide, by decide, by decide +kernel⟩
theorem cv_J0_indexOf_7cf53 : CardV yJ0_indexOf_7cf53 := ⟨wd_6_98, wd_6_99⟩
theorem cd_J0_isEmpty_aae02 : Card yJ0_isEmpty_aae02 cJ0_isEmpty_aae02 1 (some .boolean) 0 := ⟨wd_6_167, wd_1_10, by decide, by decide, by decide +kernel⟩
theorem cv_J0_isEmpty_aae02 : CardV yJ0_isEmpty_aae02 := ⟨wd_6_165, wd_6_166⟩
theorem cd_J0_isLatin1_aae02 : Card yJ0_isLatin1_aae02 cJ0_isLatin1_aae02 1 (some .boolean) 0 := ⟨wd_6_17, wd_1_10, by decide, by decide, by decide +kernel⟩
theorem cv_J0_isLatin1_aae02 : CardV yJ0_isLatin1_aae02 := ⟨wd_6_15, wd_6_16⟩
theorem cd_J0_length_8abf5 : Card yJ0_length_8abf5 cJ0_length_8abf5 1 (some .int) 0 := ⟨wd_5_84, wd_1_10, by decide, by decide, by decide +kernel⟩
theorem cv_J0_length_8abf5 : CardV yJ0_length_8abf5 := ⟨wd_5_82, wd_5_83⟩
theorem cd_J1_canEncode_9a6ad : Card yJ1_canEncode_9a6ad cJ1_canEncode_9a6ad 1 (some .boolean) 1 := ⟨wd_6_107, wd_1_29, by decide, by decide, by decide +kernel⟩
theorem cd_J1_canEncode_fc78d : Card yJ1_canEncode_fc78d cJ1_canEncode_fc78d 1 (some .boolean) 1 := ⟨wd_6_43, wd_1_29, by decide, by decide, by decide +kernel⟩
theorem cd_J1_charAt_3b067 : Card yJ1_charAt_3b067 cJ1_charAt_3b067 2 (some .char) 2 := ⟨wd_6_20, wd_1_29, by decide, by decide, by decide +kernel⟩
theorem cd_J1_indexOfChar_4cfef : Card yJ1_indexOfChar_4cfef cJ1_indexOfChar_4cfef 6 (some .int) 4 := ⟨wd_6_112, wd_1_29, by decide, by decide, by decide +kernel⟩
theorem cd_J1_indexOf_4cfef : Card yJ1_indexOf_4cfef cJ1_indexOf_4cfef 4 (some .int) 4 := ⟨wd_6_104, wd_1_29, by decide, by decide, by decide +kernel⟩
theorem cd_J3_checkIndex_8e157 : Card yJ3_checkIndex_8e157 cJ3_checkIndex_8e157 3 (some .int) 3 := ⟨wd_6_26, wd_1_28, by decide, by decide, by decide +kernel⟩
theorem cd_J4_append_bf812 : Card yJ4_append_bf812 cJ4_append_bf812 2 (some (.object "java/lang/StringBuilder")) 1 := ⟨wd_5_127, wd_1_9, by decide, by decide, by decide +kernel⟩
theorem cv_J4_append_bf812 : CardV yJ4_append_bf812 := ⟨wd_5_125, wd_5_126⟩
theorem cd_J4_append_cf468 : Card yJ4_append_cf468 cJ4_append_cf468 2 (some (.object "java/lang/StringBuilder")) 1 := ⟨wd_6_37, wd_1_9, by decide, by decide, by decide +kernel⟩
theorem cv_J4_append_cf468 : CardV yJ4_append_cf468 := ⟨wd_6_35, wd_6_36⟩
theorem cd_J4_charAt_5068e : Card yJ4_charAt_5068e cJ4_charAt_5068e 2 (some .char) 1 := ⟨wd_6_59, wd_1_9, by decide, by decide, by decide +kernel⟩
theorem cv_J4_charAt_5068e : CardV yJ4_charAt_5068e := ⟨wd_6_57, wd_6_58⟩
theorem cd_J4_length_8abf5 : Card yJ4_length_8abf5 cJ4_length_8abf5 1 (some .int) 0 := ⟨wd_5_171, wd_1_9, by decide, by decide, by decide +kernel⟩
theorem cv_J4_length_8abf5 : CardV yJ4_length_8abf5 := ⟨wd_5_170, wd_8_209⟩
theorem cd_J4_setLength_d00df : Card yJ4_setLength_d00df cJ4_setLength_d00df 2 none 1 := ⟨wd_4_236, wd_1_9, by decide, by decide, by decide +kernel⟩
theorem cv_J4_setLength_d00df : CardV yJ4_setLength_d00df := ⟨wd_4_234, wd_4_235⟩
theorem cd_J5_append_3fe6f : Card yJ5_append_3fe6f cJ5_append_3fe6f 2 (some (.object "java/lang/AbstractStringBuilder")) 1 := ⟨wd_6_40, wd_1_8, by decide, by decide, by decide +kernel⟩
theorem cd_J5_append_c97b9 : Card yJ5_append_c97b9 cJ5_append_c97b9 4 (some (.object "java/lang/AbstractStringBuilder")) 1 := ⟨wd_5_130, wd_1_8, by decide, by decide, by decide +kernel⟩
theorem cd_J5_charAt_5068e : Card yJ5_charAt_5068e cJ5_charAt_5068e 5 (some .char) 1 := ⟨wd_6_62, wd_1_8, by decide, by decide, by decide +kernel⟩
theorem cd_J5_ensureCapacityInternal_d00df : Card yJ5_ensureCapacityInternal_d00df cJ5_ensureCapacityInternal_d00df 3 none 1 := ⟨wd_5_22, wd_1_8, by decide, by decide, by decide +kernel⟩
theorem cd_J5_isLatin1_aae02 : Card yJ5_isLatin1_aae02 cJ5_isLatin1_aae02 1 (some .boolean) 0 := ⟨wd_5_54, wd_1_8, by decide, by decide, by decide +kernel⟩
theorem cd_J5_length_8abf5 : Card yJ5_length_8abf5 cJ5_length_8abf5 1 (some .int) 0 := ⟨wd_5_173, wd_1_8, by decide, by decide, by decide +kernel⟩
theorem cd_J5_setLength_d00df : Card yJ5_setLength_d00df cJ5_setLength_d00df 2 none 1 := ⟨wd_4_239, wd_1_8, by decide, by decide, by decide +kernel⟩
theorem cd_J6_getChars_ba4f3 : Card yJ6_getChars_ba4f3 cJ6_getChars_ba4f3 7 (some .int) 3 := ⟨wd_5_136, wd_1_31, by decide, by decide, by decide +kernel⟩
theorem cd_J6_stringSize_0f7a4 : Card yJ6_stringSize_0f7a4 cJ6_stringSize_0f7a4 4 (some .int) 1 := ⟨wd_5_133, wd_1_31, by decide, by decide, by decide +kernel⟩
theorem cd_J9_floorMod_7cf53 : Card yJ9_floorMod_7cf53 cJ9_floorMod_7cf53 3 (some .int) 2 := ⟨wd_3_49, wd_1_21, by decide, by decide, by decide +kernel⟩
theorem cd_X0_add : Card yX0_add cX0_add 3 (some .int) 1 := ⟨wd_3_57, wd_1_3, by decide, by decide, by decide +kernel⟩
theorem cv_X0_add : CardV yX0_add := ⟨wd_3_55, wd_3_56⟩
theorem cd_X0_atRank : Card yX0_atRank cX0_atRank 4 (some .int) 1 := ⟨wd_3_226, wd_1_3, by decide, by decide, by decide +kernel⟩
theorem cv_X0_atRank : CardV yX0_atRank := ⟨wd_3_224, wd_3_225⟩
theorem cd_X0_available : Card yX0_available cX0_available 2 (some .int) 1 := ⟨wd_3_133, wd_1_3, by decide, by decide, by decide +kernel⟩
theorem cv_X0_available : CardV yX0_available := ⟨wd_3_131, wd_3_132⟩
theorem cd_X0_changeLimit : Card yX0_changeLimit cX0_changeLimit 4 (some .int) 2 := ⟨wd_3_153, wd_1_3, by decide, by decide, by decide +kernel⟩
theorem cv_X0_changeLimit : CardV yX0_changeLimit := ⟨wd_3_151, wd_3_152⟩
theorem cd_X0_copyFrom : Card yX0_copyFrom cX0_copyFrom 3 none 1 := ⟨wd_2_122, wd_1_3, by decide, by decide, by decide +kernel⟩
theorem cv_X0_copyFrom : CardV yX0_copyFrom := ⟨wd_2_120, wd_2_121⟩
theorem cd_X0_forgetTouches : Card yX0_forgetTouches cX0_forgetTouches 2 none 0 := ⟨wd_4_58, wd_1_3, by decide, by decide, by decide +kernel⟩
theorem cv_X0_forgetTouches : CardV yX0_forgetTouches := ⟨wd_4_56, wd_4_57⟩
theorem cd_X0_fullCharge : Card yX0_fullCharge cX0_fullCharge 2 (some .int) 1 := ⟨wd_3_209, wd_1_3, by decide, by decide, by decide +kernel⟩
theorem cv_X0_fullCharge : CardV yX0_fullCharge := ⟨wd_3_208, (tt_s (List.mem_map.mpr ⟨_, List.mem_of_getElem? (l := lw_privs) (i := 3) rfl, rfl⟩) rfl)⟩
theorem cd_X0_has : Card yX0_has cX0_has 2 (some .boolean) 1 := ⟨wd_3_108, wd_1_3, by decide, by decide, by decide +kernel⟩
theorem cv_X0_has : CardV yX0_has := ⟨wd_3_106, wd_3_107⟩
theorem cd_X0_interest : Card yX0_interest cX0_interest 4 (some .int) 1 := ⟨wd_3_205, wd_1_3, by decide, by decide, by decide +kernel⟩
theorem cv_X0_interest : CardV yX0_interest := ⟨wd_3_203, wd_3_204⟩
theorem cd_X0_rankOf : Card yX0_rankOf cX0_rankOf 6 (some .int) 1 := ⟨wd_3_230, wd_1_3, by decide, by decide, by decide +kernel⟩
theorem cv_X0_rankOf : CardV yX0_rankOf := ⟨wd_3_229, (tt_s (List.mem_map.mpr ⟨_, List.mem_of_getElem? (l := lw_privs) (i := 4) rfl, rfl⟩) rfl)⟩
theorem cd_X0_sum : Card yX0_sum cX0_sum 4 (some .long) 0 := ⟨wd_2_78, wd_1_3, by decide, by decide, by decide +kernel⟩
theorem cv_X0_sum : CardV yX0_sum := ⟨wd_2_76, wd_2_77⟩
theorem cd_X1_remember : Card yX1_remember cX1_remember 2 none 1 := ⟨wd_3_46, wd_1_6, by decide, by decide, by decide +kernel⟩
theorem cv_X1_remember : CardV yX1_remember := ⟨wd_3_44, wd_3_45⟩
theorem cd_X1_takeBack : Card yX1_takeBack cX1_takeBack 2 (some .int) 1 := ⟨wd_6_213, wd_1_6, by decide, by decide, by decide +kernel⟩
theorem cv_X1_takeBack : CardV yX1_takeBack := ⟨wd_6_211, wd_6_212⟩
theorem cd_X2_add : Card yX2_add cX2_add 4 none 3 := ⟨wd_3_116, wd_1_5, by decide, by decide, by decide +kernel⟩
theorem cv_X2_add : CardV yX2_add := ⟨wd_3_114, wd_3_115⟩
theorem cd_X2_copyFrom : Card yX2_copyFrom cX2_copyFrom 3 none 1 := ⟨wd_2_134, wd_1_5, by decide, by decide, by decide +kernel⟩
theorem cv_X2_copyFrom : CardV yX2_copyFrom := ⟨wd_2_132, wd_2_133⟩
theorem cd_X2_slot : Card yX2_slot cX2_slot 2 (some .int) 1 := ⟨wd_4_211, wd_1_5, by decide, by decide, by decide +kernel⟩
theorem cv_X2_slot : CardV yX2_slot := ⟨wd_4_209, wd_4_210⟩
theorem cd_X3_argumentFault : Card yX3_argumentFault cX3_argumentFault 5 (some .int) 4 := ⟨wd_3_104, wd_1_2, by decide, by decide, by decide +kernel⟩
theorem cv_X3_argumentFault : CardV yX3_argumentFault := ⟨wd_3_103, (tt_s (List.mem_map.mpr ⟨_, List.mem_of_getElem? (l := lw_privs) (i := 1) rfl, rfl⟩) rfl)⟩
theorem cd_X3_balanceAfterFault : Card yX3_balanceAfterFault cX3_balanceAfterFault 3 (some .int) 2 := ⟨wd_4_69, wd_1_2, by decide, by decide, by decide +kernel⟩
theorem cv_X3_balanceAfterFault : CardV yX3_balanceAfterFault := ⟨wd_4_67, wd_4_68⟩
theorem cd_X3_cancelFault : Card yX3_cancelFault cX3_cancelFault 2 (some .int) 1 := ⟨wd_4_95, wd_1_2, by decide, by decide, by decide +kernel⟩
theorem cv_X3_cancelFault : CardV yX3_cancelFault := ⟨wd_4_93, wd_4_94⟩
theorem cd_X3_collect : Card yX3_collect cX3_collect 5 none 3 := ⟨wd_4_48, wd_1_2, by decide, by decide, by decide +kernel⟩
theorem cv_X3_collect : CardV yX3_collect := ⟨wd_4_47, (tt_s (List.mem_map.mpr ⟨_, List.mem_of_getElem? (l := lw_privs) (i := 7) rfl, rfl⟩) rfl)⟩
theorem cd_X3_copyFrom : Card yX3_copyFrom cX3_copyFrom 2 none 1 := ⟨wd_2_118, wd_1_2, by decide, by decide, by decide +kernel⟩
theorem cv_X3_copyFrom : CardV yX3_copyFrom := ⟨wd_2_116, wd_2_117⟩
theorem cd_X3_covers : Card yX3_covers cX3_covers 2 (some .boolean) 1 := ⟨wd_4_44, wd_1_2, by decide, by decide, by decide +kernel⟩
theorem cv_X3_covers : CardV yX3_covers := ⟨wd_4_42, wd_4_43⟩
theorem cd_X3_endDaysFault : Card yX3_endDaysFault cX3_endDaysFault 2 (some .int) 1 := ⟨wd_4_27, wd_1_2, by decide, by decide, by decide +kernel⟩
theorem cv_X3_endDaysFault : CardV yX3_endDaysFault := ⟨wd_4_25, wd_4_26⟩
theorem cd_X3_faultOf : Card yX3_faultOf cX3_faultOf 3 (some .int) 2 := ⟨wd_6_176, wd_1_2, by decide, by decide, by decide +kernel⟩
theorem cv_X3_faultOf : CardV yX3_faultOf := ⟨wd_6_175, (tt_s (List.mem_map.mpr ⟨_, List.mem_of_getElem? (l := lw_privs) (i := 16) rfl, rfl⟩) rfl)⟩
theorem cd_X3_limitFault : Card yX3_limitFault cX3_limitFault 5 (some .int) 2 := ⟨wd_3_149, wd_1_2, by decide, by decide, by decide +kernel⟩
theorem cv_X3_limitFault : CardV yX3_limitFault := ⟨wd_3_147, wd_3_148⟩
theorem cd_X3_obey : Card yX3_obey cX3_obey 4 (some .int) 2 := ⟨wd_6_172, wd_1_2, by decide, by decide, by decide +kernel⟩
theorem cv_X3_obey : CardV yX3_obey := ⟨wd_6_170, wd_6_171⟩
theorem cd_X3_openFault : Card yX3_openFault cX3_openFault 2 (some .int) 1 := ⟨wd_2_147, wd_1_2, by decide, by decide, by decide +kernel⟩
theorem cv_X3_openFault : CardV yX3_openFault := ⟨wd_2_145, wd_2_146⟩
theorem cd_X3_passDays : Card yX3_passDays cX3_passDays 4 (some .int) 1 := ⟨wd_4_31, wd_1_2, by decide, by decide, by decide +kernel⟩
theorem cv_X3_passDays : CardV yX3_passDays := ⟨wd_4_29, wd_4_30⟩
theorem cd_X3_payIn : Card yX3_payIn cX3_payIn 3 (some .int) 2 := ⟨wd_3_112, wd_1_2, by decide, by decide, by decide +kernel⟩
theorem cv_X3_payIn : CardV yX3_payIn := ⟨wd_3_110, wd_3_111⟩
theorem cd_X3_payInFault : Card yX3_payInFault cX3_payInFault 4 (some .int) 2 := ⟨wd_3_100, wd_1_2, by decide, by decide, by decide +kernel⟩
theorem cv_X3_payInFault : CardV yX3_payInFault := ⟨wd_3_98, wd_3_99⟩
theorem cd_X3_payInterest : Card yX3_payInterest cX3_payInterest 3 none 0 := ⟨wd_4_53, wd_1_2, by decide, by decide, by decide +kernel⟩
theorem cv_X3_payInterest : CardV yX3_payInterest := ⟨wd_4_52, (tt_s (List.mem_map.mpr ⟨_, List.mem_of_getElem? (l := lw_privs) (i := 8) rfl, rfl⟩) rfl)⟩
theorem cd_X3_payOut : Card yX3_payOut cX3_payOut 3 (some .int) 2 := ⟨wd_3_137, wd_1_2, by decide, by decide, by decide +kernel⟩
theorem cv_X3_payOut : CardV yX3_payOut := ⟨wd_3_135, wd_3_136⟩
theorem cd_X3_payOutFault : Card yX3_payOutFault cX3_payOutFault 4 (some .int) 2 := ⟨wd_3_129, wd_1_2, by decide, by decide, by decide +kernel⟩
theorem cv_X3_payOutFault : CardV yX3_payOutFault := ⟨wd_3_127, wd_3_128⟩
theorem cd_X3_sealFault : Card yX3_sealFault cX3_sealFault 5 (some .int) 4 := ⟨wd_4_80, wd_1_2, by decide, by decide, by decide +kernel⟩
theorem cv_X3_sealFault : CardV yX3_sealFault := ⟨wd_4_78, wd_4_79⟩
theorem cd_X3_settle : Card yX3_settle cX3_settle 4 (some .boolean) 1 := ⟨wd_4_40, wd_1_2, by decide, by decide, by decide +kernel⟩
theorem cv_X3_settle : CardV yX3_settle := ⟨wd_4_39, (tt_s (List.mem_map.mpr ⟨_, List.mem_of_getElem? (l := lw_privs) (i := 6) rfl, rfl⟩) rfl)⟩
theorem cd_X3_settleDue : Card yX3_settleDue cX3_settleDue 4 (some .int) 0 := ⟨wd_4_35, wd_1_2, by decide, by decide, by decide +kernel⟩
theorem cv_X3_settleDue : CardV yX3_settleDue := ⟨wd_4_34, (tt_s (List.mem_map.mpr ⟨_, List.mem_of_getElem? (l := lw_privs) (i := 5) rfl, rfl⟩) rfl)⟩
theorem cd_X3_settleDueBefore : Card yX3_settleDueBefore cX3_settleDueBefore 3 none 1 := ⟨wd_4_162, wd_1_2, by decide, by decide, by decide +kernel⟩
theorem cv_X3_settleDueBefore : CardV yX3_settleDueBefore := ⟨wd_4_160, wd_4_161⟩
theorem cd_X4_append : Card yX4_append cX4_append 2 (some .int) 1 := ⟨wd_6_76, wd_1_7, by decide, by decide, by decide +kernel⟩
theorem cv_X4_append : CardV yX4_append := ⟨wd_6_74, wd_6_75⟩
theorem cd_X4_countCommands : Card yX4_countCommands cX4_countCommands 2 (some .int) 0 := ⟨wd_6_87, wd_1_7, by decide, by decide, by decide +kernel⟩
theorem cv_X4_countCommands : CardV yX4_countCommands := ⟨wd_6_85, wd_6_86⟩
theorem cd_X4_formOf : Card yX4_formOf cX4_formOf 1 (some (.object "java/lang/String")) 1 := ⟨wd_6_141, wd_1_7, by decide, by decide, by decide +kernel⟩
theorem cd_X4_isDigitHere : Card yX4_isDigitHere cX4_isDigitHere 1 (some .boolean) 0 := ⟨wd_6_162, wd_1_7, by decide, by decide, by decide +kernel⟩
theorem cv_X4_isDigitHere : CardV yX4_isDigitHere := ⟨wd_6_161, (tt_s (List.mem_map.mpr ⟨_, List.mem_of_getElem? (l := lw_privs) (i := 15) rfl, rfl⟩) rfl)⟩
theorem cd_X4_readCommand : Card yX4_readCommand cX4_readCommand 6 (some .boolean) 0 := ⟨wd_6_91, wd_1_7, by decide, by decide, by decide +kernel⟩
theorem cv_X4_readCommand : CardV yX4_readCommand := ⟨wd_6_89, wd_6_90⟩
theorem cd_X4_readNumber : Card yX4_readNumber cX4_readNumber 4 (some .int) 1 := ⟨wd_6_158, wd_1_7, by decide, by decide, by decide +kernel⟩
theorem cv_X4_readNumber : CardV yX4_readNumber := ⟨wd_6_157, (tt_s (List.mem_map.mpr ⟨_, List.mem_of_getElem? (l := lw_privs) (i := 14) rfl, rfl⟩) rfl)⟩
theorem cd_X4_readSign : Card yX4_readSign cX4_readSign 2 (some .boolean) 1 := ⟨wd_6_154, wd_1_7, by decide, by decide, by decide +kernel⟩
theorem cv_X4_readSign : CardV yX4_readSign := ⟨wd_6_153, (tt_s (List.mem_map.mpr ⟨_, List.mem_of_getElem? (l := lw_privs) (i := 13) rfl, rfl⟩) rfl)⟩
theorem cd_X5_add : Card yX5_add cX5_add 6 (some .int) 4 := ⟨wd_4_84, wd_1_4, by decide, by decide, by decide +kernel⟩
theorem cv_X5_add : CardV yX5_add := ⟨wd_4_82, wd_4_83⟩
theorem cd_X5_connect : Card yX5_connect cX5_connect 7 (some .boolean) 2 := ⟨wd_4_196, wd_1_4, by decide, by decide, by decide +kernel⟩
theorem cv_X5_connect : CardV yX5_connect := ⟨wd_4_194, wd_4_195⟩
theorem cd_X5_copyFrom : Card yX5_copyFrom cX5_copyFrom 3 none 1 := ⟨wd_2_126, wd_1_4, by decide, by decide, by decide +kernel⟩
theorem cv_X5_copyFrom : CardV yX5_copyFrom := ⟨wd_2_124, wd_2_125⟩
theorem cd_X5_copySlot : Card yX5_copySlot cX5_copySlot 4 none 3 := ⟨wd_2_130, wd_1_4, by decide, by decide, by decide +kernel⟩
theorem cv_X5_copySlot : CardV yX5_copySlot := ⟨wd_2_128, wd_2_129⟩
theorem cd_X5_find : Card yX5_find cX5_find 3 (some .int) 1 := ⟨wd_4_99, wd_1_4, by decide, by decide, by decide +kernel⟩
theorem cv_X5_find : CardV yX5_find := ⟨wd_4_97, wd_4_98⟩
theorem cd_X5_idAt : Card yX5_idAt cX5_idAt 4 (some .int) 1 := ⟨wd_4_114, wd_1_4, by decide, by decide, by decide +kernel⟩
theorem cv_X5_idAt : CardV yX5_idAt := ⟨wd_4_112, wd_4_113⟩
theorem cd_X5_net : Card yX5_net cX5_net 4 (some .int) 1 := ⟨wd_4_174, wd_1_4, by decide, by decide, by decide +kernel⟩
theorem cv_X5_net : CardV yX5_net := ⟨wd_4_172, wd_4_173⟩
theorem cd_X5_positionOf : Card yX5_positionOf cX5_positionOf 6 (some .int) 1 := ⟨wd_4_118, wd_1_4, by decide, by decide, by decide +kernel⟩
theorem cv_X5_positionOf : CardV yX5_positionOf := ⟨wd_4_117, (tt_s (List.mem_map.mpr ⟨_, List.mem_of_getElem? (l := lw_privs) (i := 9) rfl, rfl⟩) rfl)⟩
theorem cd_X5_remove : Card yX5_remove cX5_remove 5 (some .int) 1 := ⟨wd_4_103, wd_1_4, by decide, by decide, by decide +kernel⟩
theorem cv_X5_remove : CardV yX5_remove := ⟨wd_4_101, wd_4_102⟩
theorem cd_X6_accountAtRank : Card yX6_accountAtRank cX6_accountAtRank 2 (some .int) 1 := ⟨wd_3_222, wd_1_1, by decide, by decide, by decide +kernel⟩
theorem cv_X6_accountAtRank : CardV yX6_accountAtRank := ⟨wd_3_220, wd_3_221⟩
theorem cd_X6_accountCount : Card yX6_accountCount cX6_accountCount 1 (some .int) 0 := ⟨wd_2_66, wd_1_1, by decide, by decide, by decide +kernel⟩
theorem cv_X6_accountCount : CardV yX6_accountCount := ⟨wd_2_64, wd_2_65⟩
theorem cd_X6_amountOf : Card yX6_amountOf cX6_amountOf 2 (some .int) 1 := ⟨wd_4_144, wd_1_1, by decide, by decide, by decide +kernel⟩
theorem cv_X6_amountOf : CardV yX6_amountOf := ⟨wd_4_142, wd_4_143⟩
theorem cd_X6_availableIn : Card yX6_availableIn cX6_availableIn 2 (some .int) 1 := ⟨wd_3_186, wd_1_1, by decide, by decide, by decide +kernel⟩
theorem cv_X6_availableIn : CardV yX6_availableIn := ⟨wd_3_184, wd_3_185⟩
theorem cd_X6_balanceAfter : Card yX6_balanceAfter cX6_balanceAfter 3 (some .int) 2 := ⟨wd_4_65, wd_1_1, by decide, by decide, by decide +kernel⟩
theorem cv_X6_balanceAfter : CardV yX6_balanceAfter := ⟨wd_4_63, wd_4_64⟩
theorem cd_X6_balanceOf : Card yX6_balanceOf cX6_balanceOf 2 (some .int) 1 := ⟨wd_3_172, wd_1_1, by decide, by decide, by decide +kernel⟩
theorem cv_X6_balanceOf : CardV yX6_balanceOf := ⟨wd_3_170, wd_3_171⟩
theorem cd_X6_bankBalance : Card yX6_bankBalance cX6_bankBalance 1 (some .int) 0 := ⟨wd_2_70, wd_1_1, by decide, by decide, by decide +kernel⟩
theorem cv_X6_bankBalance : CardV yX6_bankBalance := ⟨wd_2_68, wd_2_69⟩
theorem cd_X6_bounceCount : Card yX6_bounceCount cX6_bounceCount 1 (some .int) 0 := ⟨wd_2_106, wd_1_1, by decide, by decide, by decide +kernel⟩
theorem cv_X6_bounceCount : CardV yX6_bounceCount := ⟨wd_2_104, wd_2_105⟩
theorem cd_X6_cancel : Card yX6_cancel cX6_cancel 2 (some .int) 1 := ⟨wd_4_91, wd_1_1, by decide, by decide, by decide +kernel⟩
theorem cv_X6_cancel : CardV yX6_cancel := ⟨wd_4_89, wd_4_90⟩
theorem cd_X6_chargesPaid : Card yX6_chargesPaid cX6_chargesPaid 1 (some .long) 0 := ⟨wd_2_94, wd_1_1, by decide, by decide, by decide +kernel⟩
theorem cv_X6_chargesPaid : CardV yX6_chargesPaid := ⟨wd_2_92, wd_2_93⟩
theorem cd_X6_day : Card yX6_day cX6_day 1 (some .int) 0 := ⟨wd_2_98, wd_1_1, by decide, by decide, by decide +kernel⟩
theorem cv_X6_day : CardV yX6_day := ⟨wd_2_96, wd_2_97⟩
theorem cd_X6_daysUntilDue : Card yX6_daysUntilDue cX6_daysUntilDue 2 (some .int) 1 := ⟨wd_4_151, wd_1_1, by decide, by decide, by decide +kernel⟩
theorem cv_X6_daysUntilDue : CardV yX6_daysUntilDue := ⟨wd_4_149, wd_4_150⟩
theorem cd_X6_deposit : Card yX6_deposit cX6_deposit 3 (some .int) 2 := ⟨wd_3_96, wd_1_1, by decide, by decide, by decide +kernel⟩
theorem cv_X6_deposit : CardV yX6_deposit := ⟨wd_3_94, wd_3_95⟩
theorem cd_X6_endDays : Card yX6_endDays cX6_endDays 2 (some .int) 1 := ⟨wd_4_23, wd_1_1, by decide, by decide, by decide +kernel⟩
theorem cv_X6_endDays : CardV yX6_endDays := ⟨wd_4_21, wd_4_22⟩
theorem cd_X6_errorPosition : Card yX6_errorPosition cX6_errorPosition 1 (some .int) 0 := ⟨wd_6_195, wd_1_1, by decide, by decide, by decide +kernel⟩
theorem cv_X6_errorPosition : CardV yX6_errorPosition := ⟨wd_6_193, wd_6_194⟩
theorem cd_X6_execute : Card yX6_execute cX6_execute 3 (some .int) 0 := ⟨wd_6_83, wd_1_1, by decide, by decide, by decide +kernel⟩
theorem cv_X6_execute : CardV yX6_execute := ⟨wd_6_81, wd_6_82⟩
theorem cd_X6_failedCommand : Card yX6_failedCommand cX6_failedCommand 1 (some .int) 0 := ⟨wd_6_202, wd_1_1, by decide, by decide, by decide +kernel⟩
theorem cv_X6_failedCommand : CardV yX6_failedCommand := ⟨wd_6_200, wd_6_201⟩
theorem cd_X6_fillSums : Card yX6_fillSums cX6_fillSums 3 none 0 := ⟨wd_4_185, wd_1_1, by decide, by decide, by decide +kernel⟩
theorem cv_X6_fillSums : CardV yX6_fillSums := ⟨wd_4_184, (tt_s (List.mem_map.mpr ⟨_, List.mem_of_getElem? (l := lw_privs) (i := 11) rfl, rfl⟩) rfl)⟩
theorem cd_X6_interestOf : Card yX6_interestOf cX6_interestOf 2 (some .int) 1 := ⟨wd_3_201, wd_1_1, by decide, by decide, by decide +kernel⟩
theorem cv_X6_interestOf : CardV yX6_interestOf := ⟨wd_3_199, wd_3_200⟩
theorem cd_X6_interestPaid : Card yX6_interestPaid cX6_interestPaid 1 (some .long) 0 := ⟨wd_2_90, wd_1_1, by decide, by decide, by decide +kernel⟩
theorem cv_X6_interestPaid : CardV yX6_interestPaid := ⟨wd_2_88, wd_2_89⟩
theorem cd_X6_isIn : Card yX6_isIn cX6_isIn 3 (some .boolean) 3 := ⟨wd_2_150, wd_1_1, by decide, by decide, by decide +kernel⟩
theorem cd_X6_journalLength : Card yX6_journalLength cX6_journalLength 1 (some .int) 0 := ⟨wd_2_110, wd_1_1, by decide, by decide, by decide +kernel⟩
theorem cv_X6_journalLength : CardV yX6_journalLength := ⟨wd_2_108, wd_2_109⟩
theorem cd_X6_kindOf : Card yX6_kindOf cX6_kindOf 2 (some .int) 1 := ⟨wd_3_160, wd_1_1, by decide, by decide, by decide +kernel⟩
theorem cv_X6_kindOf : CardV yX6_kindOf := ⟨wd_3_158, wd_3_159⟩
theorem cd_X6_leadsTo : Card yX6_leadsTo cX6_leadsTo 3 (some .boolean) 2 := ⟨wd_4_192, wd_1_1, by decide, by decide, by decide +kernel⟩
theorem cv_X6_leadsTo : CardV yX6_leadsTo := ⟨wd_4_190, wd_4_191⟩
theorem cd_X6_limitOf : Card yX6_limitOf cX6_limitOf 2 (some .int) 1 := ⟨wd_3_179, wd_1_1, by decide, by decide, by decide +kernel⟩
theorem cv_X6_limitOf : CardV yX6_limitOf := ⟨wd_3_177, wd_3_178⟩
theorem cd_X6_meanBalance : Card yX6_meanBalance cX6_meanBalance 1 (some .double) 0 := ⟨wd_4_11, wd_1_1, by decide, by decide, by decide +kernel⟩
theorem cv_X6_meanBalance : CardV yX6_meanBalance := ⟨wd_4_9, wd_4_10⟩
theorem cd_X6_movementAccount : Card yX6_movementAccount cX6_movementAccount 2 (some .int) 1 := ⟨wd_4_225, wd_1_1, by decide, by decide, by decide +kernel⟩
theorem cv_X6_movementAccount : CardV yX6_movementAccount := ⟨wd_4_223, wd_4_224⟩
theorem cd_X6_movementAmount : Card yX6_movementAmount cX6_movementAmount 2 (some .int) 1 := ⟨wd_4_218, wd_1_1, by decide, by decide, by decide +kernel⟩
theorem cv_X6_movementAmount : CardV yX6_movementAmount := ⟨wd_4_216, wd_4_217⟩
theorem cd_X6_movementKind : Card yX6_movementKind cX6_movementKind 2 (some .char) 1 := ⟨wd_4_203, wd_1_1, by decide, by decide, by decide +kernel⟩
theorem cv_X6_movementKind : CardV yX6_movementKind := ⟨wd_4_201, wd_4_202⟩
theorem cd_X6_netByTable : Card yX6_netByTable cX6_netByTable 4 (some .int) 1 := ⟨wd_4_181, wd_1_1, by decide, by decide, by decide +kernel⟩
theorem cv_X6_netByTable : CardV yX6_netByTable := ⟨wd_4_179, wd_4_180⟩
theorem cd_X6_netOf : Card yX6_netOf cX6_netOf 2 (some .int) 1 := ⟨wd_4_170, wd_1_1, by decide, by decide, by decide +kernel⟩
theorem cv_X6_netOf : CardV yX6_netOf := ⟨wd_4_168, wd_4_169⟩
theorem cd_X6_open : Card yX6_open cX6_open 2 (some .int) 1 := ⟨wd_2_143, wd_1_1, by decide, by decide, by decide +kernel⟩
theorem cv_X6_open : CardV yX6_open := ⟨wd_2_141, wd_2_142⟩
theorem cd_X6_raise : Card yX6_raise cX6_raise 1 none 1 := ⟨wd_2_153, wd_1_1, by decide, by decide, by decide +kernel⟩
theorem cd_X6_receiverOf : Card yX6_receiverOf cX6_receiverOf 2 (some .int) 1 := ⟨wd_4_137, wd_1_1, by decide, by decide, by decide +kernel⟩
theorem cv_X6_receiverOf : CardV yX6_receiverOf := ⟨wd_4_135, wd_4_136⟩
theorem cd_X6_requireAccount : Card yX6_requireAccount cX6_requireAccount 2 none 1 := ⟨wd_3_164, wd_1_1, by decide, by decide, by decide +kernel⟩
theorem cv_X6_requireAccount : CardV yX6_requireAccount := ⟨wd_3_163, (tt_s (List.mem_map.mpr ⟨_, List.mem_of_getElem? (l := lw_privs) (i := 2) rfl, rfl⟩) rfl)⟩
theorem cd_X6_requireMovement : Card yX6_requireMovement cX6_requireMovement 2 (some .int) 1 := ⟨wd_4_207, wd_1_1, by decide, by decide, by decide +kernel⟩
theorem cv_X6_requireMovement : CardV yX6_requireMovement := ⟨wd_4_206, (tt_s (List.mem_map.mpr ⟨_, List.mem_of_getElem? (l := lw_privs) (i := 12) rfl, rfl⟩) rfl)⟩
theorem cd_X6_requireTransfer : Card yX6_requireTransfer cX6_requireTransfer 3 (some .int) 1 := ⟨wd_4_129, wd_1_1, by decide, by decide, by decide +kernel⟩
theorem cv_X6_requireTransfer : CardV yX6_requireTransfer := ⟨wd_4_128, (tt_s (List.mem_map.mpr ⟨_, List.mem_of_getElem? (l := lw_privs) (i := 10) rfl, rfl⟩) rfl)⟩
theorem cd_X6_restore : Card yX6_restore cX6_restore 1 (some .int) 0 := ⟨wd_6_220, wd_1_1, by decide, by decide, by decide +kernel⟩
theorem cv_X6_restore : CardV yX6_restore := ⟨wd_6_218, wd_6_219⟩
theorem cd_X6_save : Card yX6_save cX6_save 1 (some .int) 0 := ⟨wd_2_114, wd_1_1, by decide, by decide, by decide +kernel⟩
theorem cv_X6_save : CardV yX6_save := ⟨wd_2_112, wd_2_113⟩
theorem cd_X6_seal : Card yX6_seal cX6_seal 5 (some .int) 4 := ⟨wd_4_76, wd_1_1, by decide, by decide, by decide +kernel⟩
theorem cv_X6_seal : CardV yX6_seal := ⟨wd_4_74, wd_4_75⟩
theorem cd_X6_senderOf : Card yX6_senderOf cX6_senderOf 2 (some .int) 1 := ⟨wd_4_125, wd_1_1, by decide, by decide, by decide +kernel⟩
theorem cv_X6_senderOf : CardV yX6_senderOf := ⟨wd_4_123, wd_4_124⟩
theorem cd_X6_setLimit : Card yX6_setLimit cX6_setLimit 3 (some .int) 2 := ⟨wd_3_145, wd_1_1, by decide, by decide, by decide +kernel⟩
theorem cv_X6_setLimit : CardV yX6_setLimit := ⟨wd_3_143, wd_3_144⟩
theorem cd_X6_statementAt : Card yX6_statementAt cX6_statementAt 2 (some .char) 1 := ⟨wd_6_55, wd_1_1, by decide, by decide, by decide +kernel⟩
theorem cv_X6_statementAt : CardV yX6_statementAt := ⟨wd_6_53, wd_6_54⟩
theorem cd_X6_totalInk : Card yX6_totalInk cX6_totalInk 1 (some .long) 0 := ⟨wd_2_74, wd_1_1, by decide, by decide, by decide +kernel⟩
theorem cv_X6_totalInk : CardV yX6_totalInk := ⟨wd_2_72, wd_2_73⟩
theorem cd_X6_totalInkByMovements : Card yX6_totalInkByMovements cX6_totalInkByMovements 1 (some .long) 0 := ⟨wd_2_82, wd_1_1, by decide, by decide, by decide +kernel⟩
theorem cv_X6_totalInkByMovements : CardV yX6_totalInkByMovements := ⟨wd_2_80, wd_2_81⟩
theorem cd_X6_transferAt : Card yX6_transferAt cX6_transferAt 2 (some .int) 1 := ⟨wd_4_110, wd_1_1, by decide, by decide, by decide +kernel⟩
theorem cv_X6_transferAt : CardV yX6_transferAt := ⟨wd_4_108, wd_4_109⟩
theorem cd_X6_transferCount : Card yX6_transferCount cX6_transferCount 1 (some .int) 0 := ⟨wd_2_102, wd_1_1, by decide, by decide, by decide +kernel⟩
theorem cv_X6_transferCount : CardV yX6_transferCount := ⟨wd_2_100, wd_2_101⟩
theorem cd_X6_transferredInk : Card yX6_transferredInk cX6_transferredInk 1 (some .long) 0 := ⟨wd_2_86, wd_1_1, by decide, by decide, by decide +kernel⟩
theorem cv_X6_transferredInk : CardV yX6_transferredInk := ⟨wd_2_84, wd_2_85⟩
theorem cd_X6_type : Card yX6_type cX6_type 2 (some .int) 1 := ⟨wd_6_72, wd_1_1, by decide, by decide, by decide +kernel⟩
theorem cv_X6_type : CardV yX6_type := ⟨wd_6_70, wd_6_71⟩
theorem cd_X6_undo : Card yX6_undo cX6_undo 1 (some .int) 0 := ⟨wd_6_209, wd_1_1, by decide, by decide, by decide +kernel⟩
theorem cv_X6_undo : CardV yX6_undo := ⟨wd_6_207, wd_6_208⟩
theorem cd_X6_wasTouched : Card yX6_wasTouched cX6_wasTouched 2 (some .boolean) 1 := ⟨wd_3_194, wd_1_1, by decide, by decide, by decide +kernel⟩
theorem cv_X6_wasTouched : CardV yX6_wasTouched := ⟨wd_3_192, wd_3_193⟩
theorem cd_X6_withdraw : Card yX6_withdraw cX6_withdraw 3 (some .int) 2 := ⟨wd_3_125, wd_1_1, by decide, by decide, by decide +kernel⟩
theorem cv_X6_withdraw : CardV yX6_withdraw := ⟨wd_3_123, wd_3_124⟩
theorem cd_X6_wouldBounce : Card yX6_wouldBounce cX6_wouldBounce 3 (some .boolean) 1 := ⟨wd_4_158, wd_1_1, by decide, by decide, by decide +kernel⟩
theorem cv_X6_wouldBounce : CardV yX6_wouldBounce := ⟨wd_4_156, wd_4_157⟩
theorem cd_X6_writeStatement : Card yX6_writeStatement cX6_writeStatement 3 (some .int) 1 := ⟨wd_4_232, wd_1_1, by decide, by decide, by decide +kernel⟩
theorem cv_X6_writeStatement : CardV yX6_writeStatement := ⟨wd_4_230, wd_4_231⟩
theorem cd_X7_accountAt : Card yX7_accountAt cX7_accountAt 1 (some .int) 1 := ⟨wd_7_95, wd_1_12, by decide, by decide, by decide +kernel⟩
theorem cd_X7_accountAtRank : Card yX7_accountAtRank cX7_accountAtRank 7 (some .int) 1 := ⟨wd_8_4, wd_1_12, by decide, by decide, by decide +kernel⟩
theorem cv_X7_accountAtRank : CardV yX7_accountAtRank := ⟨wd_8_2, wd_8_3⟩
theorem cd_X7_accountCount : Card yX7_accountCount cX7_accountCount 1 (some .int) 0 := ⟨wd_7_212, wd_1_12, by decide, by decide, by decide +kernel⟩
theorem cv_X7_accountCount : CardV yX7_accountCount := ⟨wd_7_210, wd_7_211⟩
theorem cd_X7_amountOf : Card yX7_amountOf cX7_amountOf 2 (some .int) 1 := ⟨wd_8_68, wd_1_12, by decide, by decide, by decide +kernel⟩
theorem cv_X7_amountOf : CardV yX7_amountOf := ⟨wd_8_66, wd_8_67⟩
theorem cd_X7_asks : Card yX7_asks cX7_asks 3 (some .int) 2 := ⟨wd_7_220, wd_1_12, by decide, by decide, by decide +kernel⟩
theorem cv_X7_asks : CardV yX7_asks := ⟨wd_7_219, (tt_s (List.mem_map.mpr ⟨_, List.mem_of_getElem? (l := lw_privs) (i := 42) rfl, rfl⟩) rfl)⟩
theorem cd_X7_asksTransfer : Card yX7_asksTransfer cX7_asksTransfer 4 (some .int) 2 := ⟨wd_8_60, wd_1_12, by decide, by decide, by decide +kernel⟩
theorem cv_X7_asksTransfer : CardV yX7_asksTransfer := ⟨wd_8_59, (tt_s (List.mem_map.mpr ⟨_, List.mem_of_getElem? (l := lw_privs) (i := 44) rfl, rfl⟩) rfl)⟩
theorem cd_X7_atMost : Card yX7_atMost cX7_atMost 3 (some .int) 2 := ⟨wd_7_195, wd_1_12, by decide, by decide, by decide +kernel⟩
theorem cv_X7_atMost : CardV yX7_atMost := ⟨wd_7_194, (tt_s (List.mem_map.mpr ⟨_, List.mem_of_getElem? (l := lw_privs) (i := 38) rfl, rfl⟩) rfl)⟩
theorem cd_X7_availableIn : Card yX7_availableIn cX7_availableIn 2 (some .int) 1 := ⟨wd_7_232, wd_1_12, by decide, by decide, by decide +kernel⟩
theorem cv_X7_availableIn : CardV yX7_availableIn := ⟨wd_7_230, wd_7_231⟩
theorem cd_X7_balanceAfter : Card yX7_balanceAfter cX7_balanceAfter 5 (some .int) 2 := ⟨wd_8_44, wd_1_12, by decide, by decide, by decide +kernel⟩
theorem cv_X7_balanceAfter : CardV yX7_balanceAfter := ⟨wd_8_42, wd_8_43⟩
theorem cd_X7_balanceOf : Card yX7_balanceOf cX7_balanceOf 2 (some .int) 1 := ⟨wd_7_224, wd_1_12, by decide, by decide, by decide +kernel⟩
theorem cv_X7_balanceOf : CardV yX7_balanceOf := ⟨wd_7_222, wd_7_223⟩
theorem cd_X7_balances : Card yX7_balances cX7_balances 4 (some .long) 0 := ⟨wd_8_12, wd_1_12, by decide, by decide, by decide +kernel⟩
theorem cv_X7_balances : CardV yX7_balances := ⟨wd_8_11, (tt_s (List.mem_map.mpr ⟨_, List.mem_of_getElem? (l := lw_privs) (i := 43) rfl, rfl⟩) rfl)⟩
theorem cd_X7_bankBalance : Card yX7_bankBalance cX7_bankBalance 1 (some .int) 0 := ⟨wd_8_16, wd_1_12, by decide, by decide, by decide +kernel⟩
theorem cv_X7_bankBalance : CardV yX7_bankBalance := ⟨wd_8_14, wd_8_15⟩
theorem cd_X7_begins : Card yX7_begins cX7_begins 1 none 0 := ⟨wd_7_85, wd_1_12, by decide, by decide, by decide +kernel⟩
theorem cv_X7_begins : CardV yX7_begins := ⟨wd_7_84, (tt_s (List.mem_map.mpr ⟨_, List.mem_of_getElem? (l := lw_privs) (i := 19) rfl, rfl⟩) rfl)⟩
theorem cd_X7_bounceCount : Card yX7_bounceCount cX7_bounceCount 1 (some .int) 0 := ⟨wd_8_80, wd_1_12, by decide, by decide, by decide +kernel⟩
theorem cv_X7_bounceCount : CardV yX7_bounceCount := ⟨wd_8_78, wd_8_79⟩
theorem cd_X7_cancel : Card yX7_cancel cX7_cancel 2 (some .int) 1 := ⟨wd_7_159, wd_1_12, by decide, by decide, by decide +kernel⟩
theorem cv_X7_cancel : CardV yX7_cancel := ⟨wd_7_157, wd_7_158⟩
theorem cd_X7_changes : Card yX7_changes cX7_changes 3 none 2 := ⟨wd_7_126, wd_1_12, by decide, by decide, by decide +kernel⟩
theorem cv_X7_changes : CardV yX7_changes := ⟨wd_7_125, (tt_s (List.mem_map.mpr ⟨_, List.mem_of_getElem? (l := lw_privs) (i := 26) rfl, rfl⟩) rfl)⟩
theorem cd_X7_chargesPaid : Card yX7_chargesPaid cX7_chargesPaid 1 (some .long) 0 := ⟨wd_8_36, wd_1_12, by decide, by decide, by decide +kernel⟩
theorem cv_X7_chargesPaid : CardV yX7_chargesPaid := ⟨wd_8_34, wd_8_35⟩
theorem cd_X7_closesDay : Card yX7_closesDay cX7_closesDay 4 (some .int) 0 := ⟨wd_7_187, wd_1_12, by decide, by decide, by decide +kernel⟩
theorem cv_X7_closesDay : CardV yX7_closesDay := ⟨wd_7_186, (tt_s (List.mem_map.mpr ⟨_, List.mem_of_getElem? (l := lw_privs) (i := 36) rfl, rfl⟩) rfl)⟩
theorem cd_X7_copies : Card yX7_copies cX7_copies 5 none 4 := ⟨wd_7_69, wd_1_12, by decide, by decide, by decide +kernel⟩
theorem cd_X7_day : Card yX7_day cX7_day 1 (some .int) 0 := ⟨wd_8_40, wd_1_12, by decide, by decide, by decide +kernel⟩
theorem cv_X7_day : CardV yX7_day := ⟨wd_8_38, wd_8_39⟩
theorem cd_X7_daysUntilDue : Card yX7_daysUntilDue cX7_daysUntilDue 3 (some .int) 1 := ⟨wd_8_72, wd_1_12, by decide, by decide, by decide +kernel⟩
theorem cv_X7_daysUntilDue : CardV yX7_daysUntilDue := ⟨wd_8_70, wd_8_71⟩
theorem cd_X7_deposit : Card yX7_deposit cX7_deposit 3 (some .int) 2 := ⟨wd_7_107, wd_1_12, by decide, by decide, by decide +kernel⟩
theorem cv_X7_deposit : CardV yX7_deposit := ⟨wd_7_105, wd_7_106⟩
theorem cd_X7_digit : Card yX7_digit cX7_digit 1 (some .int) 0 := ⟨wd_8_167, wd_1_12, by decide, by decide, by decide +kernel⟩
theorem cv_X7_digit : CardV yX7_digit := ⟨wd_8_166, (tt_s (List.mem_map.mpr ⟨_, List.mem_of_getElem? (l := lw_privs) (i := 52) rfl, rfl⟩) rfl)⟩
theorem cd_X7_does : Card yX7_does cX7_does 4 (some .int) 1 := ⟨wd_8_187, wd_1_12, by decide, by decide, by decide +kernel⟩
theorem cv_X7_does : CardV yX7_does := ⟨wd_8_186, (tt_s (List.mem_map.mpr ⟨_, List.mem_of_getElem? (l := lw_privs) (i := 57) rfl, rfl⟩) rfl)⟩
theorem cd_X7_draws : Card yX7_draws cX7_draws 4 (some .int) 2 := ⟨wd_7_139, wd_1_12, by decide, by decide, by decide +kernel⟩
theorem cv_X7_draws : CardV yX7_draws := ⟨wd_7_138, (tt_s (List.mem_map.mpr ⟨_, List.mem_of_getElem? (l := lw_privs) (i := 28) rfl, rfl⟩) rfl)⟩
theorem cd_X7_drops : Card yX7_drops cX7_drops 3 none 1 := ⟨wd_7_175, wd_1_12, by decide, by decide, by decide +kernel⟩
theorem cv_X7_drops : CardV yX7_drops := ⟨wd_7_174, (tt_s (List.mem_map.mpr ⟨_, List.mem_of_getElem? (l := lw_privs) (i := 34) rfl, rfl⟩) rfl)⟩
theorem cd_X7_earns : Card yX7_earns cX7_earns 4 (some .int) 1 := ⟨wd_7_207, wd_1_12, by decide, by decide, by decide +kernel⟩
theorem cv_X7_earns : CardV yX7_earns := ⟨wd_7_206, (tt_s (List.mem_map.mpr ⟨_, List.mem_of_getElem? (l := lw_privs) (i := 41) rfl, rfl⟩) rfl)⟩
theorem cd_X7_endDays : Card yX7_endDays cX7_endDays 2 (some .int) 1 := ⟨wd_7_179, wd_1_12, by decide, by decide, by decide +kernel⟩
theorem cv_X7_endDays : CardV yX7_endDays := ⟨wd_7_177, wd_7_178⟩
theorem cd_X7_ends : Card yX7_ends cX7_ends 2 (some .int) 1 := ⟨wd_7_99, wd_1_12, by decide, by decide, by decide +kernel⟩
theorem cv_X7_ends : CardV yX7_ends := ⟨wd_7_98, (tt_s (List.mem_map.mpr ⟨_, List.mem_of_getElem? (l := lw_privs) (i := 21) rfl, rfl⟩) rfl)⟩
theorem cd_X7_errorPosition : Card yX7_errorPosition cX7_errorPosition 1 (some .int) 0 := ⟨wd_8_191, wd_1_12, by decide, by decide, by decide +kernel⟩
theorem cv_X7_errorPosition : CardV yX7_errorPosition := ⟨wd_8_189, wd_8_190⟩
theorem cd_X7_execute : Card yX7_execute cX7_execute 3 (some .int) 0 := ⟨wd_8_146, wd_1_12, by decide, by decide, by decide +kernel⟩
theorem cv_X7_execute : CardV yX7_execute := ⟨wd_8_144, wd_8_145⟩
theorem cd_X7_failedCommand : Card yX7_failedCommand cX7_failedCommand 1 (some .int) 0 := ⟨wd_8_195, wd_1_12, by decide, by decide, by decide +kernel⟩
theorem cv_X7_failedCommand : CardV yX7_failedCommand := ⟨wd_8_193, wd_8_194⟩
theorem cd_X7_find : Card yX7_find cX7_find 4 (some .int) 1 := ⟨wd_7_167, wd_1_12, by decide, by decide, by decide +kernel⟩
theorem cv_X7_find : CardV yX7_find := ⟨wd_7_166, (tt_s (List.mem_map.mpr ⟨_, List.mem_of_getElem? (l := lw_privs) (i := 32) rfl, rfl⟩) rfl)⟩
theorem cd_X7_gains : Card yX7_gains cX7_gains 3 none 1 := ⟨wd_7_203, wd_1_12, by decide, by decide, by decide +kernel⟩
theorem cv_X7_gains : CardV yX7_gains := ⟨wd_7_202, (tt_s (List.mem_map.mpr ⟨_, List.mem_of_getElem? (l := lw_privs) (i := 40) rfl, rfl⟩) rfl)⟩
theorem cd_X7_gives : Card yX7_gives cX7_gives 4 none 3 := ⟨wd_7_199, wd_1_12, by decide, by decide, by decide +kernel⟩
theorem cv_X7_gives : CardV yX7_gives := ⟨wd_7_198, (tt_s (List.mem_map.mpr ⟨_, List.mem_of_getElem? (l := lw_privs) (i := 39) rfl, rfl⟩) rfl)⟩
theorem cd_X7_goes : Card yX7_goes cX7_goes 2 (some .boolean) 1 := ⟨wd_7_62, wd_1_12, by decide, by decide, by decide +kernel⟩
theorem cv_X7_goes : CardV yX7_goes := ⟨wd_7_61, (tt_s (List.mem_map.mpr ⟨_, List.mem_of_getElem? (l := lw_privs) (i := 17) rfl, rfl⟩) rfl)⟩
theorem cd_X7_holds : Card yX7_holds cX7_holds 5 (some .boolean) 4 := ⟨wd_7_66, wd_1_12, by decide, by decide, by decide +kernel⟩
theorem cv_X7_holds : CardV yX7_holds := ⟨wd_7_65, (tt_s (List.mem_map.mpr ⟨_, List.mem_of_getElem? (l := lw_privs) (i := 18) rfl, rfl⟩) rfl)⟩
theorem cd_X7_interestOf : Card yX7_interestOf cX7_interestOf 2 (some .int) 1 := ⟨wd_8_0, wd_1_12, by decide, by decide, by decide +kernel⟩
theorem cv_X7_interestOf : CardV yX7_interestOf := ⟨wd_7_238, wd_7_239⟩
theorem cd_X7_interestPaid : Card yX7_interestPaid cX7_interestPaid 1 (some .long) 0 := ⟨wd_8_32, wd_1_12, by decide, by decide, by decide +kernel⟩
theorem cv_X7_interestPaid : CardV yX7_interestPaid := ⟨wd_8_30, wd_8_31⟩
theorem cd_X7_isAccount : Card yX7_isAccount cX7_isAccount 2 (some .boolean) 1 := ⟨wd_7_118, wd_1_12, by decide, by decide, by decide +kernel⟩
theorem cv_X7_isAccount : CardV yX7_isAccount := ⟨wd_7_117, (tt_s (List.mem_map.mpr ⟨_, List.mem_of_getElem? (l := lw_privs) (i := 24) rfl, rfl⟩) rfl)⟩
theorem cd_X7_isAmount : Card yX7_isAmount cX7_isAmount 1 (some .boolean) 1 := ⟨wd_7_114, wd_1_12, by decide, by decide, by decide +kernel⟩
theorem cd_X7_isIn : Card yX7_isIn cX7_isIn 3 (some .boolean) 3 := ⟨wd_7_92, wd_1_12, by decide, by decide, by decide +kernel⟩
theorem cd_X7_isMoved : Card yX7_isMoved cX7_isMoved 6 (some .boolean) 1 := ⟨wd_7_191, wd_1_12, by decide, by decide, by decide +kernel⟩
theorem cv_X7_isMoved : CardV yX7_isMoved := ⟨wd_7_190, (tt_s (List.mem_map.mpr ⟨_, List.mem_of_getElem? (l := lw_privs) (i := 37) rfl, rfl⟩) rfl)⟩
theorem cd_X7_journalLength : Card yX7_journalLength cX7_journalLength 1 (some .int) 0 := ⟨wd_8_100, wd_1_12, by decide, by decide, by decide +kernel⟩
theorem cv_X7_journalLength : CardV yX7_journalLength := ⟨wd_8_98, wd_8_99⟩
theorem cd_X7_kindHere : Card yX7_kindHere cX7_kindHere 6 (some .int) 0 := ⟨wd_8_158, wd_1_12, by decide, by decide, by decide +kernel⟩
theorem cv_X7_kindHere : CardV yX7_kindHere := ⟨wd_8_157, (tt_s (List.mem_map.mpr ⟨_, List.mem_of_getElem? (l := lw_privs) (i := 51) rfl, rfl⟩) rfl)⟩
theorem cd_X7_kindOf : Card yX7_kindOf cX7_kindOf 2 (some .int) 1 := ⟨wd_7_216, wd_1_12, by decide, by decide, by decide +kernel⟩
theorem cv_X7_kindOf : CardV yX7_kindOf := ⟨wd_7_214, wd_7_215⟩
theorem cd_X7_leadsTo : Card yX7_leadsTo cX7_leadsTo 7 (some .boolean) 2 := ⟨wd_8_96, wd_1_12, by decide, by decide, by decide +kernel⟩
theorem cv_X7_leadsTo : CardV yX7_leadsTo := ⟨wd_8_94, wd_8_95⟩
theorem cd_X7_letterFor : Card yX7_letterFor cX7_letterFor 1 (some .int) 1 := ⟨wd_8_123, wd_1_12, by decide, by decide, by decide +kernel⟩
theorem cd_X7_letterHere : Card yX7_letterHere cX7_letterHere 1 (some .int) 0 := ⟨wd_8_175, wd_1_12, by decide, by decide, by decide +kernel⟩
theorem cv_X7_letterHere : CardV yX7_letterHere := ⟨wd_8_174, (tt_s (List.mem_map.mpr ⟨_, List.mem_of_getElem? (l := lw_privs) (i := 54) rfl, rfl⟩) rfl)⟩
theorem cd_X7_limitOf : Card yX7_limitOf cX7_limitOf 2 (some .int) 1 := ⟨wd_7_228, wd_1_12, by decide, by decide, by decide +kernel⟩
theorem cv_X7_limitOf : CardV yX7_limitOf := ⟨wd_7_226, wd_7_227⟩
theorem cd_X7_limits : Card yX7_limits cX7_limits 6 (some .int) 2 := ⟨wd_7_147, wd_1_12, by decide, by decide, by decide +kernel⟩
theorem cv_X7_limits : CardV yX7_limits := ⟨wd_7_146, (tt_s (List.mem_map.mpr ⟨_, List.mem_of_getElem? (l := lw_privs) (i := 29) rfl, rfl⟩) rfl)⟩
theorem cd_X7_meanBalance : Card yX7_meanBalance cX7_meanBalance 1 (some .double) 0 := ⟨wd_8_8, wd_1_12, by decide, by decide, by decide +kernel⟩
theorem cv_X7_meanBalance : CardV yX7_meanBalance := ⟨wd_8_6, wd_8_7⟩
theorem cd_X7_movementAccount : Card yX7_movementAccount cX7_movementAccount 2 (some .int) 1 := ⟨wd_8_116, wd_1_12, by decide, by decide, by decide +kernel⟩
theorem cv_X7_movementAccount : CardV yX7_movementAccount := ⟨wd_8_114, wd_8_115⟩
theorem cd_X7_movementAmount : Card yX7_movementAmount cX7_movementAmount 2 (some .int) 1 := ⟨wd_8_112, wd_1_12, by decide, by decide, by decide +kernel⟩
theorem cv_X7_movementAmount : CardV yX7_movementAmount := ⟨wd_8_110, wd_8_111⟩
theorem cd_X7_movementKind : Card yX7_movementKind cX7_movementKind 2 (some .char) 1 := ⟨wd_8_104, wd_1_12, by decide, by decide, by decide +kernel⟩
theorem cv_X7_movementKind : CardV yX7_movementKind := ⟨wd_8_102, wd_8_103⟩
theorem cd_X7_net : Card yX7_net cX7_net 4 (some .int) 1 := ⟨wd_8_88, wd_1_12, by decide, by decide, by decide +kernel⟩
theorem cv_X7_net : CardV yX7_net := ⟨wd_8_87, (tt_s (List.mem_map.mpr ⟨_, List.mem_of_getElem? (l := lw_privs) (i := 45) rfl, rfl⟩) rfl)⟩
theorem cd_X7_netByTable : Card yX7_netByTable cX7_netByTable 2 (some .int) 1 := ⟨wd_8_92, wd_1_12, by decide, by decide, by decide +kernel⟩
theorem cv_X7_netByTable : CardV yX7_netByTable := ⟨wd_8_90, wd_8_91⟩
theorem cd_X7_netOf : Card yX7_netOf cX7_netOf 2 (some .int) 1 := ⟨wd_8_84, wd_1_12, by decide, by decide, by decide +kernel⟩
theorem cv_X7_netOf : CardV yX7_netOf := ⟨wd_8_82, wd_8_83⟩
theorem cd_X7_number : Card yX7_number cX7_number 3 (some .int) 0 := ⟨wd_8_179, wd_1_12, by decide, by decide, by decide +kernel⟩
theorem cv_X7_number : CardV yX7_number := ⟨wd_8_178, (tt_s (List.mem_map.mpr ⟨_, List.mem_of_getElem? (l := lw_privs) (i := 55) rfl, rfl⟩) rfl)⟩
theorem cd_X7_numberBehindBlank : Card yX7_numberBehindBlank cX7_numberBehindBlank 2 (some .int) 0 := ⟨wd_8_183, wd_1_12, by decide, by decide, by decide +kernel⟩
theorem cv_X7_numberBehindBlank : CardV yX7_numberBehindBlank := ⟨wd_8_182, (tt_s (List.mem_map.mpr ⟨_, List.mem_of_getElem? (l := lw_privs) (i := 56) rfl, rfl⟩) rfl)⟩
theorem cd_X7_of : Card yX7_of cX7_of 3 (some .int) 2 := ⟨wd_7_122, wd_1_12, by decide, by decide, by decide +kernel⟩
theorem cv_X7_of : CardV yX7_of := ⟨wd_7_121, (tt_s (List.mem_map.mpr ⟨_, List.mem_of_getElem? (l := lw_privs) (i := 25) rfl, rfl⟩) rfl)⟩
theorem cd_X7_ofPlace : Card yX7_ofPlace cX7_ofPlace 3 (some .int) 2 := ⟨wd_7_171, wd_1_12, by decide, by decide, by decide +kernel⟩
theorem cv_X7_ofPlace : CardV yX7_ofPlace := ⟨wd_7_170, (tt_s (List.mem_map.mpr ⟨_, List.mem_of_getElem? (l := lw_privs) (i := 33) rfl, rfl⟩) rfl)⟩
theorem cd_X7_open : Card yX7_open cX7_open 2 (some .int) 1 := ⟨wd_7_81, wd_1_12, by decide, by decide, by decide +kernel⟩
theorem cv_X7_open : CardV yX7_open := ⟨wd_7_79, wd_7_80⟩
theorem cd_X7_opens : Card yX7_opens cX7_opens 3 (some .int) 1 := ⟨wd_7_89, wd_1_12, by decide, by decide, by decide +kernel⟩
theorem cv_X7_opens : CardV yX7_opens := ⟨wd_7_88, (tt_s (List.mem_map.mpr ⟨_, List.mem_of_getElem? (l := lw_privs) (i := 20) rfl, rfl⟩) rfl)⟩
theorem cd_X7_pays : Card yX7_pays cX7_pays 4 (some .int) 2 := ⟨wd_7_111, wd_1_12, by decide, by decide, by decide +kernel⟩
theorem cv_X7_pays : CardV yX7_pays := ⟨wd_7_110, (tt_s (List.mem_map.mpr ⟨_, List.mem_of_getElem? (l := lw_privs) (i := 23) rfl, rfl⟩) rfl)⟩
theorem cd_X7_put : Card yX7_put cX7_put 3 (some .int) 2 := ⟨wd_8_127, wd_1_12, by decide, by decide, by decide +kernel⟩
theorem cv_X7_put : CardV yX7_put := ⟨wd_8_126, (tt_s (List.mem_map.mpr ⟨_, List.mem_of_getElem? (l := lw_privs) (i := 47) rfl, rfl⟩) rfl)⟩
theorem cd_X7_reads : Card yX7_reads cX7_reads 3 (some .int) 2 := ⟨wd_8_171, wd_1_12, by decide, by decide, by decide +kernel⟩
theorem cv_X7_reads : CardV yX7_reads := ⟨wd_8_170, (tt_s (List.mem_map.mpr ⟨_, List.mem_of_getElem? (l := lw_privs) (i := 53) rfl, rfl⟩) rfl)⟩
theorem cd_X7_readsAll : Card yX7_readsAll cX7_readsAll 2 none 0 := ⟨wd_8_150, wd_1_12, by decide, by decide, by decide +kernel⟩
theorem cv_X7_readsAll : CardV yX7_readsAll := ⟨wd_8_149, (tt_s (List.mem_map.mpr ⟨_, List.mem_of_getElem? (l := lw_privs) (i := 49) rfl, rfl⟩) rfl)⟩
theorem cd_X7_readsCommand : Card yX7_readsCommand cX7_readsCommand 3 none 0 := ⟨wd_8_154, wd_1_12, by decide, by decide, by decide +kernel⟩
theorem cv_X7_readsCommand : CardV yX7_readsCommand := ⟨wd_8_153, (tt_s (List.mem_map.mpr ⟨_, List.mem_of_getElem? (l := lw_privs) (i := 50) rfl, rfl⟩) rfl)⟩
theorem cd_X7_receiverOf : Card yX7_receiverOf cX7_receiverOf 2 (some .int) 1 := ⟨wd_8_64, wd_1_12, by decide, by decide, by decide +kernel⟩
theorem cv_X7_receiverOf : CardV yX7_receiverOf := ⟨wd_8_62, wd_8_63⟩
theorem cd_X7_remembers : Card yX7_remembers cX7_remembers 2 none 0 := ⟨wd_7_103, wd_1_12, by decide, by decide, by decide +kernel⟩
theorem cv_X7_remembers : CardV yX7_remembers := ⟨wd_7_102, (tt_s (List.mem_map.mpr ⟨_, List.mem_of_getElem? (l := lw_privs) (i := 22) rfl, rfl⟩) rfl)⟩
theorem cd_X7_restore : Card yX7_restore cX7_restore 1 (some .int) 0 := ⟨wd_7_77, wd_1_12, by decide, by decide, by decide +kernel⟩
theorem cv_X7_restore : CardV yX7_restore := ⟨wd_7_75, wd_7_76⟩
theorem cd_X7_save : Card yX7_save cX7_save 1 (some .int) 0 := ⟨wd_7_73, wd_1_12, by decide, by decide, by decide +kernel⟩
theorem cv_X7_save : CardV yX7_save := ⟨wd_7_71, wd_7_72⟩
theorem cd_X7_seal : Card yX7_seal cX7_seal 5 (some .int) 4 := ⟨wd_7_151, wd_1_12, by decide, by decide, by decide +kernel⟩
theorem cv_X7_seal : CardV yX7_seal := ⟨wd_7_149, wd_7_150⟩
theorem cd_X7_seals : Card yX7_seals cX7_seals 7 (some .int) 4 := ⟨wd_7_155, wd_1_12, by decide, by decide, by decide +kernel⟩
theorem cv_X7_seals : CardV yX7_seals := ⟨wd_7_154, (tt_s (List.mem_map.mpr ⟨_, List.mem_of_getElem? (l := lw_privs) (i := 30) rfl, rfl⟩) rfl)⟩
theorem cd_X7_senderOf : Card yX7_senderOf cX7_senderOf 2 (some .int) 1 := ⟨wd_8_56, wd_1_12, by decide, by decide, by decide +kernel⟩
theorem cv_X7_senderOf : CardV yX7_senderOf := ⟨wd_8_54, wd_8_55⟩
theorem cd_X7_setLimit : Card yX7_setLimit cX7_setLimit 3 (some .int) 2 := ⟨wd_7_143, wd_1_12, by decide, by decide, by decide +kernel⟩
theorem cv_X7_setLimit : CardV yX7_setLimit := ⟨wd_7_141, wd_7_142⟩
theorem cd_X7_startOf : Card yX7_startOf cX7_startOf 1 (some .int) 1 := ⟨wd_8_161, wd_1_12, by decide, by decide, by decide +kernel⟩
theorem cd_X7_statementAt : Card yX7_statementAt cX7_statementAt 2 (some .char) 1 := ⟨wd_8_138, wd_1_12, by decide, by decide, by decide +kernel⟩
theorem cv_X7_statementAt : CardV yX7_statementAt := ⟨wd_8_136, wd_8_137⟩
theorem cd_X7_thrown : Card yX7_thrown cX7_thrown 1 (some .int) 0 := ⟨wd_7_54, wd_1_12, by decide, by decide, by decide +kernel⟩
theorem cv_X7_thrown : CardV yX7_thrown := ⟨wd_7_52, wd_7_53⟩
theorem cd_X7_totalInk : Card yX7_totalInk cX7_totalInk 1 (some .long) 0 := ⟨wd_8_20, wd_1_12, by decide, by decide, by decide +kernel⟩
theorem cv_X7_totalInk : CardV yX7_totalInk := ⟨wd_8_18, wd_8_19⟩
theorem cd_X7_totalInkByMovements : Card yX7_totalInkByMovements cX7_totalInkByMovements 1 (some .long) 0 := ⟨wd_8_24, wd_1_12, by decide, by decide, by decide +kernel⟩
theorem cv_X7_totalInkByMovements : CardV yX7_totalInkByMovements := ⟨wd_8_22, wd_8_23⟩
theorem cd_X7_transferAt : Card yX7_transferAt cX7_transferAt 7 (some .int) 1 := ⟨wd_8_52, wd_1_12, by decide, by decide, by decide +kernel⟩
theorem cv_X7_transferAt : CardV yX7_transferAt := ⟨wd_8_50, wd_8_51⟩
theorem cd_X7_transferCount : Card yX7_transferCount cX7_transferCount 1 (some .int) 0 := ⟨wd_8_48, wd_1_12, by decide, by decide, by decide +kernel⟩
theorem cv_X7_transferCount : CardV yX7_transferCount := ⟨wd_8_46, wd_8_47⟩
theorem cd_X7_transferredInk : Card yX7_transferredInk cX7_transferredInk 1 (some .long) 0 := ⟨wd_8_28, wd_1_12, by decide, by decide, by decide +kernel⟩
theorem cv_X7_transferredInk : CardV yX7_transferredInk := ⟨wd_8_26, wd_8_27⟩
theorem cd_X7_type : Card yX7_type cX7_type 2 (some .int) 1 := ⟨wd_8_142, wd_1_12, by decide, by decide, by decide +kernel⟩
theorem cv_X7_type : CardV yX7_type := ⟨wd_8_140, wd_8_141⟩
theorem cd_X7_undo : Card yX7_undo cX7_undo 1 (some .int) 0 := ⟨wd_7_58, wd_1_12, by decide, by decide, by decide +kernel⟩
theorem cv_X7_undo : CardV yX7_undo := ⟨wd_7_56, wd_7_57⟩
theorem cd_X7_voids : Card yX7_voids cX7_voids 4 (some .int) 1 := ⟨wd_7_163, wd_1_12, by decide, by decide, by decide +kernel⟩
theorem cv_X7_voids : CardV yX7_voids := ⟨wd_7_162, (tt_s (List.mem_map.mpr ⟨_, List.mem_of_getElem? (l := lw_privs) (i := 31) rfl, rfl⟩) rfl)⟩
theorem cd_X7_waits : Card yX7_waits cX7_waits 4 (some .int) 1 := ⟨wd_7_183, wd_1_12, by decide, by decide, by decide +kernel⟩
theorem cv_X7_waits : CardV yX7_waits := ⟨wd_7_182, (tt_s (List.mem_map.mpr ⟨_, List.mem_of_getElem? (l := lw_privs) (i := 35) rfl, rfl⟩) rfl)⟩
theorem cd_X7_wasTouched : Card yX7_wasTouched cX7_wasTouched 2 (some .boolean) 1 := ⟨wd_7_236, wd_1_12, by decide, by decide, by decide +kernel⟩
theorem cv_X7_wasTouched : CardV yX7_wasTouched := ⟨wd_7_234, wd_7_235⟩
theorem cd_X7_withdraw : Card yX7_withdraw cX7_withdraw 3 (some .int) 2 := ⟨wd_7_135, wd_1_12, by decide, by decide, by decide +kernel⟩
theorem cv_X7_withdraw : CardV yX7_withdraw := ⟨wd_7_133, wd_7_134⟩
theorem cd_X7_wouldBounce : Card yX7_wouldBounce cX7_wouldBounce 3 (some .boolean) 1 := ⟨wd_8_76, wd_1_12, by decide, by decide, by decide +kernel⟩
theorem cv_X7_wouldBounce : CardV yX7_wouldBounce := ⟨wd_8_74, wd_8_75⟩
theorem cd_X7_writeStatement : Card yX7_writeStatement cX7_writeStatement 3 (some .int) 1 := ⟨wd_8_120, wd_1_12, by decide, by decide, by decide +kernel⟩
theorem cv_X7_writeStatement : CardV yX7_writeStatement := ⟨wd_8_118, wd_8_119⟩
theorem cd_X7_writes : Card yX7_writes cX7_writes 5 none 3 := ⟨wd_7_130, wd_1_12, by decide, by decide, by decide +kernel⟩
theorem cv_X7_writes : CardV yX7_writes := ⟨wd_7_129, (tt_s (List.mem_map.mpr ⟨_, List.mem_of_getElem? (l := lw_privs) (i := 27) rfl, rfl⟩) rfl)⟩
theorem cd_X7_writesNumber : Card yX7_writesNumber cX7_writesNumber 7 (some .int) 2 := ⟨wd_8_131, wd_1_12, by decide, by decide, by decide +kernel⟩
theorem cv_X7_writesNumber : CardV yX7_writesNumber := ⟨wd_8_130, (tt_s (List.mem_map.mpr ⟨_, List.mem_of_getElem? (l := lw_privs) (i := 48) rfl, rfl⟩) rfl)⟩
theorem cd_X7_written : Card yX7_written cX7_written 3 (some .int) 2 := ⟨wd_8_108, wd_1_12, by decide, by decide, by decide +kernel⟩
theorem cv_X7_written : CardV yX7_written := ⟨wd_8_107, (tt_s (List.mem_map.mpr ⟨_, List.mem_of_getElem? (l := lw_privs) (i := 46) rfl, rfl⟩) rfl)⟩
theorem cu_J5_append_3fe6f : CardSU RJ4 yJ5_append_3fe6f := ⟨by decide +kernel, by decide +kernel, by decide +kernel, by decide⟩
theorem cu_J5_append_c97b9 : CardSU RJ4 yJ5_append_c97b9 := ⟨by decide +kernel, by decide +kernel, by decide +kernel, by decide⟩
theorem cu_J5_charAt_5068e : CardSU RJ4 yJ5_charAt_5068e := ⟨by decide +kernel, by decide +kernel, by decide +kernel, by decide⟩
theorem cu_J5_length_8abf5 : CardSU RJ4 yJ5_length_8abf5 := ⟨by decide +kernel, by decide +kernel, by decide +kernel, by decide⟩
theorem cu_J5_setLength_d00df : CardSU RJ4 yJ5_setLength_d00df := ⟨by decide +kernel, by decide +kernel, by decide +kernel, by decide⟩
