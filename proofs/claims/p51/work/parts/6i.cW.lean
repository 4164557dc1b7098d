set_option maxHeartbeats 4000000 in
set_option maxRecDepth 100000 in
theorem t_L_areAccountsRight_L69 {p0 : Program} {l : Launch} {e : Env} {s : State} {m : MethodId} {args : Array Value} {below : List Frame} {meth : Method} {c : Code} {A : Nat → Prop} {G : GT} {ad : Nat → Nat} {Q : State → Prop} (C : CX p0 l s m args meth c A G ad cL_areAccountsRight RL 9 (some .boolean)) (hG : G.2.2.2.2 2 = 0 ∧ G.2.2.2.2 3 = 0)   (n : Nat) (B : StB) (a1 : Int32) (a2 : Int64) (a4 : Int32) (a5 : Int32) (M : StM) (O : StO) : ∀ (cs0 ss0 : Nat) (hcs : cs0 + n * 4 ≤ 96 ∧ ss0 + n * 124 ≤ 2576) (R0 : Int64 × Int32 × StB) (hR : R0 = f_L_areAccountsRight_L69 n B a1 a2 a4 a5) (hok : ok_L_areAccountsRight_L69 n B a1 a2 a4 a5) (k : X p0 l e (rmd 22 96 2576) s m args below meth c A G ad 9 (cs0 + n * 4) (ss0 + n * 124) Q R0.2.2 M O [(0, .ref (ad 176)), (1, .int a1), (2, .long R0.1), (4, .int R0.2.1)] 285 []), X p0 l e (rmd 22 96 2576) s m args below meth c A G ad 9 cs0 ss0 Q B M O [(0, .ref (ad 176)), (1, .int a1), (2, .long a2), (4, .int a4), (5, .int a5)] 69 [] := by
  induction n generalizing B a1 a2 a4 a5 with
  | zero => intro cs0 ss0 hcs R0 hR hok k; exact False.elim hok
  | succ n ih =>
    intro cs0 ss0 hcs R0 hR hok k
    have hR : R0 = (if a1 ≤ a5 then (a2, a4, B) else (nm (f_X6_balanceOf_n B a5) (fun (r7 : Int32) => (nm (f_X6_limitOf_n B a5) (fun (r9 : Int32) => (nm (f_X6_kindOf_n B a5) (fun (r11 : Int32) => (if r11 = 0 then (nm (a2 + (Int32.toInt64 r7)) (fun (v157 : Int64) => (if a4 = 0 then (f_L_areAccountsRight_L69 n B a1 v157 0 (a5 + 1)) else (nm (f_X6_availableIn_n B a5) (fun (r160 : Int32) => (if r160 = (r7 + r9) then (if (r7 + r9) < 0 then (f_L_areAccountsRight_L69 n B a1 v157 0 (a5 + 1)) else (nm (f_X6_interestOf_n B a5) (fun (r164 : Int32) => (nm (f_X6_kindOf_n B a5) (fun (r166 : Int32) => (nm (f_X6_wasTouched_n B a5) (fun (r168 : Int32) => (nm (f_L_interest r166 r7 r9 r168) (fun (r169 : Int32) => (if r164 = r169 then (nm (f_X6_writeStatement_n B a5) (fun (z172 : Int32 × StB) => (nm (sbn z172.2) (fun (B173 : StB) => (nm (f_J4_append_15ec4 1 B173) (fun (B175 : StB) => (nm (f_J4_append_bf812_D B175 a5) (fun (B177 : StB) => (nm (f_J4_append_15ec4 5 B177) (fun (B179 : StB) => (nm (f_J4_append_bf812_D B179 r7) (fun (B181 : StB) => (nm (f_J4_append_15ec4 6 B181) (fun (B183 : StB) => (nm (f_J4_append_bf812_D B183 r9) (fun (B185 : StB) => (nm (f_X6_wasTouched_n B185 a5) (fun (r187 : Int32) => (if r187 = 0 then (nm (f_J4_append_15ec4 8 B185) (fun (B190 : StB) => (nm (tsB B190) (fun (B191 : StB) => (nm (f_L_isLine B191 z172.1) (fun (r194 : Int32) => (if r194 = 0 then (f_L_areAccountsRight_L69 n B191 a1 v157 0 (a5 + 1)) else (f_L_areAccountsRight_L69 n B191 a1 v157 1 (a5 + 1))))))))) else (nm (f_J4_append_15ec4 7 B185) (fun (B197 : StB) => (nm (tsB B197) (fun (B198 : StB) => (nm (f_L_isLine B198 z172.1) (fun (r201 : Int32) => (if r201 = 0 then (f_L_areAccountsRight_L69 n B198 a1 v157 0 (a5 + 1)) else (f_L_areAccountsRight_L69 n B198 a1 v157 1 (a5 + 1)))))))))))))))))))))))))))) else (f_L_areAccountsRight_L69 n B a1 v157 0 (a5 + 1)))))))))))) else (f_L_areAccountsRight_L69 n B a1 v157 0 (a5 + 1)))))))) else (nm (f_X6_kindOf_n B a5) (fun (r14 : Int32) => (if r14 = 1 then (nm (a2 + (Int32.toInt64 r7)) (fun (v111 : Int64) => (if a4 = 0 then (f_L_areAccountsRight_L69 n B a1 v111 0 (a5 + 1)) else (nm (f_X6_availableIn_n B a5) (fun (r114 : Int32) => (if r114 = (r7 + r9) then (if (r7 + r9) < 0 then (f_L_areAccountsRight_L69 n B a1 v111 0 (a5 + 1)) else (nm (f_X6_interestOf_n B a5) (fun (r118 : Int32) => (nm (f_X6_kindOf_n B a5) (fun (r120 : Int32) => (nm (f_X6_wasTouched_n B a5) (fun (r122 : Int32) => (nm (f_L_interest r120 r7 r9 r122) (fun (r123 : Int32) => (if r118 = r123 then (nm (f_X6_writeStatement_n B a5) (fun (z126 : Int32 × StB) => (nm (sbn z126.2) (fun (B127 : StB) => (nm (f_J4_append_15ec4 2 B127) (fun (B129 : StB) => (nm (f_J4_append_bf812_D B129 a5) (fun (B131 : StB) => (nm (f_J4_append_15ec4 5 B131) (fun (B133 : StB) => (nm (f_J4_append_bf812_D B133 r7) (fun (B135 : StB) => (nm (f_J4_append_15ec4 6 B135) (fun (B137 : StB) => (nm (f_J4_append_bf812_D B137 r9) (fun (B139 : StB) => (nm (f_X6_wasTouched_n B139 a5) (fun (r141 : Int32) => (if r141 = 0 then (nm (f_J4_append_15ec4 8 B139) (fun (B144 : StB) => (nm (tsB B144) (fun (B145 : StB) => (nm (f_L_isLine B145 z126.1) (fun (r148 : Int32) => (if r148 = 0 then (f_L_areAccountsRight_L69 n B145 a1 v111 0 (a5 + 1)) else (f_L_areAccountsRight_L69 n B145 a1 v111 1 (a5 + 1))))))))) else (nm (f_J4_append_15ec4 7 B139) (fun (B151 : StB) => (nm (tsB B151) (fun (B152 : StB) => (nm (f_L_isLine B152 z126.1) (fun (r155 : Int32) => (if r155 = 0 then (f_L_areAccountsRight_L69 n B152 a1 v111 0 (a5 + 1)) else (f_L_areAccountsRight_L69 n B152 a1 v111 1 (a5 + 1)))))))))))))))))))))))))))) else (f_L_areAccountsRight_L69 n B a1 v111 0 (a5 + 1)))))))))))) else (f_L_areAccountsRight_L69 n B a1 v111 0 (a5 + 1)))))))) else (nm (f_X6_kindOf_n B a5) (fun (r17 : Int32) => (if r17 = 2 then (nm (a2 + (Int32.toInt64 r7)) (fun (v65 : Int64) => (if a4 = 0 then (f_L_areAccountsRight_L69 n B a1 v65 0 (a5 + 1)) else (nm (f_X6_availableIn_n B a5) (fun (r68 : Int32) => (if r68 = (r7 + r9) then (if (r7 + r9) < 0 then (f_L_areAccountsRight_L69 n B a1 v65 0 (a5 + 1)) else (nm (f_X6_interestOf_n B a5) (fun (r72 : Int32) => (nm (f_X6_kindOf_n B a5) (fun (r74 : Int32) => (nm (f_X6_wasTouched_n B a5) (fun (r76 : Int32) => (nm (f_L_interest r74 r7 r9 r76) (fun (r77 : Int32) => (if r72 = r77 then (nm (f_X6_writeStatement_n B a5) (fun (z80 : Int32 × StB) => (nm (sbn z80.2) (fun (B81 : StB) => (nm (f_J4_append_15ec4 3 B81) (fun (B83 : StB) => (nm (f_J4_append_bf812_D B83 a5) (fun (B85 : StB) => (nm (f_J4_append_15ec4 5 B85) (fun (B87 : StB) => (nm (f_J4_append_bf812_D B87 r7) (fun (B89 : StB) => (nm (f_J4_append_15ec4 6 B89) (fun (B91 : StB) => (nm (f_J4_append_bf812_D B91 r9) (fun (B93 : StB) => (nm (f_X6_wasTouched_n B93 a5) (fun (r95 : Int32) => (if r95 = 0 then (nm (f_J4_append_15ec4 8 B93) (fun (B98 : StB) => (nm (tsB B98) (fun (B99 : StB) => (nm (f_L_isLine B99 z80.1) (fun (r102 : Int32) => (if r102 = 0 then (f_L_areAccountsRight_L69 n B99 a1 v65 0 (a5 + 1)) else (f_L_areAccountsRight_L69 n B99 a1 v65 1 (a5 + 1))))))))) else (nm (f_J4_append_15ec4 7 B93) (fun (B105 : StB) => (nm (tsB B105) (fun (B106 : StB) => (nm (f_L_isLine B106 z80.1) (fun (r109 : Int32) => (if r109 = 0 then (f_L_areAccountsRight_L69 n B106 a1 v65 0 (a5 + 1)) else (f_L_areAccountsRight_L69 n B106 a1 v65 1 (a5 + 1)))))))))))))))))))))))))))) else (f_L_areAccountsRight_L69 n B a1 v65 0 (a5 + 1)))))))))))) else (f_L_areAccountsRight_L69 n B a1 v65 0 (a5 + 1)))))))) else (nm (a2 + (Int32.toInt64 r7)) (fun (v19 : Int64) => (if a4 = 0 then (f_L_areAccountsRight_L69 n B a1 v19 0 (a5 + 1)) else (nm (f_X6_availableIn_n B a5) (fun (r22 : Int32) => (if r22 = (r7 + r9) then (if (r7 + r9) < 0 then (f_L_areAccountsRight_L69 n B a1 v19 0 (a5 + 1)) else (nm (f_X6_interestOf_n B a5) (fun (r26 : Int32) => (nm (f_X6_kindOf_n B a5) (fun (r28 : Int32) => (nm (f_X6_wasTouched_n B a5) (fun (r30 : Int32) => (nm (f_L_interest r28 r7 r9 r30) (fun (r31 : Int32) => (if r26 = r31 then (nm (f_X6_writeStatement_n B a5) (fun (z34 : Int32 × StB) => (nm (sbn z34.2) (fun (B35 : StB) => (nm (f_J4_append_15ec4 4 B35) (fun (B37 : StB) => (nm (f_J4_append_bf812_D B37 a5) (fun (B39 : StB) => (nm (f_J4_append_15ec4 5 B39) (fun (B41 : StB) => (nm (f_J4_append_bf812_D B41 r7) (fun (B43 : StB) => (nm (f_J4_append_15ec4 6 B43) (fun (B45 : StB) => (nm (f_J4_append_bf812_D B45 r9) (fun (B47 : StB) => (nm (f_X6_wasTouched_n B47 a5) (fun (r49 : Int32) => (if r49 = 0 then (nm (f_J4_append_15ec4 8 B47) (fun (B52 : StB) => (nm (tsB B52) (fun (B53 : StB) => (nm (f_L_isLine B53 z34.1) (fun (r56 : Int32) => (if r56 = 0 then (f_L_areAccountsRight_L69 n B53 a1 v19 0 (a5 + 1)) else (f_L_areAccountsRight_L69 n B53 a1 v19 1 (a5 + 1))))))))) else (nm (f_J4_append_15ec4 7 B47) (fun (B59 : StB) => (nm (tsB B59) (fun (B60 : StB) => (nm (f_L_isLine B60 z34.1) (fun (r63 : Int32) => (if r63 = 0 then (f_L_areAccountsRight_L69 n B60 a1 v19 0 (a5 + 1)) else (f_L_areAccountsRight_L69 n B60 a1 v19 1 (a5 + 1)))))))))))))))))))))))))))) else (f_L_areAccountsRight_L69 n B a1 v19 0 (a5 + 1)))))))))))) else (f_L_areAccountsRight_L69 n B a1 v19 0 (a5 + 1)))))))))))))))))))))) := hR
    have hok : ((a1 ≤ a5 → True) ∧ (¬ a1 ≤ a5 → ((ok_X6_balanceOf_n B a5) ∧ (∀ r7 : Int32, r7 = (f_X6_balanceOf_n B a5) → ((ok_X6_limitOf_n B a5) ∧ (∀ r9 : Int32, r9 = (f_X6_limitOf_n B a5) → ((ok_X6_kindOf_n B a5) ∧ (∀ r11 : Int32, r11 = (f_X6_kindOf_n B a5) → ((r11 = 0 → (∀ v157 : Int64, v157 = (a2 + (Int32.toInt64 r7)) → ((a4 = 0 → (ok_L_areAccountsRight_L69 n B a1 v157 0 (a5 + 1))) ∧ (¬ a4 = 0 → ((ok_X6_availableIn_n B a5) ∧ (∀ r160 : Int32, r160 = (f_X6_availableIn_n B a5) → ((r160 = (r7 + r9) → (((r7 + r9) < 0 → (ok_L_areAccountsRight_L69 n B a1 v157 0 (a5 + 1))) ∧ (¬ (r7 + r9) < 0 → ((ok_X6_interestOf_n B a5) ∧ (∀ r164 : Int32, r164 = (f_X6_interestOf_n B a5) → ((ok_X6_kindOf_n B a5) ∧ (∀ r166 : Int32, r166 = (f_X6_kindOf_n B a5) → ((ok_X6_wasTouched_n B a5) ∧ (∀ r168 : Int32, r168 = (f_X6_wasTouched_n B a5) → (∀ r169 : Int32, r169 = (f_L_interest r166 r7 r9 r168) → ((r164 = r169 → ((ok_X6_writeStatement_n B a5) ∧ (∀ z172 : Int32 × StB, z172 = (f_X6_writeStatement_n B a5) → (∀ B173 : StB, B173 = (sbn z172.2) → ((ok_J4_append_15ec4 1 B173) ∧ (∀ B175 : StB, B175 = (f_J4_append_15ec4 1 B173) → ((ok_J4_append_bf812_D B175 a5) ∧ (∀ B177 : StB, B177 = (f_J4_append_bf812_D B175 a5) → ((ok_J4_append_15ec4 5 B177) ∧ (∀ B179 : StB, B179 = (f_J4_append_15ec4 5 B177) → ((ok_J4_append_bf812_D B179 r7) ∧ (∀ B181 : StB, B181 = (f_J4_append_bf812_D B179 r7) → ((ok_J4_append_15ec4 6 B181) ∧ (∀ B183 : StB, B183 = (f_J4_append_15ec4 6 B181) → ((ok_J4_append_bf812_D B183 r9) ∧ (∀ B185 : StB, B185 = (f_J4_append_bf812_D B183 r9) → ((ok_X6_wasTouched_n B185 a5) ∧ (∀ r187 : Int32, r187 = (f_X6_wasTouched_n B185 a5) → ((r187 = 0 → ((ok_J4_append_15ec4 8 B185) ∧ (∀ B190 : StB, B190 = (f_J4_append_15ec4 8 B185) → (okStr B190 ∧ (∀ B191 : StB, B191 = (tsB B190) → ((ok_L_isLine B191 z172.1) ∧ (∀ r194 : Int32, r194 = (f_L_isLine B191 z172.1) → ((r194 = 0 → (ok_L_areAccountsRight_L69 n B191 a1 v157 0 (a5 + 1))) ∧ (¬ r194 = 0 → (ok_L_areAccountsRight_L69 n B191 a1 v157 1 (a5 + 1))))))))))) ∧ (¬ r187 = 0 → ((ok_J4_append_15ec4 7 B185) ∧ (∀ B197 : StB, B197 = (f_J4_append_15ec4 7 B185) → (okStr B197 ∧ (∀ B198 : StB, B198 = (tsB B197) → ((ok_L_isLine B198 z172.1) ∧ (∀ r201 : Int32, r201 = (f_L_isLine B198 z172.1) → ((r201 = 0 → (ok_L_areAccountsRight_L69 n B198 a1 v157 0 (a5 + 1))) ∧ (¬ r201 = 0 → (ok_L_areAccountsRight_L69 n B198 a1 v157 1 (a5 + 1)))))))))))))))))))))))))))))) ∧ (¬ r164 = r169 → (ok_L_areAccountsRight_L69 n B a1 v157 0 (a5 + 1)))))))))))))) ∧ (¬ r160 = (r7 + r9) → (ok_L_areAccountsRight_L69 n B a1 v157 0 (a5 + 1)))))))))) ∧ (¬ r11 = 0 → ((ok_X6_kindOf_n B a5) ∧ (∀ r14 : Int32, r14 = (f_X6_kindOf_n B a5) → ((r14 = 1 → (∀ v111 : Int64, v111 = (a2 + (Int32.toInt64 r7)) → ((a4 = 0 → (ok_L_areAccountsRight_L69 n B a1 v111 0 (a5 + 1))) ∧ (¬ a4 = 0 → ((ok_X6_availableIn_n B a5) ∧ (∀ r114 : Int32, r114 = (f_X6_availableIn_n B a5) → ((r114 = (r7 + r9) → (((r7 + r9) < 0 → (ok_L_areAccountsRight_L69 n B a1 v111 0 (a5 + 1))) ∧ (¬ (r7 + r9) < 0 → ((ok_X6_interestOf_n B a5) ∧ (∀ r118 : Int32, r118 = (f_X6_interestOf_n B a5) → ((ok_X6_kindOf_n B a5) ∧ (∀ r120 : Int32, r120 = (f_X6_kindOf_n B a5) → ((ok_X6_wasTouched_n B a5) ∧ (∀ r122 : Int32, r122 = (f_X6_wasTouched_n B a5) → (∀ r123 : Int32, r123 = (f_L_interest r120 r7 r9 r122) → ((r118 = r123 → ((ok_X6_writeStatement_n B a5) ∧ (∀ z126 : Int32 × StB, z126 = (f_X6_writeStatement_n B a5) → (∀ B127 : StB, B127 = (sbn z126.2) → ((ok_J4_append_15ec4 2 B127) ∧ (∀ B129 : StB, B129 = (f_J4_append_15ec4 2 B127) → ((ok_J4_append_bf812_D B129 a5) ∧ (∀ B131 : StB, B131 = (f_J4_append_bf812_D B129 a5) → ((ok_J4_append_15ec4 5 B131) ∧ (∀ B133 : StB, B133 = (f_J4_append_15ec4 5 B131) → ((ok_J4_append_bf812_D B133 r7) ∧ (∀ B135 : StB, B135 = (f_J4_append_bf812_D B133 r7) → ((ok_J4_append_15ec4 6 B135) ∧ (∀ B137 : StB, B137 = (f_J4_append_15ec4 6 B135) → ((ok_J4_append_bf812_D B137 r9) ∧ (∀ B139 : StB, B139 = (f_J4_append_bf812_D B137 r9) → ((ok_X6_wasTouched_n B139 a5) ∧ (∀ r141 : Int32, r141 = (f_X6_wasTouched_n B139 a5) → ((r141 = 0 → ((ok_J4_append_15ec4 8 B139) ∧ (∀ B144 : StB, B144 = (f_J4_append_15ec4 8 B139) → (okStr B144 ∧ (∀ B145 : StB, B145 = (tsB B144) → ((ok_L_isLine B145 z126.1) ∧ (∀ r148 : Int32, r148 = (f_L_isLine B145 z126.1) → ((r148 = 0 → (ok_L_areAccountsRight_L69 n B145 a1 v111 0 (a5 + 1))) ∧ (¬ r148 = 0 → (ok_L_areAccountsRight_L69 n B145 a1 v111 1 (a5 + 1))))))))))) ∧ (¬ r141 = 0 → ((ok_J4_append_15ec4 7 B139) ∧ (∀ B151 : StB, B151 = (f_J4_append_15ec4 7 B139) → (okStr B151 ∧ (∀ B152 : StB, B152 = (tsB B151) → ((ok_L_isLine B152 z126.1) ∧ (∀ r155 : Int32, r155 = (f_L_isLine B152 z126.1) → ((r155 = 0 → (ok_L_areAccountsRight_L69 n B152 a1 v111 0 (a5 + 1))) ∧ (¬ r155 = 0 → (ok_L_areAccountsRight_L69 n B152 a1 v111 1 (a5 + 1)))))))))))))))))))))))))))))) ∧ (¬ r118 = r123 → (ok_L_areAccountsRight_L69 n B a1 v111 0 (a5 + 1)))))))))))))) ∧ (¬ r114 = (r7 + r9) → (ok_L_areAccountsRight_L69 n B a1 v111 0 (a5 + 1)))))))))) ∧ (¬ r14 = 1 → ((ok_X6_kindOf_n B a5) ∧ (∀ r17 : Int32, r17 = (f_X6_kindOf_n B a5) → ((r17 = 2 → (∀ v65 : Int64, v65 = (a2 + (Int32.toInt64 r7)) → ((a4 = 0 → (ok_L_areAccountsRight_L69 n B a1 v65 0 (a5 + 1))) ∧ (¬ a4 = 0 → ((ok_X6_availableIn_n B a5) ∧ (∀ r68 : Int32, r68 = (f_X6_availableIn_n B a5) → ((r68 = (r7 + r9) → (((r7 + r9) < 0 → (ok_L_areAccountsRight_L69 n B a1 v65 0 (a5 + 1))) ∧ (¬ (r7 + r9) < 0 → ((ok_X6_interestOf_n B a5) ∧ (∀ r72 : Int32, r72 = (f_X6_interestOf_n B a5) → ((ok_X6_kindOf_n B a5) ∧ (∀ r74 : Int32, r74 = (f_X6_kindOf_n B a5) → ((ok_X6_wasTouched_n B a5) ∧ (∀ r76 : Int32, r76 = (f_X6_wasTouched_n B a5) → (∀ r77 : Int32, r77 = (f_L_interest r74 r7 r9 r76) → ((r72 = r77 → ((ok_X6_writeStatement_n B a5) ∧ (∀ z80 : Int32 × StB, z80 = (f_X6_writeStatement_n B a5) → (∀ B81 : StB, B81 = (sbn z80.2) → ((ok_J4_append_15ec4 3 B81) ∧ (∀ B83 : StB, B83 = (f_J4_append_15ec4 3 B81) → ((ok_J4_append_bf812_D B83 a5) ∧ (∀ B85 : StB, B85 = (f_J4_append_bf812_D B83 a5) → ((ok_J4_append_15ec4 5 B85) ∧ (∀ B87 : StB, B87 = (f_J4_append_15ec4 5 B85) → ((ok_J4_append_bf812_D B87 r7) ∧ (∀ B89 : StB, B89 = (f_J4_append_bf812_D B87 r7) → ((ok_J4_append_15ec4 6 B89) ∧ (∀ B91 : StB, B91 = (f_J4_append_15ec4 6 B89) → ((ok_J4_append_bf812_D B91 r9) ∧ (∀ B93 : StB, B93 = (f_J4_append_bf812_D B91 r9) → ((ok_X6_wasTouched_n B93 a5) ∧ (∀ r95 : Int32, r95 = (f_X6_wasTouched_n B93 a5) → ((r95 = 0 → ((ok_J4_append_15ec4 8 B93) ∧ (∀ B98 : StB, B98 = (f_J4_append_15ec4 8 B93) → (okStr B98 ∧ (∀ B99 : StB, B99 = (tsB B98) → ((ok_L_isLine B99 z80.1) ∧ (∀ r102 : Int32, r102 = (f_L_isLine B99 z80.1) → ((r102 = 0 → (ok_L_areAccountsRight_L69 n B99 a1 v65 0 (a5 + 1))) ∧ (¬ r102 = 0 → (ok_L_areAccountsRight_L69 n B99 a1 v65 1 (a5 + 1))))))))))) ∧ (¬ r95 = 0 → ((ok_J4_append_15ec4 7 B93) ∧ (∀ B105 : StB, B105 = (f_J4_append_15ec4 7 B93) → (okStr B105 ∧ (∀ B106 : StB, B106 = (tsB B105) → ((ok_L_isLine B106 z80.1) ∧ (∀ r109 : Int32, r109 = (f_L_isLine B106 z80.1) → ((r109 = 0 → (ok_L_areAccountsRight_L69 n B106 a1 v65 0 (a5 + 1))) ∧ (¬ r109 = 0 → (ok_L_areAccountsRight_L69 n B106 a1 v65 1 (a5 + 1)))))))))))))))))))))))))))))) ∧ (¬ r72 = r77 → (ok_L_areAccountsRight_L69 n B a1 v65 0 (a5 + 1)))))))))))))) ∧ (¬ r68 = (r7 + r9) → (ok_L_areAccountsRight_L69 n B a1 v65 0 (a5 + 1)))))))))) ∧ (¬ r17 = 2 → (∀ v19 : Int64, v19 = (a2 + (Int32.toInt64 r7)) → ((a4 = 0 → (ok_L_areAccountsRight_L69 n B a1 v19 0 (a5 + 1))) ∧ (¬ a4 = 0 → ((ok_X6_availableIn_n B a5) ∧ (∀ r22 : Int32, r22 = (f_X6_availableIn_n B a5) → ((r22 = (r7 + r9) → (((r7 + r9) < 0 → (ok_L_areAccountsRight_L69 n B a1 v19 0 (a5 + 1))) ∧ (¬ (r7 + r9) < 0 → ((ok_X6_interestOf_n B a5) ∧ (∀ r26 : Int32, r26 = (f_X6_interestOf_n B a5) → ((ok_X6_kindOf_n B a5) ∧ (∀ r28 : Int32, r28 = (f_X6_kindOf_n B a5) → ((ok_X6_wasTouched_n B a5) ∧ (∀ r30 : Int32, r30 = (f_X6_wasTouched_n B a5) → (∀ r31 : Int32, r31 = (f_L_interest r28 r7 r9 r30) → ((r26 = r31 → ((ok_X6_writeStatement_n B a5) ∧ (∀ z34 : Int32 × StB, z34 = (f_X6_writeStatement_n B a5) → (∀ B35 : StB, B35 = (sbn z34.2) → ((ok_J4_append_15ec4 4 B35) ∧ (∀ B37 : StB, B37 = (f_J4_append_15ec4 4 B35) → ((ok_J4_append_bf812_D B37 a5) ∧ (∀ B39 : StB, B39 = (f_J4_append_bf812_D B37 a5) → ((ok_J4_append_15ec4 5 B39) ∧ (∀ B41 : StB, B41 = (f_J4_append_15ec4 5 B39) → ((ok_J4_append_bf812_D B41 r7) ∧ (∀ B43 : StB, B43 = (f_J4_append_bf812_D B41 r7) → ((ok_J4_append_15ec4 6 B43) ∧ (∀ B45 : StB, B45 = (f_J4_append_15ec4 6 B43) → ((ok_J4_append_bf812_D B45 r9) ∧ (∀ B47 : StB, B47 = (f_J4_append_bf812_D B45 r9) → ((ok_X6_wasTouched_n B47 a5) ∧ (∀ r49 : Int32, r49 = (f_X6_wasTouched_n B47 a5) → ((r49 = 0 → ((ok_J4_append_15ec4 8 B47) ∧ (∀ B52 : StB, B52 = (f_J4_append_15ec4 8 B47) → (okStr B52 ∧ (∀ B53 : StB, B53 = (tsB B52) → ((ok_L_isLine B53 z34.1) ∧ (∀ r56 : Int32, r56 = (f_L_isLine B53 z34.1) → ((r56 = 0 → (ok_L_areAccountsRight_L69 n B53 a1 v19 0 (a5 + 1))) ∧ (¬ r56 = 0 → (ok_L_areAccountsRight_L69 n B53 a1 v19 1 (a5 + 1))))))))))) ∧ (¬ r49 = 0 → ((ok_J4_append_15ec4 7 B47) ∧ (∀ B59 : StB, B59 = (f_J4_append_15ec4 7 B47) → (okStr B59 ∧ (∀ B60 : StB, B60 = (tsB B59) → ((ok_L_isLine B60 z34.1) ∧ (∀ r63 : Int32, r63 = (f_L_isLine B60 z34.1) → ((r63 = 0 → (ok_L_areAccountsRight_L69 n B60 a1 v19 0 (a5 + 1))) ∧ (¬ r63 = 0 → (ok_L_areAccountsRight_L69 n B60 a1 v19 1 (a5 + 1)))))))))))))))))))))))))))))) ∧ (¬ r26 = r31 → (ok_L_areAccountsRight_L69 n B a1 v19 0 (a5 + 1)))))))))))))) ∧ (¬ r22 = (r7 + r9) → (ok_L_areAccountsRight_L69 n B a1 v19 0 (a5 + 1))))))))))))))))))))))))))) := hok
    refine x_iload (pc := 69) (i := 5) C 4 dL_areAccountsRight_69 rfl ?_
    refine x_iload_n (pc := 71) (i := 1) C 1 dL_areAccountsRight_71 rfl rfl ?_
    refine x_icmp_ge (pc := 72) (tgt := 285) C dL_areAccountsRight_72 (by decide) (fun c5 => ?_) (fun c5 => ?_)
    · have hR := hR.trans (if_pos c5)
      refine x_sub [0, 1, 2, 3] (ls2 := [(0, .ref (ad 176)), (1, .int a1), (2, .long a2), (4, .int a4)]) rfl ?_
      subst hR
      exact x_wid (by omega) (by omega) k
    · have hR := hR.trans (if_neg c5)
      have hok := hok.2 c5
      refine x_aload_n (pc := 75) (i := 0) C 0 dL_areAccountsRight_75 rfl rfl ?_
      refine x_iload (pc := 76) (i := 5) C 4 dL_areAccountsRight_76 rfl ?_
      have h6 := hok.1
      have hok := hok.2
      refine x_cIV (pc := 78) (as := [.int a5]) (q := 176) C (c_X6_balanceOf_n C.2.2.2.2.2.2.2.1  B M O a5 h6) (fs := _) e_I rfl cv_X6_balanceOf cd_X6_balanceOf wd_4_144 ⟨Nat.le_of_ble_eq_true rfl, Nat.le_of_ble_eq_true rfl⟩ ⟨by simp only [rmd]; omega, by simp only [rmd]; omega⟩ rfl rfl (Nat.le_of_ble_eq_true rfl) dL_areAccountsRight_78 ?_
      refine x_nmI (fun r7 er7 => ?_)
      have hR := nmE hR er7
      have hok := hok r7 er7
      refine x_istore (pc := 81) (i := 6) (ls2 := [(6, .int r7), (0, .ref (ad 176)), (1, .int a1), (2, .long a2), (4, .int a4), (5, .int a5)]) C dL_areAccountsRight_81 (by decide) rfl ?_
      refine x_aload_n (pc := 83) (i := 0) C 1 dL_areAccountsRight_83 rfl rfl ?_
      refine x_iload (pc := 84) (i := 5) C 5 dL_areAccountsRight_84 rfl ?_
      have h8 := hok.1
      have hok := hok.2
      refine x_cIV (pc := 86) (as := [.int a5]) (q := 176) C (c_X6_limitOf_n C.2.2.2.2.2.2.2.1  B M O a5 h8) (fs := _) e_I rfl cv_X6_limitOf cd_X6_limitOf wd_4_234 ⟨Nat.le_of_ble_eq_true rfl, Nat.le_of_ble_eq_true rfl⟩ ⟨by simp only [rmd]; omega, by simp only [rmd]; omega⟩ rfl rfl (Nat.le_of_ble_eq_true rfl) dL_areAccountsRight_86 ?_
      refine x_nmI (fun r9 er9 => ?_)
      have hR := nmE hR er9
      have hok := hok r9 er9
      refine x_istore (pc := 89) (i := 7) (ls2 := [(7, .int r9), (6, .int r7), (0, .ref (ad 176)), (1, .int a1), (2, .long a2), (4, .int a4), (5, .int a5)]) C dL_areAccountsRight_89 (by decide) rfl ?_
      refine x_aload_n (pc := 91) (i := 0) C 2 dL_areAccountsRight_91 rfl rfl ?_
      refine x_iload (pc := 92) (i := 5) C 6 dL_areAccountsRight_92 rfl ?_
      have h10 := hok.1
      have hok := hok.2
      refine x_cIV (pc := 94) (as := [.int a5]) (q := 176) C (c_X6_kindOf_n C.2.2.2.2.2.2.2.1  B M O a5 h10) (fs := _) e_I rfl cv_X6_kindOf cd_X6_kindOf wd_4_238 ⟨Nat.le_of_ble_eq_true rfl, Nat.le_of_ble_eq_true rfl⟩ ⟨by simp only [rmd]; omega, by simp only [rmd]; omega⟩ rfl rfl (Nat.le_of_ble_eq_true rfl) dL_areAccountsRight_94 ?_
      refine x_nmI (fun r11 er11 => ?_)
      have hR := nmE hR er11
      have hok := hok r11 er11
      refine x_if_ne (pc := 97) (tgt := 105) C dL_areAccountsRight_97 (by decide) (fun c12 => ?_) (fun c12 => ?_)
      · have hR := hR.trans (if_neg c12)
        have hok := hok.2 c12
        refine x_aload_n (pc := 105) (i := 0) C 2 dL_areAccountsRight_105 rfl rfl ?_
        refine x_iload (pc := 106) (i := 5) C 6 dL_areAccountsRight_106 rfl ?_
        have h13 := hok.1
        have hok := hok.2
        refine x_cIV (pc := 108) (as := [.int a5]) (q := 176) C (c_X6_kindOf_n C.2.2.2.2.2.2.2.1  B M O a5 h13) (fs := _) e_I rfl cv_X6_kindOf cd_X6_kindOf wd_4_238 ⟨Nat.le_of_ble_eq_true rfl, Nat.le_of_ble_eq_true rfl⟩ ⟨by simp only [rmd]; omega, by simp only [rmd]; omega⟩ rfl rfl (Nat.le_of_ble_eq_true rfl) dL_areAccountsRight_108 ?_
        refine x_nmI (fun r14 er14 => ?_)
        have hR := nmE hR er14
        have hok := hok r14 er14
        refine x_iconst (pc := 111) (v := 1) C dL_areAccountsRight_111 (by decide) ?_
        refine x_icmp_ne (pc := 112) (tgt := 120) C dL_areAccountsRight_112 (by decide) (fun c15 => ?_) (fun c15 => ?_)
        · have hR := hR.trans (if_neg c15)
          have hok := hok.2 c15
          refine x_aload_n (pc := 120) (i := 0) C 2 dL_areAccountsRight_120 rfl rfl ?_
          refine x_iload (pc := 121) (i := 5) C 6 dL_areAccountsRight_121 rfl ?_
          have h16 := hok.1
          have hok := hok.2
          refine x_cIV (pc := 123) (as := [.int a5]) (q := 176) C (c_X6_kindOf_n C.2.2.2.2.2.2.2.1  B M O a5 h16) (fs := _) e_I rfl cv_X6_kindOf cd_X6_kindOf wd_4_238 ⟨Nat.le_of_ble_eq_true rfl, Nat.le_of_ble_eq_true rfl⟩ ⟨by simp only [rmd]; omega, by simp only [rmd]; omega⟩ rfl rfl (Nat.le_of_ble_eq_true rfl) dL_areAccountsRight_123 ?_
          refine x_nmI (fun r17 er17 => ?_)
          have hR := nmE hR er17
          have hok := hok r17 er17
          refine x_iconst (pc := 126) (v := 2) C dL_areAccountsRight_126 (by decide) ?_
          refine x_icmp_ne (pc := 127) (tgt := 135) C dL_areAccountsRight_127 (by decide) (fun c18 => ?_) (fun c18 => ?_)
          · have hR := hR.trans (if_neg c18)
            have hok := hok.2 c18
            refine x_ldcK (pc := 135) (i := 4) C (by decide) rfl rfl dL_areAccountsRight_135 ?_
            refine x_astore (pc := 137) (i := 8) (ls2 := [(8, .ref (G.2.2.1 4)), (7, .int r9), (6, .int r7), (0, .ref (ad 176)), (1, .int a1), (2, .long a2), (4, .int a4), (5, .int a5)]) C dL_areAccountsRight_137 (by decide) rfl ?_
            refine x_lload_n (pc := 139) (i := 2) C 5 dL_areAccountsRight_139 rfl rfl ?_
            refine x_iload (pc := 140) (i := 6) C 2 dL_areAccountsRight_140 rfl ?_
            refine x_i2l (pc := 142) C dL_areAccountsRight_142 ?_
            refine x_ladd (pc := 143) C dL_areAccountsRight_143 ?_
            refine x_nmL (fun v19 ev19 => ?_)
            have hR := nmE hR ev19
            have hok := hok v19 ev19
            refine x_lstore_n (pc := 144) (i := 2) (ls2 := [(2, .long v19), (8, .ref (G.2.2.1 4)), (7, .int r9), (6, .int r7), (0, .ref (ad 176)), (1, .int a1), (4, .int a4), (5, .int a5)]) C dL_areAccountsRight_144 rfl (by decide) rfl ?_
            refine x_iload (pc := 145) (i := 4) C 6 dL_areAccountsRight_145 rfl ?_
            refine x_if_eq (pc := 147) (tgt := 276) C dL_areAccountsRight_147 (by decide) (fun c20 => ?_) (fun c20 => ?_)
            · have hR := hR.trans (if_pos c20)
              have hok := hok.1 c20
              refine x_iconst (pc := 276) (v := 0) C dL_areAccountsRight_276 (by decide) ?_
              refine x_istore (pc := 277) (i := 4) (ls2 := [(4, .int 0), (2, .long v19), (8, .ref (G.2.2.1 4)), (7, .int r9), (6, .int r7), (0, .ref (ad 176)), (1, .int a1), (5, .int a5)]) C dL_areAccountsRight_277 (by decide) rfl ?_
              refine x_iinc (pc := 279) (i := 5) (v := (a5 + 1)) (ls2 := [(5, .int (a5 + 1)), (4, .int 0), (2, .long v19), (8, .ref (G.2.2.1 4)), (7, .int r9), (6, .int r7), (0, .ref (ad 176)), (1, .int a1)]) C 7 dL_areAccountsRight_279 rfl rfl (by decide) rfl ?_
              refine x_goto (pc := 282) (tgt := 69) C dL_areAccountsRight_282 (by decide) ?_
              refine x_sub [6, 7, 2, 1, 0] (ls2 := [(0, .ref (ad 176)), (1, .int a1), (2, .long v19), (4, .int 0), (5, .int (a5 + 1))]) rfl ?_
              refine x_wid (k0 := cs0 + 4) (n0 := ss0 + 124) (by omega) (by omega) ?_
              exact ih B a1 v19 0 (a5 + 1) _ _ ⟨by omega, by omega⟩ R0 hR hok (x_wid (by omega) (by omega) k)
            · have hR := hR.trans (if_neg c20)
              have hok := hok.2 c20
              refine x_aload_n (pc := 150) (i := 0) C 4 dL_areAccountsRight_150 rfl rfl ?_
              refine x_iload (pc := 151) (i := 5) C 7 dL_areAccountsRight_151 rfl ?_
              have h21 := hok.1
              have hok := hok.2
              refine x_cIV (pc := 153) (as := [.int a5]) (q := 176) C (c_X6_availableIn_n C.2.2.2.2.2.2.2.1  B M O a5 h21) (fs := _) e_I rfl cv_X6_availableIn cd_X6_availableIn wd_5_6 ⟨Nat.le_of_ble_eq_true rfl, Nat.le_of_ble_eq_true rfl⟩ ⟨by simp only [rmd]; omega, by simp only [rmd]; omega⟩ rfl rfl (Nat.le_of_ble_eq_true rfl) dL_areAccountsRight_153 ?_
              refine x_nmI (fun r22 er22 => ?_)
              have hR := nmE hR er22
              have hok := hok r22 er22
              refine x_iload (pc := 156) (i := 6) C 3 dL_areAccountsRight_156 rfl ?_
              refine x_iload (pc := 158) (i := 7) C 2 dL_areAccountsRight_158 rfl ?_
              refine x_iadd (pc := 160) C dL_areAccountsRight_160 ?_
              refine x_icmp_ne (pc := 161) (tgt := 276) C dL_areAccountsRight_161 (by decide) (fun c23 => ?_) (fun c23 => ?_)
              · have hR := hR.trans (if_neg c23)
                have hok := hok.2 c23
                refine x_iconst (pc := 276) (v := 0) C dL_areAccountsRight_276 (by decide) ?_
                refine x_istore (pc := 277) (i := 4) (ls2 := [(4, .int 0), (2, .long v19), (8, .ref (G.2.2.1 4)), (7, .int r9), (6, .int r7), (0, .ref (ad 176)), (1, .int a1), (5, .int a5)]) C dL_areAccountsRight_277 (by decide) rfl ?_
                refine x_iinc (pc := 279) (i := 5) (v := (a5 + 1)) (ls2 := [(5, .int (a5 + 1)), (4, .int 0), (2, .long v19), (8, .ref (G.2.2.1 4)), (7, .int r9), (6, .int r7), (0, .ref (ad 176)), (1, .int a1)]) C 7 dL_areAccountsRight_279 rfl rfl (by decide) rfl ?_
                refine x_goto (pc := 282) (tgt := 69) C dL_areAccountsRight_282 (by decide) ?_
                refine x_sub [6, 7, 2, 1, 0] (ls2 := [(0, .ref (ad 176)), (1, .int a1), (2, .long v19), (4, .int 0), (5, .int (a5 + 1))]) rfl ?_
                refine x_wid (k0 := cs0 + 4) (n0 := ss0 + 124) (by omega) (by omega) ?_
                exact ih B a1 v19 0 (a5 + 1) _ _ ⟨by omega, by omega⟩ R0 hR hok (x_wid (by omega) (by omega) k)
              · have hR := hR.trans (if_pos c23)
                have hok := hok.1 c23
                refine x_iload (pc := 164) (i := 6) C 3 dL_areAccountsRight_164 rfl ?_
                refine x_iload (pc := 166) (i := 7) C 2 dL_areAccountsRight_166 rfl ?_
                refine x_iadd (pc := 168) C dL_areAccountsRight_168 ?_
                refine x_if_lt (pc := 169) (tgt := 276) C dL_areAccountsRight_169 (by decide) (fun c24 => ?_) (fun c24 => ?_)
                · have hR := hR.trans (if_pos c24)
                  have hok := hok.1 c24
                  refine x_iconst (pc := 276) (v := 0) C dL_areAccountsRight_276 (by decide) ?_
                  refine x_istore (pc := 277) (i := 4) (ls2 := [(4, .int 0), (2, .long v19), (8, .ref (G.2.2.1 4)), (7, .int r9), (6, .int r7), (0, .ref (ad 176)), (1, .int a1), (5, .int a5)]) C dL_areAccountsRight_277 (by decide) rfl ?_
                  refine x_iinc (pc := 279) (i := 5) (v := (a5 + 1)) (ls2 := [(5, .int (a5 + 1)), (4, .int 0), (2, .long v19), (8, .ref (G.2.2.1 4)), (7, .int r9), (6, .int r7), (0, .ref (ad 176)), (1, .int a1)]) C 7 dL_areAccountsRight_279 rfl rfl (by decide) rfl ?_
                  refine x_goto (pc := 282) (tgt := 69) C dL_areAccountsRight_282 (by decide) ?_
                  refine x_sub [6, 7, 2, 1, 0] (ls2 := [(0, .ref (ad 176)), (1, .int a1), (2, .long v19), (4, .int 0), (5, .int (a5 + 1))]) rfl ?_
                  refine x_wid (k0 := cs0 + 4) (n0 := ss0 + 124) (by omega) (by omega) ?_
                  exact ih B a1 v19 0 (a5 + 1) _ _ ⟨by omega, by omega⟩ R0 hR hok (x_wid (by omega) (by omega) k)
                · have hR := hR.trans (if_neg c24)
                  have hok := hok.2 c24
                  refine x_aload_n (pc := 172) (i := 0) C 4 dL_areAccountsRight_172 rfl rfl ?_
                  refine x_iload (pc := 173) (i := 5) C 7 dL_areAccountsRight_173 rfl ?_
                  have h25 := hok.1
                  have hok := hok.2
                  refine x_cIV (pc := 175) (as := [.int a5]) (q := 176) C (c_X6_interestOf_n C.2.2.2.2.2.2.2.1  B M O a5 h25) (fs := _) e_I rfl cv_X6_interestOf cd_X6_interestOf wd_5_11 ⟨Nat.le_of_ble_eq_true rfl, Nat.le_of_ble_eq_true rfl⟩ ⟨by simp only [rmd]; omega, by simp only [rmd]; omega⟩ rfl rfl (Nat.le_of_ble_eq_true rfl) dL_areAccountsRight_175 ?_
                  refine x_nmI (fun r26 er26 => ?_)
                  have hR := nmE hR er26
                  have hok := hok r26 er26
                  refine x_aload_n (pc := 178) (i := 0) C 4 dL_areAccountsRight_178 rfl rfl ?_
                  refine x_iload (pc := 179) (i := 5) C 7 dL_areAccountsRight_179 rfl ?_
                  have h27 := hok.1
                  have hok := hok.2
                  refine x_cIV (pc := 181) (as := [.int a5]) (q := 176) C (c_X6_kindOf_n C.2.2.2.2.2.2.2.1  B M O a5 h27) (fs := _) e_I rfl cv_X6_kindOf cd_X6_kindOf wd_4_238 ⟨Nat.le_of_ble_eq_true rfl, Nat.le_of_ble_eq_true rfl⟩ ⟨by simp only [rmd]; omega, by simp only [rmd]; omega⟩ rfl rfl (Nat.le_of_ble_eq_true rfl) dL_areAccountsRight_181 ?_
                  refine x_nmI (fun r28 er28 => ?_)
                  have hR := nmE hR er28
                  have hok := hok r28 er28
                  refine x_iload (pc := 184) (i := 6) C 3 dL_areAccountsRight_184 rfl ?_
                  refine x_iload (pc := 186) (i := 7) C 2 dL_areAccountsRight_186 rfl ?_
                  refine x_aload_n (pc := 188) (i := 0) C 4 dL_areAccountsRight_188 rfl rfl ?_
                  refine x_iload (pc := 189) (i := 5) C 7 dL_areAccountsRight_189 rfl ?_
                  have h29 := hok.1
                  have hok := hok.2
                  refine x_cIV (pc := 191) (as := [.int a5]) (q := 176) C (c_X6_wasTouched_n C.2.2.2.2.2.2.2.1  B M O a5 h29) (fs := _) e_I rfl cv_X6_wasTouched cd_X6_wasTouched wd_5_16 ⟨Nat.le_of_ble_eq_true rfl, Nat.le_of_ble_eq_true rfl⟩ ⟨by simp only [rmd]; omega, by simp only [rmd]; omega⟩ rfl rfl (Nat.le_of_ble_eq_true rfl) dL_areAccountsRight_191 ?_
                  refine x_nmI (fun r30 er30 => ?_)
                  have hR := nmE hR er30
                  have hok := hok r30 er30
                  refine x_cIS (pc := 194) (as := [.int r28, .int r7, .int r9, .int r30]) C (c_L_interest C.2.2.2.2.2.2.2.1  B M O r28 r7 r9 r30) wd_5_21 cd_L_interest wd_5_20 ⟨Nat.le_of_ble_eq_true rfl, Nat.le_of_ble_eq_true rfl⟩ ⟨by simp only [rmd]; omega, by simp only [rmd]; omega⟩ rfl rfl (Nat.le_of_ble_eq_true rfl) dL_areAccountsRight_194 ?_
                  refine x_nmI (fun r31 er31 => ?_)
                  have hR := nmE hR er31
                  have hok := hok r31 er31
                  refine x_icmp_ne (pc := 197) (tgt := 276) C dL_areAccountsRight_197 (by decide) (fun c32 => ?_) (fun c32 => ?_)
                  · have hR := hR.trans (if_neg c32)
                    have hok := hok.2 c32
                    refine x_iconst (pc := 276) (v := 0) C dL_areAccountsRight_276 (by decide) ?_
                    refine x_istore (pc := 277) (i := 4) (ls2 := [(4, .int 0), (2, .long v19), (8, .ref (G.2.2.1 4)), (7, .int r9), (6, .int r7), (0, .ref (ad 176)), (1, .int a1), (5, .int a5)]) C dL_areAccountsRight_277 (by decide) rfl ?_
                    refine x_iinc (pc := 279) (i := 5) (v := (a5 + 1)) (ls2 := [(5, .int (a5 + 1)), (4, .int 0), (2, .long v19), (8, .ref (G.2.2.1 4)), (7, .int r9), (6, .int r7), (0, .ref (ad 176)), (1, .int a1)]) C 7 dL_areAccountsRight_279 rfl rfl (by decide) rfl ?_
                    refine x_goto (pc := 282) (tgt := 69) C dL_areAccountsRight_282 (by decide) ?_
                    refine x_sub [6, 7, 2, 1, 0] (ls2 := [(0, .ref (ad 176)), (1, .int a1), (2, .long v19), (4, .int 0), (5, .int (a5 + 1))]) rfl ?_
                    refine x_wid (k0 := cs0 + 4) (n0 := ss0 + 124) (by omega) (by omega) ?_
                    exact ih B a1 v19 0 (a5 + 1) _ _ ⟨by omega, by omega⟩ R0 hR hok (x_wid (by omega) (by omega) k)
                  · have hR := hR.trans (if_pos c32)
                    have hok := hok.1 c32
                    refine x_aload_n (pc := 200) (i := 0) C 4 dL_areAccountsRight_200 rfl rfl ?_
                    refine x_aload_n (pc := 201) (i := 0) C 4 dL_areAccountsRight_201 rfl rfl ?_
                    refine x_iload (pc := 202) (i := 5) C 7 dL_areAccountsRight_202 rfl ?_
                    have h33 := hok.1
                    have hok := hok.2
                    refine x_cIV (pc := 204) (as := [.int a5]) (q := 176) C (c_X6_writeStatement_n C.2.2.2.2.2.2.2.1  B M O a5 h33) (fs := _) e_I rfl cv_X6_writeStatement cd_X6_writeStatement wd_5_24 ⟨Nat.le_of_ble_eq_true rfl, Nat.le_of_ble_eq_true rfl⟩ ⟨by simp only [rmd]; omega, by simp only [rmd]; omega⟩ rfl rfl (Nat.le_of_ble_eq_true rfl) dL_areAccountsRight_204 ?_
                    refine x_nmIB (fun z34 ez34 => ?_)
                    have hR := nmE hR ez34
                    have hok := hok z34 ez34
                    refine x_sbnew C hG.2 ⟨(Nat.le_of_ble_eq_true rfl), (Nat.le_of_ble_eq_true rfl)⟩ ⟨by simp only [rmd]; omega, by simp only [rmd]; omega⟩ (Nat.le_of_ble_eq_true rfl) (fun qS hAS => ?_)
                    have CS := cx_x C hAS
                    have hGS : (xG G 2 2).2.2.2.2 2 = 2 ∧ (xG G 2 2).2.2.2.2 3 = 2 := ⟨rfl, rfl⟩
                    refine x_nmB (fun B35 eB35 => ?_)
                    have hR := nmE hR eB35
                    have hok := hok B35 eB35
                    refine x_aload (pc := 214) (i := 8) CS 1 dL_areAccountsRight_214 rfl ?_
                    have h36 := hok.1
                    have hok := hok.2
                    refine x_cRV (pc := 216) (as := [.ref ((xG G 2 2).2.2.1 4)]) (q := 193) CS (c_J4_append_15ec4 CS.2.2.2.2.2.2.2.1 hGS 4 (by decide) B35 M O  h36) (fs := _) (e_D hGS) rfl cv_J4_append_15ec4 rfl cd_J4_append_15ec4 wd_6_32 ⟨Nat.le_of_ble_eq_true rfl, Nat.le_of_ble_eq_true rfl⟩ ⟨by simp only [rmd]; omega, by simp only [rmd]; omega⟩ rfl rfl (Nat.le_of_ble_eq_true rfl) dL_areAccountsRight_216 ?_
                    refine x_nmB (fun B37 eB37 => ?_)
                    have hR := nmE hR eB37
                    have hok := hok B37 eB37
                    refine x_iload (pc := 219) (i := 5) CS 7 dL_areAccountsRight_219 rfl ?_
                    have h38 := hok.1
                    have hok := hok.2
                    refine x_cRV (pc := 221) (as := [.int a5]) (q := 193) CS (c_J4_append_bf812_D CS.2.2.2.2.2.2.2.1 hGS B37 M O a5 h38) (fs := _) (e_D hGS) rfl cv_J4_append_bf812 rfl cd_J4_append_bf812 wd_6_33 ⟨Nat.le_of_ble_eq_true rfl, Nat.le_of_ble_eq_true rfl⟩ ⟨by simp only [rmd]; omega, by simp only [rmd]; omega⟩ rfl rfl (Nat.le_of_ble_eq_true rfl) dL_areAccountsRight_221 ?_
                    refine x_nmB (fun B39 eB39 => ?_)
                    have hR := nmE hR eB39
                    have hok := hok B39 eB39
                    refine x_ldcK (pc := 224) (i := 5) CS (by decide) rfl rfl dL_areAccountsRight_224 ?_
                    have h40 := hok.1
                    have hok := hok.2
                    refine x_cRV (pc := 226) (as := [.ref ((xG G 2 2).2.2.1 5)]) (q := 193) CS (c_J4_append_15ec4 CS.2.2.2.2.2.2.2.1 hGS 5 (by decide) B39 M O  h40) (fs := _) (e_D hGS) rfl cv_J4_append_15ec4 rfl cd_J4_append_15ec4 wd_6_32 ⟨Nat.le_of_ble_eq_true rfl, Nat.le_of_ble_eq_true rfl⟩ ⟨by simp only [rmd]; omega, by simp only [rmd]; omega⟩ rfl rfl (Nat.le_of_ble_eq_true rfl) dL_areAccountsRight_226 ?_
                    refine x_nmB (fun B41 eB41 => ?_)
                    have hR := nmE hR eB41
                    have hok := hok B41 eB41
                    refine x_iload (pc := 229) (i := 6) CS 3 dL_areAccountsRight_229 rfl ?_
                    have h42 := hok.1
                    have hok := hok.2
                    refine x_cRV (pc := 231) (as := [.int r7]) (q := 193) CS (c_J4_append_bf812_D CS.2.2.2.2.2.2.2.1 hGS B41 M O r7 h42) (fs := _) (e_D hGS) rfl cv_J4_append_bf812 rfl cd_J4_append_bf812 wd_6_33 ⟨Nat.le_of_ble_eq_true rfl, Nat.le_of_ble_eq_true rfl⟩ ⟨by simp only [rmd]; omega, by simp only [rmd]; omega⟩ rfl rfl (Nat.le_of_ble_eq_true rfl) dL_areAccountsRight_231 ?_
                    refine x_nmB (fun B43 eB43 => ?_)
                    have hR := nmE hR eB43
                    have hok := hok B43 eB43
                    refine x_ldcK (pc := 234) (i := 6) CS (by decide) rfl rfl dL_areAccountsRight_234 ?_
                    have h44 := hok.1
                    have hok := hok.2
                    refine x_cRV (pc := 236) (as := [.ref ((xG G 2 2).2.2.1 6)]) (q := 193) CS (c_J4_append_15ec4 CS.2.2.2.2.2.2.2.1 hGS 6 (by decide) B43 M O  h44) (fs := _) (e_D hGS) rfl cv_J4_append_15ec4 rfl cd_J4_append_15ec4 wd_6_32 ⟨Nat.le_of_ble_eq_true rfl, Nat.le_of_ble_eq_true rfl⟩ ⟨by simp only [rmd]; omega, by simp only [rmd]; omega⟩ rfl rfl (Nat.le_of_ble_eq_true rfl) dL_areAccountsRight_236 ?_
                    refine x_nmB (fun B45 eB45 => ?_)
                    have hR := nmE hR eB45
                    have hok := hok B45 eB45
                    refine x_iload (pc := 239) (i := 7) CS 2 dL_areAccountsRight_239 rfl ?_
                    have h46 := hok.1
                    have hok := hok.2
                    refine x_cRV (pc := 241) (as := [.int r9]) (q := 193) CS (c_J4_append_bf812_D CS.2.2.2.2.2.2.2.1 hGS B45 M O r9 h46) (fs := _) (e_D hGS) rfl cv_J4_append_bf812 rfl cd_J4_append_bf812 wd_6_33 ⟨Nat.le_of_ble_eq_true rfl, Nat.le_of_ble_eq_true rfl⟩ ⟨by simp only [rmd]; omega, by simp only [rmd]; omega⟩ rfl rfl (Nat.le_of_ble_eq_true rfl) dL_areAccountsRight_241 ?_
                    refine x_nmB (fun B47 eB47 => ?_)
                    have hR := nmE hR eB47
                    have hok := hok B47 eB47
                    refine x_aload_n (pc := 244) (i := 0) CS 4 dL_areAccountsRight_244 rfl rfl ?_
                    refine x_iload (pc := 245) (i := 5) CS 7 dL_areAccountsRight_245 rfl ?_
                    have h48 := hok.1
                    have hok := hok.2
                    refine x_cIV (pc := 247) (as := [.int a5]) (q := 176) CS (c_X6_wasTouched_n CS.2.2.2.2.2.2.2.1  B47 M O a5 h48) (fs := _) e_I rfl cv_X6_wasTouched cd_X6_wasTouched wd_5_16 ⟨Nat.le_of_ble_eq_true rfl, Nat.le_of_ble_eq_true rfl⟩ ⟨by simp only [rmd]; omega, by simp only [rmd]; omega⟩ rfl rfl (Nat.le_of_ble_eq_true rfl) dL_areAccountsRight_247 ?_
                    refine x_nmI (fun r49 er49 => ?_)
                    have hR := nmE hR er49
                    have hok := hok r49 er49
                    refine x_if_eq (pc := 250) (tgt := 258) CS dL_areAccountsRight_250 (by decide) (fun c50 => ?_) (fun c50 => ?_)
                    · have hR := hR.trans (if_pos c50)
                      have hok := hok.1 c50
                      refine x_ldcK (pc := 258) (i := 8) CS (by decide) rfl rfl dL_areAccountsRight_258 ?_
                      have h51 := hok.1
                      have hok := hok.2
                      refine x_cRV (pc := 260) (as := [.ref ((xG G 2 2).2.2.1 8)]) (q := 193) CS (c_J4_append_15ec4 CS.2.2.2.2.2.2.2.1 hGS 8 (by decide) B47 M O  h51) (fs := _) (e_D hGS) rfl cv_J4_append_15ec4 rfl cd_J4_append_15ec4 wd_6_32 ⟨Nat.le_of_ble_eq_true rfl, Nat.le_of_ble_eq_true rfl⟩ ⟨by simp only [rmd]; omega, by simp only [rmd]; omega⟩ rfl rfl (Nat.le_of_ble_eq_true rfl) dL_areAccountsRight_260 ?_
                      refine x_nmB (fun B52 eB52 => ?_)
                      have hR := nmE hR eB52
                      have hok := hok B52 eB52
                      have h54 := hok.1
                      have hok := hok.2
                      refine x_sbstr CS h54 ⟨(Nat.le_of_ble_eq_true rfl), (Nat.le_of_ble_eq_true rfl)⟩ ⟨by simp only [rmd]; omega, by simp only [rmd]; omega⟩ (Nat.le_of_ble_eq_true rfl) (fun qT hAT => ?_)
                      have CT := cx_x C hAT
                      have hGT : (xG G 3 2).2.2.2.2 2 = 3 ∧ (xG G 3 2).2.2.2.2 3 = 2 := ⟨rfl, rfl⟩
                      refine x_nmB (fun B53 eB53 => ?_)
                      have hR := nmE hR eB53
                      have hok := hok B53 eB53
                      have h55 := hok.1
                      have hok := hok.2
                      refine x_cIS (pc := 266) (as := [.ref ((xadL ad qT) 176), .int z34.1, .ref ((xadL ad qT) 193)]) CT (c_L_isLine CT.2.2.2.2.2.2.2.1 hGT B53 M O z34.1 h55) wd_6_40 cd_L_isLine wd_6_39 ⟨Nat.le_of_ble_eq_true rfl, Nat.le_of_ble_eq_true rfl⟩ ⟨by simp only [rmd]; omega, by simp only [rmd]; omega⟩ rfl rfl (Nat.le_of_ble_eq_true rfl) dL_areAccountsRight_266 ?_
                      refine x_nmI (fun r56 er56 => ?_)
                      have hR := nmE hR er56
                      have hok := hok r56 er56
                      refine x_back hG.2 ?_
                      refine x_if_eq (pc := 269) (tgt := 276) C dL_areAccountsRight_269 (by decide) (fun c57 => ?_) (fun c57 => ?_)
                      · have hR := hR.trans (if_pos c57)
                        have hok := hok.1 c57
                        refine x_iconst (pc := 276) (v := 0) C dL_areAccountsRight_276 (by decide) ?_
                        refine x_istore (pc := 277) (i := 4) (ls2 := [(4, .int 0), (2, .long v19), (8, .ref (G.2.2.1 4)), (7, .int r9), (6, .int r7), (0, .ref (ad 176)), (1, .int a1), (5, .int a5)]) C dL_areAccountsRight_277 (by decide) rfl ?_
                        refine x_iinc (pc := 279) (i := 5) (v := (a5 + 1)) (ls2 := [(5, .int (a5 + 1)), (4, .int 0), (2, .long v19), (8, .ref (G.2.2.1 4)), (7, .int r9), (6, .int r7), (0, .ref (ad 176)), (1, .int a1)]) C 7 dL_areAccountsRight_279 rfl rfl (by decide) rfl ?_
                        refine x_goto (pc := 282) (tgt := 69) C dL_areAccountsRight_282 (by decide) ?_
                        refine x_sub [6, 7, 2, 1, 0] (ls2 := [(0, .ref (ad 176)), (1, .int a1), (2, .long v19), (4, .int 0), (5, .int (a5 + 1))]) rfl ?_
                        refine x_wid (k0 := cs0 + 4) (n0 := ss0 + 124) (by omega) (by omega) ?_
                        exact ih B53 a1 v19 0 (a5 + 1) _ _ ⟨by omega, by omega⟩ R0 hR hok (x_wid (by omega) (by omega) k)
                      · have hR := hR.trans (if_neg c57)
                        have hok := hok.2 c57
                        refine x_iconst (pc := 272) (v := 1) C dL_areAccountsRight_272 (by decide) ?_
                        refine x_goto (pc := 273) (tgt := 277) C dL_areAccountsRight_273 (by decide) ?_
                        refine x_istore (pc := 277) (i := 4) (ls2 := [(4, .int 1), (2, .long v19), (8, .ref (G.2.2.1 4)), (7, .int r9), (6, .int r7), (0, .ref (ad 176)), (1, .int a1), (5, .int a5)]) C dL_areAccountsRight_277 (by decide) rfl ?_
                        refine x_iinc (pc := 279) (i := 5) (v := (a5 + 1)) (ls2 := [(5, .int (a5 + 1)), (4, .int 1), (2, .long v19), (8, .ref (G.2.2.1 4)), (7, .int r9), (6, .int r7), (0, .ref (ad 176)), (1, .int a1)]) C 7 dL_areAccountsRight_279 rfl rfl (by decide) rfl ?_
                        refine x_goto (pc := 282) (tgt := 69) C dL_areAccountsRight_282 (by decide) ?_
                        refine x_sub [6, 7, 2, 1, 0] (ls2 := [(0, .ref (ad 176)), (1, .int a1), (2, .long v19), (4, .int 1), (5, .int (a5 + 1))]) rfl ?_
                        refine x_wid (k0 := cs0 + 4) (n0 := ss0 + 124) (by omega) (by omega) ?_
                        exact ih B53 a1 v19 1 (a5 + 1) _ _ ⟨by omega, by omega⟩ R0 hR hok (x_wid (by omega) (by omega) k)
                    · have hR := hR.trans (if_neg c50)
                      have hok := hok.2 c50
                      refine x_ldcK (pc := 253) (i := 7) CS (by decide) rfl rfl dL_areAccountsRight_253 ?_
                      refine x_goto (pc := 255) (tgt := 260) CS dL_areAccountsRight_255 (by decide) ?_
                      have h58 := hok.1
                      have hok := hok.2
                      refine x_cRV (pc := 260) (as := [.ref ((xG G 2 2).2.2.1 7)]) (q := 193) CS (c_J4_append_15ec4 CS.2.2.2.2.2.2.2.1 hGS 7 (by decide) B47 M O  h58) (fs := _) (e_D hGS) rfl cv_J4_append_15ec4 rfl cd_J4_append_15ec4 wd_6_32 ⟨Nat.le_of_ble_eq_true rfl, Nat.le_of_ble_eq_true rfl⟩ ⟨by simp only [rmd]; omega, by simp only [rmd]; omega⟩ rfl rfl (Nat.le_of_ble_eq_true rfl) dL_areAccountsRight_260 ?_
                      refine x_nmB (fun B59 eB59 => ?_)
                      have hR := nmE hR eB59
                      have hok := hok B59 eB59
                      have h61 := hok.1
                      have hok := hok.2
                      refine x_sbstr CS h61 ⟨(Nat.le_of_ble_eq_true rfl), (Nat.le_of_ble_eq_true rfl)⟩ ⟨by simp only [rmd]; omega, by simp only [rmd]; omega⟩ (Nat.le_of_ble_eq_true rfl) (fun qT hAT => ?_)
                      have CT := cx_x C hAT
                      have hGT : (xG G 3 2).2.2.2.2 2 = 3 ∧ (xG G 3 2).2.2.2.2 3 = 2 := ⟨rfl, rfl⟩
                      refine x_nmB (fun B60 eB60 => ?_)
                      have hR := nmE hR eB60
                      have hok := hok B60 eB60
                      have h62 := hok.1
                      have hok := hok.2
                      refine x_cIS (pc := 266) (as := [.ref ((xadL ad qT) 176), .int z34.1, .ref ((xadL ad qT) 193)]) CT (c_L_isLine CT.2.2.2.2.2.2.2.1 hGT B60 M O z34.1 h62) wd_6_40 cd_L_isLine wd_6_39 ⟨Nat.le_of_ble_eq_true rfl, Nat.le_of_ble_eq_true rfl⟩ ⟨by simp only [rmd]; omega, by simp only [rmd]; omega⟩ rfl rfl (Nat.le_of_ble_eq_true rfl) dL_areAccountsRight_266 ?_
                      refine x_nmI (fun r63 er63 => ?_)
                      have hR := nmE hR er63
                      have hok := hok r63 er63
                      refine x_back hG.2 ?_
                      refine x_if_eq (pc := 269) (tgt := 276) C dL_areAccountsRight_269 (by decide) (fun c64 => ?_) (fun c64 => ?_)
                      · have hR := hR.trans (if_pos c64)
                        have hok := hok.1 c64
                        refine x_iconst (pc := 276) (v := 0) C dL_areAccountsRight_276 (by decide) ?_
                        refine x_istore (pc := 277) (i := 4) (ls2 := [(4, .int 0), (2, .long v19), (8, .ref (G.2.2.1 4)), (7, .int r9), (6, .int r7), (0, .ref (ad 176)), (1, .int a1), (5, .int a5)]) C dL_areAccountsRight_277 (by decide) rfl ?_
                        refine x_iinc (pc := 279) (i := 5) (v := (a5 + 1)) (ls2 := [(5, .int (a5 + 1)), (4, .int 0), (2, .long v19), (8, .ref (G.2.2.1 4)), (7, .int r9), (6, .int r7), (0, .ref (ad 176)), (1, .int a1)]) C 7 dL_areAccountsRight_279 rfl rfl (by decide) rfl ?_
                        refine x_goto (pc := 282) (tgt := 69) C dL_areAccountsRight_282 (by decide) ?_
                        refine x_sub [6, 7, 2, 1, 0] (ls2 := [(0, .ref (ad 176)), (1, .int a1), (2, .long v19), (4, .int 0), (5, .int (a5 + 1))]) rfl ?_
                        refine x_wid (k0 := cs0 + 4) (n0 := ss0 + 124) (by omega) (by omega) ?_
                        exact ih B60 a1 v19 0 (a5 + 1) _ _ ⟨by omega, by omega⟩ R0 hR hok (x_wid (by omega) (by omega) k)
                      · have hR := hR.trans (if_neg c64)
                        have hok := hok.2 c64
                        refine x_iconst (pc := 272) (v := 1) C dL_areAccountsRight_272 (by decide) ?_
                        refine x_goto (pc := 273) (tgt := 277) C dL_areAccountsRight_273 (by decide) ?_
                        refine x_istore (pc := 277) (i := 4) (ls2 := [(4, .int 1), (2, .long v19), (8, .ref (G.2.2.1 4)), (7, .int r9), (6, .int r7), (0, .ref (ad 176)), (1, .int a1), (5, .int a5)]) C dL_areAccountsRight_277 (by decide) rfl ?_
                        refine x_iinc (pc := 279) (i := 5) (v := (a5 + 1)) (ls2 := [(5, .int (a5 + 1)), (4, .int 1), (2, .long v19), (8, .ref (G.2.2.1 4)), (7, .int r9), (6, .int r7), (0, .ref (ad 176)), (1, .int a1)]) C 7 dL_areAccountsRight_279 rfl rfl (by decide) rfl ?_
                        refine x_goto (pc := 282) (tgt := 69) C dL_areAccountsRight_282 (by decide) ?_
                        refine x_sub [6, 7, 2, 1, 0] (ls2 := [(0, .ref (ad 176)), (1, .int a1), (2, .long v19), (4, .int 1), (5, .int (a5 + 1))]) rfl ?_
                        refine x_wid (k0 := cs0 + 4) (n0 := ss0 + 124) (by omega) (by omega) ?_
                        exact ih B60 a1 v19 1 (a5 + 1) _ _ ⟨by omega, by omega⟩ R0 hR hok (x_wid (by omega) (by omega) k)
          · have hR := hR.trans (if_pos c18)
            have hok := hok.1 c18
            refine x_ldcK (pc := 130) (i := 3) C (by decide) rfl rfl dL_areAccountsRight_130 ?_
            refine x_goto (pc := 132) (tgt := 137) C dL_areAccountsRight_132 (by decide) ?_
            refine x_astore (pc := 137) (i := 8) (ls2 := [(8, .ref (G.2.2.1 3)), (7, .int r9), (6, .int r7), (0, .ref (ad 176)), (1, .int a1), (2, .long a2), (4, .int a4), (5, .int a5)]) C dL_areAccountsRight_137 (by decide) rfl ?_
            refine x_lload_n (pc := 139) (i := 2) C 5 dL_areAccountsRight_139 rfl rfl ?_
            refine x_iload (pc := 140) (i := 6) C 2 dL_areAccountsRight_140 rfl ?_
            refine x_i2l (pc := 142) C dL_areAccountsRight_142 ?_
            refine x_ladd (pc := 143) C dL_areAccountsRight_143 ?_
            refine x_nmL (fun v65 ev65 => ?_)
            have hR := nmE hR ev65
            have hok := hok v65 ev65
            refine x_lstore_n (pc := 144) (i := 2) (ls2 := [(2, .long v65), (8, .ref (G.2.2.1 3)), (7, .int r9), (6, .int r7), (0, .ref (ad 176)), (1, .int a1), (4, .int a4), (5, .int a5)]) C dL_areAccountsRight_144 rfl (by decide) rfl ?_
            refine x_iload (pc := 145) (i := 4) C 6 dL_areAccountsRight_145 rfl ?_
            refine x_if_eq (pc := 147) (tgt := 276) C dL_areAccountsRight_147 (by decide) (fun c66 => ?_) (fun c66 => ?_)
            · have hR := hR.trans (if_pos c66)
              have hok := hok.1 c66
              refine x_iconst (pc := 276) (v := 0) C dL_areAccountsRight_276 (by decide) ?_
              refine x_istore (pc := 277) (i := 4) (ls2 := [(4, .int 0), (2, .long v65), (8, .ref (G.2.2.1 3)), (7, .int r9), (6, .int r7), (0, .ref (ad 176)), (1, .int a1), (5, .int a5)]) C dL_areAccountsRight_277 (by decide) rfl ?_
              refine x_iinc (pc := 279) (i := 5) (v := (a5 + 1)) (ls2 := [(5, .int (a5 + 1)), (4, .int 0), (2, .long v65), (8, .ref (G.2.2.1 3)), (7, .int r9), (6, .int r7), (0, .ref (ad 176)), (1, .int a1)]) C 7 dL_areAccountsRight_279 rfl rfl (by decide) rfl ?_
              refine x_goto (pc := 282) (tgt := 69) C dL_areAccountsRight_282 (by decide) ?_
              refine x_sub [6, 7, 2, 1, 0] (ls2 := [(0, .ref (ad 176)), (1, .int a1), (2, .long v65), (4, .int 0), (5, .int (a5 + 1))]) rfl ?_
              refine x_wid (k0 := cs0 + 4) (n0 := ss0 + 124) (by omega) (by omega) ?_
              exact ih B a1 v65 0 (a5 + 1) _ _ ⟨by omega, by omega⟩ R0 hR hok (x_wid (by omega) (by omega) k)
            · have hR := hR.trans (if_neg c66)
              have hok := hok.2 c66
              refine x_aload_n (pc := 150) (i := 0) C 4 dL_areAccountsRight_150 rfl rfl ?_
              refine x_iload (pc := 151) (i := 5) C 7 dL_areAccountsRight_151 rfl ?_
              have h67 := hok.1
              have hok := hok.2
              refine x_cIV (pc := 153) (as := [.int a5]) (q := 176) C (c_X6_availableIn_n C.2.2.2.2.2.2.2.1  B M O a5 h67) (fs := _) e_I rfl cv_X6_availableIn cd_X6_availableIn wd_5_6 ⟨Nat.le_of_ble_eq_true rfl, Nat.le_of_ble_eq_true rfl⟩ ⟨by simp only [rmd]; omega, by simp only [rmd]; omega⟩ rfl rfl (Nat.le_of_ble_eq_true rfl) dL_areAccountsRight_153 ?_
              refine x_nmI (fun r68 er68 => ?_)
              have hR := nmE hR er68
              have hok := hok r68 er68
              refine x_iload (pc := 156) (i := 6) C 3 dL_areAccountsRight_156 rfl ?_
              refine x_iload (pc := 158) (i := 7) C 2 dL_areAccountsRight_158 rfl ?_
              refine x_iadd (pc := 160) C dL_areAccountsRight_160 ?_
              refine x_icmp_ne (pc := 161) (tgt := 276) C dL_areAccountsRight_161 (by decide) (fun c69 => ?_) (fun c69 => ?_)
              · have hR := hR.trans (if_neg c69)
                have hok := hok.2 c69
                refine x_iconst (pc := 276) (v := 0) C dL_areAccountsRight_276 (by decide) ?_
                refine x_istore (pc := 277) (i := 4) (ls2 := [(4, .int 0), (2, .long v65), (8, .ref (G.2.2.1 3)), (7, .int r9), (6, .int r7), (0, .ref (ad 176)), (1, .int a1), (5, .int a5)]) C dL_areAccountsRight_277 (by decide) rfl ?_
                refine x_iinc (pc := 279) (i := 5) (v := (a5 + 1)) (ls2 := [(5, .int (a5 + 1)), (4, .int 0), (2, .long v65), (8, .ref (G.2.2.1 3)), (7, .int r9), (6, .int r7), (0, .ref (ad 176)), (1, .int a1)]) C 7 dL_areAccountsRight_279 rfl rfl (by decide) rfl ?_
                refine x_goto (pc := 282) (tgt := 69) C dL_areAccountsRight_282 (by decide) ?_
                refine x_sub [6, 7, 2, 1, 0] (ls2 := [(0, .ref (ad 176)), (1, .int a1), (2, .long v65), (4, .int 0), (5, .int (a5 + 1))]) rfl ?_
                refine x_wid (k0 := cs0 + 4) (n0 := ss0 + 124) (by omega) (by omega) ?_
                exact ih B a1 v65 0 (a5 + 1) _ _ ⟨by omega, by omega⟩ R0 hR hok (x_wid (by omega) (by omega) k)
              · have hR := hR.trans (if_pos c69)
                have hok := hok.1 c69
                refine x_iload (pc := 164) (i := 6) C 3 dL_areAccountsRight_164 rfl ?_
                refine x_iload (pc := 166) (i := 7) C 2 dL_areAccountsRight_166 rfl ?_
                refine x_iadd (pc := 168) C dL_areAccountsRight_168 ?_
                refine x_if_lt (pc := 169) (tgt := 276) C dL_areAccountsRight_169 (by decide) (fun c70 => ?_) (fun c70 => ?_)
                · have hR := hR.trans (if_pos c70)
                  have hok := hok.1 c70
                  refine x_iconst (pc := 276) (v := 0) C dL_areAccountsRight_276 (by decide) ?_
                  refine x_istore (pc := 277) (i := 4) (ls2 := [(4, .int 0), (2, .long v65), (8, .ref (G.2.2.1 3)), (7, .int r9), (6, .int r7), (0, .ref (ad 176)), (1, .int a1), (5, .int a5)]) C dL_areAccountsRight_277 (by decide) rfl ?_
                  refine x_iinc (pc := 279) (i := 5) (v := (a5 + 1)) (ls2 := [(5, .int (a5 + 1)), (4, .int 0), (2, .long v65), (8, .ref (G.2.2.1 3)), (7, .int r9), (6, .int r7), (0, .ref (ad 176)), (1, .int a1)]) C 7 dL_areAccountsRight_279 rfl rfl (by decide) rfl ?_
                  refine x_goto (pc := 282) (tgt := 69) C dL_areAccountsRight_282 (by decide) ?_
                  refine x_sub [6, 7, 2, 1, 0] (ls2 := [(0, .ref (ad 176)), (1, .int a1), (2, .long v65), (4, .int 0), (5, .int (a5 + 1))]) rfl ?_
                  refine x_wid (k0 := cs0 + 4) (n0 := ss0 + 124) (by omega) (by omega) ?_
                  exact ih B a1 v65 0 (a5 + 1) _ _ ⟨by omega, by omega⟩ R0 hR hok (x_wid (by omega) (by omega) k)
                · have hR := hR.trans (if_neg c70)
                  have hok := hok.2 c70
                  refine x_aload_n (pc := 172) (i := 0) C 4 dL_areAccountsRight_172 rfl rfl ?_
                  refine x_iload (pc := 173) (i := 5) C 7 dL_areAccountsRight_173 rfl ?_
                  have h71 := hok.1
                  have hok := hok.2
                  refine x_cIV (pc := 175) (as := [.int a5]) (q := 176) C (c_X6_interestOf_n C.2.2.2.2.2.2.2.1  B M O a5 h71) (fs := _) e_I rfl cv_X6_interestOf cd_X6_interestOf wd_5_11 ⟨Nat.le_of_ble_eq_true rfl, Nat.le_of_ble_eq_true rfl⟩ ⟨by simp only [rmd]; omega, by simp only [rmd]; omega⟩ rfl rfl (Nat.le_of_ble_eq_true rfl) dL_areAccountsRight_175 ?_
                  refine x_nmI (fun r72 er72 => ?_)
                  have hR := nmE hR er72
                  have hok := hok r72 er72
                  refine x_aload_n (pc := 178) (i := 0) C 4 dL_areAccountsRight_178 rfl rfl ?_
                  refine x_iload (pc := 179) (i := 5) C 7 dL_areAccountsRight_179 rfl ?_
                  have h73 := hok.1
                  have hok := hok.2
                  refine x_cIV (pc := 181) (as := [.int a5]) (q := 176) C (c_X6_kindOf_n C.2.2.2.2.2.2.2.1  B M O a5 h73) (fs := _) e_I rfl cv_X6_kindOf cd_X6_kindOf wd_4_238 ⟨Nat.le_of_ble_eq_true rfl, Nat.le_of_ble_eq_true rfl⟩ ⟨by simp only [rmd]; omega, by simp only [rmd]; omega⟩ rfl rfl (Nat.le_of_ble_eq_true rfl) dL_areAccountsRight_181 ?_
                  refine x_nmI (fun r74 er74 => ?_)
                  have hR := nmE hR er74
                  have hok := hok r74 er74
                  refine x_iload (pc := 184) (i := 6) C 3 dL_areAccountsRight_184 rfl ?_
                  refine x_iload (pc := 186) (i := 7) C 2 dL_areAccountsRight_186 rfl ?_
                  refine x_aload_n (pc := 188) (i := 0) C 4 dL_areAccountsRight_188 rfl rfl ?_
                  refine x_iload (pc := 189) (i := 5) C 7 dL_areAccountsRight_189 rfl ?_
                  have h75 := hok.1
                  have hok := hok.2
                  refine x_cIV (pc := 191) (as := [.int a5]) (q := 176) C (c_X6_wasTouched_n C.2.2.2.2.2.2.2.1  B M O a5 h75) (fs := _) e_I rfl cv_X6_wasTouched cd_X6_wasTouched wd_5_16 ⟨Nat.le_of_ble_eq_true rfl, Nat.le_of_ble_eq_true rfl⟩ ⟨by simp only [rmd]; omega, by simp only [rmd]; omega⟩ rfl rfl (Nat.le_of_ble_eq_true rfl) dL_areAccountsRight_191 ?_
                  refine x_nmI (fun r76 er76 => ?_)
                  have hR := nmE hR er76
                  have hok := hok r76 er76
                  refine x_cIS (pc := 194) (as := [.int r74, .int r7, .int r9, .int r76]) C (c_L_interest C.2.2.2.2.2.2.2.1  B M O r74 r7 r9 r76) wd_5_21 cd_L_interest wd_5_20 ⟨Nat.le_of_ble_eq_true rfl, Nat.le_of_ble_eq_true rfl⟩ ⟨by simp only [rmd]; omega, by simp only [rmd]; omega⟩ rfl rfl (Nat.le_of_ble_eq_true rfl) dL_areAccountsRight_194 ?_
                  refine x_nmI (fun r77 er77 => ?_)
                  have hR := nmE hR er77
                  have hok := hok r77 er77
                  refine x_icmp_ne (pc := 197) (tgt := 276) C dL_areAccountsRight_197 (by decide) (fun c78 => ?_) (fun c78 => ?_)
                  · have hR := hR.trans (if_neg c78)
                    have hok := hok.2 c78
                    refine x_iconst (pc := 276) (v := 0) C dL_areAccountsRight_276 (by decide) ?_
                    refine x_istore (pc := 277) (i := 4) (ls2 := [(4, .int 0), (2, .long v65), (8, .ref (G.2.2.1 3)), (7, .int r9), (6, .int r7), (0, .ref (ad 176)), (1, .int a1), (5, .int a5)]) C dL_areAccountsRight_277 (by decide) rfl ?_
                    refine x_iinc (pc := 279) (i := 5) (v := (a5 + 1)) (ls2 := [(5, .int (a5 + 1)), (4, .int 0), (2, .long v65), (8, .ref (G.2.2.1 3)), (7, .int r9), (6, .int r7), (0, .ref (ad 176)), (1, .int a1)]) C 7 dL_areAccountsRight_279 rfl rfl (by decide) rfl ?_
                    refine x_goto (pc := 282) (tgt := 69) C dL_areAccountsRight_282 (by decide) ?_
                    refine x_sub [6, 7, 2, 1, 0] (ls2 := [(0, .ref (ad 176)), (1, .int a1), (2, .long v65), (4, .int 0), (5, .int (a5 + 1))]) rfl ?_
                    refine x_wid (k0 := cs0 + 4) (n0 := ss0 + 124) (by omega) (by omega) ?_
                    exact ih B a1 v65 0 (a5 + 1) _ _ ⟨by omega, by omega⟩ R0 hR hok (x_wid (by omega) (by omega) k)
                  · have hR := hR.trans (if_pos c78)
                    have hok := hok.1 c78
                    refine x_aload_n (pc := 200) (i := 0) C 4 dL_areAccountsRight_200 rfl rfl ?_
                    refine x_aload_n (pc := 201) (i := 0) C 4 dL_areAccountsRight_201 rfl rfl ?_
                    refine x_iload (pc := 202) (i := 5) C 7 dL_areAccountsRight_202 rfl ?_
                    have h79 := hok.1
                    have hok := hok.2
                    refine x_cIV (pc := 204) (as := [.int a5]) (q := 176) C (c_X6_writeStatement_n C.2.2.2.2.2.2.2.1  B M O a5 h79) (fs := _) e_I rfl cv_X6_writeStatement cd_X6_writeStatement wd_5_24 ⟨Nat.le_of_ble_eq_true rfl, Nat.le_of_ble_eq_true rfl⟩ ⟨by simp only [rmd]; omega, by simp only [rmd]; omega⟩ rfl rfl (Nat.le_of_ble_eq_true rfl) dL_areAccountsRight_204 ?_
                    refine x_nmIB (fun z80 ez80 => ?_)
                    have hR := nmE hR ez80
                    have hok := hok z80 ez80
                    refine x_sbnew C hG.2 ⟨(Nat.le_of_ble_eq_true rfl), (Nat.le_of_ble_eq_true rfl)⟩ ⟨by simp only [rmd]; omega, by simp only [rmd]; omega⟩ (Nat.le_of_ble_eq_true rfl) (fun qS hAS => ?_)
                    have CS := cx_x C hAS
                    have hGS : (xG G 2 2).2.2.2.2 2 = 2 ∧ (xG G 2 2).2.2.2.2 3 = 2 := ⟨rfl, rfl⟩
                    refine x_nmB (fun B81 eB81 => ?_)
                    have hR := nmE hR eB81
                    have hok := hok B81 eB81
                    refine x_aload (pc := 214) (i := 8) CS 1 dL_areAccountsRight_214 rfl ?_
                    have h82 := hok.1
                    have hok := hok.2
                    refine x_cRV (pc := 216) (as := [.ref ((xG G 2 2).2.2.1 3)]) (q := 193) CS (c_J4_append_15ec4 CS.2.2.2.2.2.2.2.1 hGS 3 (by decide) B81 M O  h82) (fs := _) (e_D hGS) rfl cv_J4_append_15ec4 rfl cd_J4_append_15ec4 wd_6_32 ⟨Nat.le_of_ble_eq_true rfl, Nat.le_of_ble_eq_true rfl⟩ ⟨by simp only [rmd]; omega, by simp only [rmd]; omega⟩ rfl rfl (Nat.le_of_ble_eq_true rfl) dL_areAccountsRight_216 ?_
                    refine x_nmB (fun B83 eB83 => ?_)
                    have hR := nmE hR eB83
                    have hok := hok B83 eB83
                    refine x_iload (pc := 219) (i := 5) CS 7 dL_areAccountsRight_219 rfl ?_
                    have h84 := hok.1
                    have hok := hok.2
                    refine x_cRV (pc := 221) (as := [.int a5]) (q := 193) CS (c_J4_append_bf812_D CS.2.2.2.2.2.2.2.1 hGS B83 M O a5 h84) (fs := _) (e_D hGS) rfl cv_J4_append_bf812 rfl cd_J4_append_bf812 wd_6_33 ⟨Nat.le_of_ble_eq_true rfl, Nat.le_of_ble_eq_true rfl⟩ ⟨by simp only [rmd]; omega, by simp only [rmd]; omega⟩ rfl rfl (Nat.le_of_ble_eq_true rfl) dL_areAccountsRight_221 ?_
                    refine x_nmB (fun B85 eB85 => ?_)
                    have hR := nmE hR eB85
                    have hok := hok B85 eB85
                    refine x_ldcK (pc := 224) (i := 5) CS (by decide) rfl rfl dL_areAccountsRight_224 ?_
                    have h86 := hok.1
                    have hok := hok.2
                    refine x_cRV (pc := 226) (as := [.ref ((xG G 2 2).2.2.1 5)]) (q := 193) CS (c_J4_append_15ec4 CS.2.2.2.2.2.2.2.1 hGS 5 (by decide) B85 M O  h86) (fs := _) (e_D hGS) rfl cv_J4_append_15ec4 rfl cd_J4_append_15ec4 wd_6_32 ⟨Nat.le_of_ble_eq_true rfl, Nat.le_of_ble_eq_true rfl⟩ ⟨by simp only [rmd]; omega, by simp only [rmd]; omega⟩ rfl rfl (Nat.le_of_ble_eq_true rfl) dL_areAccountsRight_226 ?_
                    refine x_nmB (fun B87 eB87 => ?_)
                    have hR := nmE hR eB87
                    have hok := hok B87 eB87
                    refine x_iload (pc := 229) (i := 6) CS 3 dL_areAccountsRight_229 rfl ?_
                    have h88 := hok.1
                    have hok := hok.2
                    refine x_cRV (pc := 231) (as := [.int r7]) (q := 193) CS (c_J4_append_bf812_D CS.2.2.2.2.2.2.2.1 hGS B87 M O r7 h88) (fs := _) (e_D hGS) rfl cv_J4_append_bf812 rfl cd_J4_append_bf812 wd_6_33 ⟨Nat.le_of_ble_eq_true rfl, Nat.le_of_ble_eq_true rfl⟩ ⟨by simp only [rmd]; omega, by simp only [rmd]; omega⟩ rfl rfl (Nat.le_of_ble_eq_true rfl) dL_areAccountsRight_231 ?_
                    refine x_nmB (fun B89 eB89 => ?_)
                    have hR := nmE hR eB89
                    have hok := hok B89 eB89
                    refine x_ldcK (pc := 234) (i := 6) CS (by decide) rfl rfl dL_areAccountsRight_234 ?_
                    have h90 := hok.1
                    have hok := hok.2
                    refine x_cRV (pc := 236) (as := [.ref ((xG G 2 2).2.2.1 6)]) (q := 193) CS (c_J4_append_15ec4 CS.2.2.2.2.2.2.2.1 hGS 6 (by decide) B89 M O  h90) (fs := _) (e_D hGS) rfl cv_J4_append_15ec4 rfl cd_J4_append_15ec4 wd_6_32 ⟨Nat.le_of_ble_eq_true rfl, Nat.le_of_ble_eq_true rfl⟩ ⟨by simp only [rmd]; omega, by simp only [rmd]; omega⟩ rfl rfl (Nat.le_of_ble_eq_true rfl) dL_areAccountsRight_236 ?_
                    refine x_nmB (fun B91 eB91 => ?_)
                    have hR := nmE hR eB91
                    have hok := hok B91 eB91
                    refine x_iload (pc := 239) (i := 7) CS 2 dL_areAccountsRight_239 rfl ?_
                    have h92 := hok.1
                    have hok := hok.2
                    refine x_cRV (pc := 241) (as := [.int r9]) (q := 193) CS (c_J4_append_bf812_D CS.2.2.2.2.2.2.2.1 hGS B91 M O r9 h92) (fs := _) (e_D hGS) rfl cv_J4_append_bf812 rfl cd_J4_append_bf812 wd_6_33 ⟨Nat.le_of_ble_eq_true rfl, Nat.le_of_ble_eq_true rfl⟩ ⟨by simp only [rmd]; omega, by simp only [rmd]; omega⟩ rfl rfl (Nat.le_of_ble_eq_true rfl) dL_areAccountsRight_241 ?_
                    refine x_nmB (fun B93 eB93 => ?_)
                    have hR := nmE hR eB93
                    have hok := hok B93 eB93
                    refine x_aload_n (pc := 244) (i := 0) CS 4 dL_areAccountsRight_244 rfl rfl ?_
                    refine x_iload (pc := 245) (i := 5) CS 7 dL_areAccountsRight_245 rfl ?_
                    have h94 := hok.1
                    have hok := hok.2
                    refine x_cIV (pc := 247) (as := [.int a5]) (q := 176) CS (c_X6_wasTouched_n CS.2.2.2.2.2.2.2.1  B93 M O a5 h94) (fs := _) e_I rfl cv_X6_wasTouched cd_X6_wasTouched wd_5_16 ⟨Nat.le_of_ble_eq_true rfl, Nat.le_of_ble_eq_true rfl⟩ ⟨by simp only [rmd]; omega, by simp only [rmd]; omega⟩ rfl rfl (Nat.le_of_ble_eq_true rfl) dL_areAccountsRight_247 ?_
                    refine x_nmI (fun r95 er95 => ?_)
                    have hR := nmE hR er95
                    have hok := hok r95 er95
                    refine x_if_eq (pc := 250) (tgt := 258) CS dL_areAccountsRight_250 (by decide) (fun c96 => ?_) (fun c96 => ?_)
                    · have hR := hR.trans (if_pos c96)
                      have hok := hok.1 c96
                      refine x_ldcK (pc := 258) (i := 8) CS (by decide) rfl rfl dL_areAccountsRight_258 ?_
                      have h97 := hok.1
                      have hok := hok.2
                      refine x_cRV (pc := 260) (as := [.ref ((xG G 2 2).2.2.1 8)]) (q := 193) CS (c_J4_append_15ec4 CS.2.2.2.2.2.2.2.1 hGS 8 (by decide) B93 M O  h97) (fs := _) (e_D hGS) rfl cv_J4_append_15ec4 rfl cd_J4_append_15ec4 wd_6_32 ⟨Nat.le_of_ble_eq_true rfl, Nat.le_of_ble_eq_true rfl⟩ ⟨by simp only [rmd]; omega, by simp only [rmd]; omega⟩ rfl rfl (Nat.le_of_ble_eq_true rfl) dL_areAccountsRight_260 ?_
                      refine x_nmB (fun B98 eB98 => ?_)
                      have hR := nmE hR eB98
                      have hok := hok B98 eB98
                      have h100 := hok.1
                      have hok := hok.2
                      refine x_sbstr CS h100 ⟨(Nat.le_of_ble_eq_true rfl), (Nat.le_of_ble_eq_true rfl)⟩ ⟨by simp only [rmd]; omega, by simp only [rmd]; omega⟩ (Nat.le_of_ble_eq_true rfl) (fun qT hAT => ?_)
                      have CT := cx_x C hAT
                      have hGT : (xG G 3 2).2.2.2.2 2 = 3 ∧ (xG G 3 2).2.2.2.2 3 = 2 := ⟨rfl, rfl⟩
                      refine x_nmB (fun B99 eB99 => ?_)
                      have hR := nmE hR eB99
                      have hok := hok B99 eB99
                      have h101 := hok.1
                      have hok := hok.2
                      refine x_cIS (pc := 266) (as := [.ref ((xadL ad qT) 176), .int z80.1, .ref ((xadL ad qT) 193)]) CT (c_L_isLine CT.2.2.2.2.2.2.2.1 hGT B99 M O z80.1 h101) wd_6_40 cd_L_isLine wd_6_39 ⟨Nat.le_of_ble_eq_true rfl, Nat.le_of_ble_eq_true rfl⟩ ⟨by simp only [rmd]; omega, by simp only [rmd]; omega⟩ rfl rfl (Nat.le_of_ble_eq_true rfl) dL_areAccountsRight_266 ?_
                      refine x_nmI (fun r102 er102 => ?_)
                      have hR := nmE hR er102
                      have hok := hok r102 er102
                      refine x_back hG.2 ?_
                      refine x_if_eq (pc := 269) (tgt := 276) C dL_areAccountsRight_269 (by decide) (fun c103 => ?_) (fun c103 => ?_)
                      · have hR := hR.trans (if_pos c103)
                        have hok := hok.1 c103
                        refine x_iconst (pc := 276) (v := 0) C dL_areAccountsRight_276 (by decide) ?_
                        refine x_istore (pc := 277) (i := 4) (ls2 := [(4, .int 0), (2, .long v65), (8, .ref (G.2.2.1 3)), (7, .int r9), (6, .int r7), (0, .ref (ad 176)), (1, .int a1), (5, .int a5)]) C dL_areAccountsRight_277 (by decide) rfl ?_
                        refine x_iinc (pc := 279) (i := 5) (v := (a5 + 1)) (ls2 := [(5, .int (a5 + 1)), (4, .int 0), (2, .long v65), (8, .ref (G.2.2.1 3)), (7, .int r9), (6, .int r7), (0, .ref (ad 176)), (1, .int a1)]) C 7 dL_areAccountsRight_279 rfl rfl (by decide) rfl ?_
                        refine x_goto (pc := 282) (tgt := 69) C dL_areAccountsRight_282 (by decide) ?_
                        refine x_sub [6, 7, 2, 1, 0] (ls2 := [(0, .ref (ad 176)), (1, .int a1), (2, .long v65), (4, .int 0), (5, .int (a5 + 1))]) rfl ?_
                        refine x_wid (k0 := cs0 + 4) (n0 := ss0 + 124) (by omega) (by omega) ?_
                        exact ih B99 a1 v65 0 (a5 + 1) _ _ ⟨by omega, by omega⟩ R0 hR hok (x_wid (by omega) (by omega) k)
                      · have hR := hR.trans (if_neg c103)
                        have hok := hok.2 c103
                        refine x_iconst (pc := 272) (v := 1) C dL_areAccountsRight_272 (by decide) ?_
                        refine x_goto (pc := 273) (tgt := 277) C dL_areAccountsRight_273 (by decide) ?_
                        refine x_istore (pc := 277) (i := 4) (ls2 := [(4, .int 1), (2, .long v65), (8, .ref (G.2.2.1 3)), (7, .int r9), (6, .int r7), (0, .ref (ad 176)), (1, .int a1), (5, .int a5)]) C dL_areAccountsRight_277 (by decide) rfl ?_
                        refine x_iinc (pc := 279) (i := 5) (v := (a5 + 1)) (ls2 := [(5, .int (a5 + 1)), (4, .int 1), (2, .long v65), (8, .ref (G.2.2.1 3)), (7, .int r9), (6, .int r7), (0, .ref (ad 176)), (1, .int a1)]) C 7 dL_areAccountsRight_279 rfl rfl (by decide) rfl ?_
                        refine x_goto (pc := 282) (tgt := 69) C dL_areAccountsRight_282 (by decide) ?_
                        refine x_sub [6, 7, 2, 1, 0] (ls2 := [(0, .ref (ad 176)), (1, .int a1), (2, .long v65), (4, .int 1), (5, .int (a5 + 1))]) rfl ?_
                        refine x_wid (k0 := cs0 + 4) (n0 := ss0 + 124) (by omega) (by omega) ?_
                        exact ih B99 a1 v65 1 (a5 + 1) _ _ ⟨by omega, by omega⟩ R0 hR hok (x_wid (by omega) (by omega) k)
                    · have hR := hR.trans (if_neg c96)
                      have hok := hok.2 c96
                      refine x_ldcK (pc := 253) (i := 7) CS (by decide) rfl rfl dL_areAccountsRight_253 ?_
                      refine x_goto (pc := 255) (tgt := 260) CS dL_areAccountsRight_255 (by decide) ?_
                      have h104 := hok.1
                      have hok := hok.2
                      refine x_cRV (pc := 260) (as := [.ref ((xG G 2 2).2.2.1 7)]) (q := 193) CS (c_J4_append_15ec4 CS.2.2.2.2.2.2.2.1 hGS 7 (by decide) B93 M O  h104) (fs := _) (e_D hGS) rfl cv_J4_append_15ec4 rfl cd_J4_append_15ec4 wd_6_32 ⟨Nat.le_of_ble_eq_true rfl, Nat.le_of_ble_eq_true rfl⟩ ⟨by simp only [rmd]; omega, by simp only [rmd]; omega⟩ rfl rfl (Nat.le_of_ble_eq_true rfl) dL_areAccountsRight_260 ?_
                      refine x_nmB (fun B105 eB105 => ?_)
                      have hR := nmE hR eB105
                      have hok := hok B105 eB105
                      have h107 := hok.1
                      have hok := hok.2
                      refine x_sbstr CS h107 ⟨(Nat.le_of_ble_eq_true rfl), (Nat.le_of_ble_eq_true rfl)⟩ ⟨by simp only [rmd]; omega, by simp only [rmd]; omega⟩ (Nat.le_of_ble_eq_true rfl) (fun qT hAT => ?_)
                      have CT := cx_x C hAT
                      have hGT : (xG G 3 2).2.2.2.2 2 = 3 ∧ (xG G 3 2).2.2.2.2 3 = 2 := ⟨rfl, rfl⟩
                      refine x_nmB (fun B106 eB106 => ?_)
                      have hR := nmE hR eB106
                      have hok := hok B106 eB106
                      have h108 := hok.1
                      have hok := hok.2
                      refine x_cIS (pc := 266) (as := [.ref ((xadL ad qT) 176), .int z80.1, .ref ((xadL ad qT) 193)]) CT (c_L_isLine CT.2.2.2.2.2.2.2.1 hGT B106 M O z80.1 h108) wd_6_40 cd_L_isLine wd_6_39 ⟨Nat.le_of_ble_eq_true rfl, Nat.le_of_ble_eq_true rfl⟩ ⟨by simp only [rmd]; omega, by simp only [rmd]; omega⟩ rfl rfl (Nat.le_of_ble_eq_true rfl) dL_areAccountsRight_266 ?_
                      refine x_nmI (fun r109 er109 => ?_)
                      have hR := nmE hR er109
                      have hok := hok r109 er109
                      refine x_back hG.2 ?_
                      refine x_if_eq (pc := 269) (tgt := 276) C dL_areAccountsRight_269 (by decide) (fun c110 => ?_) (fun c110 => ?_)
                      · have hR := hR.trans (if_pos c110)
                        have hok := hok.1 c110
                        refine x_iconst (pc := 276) (v := 0) C dL_areAccountsRight_276 (by decide) ?_
                        refine x_istore (pc := 277) (i := 4) (ls2 := [(4, .int 0), (2, .long v65), (8, .ref (G.2.2.1 3)), (7, .int r9), (6, .int r7), (0, .ref (ad 176)), (1, .int a1), (5, .int a5)]) C dL_areAccountsRight_277 (by decide) rfl ?_
                        refine x_iinc (pc := 279) (i := 5) (v := (a5 + 1)) (ls2 := [(5, .int (a5 + 1)), (4, .int 0), (2, .long v65), (8, .ref (G.2.2.1 3)), (7, .int r9), (6, .int r7), (0, .ref (ad 176)), (1, .int a1)]) C 7 dL_areAccountsRight_279 rfl rfl (by decide) rfl ?_
                        refine x_goto (pc := 282) (tgt := 69) C dL_areAccountsRight_282 (by decide) ?_
                        refine x_sub [6, 7, 2, 1, 0] (ls2 := [(0, .ref (ad 176)), (1, .int a1), (2, .long v65), (4, .int 0), (5, .int (a5 + 1))]) rfl ?_
                        refine x_wid (k0 := cs0 + 4) (n0 := ss0 + 124) (by omega) (by omega) ?_
                        exact ih B106 a1 v65 0 (a5 + 1) _ _ ⟨by omega, by omega⟩ R0 hR hok (x_wid (by omega) (by omega) k)
                      · have hR := hR.trans (if_neg c110)
                        have hok := hok.2 c110
                        refine x_iconst (pc := 272) (v := 1) C dL_areAccountsRight_272 (by decide) ?_
                        refine x_goto (pc := 273) (tgt := 277) C dL_areAccountsRight_273 (by decide) ?_
                        refine x_istore (pc := 277) (i := 4) (ls2 := [(4, .int 1), (2, .long v65), (8, .ref (G.2.2.1 3)), (7, .int r9), (6, .int r7), (0, .ref (ad 176)), (1, .int a1), (5, .int a5)]) C dL_areAccountsRight_277 (by decide) rfl ?_
                        refine x_iinc (pc := 279) (i := 5) (v := (a5 + 1)) (ls2 := [(5, .int (a5 + 1)), (4, .int 1), (2, .long v65), (8, .ref (G.2.2.1 3)), (7, .int r9), (6, .int r7), (0, .ref (ad 176)), (1, .int a1)]) C 7 dL_areAccountsRight_279 rfl rfl (by decide) rfl ?_
                        refine x_goto (pc := 282) (tgt := 69) C dL_areAccountsRight_282 (by decide) ?_
                        refine x_sub [6, 7, 2, 1, 0] (ls2 := [(0, .ref (ad 176)), (1, .int a1), (2, .long v65), (4, .int 1), (5, .int (a5 + 1))]) rfl ?_
                        refine x_wid (k0 := cs0 + 4) (n0 := ss0 + 124) (by omega) (by omega) ?_
                        exact ih B106 a1 v65 1 (a5 + 1) _ _ ⟨by omega, by omega⟩ R0 hR hok (x_wid (by omega) (by omega) k)
        · have hR := hR.trans (if_pos c15)
          have hok := hok.1 c15
          refine x_ldcK (pc := 115) (i := 2) C (by decide) rfl rfl dL_areAccountsRight_115 ?_
          refine x_goto (pc := 117) (tgt := 137) C dL_areAccountsRight_117 (by decide) ?_
          refine x_astore (pc := 137) (i := 8) (ls2 := [(8, .ref (G.2.2.1 2)), (7, .int r9), (6, .int r7), (0, .ref (ad 176)), (1, .int a1), (2, .long a2), (4, .int a4), (5, .int a5)]) C dL_areAccountsRight_137 (by decide) rfl ?_
          refine x_lload_n (pc := 139) (i := 2) C 5 dL_areAccountsRight_139 rfl rfl ?_
          refine x_iload (pc := 140) (i := 6) C 2 dL_areAccountsRight_140 rfl ?_
          refine x_i2l (pc := 142) C dL_areAccountsRight_142 ?_
          refine x_ladd (pc := 143) C dL_areAccountsRight_143 ?_
          refine x_nmL (fun v111 ev111 => ?_)
          have hR := nmE hR ev111
          have hok := hok v111 ev111
          refine x_lstore_n (pc := 144) (i := 2) (ls2 := [(2, .long v111), (8, .ref (G.2.2.1 2)), (7, .int r9), (6, .int r7), (0, .ref (ad 176)), (1, .int a1), (4, .int a4), (5, .int a5)]) C dL_areAccountsRight_144 rfl (by decide) rfl ?_
          refine x_iload (pc := 145) (i := 4) C 6 dL_areAccountsRight_145 rfl ?_
          refine x_if_eq (pc := 147) (tgt := 276) C dL_areAccountsRight_147 (by decide) (fun c112 => ?_) (fun c112 => ?_)
          · have hR := hR.trans (if_pos c112)
            have hok := hok.1 c112
            refine x_iconst (pc := 276) (v := 0) C dL_areAccountsRight_276 (by decide) ?_
            refine x_istore (pc := 277) (i := 4) (ls2 := [(4, .int 0), (2, .long v111), (8, .ref (G.2.2.1 2)), (7, .int r9), (6, .int r7), (0, .ref (ad 176)), (1, .int a1), (5, .int a5)]) C dL_areAccountsRight_277 (by decide) rfl ?_
            refine x_iinc (pc := 279) (i := 5) (v := (a5 + 1)) (ls2 := [(5, .int (a5 + 1)), (4, .int 0), (2, .long v111), (8, .ref (G.2.2.1 2)), (7, .int r9), (6, .int r7), (0, .ref (ad 176)), (1, .int a1)]) C 7 dL_areAccountsRight_279 rfl rfl (by decide) rfl ?_
            refine x_goto (pc := 282) (tgt := 69) C dL_areAccountsRight_282 (by decide) ?_
            refine x_sub [6, 7, 2, 1, 0] (ls2 := [(0, .ref (ad 176)), (1, .int a1), (2, .long v111), (4, .int 0), (5, .int (a5 + 1))]) rfl ?_
            refine x_wid (k0 := cs0 + 4) (n0 := ss0 + 124) (by omega) (by omega) ?_
            exact ih B a1 v111 0 (a5 + 1) _ _ ⟨by omega, by omega⟩ R0 hR hok (x_wid (by omega) (by omega) k)
          · have hR := hR.trans (if_neg c112)
            have hok := hok.2 c112
            refine x_aload_n (pc := 150) (i := 0) C 4 dL_areAccountsRight_150 rfl rfl ?_
            refine x_iload (pc := 151) (i := 5) C 7 dL_areAccountsRight_151 rfl ?_
            have h113 := hok.1
            have hok := hok.2
            refine x_cIV (pc := 153) (as := [.int a5]) (q := 176) C (c_X6_availableIn_n C.2.2.2.2.2.2.2.1  B M O a5 h113) (fs := _) e_I rfl cv_X6_availableIn cd_X6_availableIn wd_5_6 ⟨Nat.le_of_ble_eq_true rfl, Nat.le_of_ble_eq_true rfl⟩ ⟨by simp only [rmd]; omega, by simp only [rmd]; omega⟩ rfl rfl (Nat.le_of_ble_eq_true rfl) dL_areAccountsRight_153 ?_
            refine x_nmI (fun r114 er114 => ?_)
            have hR := nmE hR er114
            have hok := hok r114 er114
            refine x_iload (pc := 156) (i := 6) C 3 dL_areAccountsRight_156 rfl ?_
            refine x_iload (pc := 158) (i := 7) C 2 dL_areAccountsRight_158 rfl ?_
            refine x_iadd (pc := 160) C dL_areAccountsRight_160 ?_
            refine x_icmp_ne (pc := 161) (tgt := 276) C dL_areAccountsRight_161 (by decide) (fun c115 => ?_) (fun c115 => ?_)
            · have hR := hR.trans (if_neg c115)
              have hok := hok.2 c115
              refine x_iconst (pc := 276) (v := 0) C dL_areAccountsRight_276 (by decide) ?_
              refine x_istore (pc := 277) (i := 4) (ls2 := [(4, .int 0), (2, .long v111), (8, .ref (G.2.2.1 2)), (7, .int r9), (6, .int r7), (0, .ref (ad 176)), (1, .int a1), (5, .int a5)]) C dL_areAccountsRight_277 (by decide) rfl ?_
              refine x_iinc (pc := 279) (i := 5) (v := (a5 + 1)) (ls2 := [(5, .int (a5 + 1)), (4, .int 0), (2, .long v111), (8, .ref (G.2.2.1 2)), (7, .int r9), (6, .int r7), (0, .ref (ad 176)), (1, .int a1)]) C 7 dL_areAccountsRight_279 rfl rfl (by decide) rfl ?_
              refine x_goto (pc := 282) (tgt := 69) C dL_areAccountsRight_282 (by decide) ?_
              refine x_sub [6, 7, 2, 1, 0] (ls2 := [(0, .ref (ad 176)), (1, .int a1), (2, .long v111), (4, .int 0), (5, .int (a5 + 1))]) rfl ?_
              refine x_wid (k0 := cs0 + 4) (n0 := ss0 + 124) (by omega) (by omega) ?_
              exact ih B a1 v111 0 (a5 + 1) _ _ ⟨by omega, by omega⟩ R0 hR hok (x_wid (by omega) (by omega) k)
            · have hR := hR.trans (if_pos c115)
              have hok := hok.1 c115
              refine x_iload (pc := 164) (i := 6) C 3 dL_areAccountsRight_164 rfl ?_
              refine x_iload (pc := 166) (i := 7) C 2 dL_areAccountsRight_166 rfl ?_
              refine x_iadd (pc := 168) C dL_areAccountsRight_168 ?_
              refine x_if_lt (pc := 169) (tgt := 276) C dL_areAccountsRight_169 (by decide) (fun c116 => ?_) (fun c116 => ?_)
              · have hR := hR.trans (if_pos c116)
                have hok := hok.1 c116
                refine x_iconst (pc := 276) (v := 0) C dL_areAccountsRight_276 (by decide) ?_
                refine x_istore (pc := 277) (i := 4) (ls2 := [(4, .int 0), (2, .long v111), (8, .ref (G.2.2.1 2)), (7, .int r9), (6, .int r7), (0, .ref (ad 176)), (1, .int a1), (5, .int a5)]) C dL_areAccountsRight_277 (by decide) rfl ?_
                refine x_iinc (pc := 279) (i := 5) (v := (a5 + 1)) (ls2 := [(5, .int (a5 + 1)), (4, .int 0), (2, .long v111), (8, .ref (G.2.2.1 2)), (7, .int r9), (6, .int r7), (0, .ref (ad 176)), (1, .int a1)]) C 7 dL_areAccountsRight_279 rfl rfl (by decide) rfl ?_
                refine x_goto (pc := 282) (tgt := 69) C dL_areAccountsRight_282 (by decide) ?_
                refine x_sub [6, 7, 2, 1, 0] (ls2 := [(0, .ref (ad 176)), (1, .int a1), (2, .long v111), (4, .int 0), (5, .int (a5 + 1))]) rfl ?_
                refine x_wid (k0 := cs0 + 4) (n0 := ss0 + 124) (by omega) (by omega) ?_
                exact ih B a1 v111 0 (a5 + 1) _ _ ⟨by omega, by omega⟩ R0 hR hok (x_wid (by omega) (by omega) k)
              · have hR := hR.trans (if_neg c116)
                have hok := hok.2 c116
                refine x_aload_n (pc := 172) (i := 0) C 4 dL_areAccountsRight_172 rfl rfl ?_
                refine x_iload (pc := 173) (i := 5) C 7 dL_areAccountsRight_173 rfl ?_
                have h117 := hok.1
                have hok := hok.2
                refine x_cIV (pc := 175) (as := [.int a5]) (q := 176) C (c_X6_interestOf_n C.2.2.2.2.2.2.2.1  B M O a5 h117) (fs := _) e_I rfl cv_X6_interestOf cd_X6_interestOf wd_5_11 ⟨Nat.le_of_ble_eq_true rfl, Nat.le_of_ble_eq_true rfl⟩ ⟨by simp only [rmd]; omega, by simp only [rmd]; omega⟩ rfl rfl (Nat.le_of_ble_eq_true rfl) dL_areAccountsRight_175 ?_
                refine x_nmI (fun r118 er118 => ?_)
                have hR := nmE hR er118
                have hok := hok r118 er118
                refine x_aload_n (pc := 178) (i := 0) C 4 dL_areAccountsRight_178 rfl rfl ?_
                refine x_iload (pc := 179) (i := 5) C 7 dL_areAccountsRight_179 rfl ?_
                have h119 := hok.1
                have hok := hok.2
                refine x_cIV (pc := 181) (as := [.int a5]) (q := 176) C (c_X6_kindOf_n C.2.2.2.2.2.2.2.1  B M O a5 h119) (fs := _) e_I rfl cv_X6_kindOf cd_X6_kindOf wd_4_238 ⟨Nat.le_of_ble_eq_true rfl, Nat.le_of_ble_eq_true rfl⟩ ⟨by simp only [rmd]; omega, by simp only [rmd]; omega⟩ rfl rfl (Nat.le_of_ble_eq_true rfl) dL_areAccountsRight_181 ?_
                refine x_nmI (fun r120 er120 => ?_)
                have hR := nmE hR er120
                have hok := hok r120 er120
                refine x_iload (pc := 184) (i := 6) C 3 dL_areAccountsRight_184 rfl ?_
                refine x_iload (pc := 186) (i := 7) C 2 dL_areAccountsRight_186 rfl ?_
                refine x_aload_n (pc := 188) (i := 0) C 4 dL_areAccountsRight_188 rfl rfl ?_
                refine x_iload (pc := 189) (i := 5) C 7 dL_areAccountsRight_189 rfl ?_
                have h121 := hok.1
                have hok := hok.2
                refine x_cIV (pc := 191) (as := [.int a5]) (q := 176) C (c_X6_wasTouched_n C.2.2.2.2.2.2.2.1  B M O a5 h121) (fs := _) e_I rfl cv_X6_wasTouched cd_X6_wasTouched wd_5_16 ⟨Nat.le_of_ble_eq_true rfl, Nat.le_of_ble_eq_true rfl⟩ ⟨by simp only [rmd]; omega, by simp only [rmd]; omega⟩ rfl rfl (Nat.le_of_ble_eq_true rfl) dL_areAccountsRight_191 ?_
                refine x_nmI (fun r122 er122 => ?_)
                have hR := nmE hR er122
                have hok := hok r122 er122
                refine x_cIS (pc := 194) (as := [.int r120, .int r7, .int r9, .int r122]) C (c_L_interest C.2.2.2.2.2.2.2.1  B M O r120 r7 r9 r122) wd_5_21 cd_L_interest wd_5_20 ⟨Nat.le_of_ble_eq_true rfl, Nat.le_of_ble_eq_true rfl⟩ ⟨by simp only [rmd]; omega, by simp only [rmd]; omega⟩ rfl rfl (Nat.le_of_ble_eq_true rfl) dL_areAccountsRight_194 ?_
                refine x_nmI (fun r123 er123 => ?_)
                have hR := nmE hR er123
                have hok := hok r123 er123
                refine x_icmp_ne (pc := 197) (tgt := 276) C dL_areAccountsRight_197 (by decide) (fun c124 => ?_) (fun c124 => ?_)
                · have hR := hR.trans (if_neg c124)
                  have hok := hok.2 c124
                  refine x_iconst (pc := 276) (v := 0) C dL_areAccountsRight_276 (by decide) ?_
                  refine x_istore (pc := 277) (i := 4) (ls2 := [(4, .int 0), (2, .long v111), (8, .ref (G.2.2.1 2)), (7, .int r9), (6, .int r7), (0, .ref (ad 176)), (1, .int a1), (5, .int a5)]) C dL_areAccountsRight_277 (by decide) rfl ?_
                  refine x_iinc (pc := 279) (i := 5) (v := (a5 + 1)) (ls2 := [(5, .int (a5 + 1)), (4, .int 0), (2, .long v111), (8, .ref (G.2.2.1 2)), (7, .int r9), (6, .int r7), (0, .ref (ad 176)), (1, .int a1)]) C 7 dL_areAccountsRight_279 rfl rfl (by decide) rfl ?_
                  refine x_goto (pc := 282) (tgt := 69) C dL_areAccountsRight_282 (by decide) ?_
                  refine x_sub [6, 7, 2, 1, 0] (ls2 := [(0, .ref (ad 176)), (1, .int a1), (2, .long v111), (4, .int 0), (5, .int (a5 + 1))]) rfl ?_
                  refine x_wid (k0 := cs0 + 4) (n0 := ss0 + 124) (by omega) (by omega) ?_
                  exact ih B a1 v111 0 (a5 + 1) _ _ ⟨by omega, by omega⟩ R0 hR hok (x_wid (by omega) (by omega) k)
                · have hR := hR.trans (if_pos c124)
                  have hok := hok.1 c124
                  refine x_aload_n (pc := 200) (i := 0) C 4 dL_areAccountsRight_200 rfl rfl ?_
                  refine x_aload_n (pc := 201) (i := 0) C 4 dL_areAccountsRight_201 rfl rfl ?_
                  refine x_iload (pc := 202) (i := 5) C 7 dL_areAccountsRight_202 rfl ?_
                  have h125 := hok.1
                  have hok := hok.2
                  refine x_cIV (pc := 204) (as := [.int a5]) (q := 176) C (c_X6_writeStatement_n C.2.2.2.2.2.2.2.1  B M O a5 h125) (fs := _) e_I rfl cv_X6_writeStatement cd_X6_writeStatement wd_5_24 ⟨Nat.le_of_ble_eq_true rfl, Nat.le_of_ble_eq_true rfl⟩ ⟨by simp only [rmd]; omega, by simp only [rmd]; omega⟩ rfl rfl (Nat.le_of_ble_eq_true rfl) dL_areAccountsRight_204 ?_
                  refine x_nmIB (fun z126 ez126 => ?_)
                  have hR := nmE hR ez126
                  have hok := hok z126 ez126
                  refine x_sbnew C hG.2 ⟨(Nat.le_of_ble_eq_true rfl), (Nat.le_of_ble_eq_true rfl)⟩ ⟨by simp only [rmd]; omega, by simp only [rmd]; omega⟩ (Nat.le_of_ble_eq_true rfl) (fun qS hAS => ?_)
                  have CS := cx_x C hAS
                  have hGS : (xG G 2 2).2.2.2.2 2 = 2 ∧ (xG G 2 2).2.2.2.2 3 = 2 := ⟨rfl, rfl⟩
                  refine x_nmB (fun B127 eB127 => ?_)
                  have hR := nmE hR eB127
                  have hok := hok B127 eB127
                  refine x_aload (pc := 214) (i := 8) CS 1 dL_areAccountsRight_214 rfl ?_
                  have h128 := hok.1
                  have hok := hok.2
                  refine x_cRV (pc := 216) (as := [.ref ((xG G 2 2).2.2.1 2)]) (q := 193) CS (c_J4_append_15ec4 CS.2.2.2.2.2.2.2.1 hGS 2 (by decide) B127 M O  h128) (fs := _) (e_D hGS) rfl cv_J4_append_15ec4 rfl cd_J4_append_15ec4 wd_6_32 ⟨Nat.le_of_ble_eq_true rfl, Nat.le_of_ble_eq_true rfl⟩ ⟨by simp only [rmd]; omega, by simp only [rmd]; omega⟩ rfl rfl (Nat.le_of_ble_eq_true rfl) dL_areAccountsRight_216 ?_
                  refine x_nmB (fun B129 eB129 => ?_)
                  have hR := nmE hR eB129
                  have hok := hok B129 eB129
                  refine x_iload (pc := 219) (i := 5) CS 7 dL_areAccountsRight_219 rfl ?_
                  have h130 := hok.1
                  have hok := hok.2
                  refine x_cRV (pc := 221) (as := [.int a5]) (q := 193) CS (c_J4_append_bf812_D CS.2.2.2.2.2.2.2.1 hGS B129 M O a5 h130) (fs := _) (e_D hGS) rfl cv_J4_append_bf812 rfl cd_J4_append_bf812 wd_6_33 ⟨Nat.le_of_ble_eq_true rfl, Nat.le_of_ble_eq_true rfl⟩ ⟨by simp only [rmd]; omega, by simp only [rmd]; omega⟩ rfl rfl (Nat.le_of_ble_eq_true rfl) dL_areAccountsRight_221 ?_
                  refine x_nmB (fun B131 eB131 => ?_)
                  have hR := nmE hR eB131
                  have hok := hok B131 eB131
                  refine x_ldcK (pc := 224) (i := 5) CS (by decide) rfl rfl dL_areAccountsRight_224 ?_
                  have h132 := hok.1
                  have hok := hok.2
                  refine x_cRV (pc := 226) (as := [.ref ((xG G 2 2).2.2.1 5)]) (q := 193) CS (c_J4_append_15ec4 CS.2.2.2.2.2.2.2.1 hGS 5 (by decide) B131 M O  h132) (fs := _) (e_D hGS) rfl cv_J4_append_15ec4 rfl cd_J4_append_15ec4 wd_6_32 ⟨Nat.le_of_ble_eq_true rfl, Nat.le_of_ble_eq_true rfl⟩ ⟨by simp only [rmd]; omega, by simp only [rmd]; omega⟩ rfl rfl (Nat.le_of_ble_eq_true rfl) dL_areAccountsRight_226 ?_
                  refine x_nmB (fun B133 eB133 => ?_)
                  have hR := nmE hR eB133
                  have hok := hok B133 eB133
                  refine x_iload (pc := 229) (i := 6) CS 3 dL_areAccountsRight_229 rfl ?_
                  have h134 := hok.1
                  have hok := hok.2
                  refine x_cRV (pc := 231) (as := [.int r7]) (q := 193) CS (c_J4_append_bf812_D CS.2.2.2.2.2.2.2.1 hGS B133 M O r7 h134) (fs := _) (e_D hGS) rfl cv_J4_append_bf812 rfl cd_J4_append_bf812 wd_6_33 ⟨Nat.le_of_ble_eq_true rfl, Nat.le_of_ble_eq_true rfl⟩ ⟨by simp only [rmd]; omega, by simp only [rmd]; omega⟩ rfl rfl (Nat.le_of_ble_eq_true rfl) dL_areAccountsRight_231 ?_
                  refine x_nmB (fun B135 eB135 => ?_)
                  have hR := nmE hR eB135
                  have hok := hok B135 eB135
                  refine x_ldcK (pc := 234) (i := 6) CS (by decide) rfl rfl dL_areAccountsRight_234 ?_
                  have h136 := hok.1
                  have hok := hok.2
                  refine x_cRV (pc := 236) (as := [.ref ((xG G 2 2).2.2.1 6)]) (q := 193) CS (c_J4_append_15ec4 CS.2.2.2.2.2.2.2.1 hGS 6 (by decide) B135 M O  h136) (fs := _) (e_D hGS) rfl cv_J4_append_15ec4 rfl cd_J4_append_15ec4 wd_6_32 ⟨Nat.le_of_ble_eq_true rfl, Nat.le_of_ble_eq_true rfl⟩ ⟨by simp only [rmd]; omega, by simp only [rmd]; omega⟩ rfl rfl (Nat.le_of_ble_eq_true rfl) dL_areAccountsRight_236 ?_
                  refine x_nmB (fun B137 eB137 => ?_)
                  have hR := nmE hR eB137
                  have hok := hok B137 eB137
                  refine x_iload (pc := 239) (i := 7) CS 2 dL_areAccountsRight_239 rfl ?_
                  have h138 := hok.1
                  have hok := hok.2
                  refine x_cRV (pc := 241) (as := [.int r9]) (q := 193) CS (c_J4_append_bf812_D CS.2.2.2.2.2.2.2.1 hGS B137 M O r9 h138) (fs := _) (e_D hGS) rfl cv_J4_append_bf812 rfl cd_J4_append_bf812 wd_6_33 ⟨Nat.le_of_ble_eq_true rfl, Nat.le_of_ble_eq_true rfl⟩ ⟨by simp only [rmd]; omega, by simp only [rmd]; omega⟩ rfl rfl (Nat.le_of_ble_eq_true rfl) dL_areAccountsRight_241 ?_
                  refine x_nmB (fun B139 eB139 => ?_)
                  have hR := nmE hR eB139
                  have hok := hok B139 eB139
                  refine x_aload_n (pc := 244) (i := 0) CS 4 dL_areAccountsRight_244 rfl rfl ?_
                  refine x_iload (pc := 245) (i := 5) CS 7 dL_areAccountsRight_245 rfl ?_
                  have h140 := hok.1
                  have hok := hok.2
                  refine x_cIV (pc := 247) (as := [.int a5]) (q := 176) CS (c_X6_wasTouched_n CS.2.2.2.2.2.2.2.1  B139 M O a5 h140) (fs := _) e_I rfl cv_X6_wasTouched cd_X6_wasTouched wd_5_16 ⟨Nat.le_of_ble_eq_true rfl, Nat.le_of_ble_eq_true rfl⟩ ⟨by simp only [rmd]; omega, by simp only [rmd]; omega⟩ rfl rfl (Nat.le_of_ble_eq_true rfl) dL_areAccountsRight_247 ?_
                  refine x_nmI (fun r141 er141 => ?_)
                  have hR := nmE hR er141
                  have hok := hok r141 er141
                  refine x_if_eq (pc := 250) (tgt := 258) CS dL_areAccountsRight_250 (by decide) (fun c142 => ?_) (fun c142 => ?_)
                  · have hR := hR.trans (if_pos c142)
                    have hok := hok.1 c142
                    refine x_ldcK (pc := 258) (i := 8) CS (by decide) rfl rfl dL_areAccountsRight_258 ?_
                    have h143 := hok.1
                    have hok := hok.2
                    refine x_cRV (pc := 260) (as := [.ref ((xG G 2 2).2.2.1 8)]) (q := 193) CS (c_J4_append_15ec4 CS.2.2.2.2.2.2.2.1 hGS 8 (by decide) B139 M O  h143) (fs := _) (e_D hGS) rfl cv_J4_append_15ec4 rfl cd_J4_append_15ec4 wd_6_32 ⟨Nat.le_of_ble_eq_true rfl, Nat.le_of_ble_eq_true rfl⟩ ⟨by simp only [rmd]; omega, by simp only [rmd]; omega⟩ rfl rfl (Nat.le_of_ble_eq_true rfl) dL_areAccountsRight_260 ?_
                    refine x_nmB (fun B144 eB144 => ?_)
                    have hR := nmE hR eB144
                    have hok := hok B144 eB144
                    have h146 := hok.1
                    have hok := hok.2
                    refine x_sbstr CS h146 ⟨(Nat.le_of_ble_eq_true rfl), (Nat.le_of_ble_eq_true rfl)⟩ ⟨by simp only [rmd]; omega, by simp only [rmd]; omega⟩ (Nat.le_of_ble_eq_true rfl) (fun qT hAT => ?_)
                    have CT := cx_x C hAT
                    have hGT : (xG G 3 2).2.2.2.2 2 = 3 ∧ (xG G 3 2).2.2.2.2 3 = 2 := ⟨rfl, rfl⟩
                    refine x_nmB (fun B145 eB145 => ?_)
                    have hR := nmE hR eB145
                    have hok := hok B145 eB145
                    have h147 := hok.1
                    have hok := hok.2
                    refine x_cIS (pc := 266) (as := [.ref ((xadL ad qT) 176), .int z126.1, .ref ((xadL ad qT) 193)]) CT (c_L_isLine CT.2.2.2.2.2.2.2.1 hGT B145 M O z126.1 h147) wd_6_40 cd_L_isLine wd_6_39 ⟨Nat.le_of_ble_eq_true rfl, Nat.le_of_ble_eq_true rfl⟩ ⟨by simp only [rmd]; omega, by simp only [rmd]; omega⟩ rfl rfl (Nat.le_of_ble_eq_true rfl) dL_areAccountsRight_266 ?_
                    refine x_nmI (fun r148 er148 => ?_)
                    have hR := nmE hR er148
                    have hok := hok r148 er148
                    refine x_back hG.2 ?_
                    refine x_if_eq (pc := 269) (tgt := 276) C dL_areAccountsRight_269 (by decide) (fun c149 => ?_) (fun c149 => ?_)
                    · have hR := hR.trans (if_pos c149)
                      have hok := hok.1 c149
                      refine x_iconst (pc := 276) (v := 0) C dL_areAccountsRight_276 (by decide) ?_
                      refine x_istore (pc := 277) (i := 4) (ls2 := [(4, .int 0), (2, .long v111), (8, .ref (G.2.2.1 2)), (7, .int r9), (6, .int r7), (0, .ref (ad 176)), (1, .int a1), (5, .int a5)]) C dL_areAccountsRight_277 (by decide) rfl ?_
                      refine x_iinc (pc := 279) (i := 5) (v := (a5 + 1)) (ls2 := [(5, .int (a5 + 1)), (4, .int 0), (2, .long v111), (8, .ref (G.2.2.1 2)), (7, .int r9), (6, .int r7), (0, .ref (ad 176)), (1, .int a1)]) C 7 dL_areAccountsRight_279 rfl rfl (by decide) rfl ?_
                      refine x_goto (pc := 282) (tgt := 69) C dL_areAccountsRight_282 (by decide) ?_
                      refine x_sub [6, 7, 2, 1, 0] (ls2 := [(0, .ref (ad 176)), (1, .int a1), (2, .long v111), (4, .int 0), (5, .int (a5 + 1))]) rfl ?_
                      refine x_wid (k0 := cs0 + 4) (n0 := ss0 + 124) (by omega) (by omega) ?_
                      exact ih B145 a1 v111 0 (a5 + 1) _ _ ⟨by omega, by omega⟩ R0 hR hok (x_wid (by omega) (by omega) k)
                    · have hR := hR.trans (if_neg c149)
                      have hok := hok.2 c149
                      refine x_iconst (pc := 272) (v := 1) C dL_areAccountsRight_272 (by decide) ?_
                      refine x_goto (pc := 273) (tgt := 277) C dL_areAccountsRight_273 (by decide) ?_
                      refine x_istore (pc := 277) (i := 4) (ls2 := [(4, .int 1), (2, .long v111), (8, .ref (G.2.2.1 2)), (7, .int r9), (6, .int r7), (0, .ref (ad 176)), (1, .int a1), (5, .int a5)]) C dL_areAccountsRight_277 (by decide) rfl ?_
                      refine x_iinc (pc := 279) (i := 5) (v := (a5 + 1)) (ls2 := [(5, .int (a5 + 1)), (4, .int 1), (2, .long v111), (8, .ref (G.2.2.1 2)), (7, .int r9), (6, .int r7), (0, .ref (ad 176)), (1, .int a1)]) C 7 dL_areAccountsRight_279 rfl rfl (by decide) rfl ?_
                      refine x_goto (pc := 282) (tgt := 69) C dL_areAccountsRight_282 (by decide) ?_
                      refine x_sub [6, 7, 2, 1, 0] (ls2 := [(0, .ref (ad 176)), (1, .int a1), (2, .long v111), (4, .int 1), (5, .int (a5 + 1))]) rfl ?_
                      refine x_wid (k0 := cs0 + 4) (n0 := ss0 + 124) (by omega) (by omega) ?_
                      exact ih B145 a1 v111 1 (a5 + 1) _ _ ⟨by omega, by omega⟩ R0 hR hok (x_wid (by omega) (by omega) k)
                  · have hR := hR.trans (if_neg c142)
                    have hok := hok.2 c142
                    refine x_ldcK (pc := 253) (i := 7) CS (by decide) rfl rfl dL_areAccountsRight_253 ?_
                    refine x_goto (pc := 255) (tgt := 260) CS dL_areAccountsRight_255 (by decide) ?_
                    have h150 := hok.1
                    have hok := hok.2
                    refine x_cRV (pc := 260) (as := [.ref ((xG G 2 2).2.2.1 7)]) (q := 193) CS (c_J4_append_15ec4 CS.2.2.2.2.2.2.2.1 hGS 7 (by decide) B139 M O  h150) (fs := _) (e_D hGS) rfl cv_J4_append_15ec4 rfl cd_J4_append_15ec4 wd_6_32 ⟨Nat.le_of_ble_eq_true rfl, Nat.le_of_ble_eq_true rfl⟩ ⟨by simp only [rmd]; omega, by simp only [rmd]; omega⟩ rfl rfl (Nat.le_of_ble_eq_true rfl) dL_areAccountsRight_260 ?_
                    refine x_nmB (fun B151 eB151 => ?_)
                    have hR := nmE hR eB151
                    have hok := hok B151 eB151
                    have h153 := hok.1
                    have hok := hok.2
                    refine x_sbstr CS h153 ⟨(Nat.le_of_ble_eq_true rfl), (Nat.le_of_ble_eq_true rfl)⟩ ⟨by simp only [rmd]; omega, by simp only [rmd]; omega⟩ (Nat.le_of_ble_eq_true rfl) (fun qT hAT => ?_)
                    have CT := cx_x C hAT
                    have hGT : (xG G 3 2).2.2.2.2 2 = 3 ∧ (xG G 3 2).2.2.2.2 3 = 2 := ⟨rfl, rfl⟩
                    refine x_nmB (fun B152 eB152 => ?_)
                    have hR := nmE hR eB152
                    have hok := hok B152 eB152
                    have h154 := hok.1
                    have hok := hok.2
                    refine x_cIS (pc := 266) (as := [.ref ((xadL ad qT) 176), .int z126.1, .ref ((xadL ad qT) 193)]) CT (c_L_isLine CT.2.2.2.2.2.2.2.1 hGT B152 M O z126.1 h154) wd_6_40 cd_L_isLine wd_6_39 ⟨Nat.le_of_ble_eq_true rfl, Nat.le_of_ble_eq_true rfl⟩ ⟨by simp only [rmd]; omega, by simp only [rmd]; omega⟩ rfl rfl (Nat.le_of_ble_eq_true rfl) dL_areAccountsRight_266 ?_
                    refine x_nmI (fun r155 er155 => ?_)
                    have hR := nmE hR er155
                    have hok := hok r155 er155
                    refine x_back hG.2 ?_
                    refine x_if_eq (pc := 269) (tgt := 276) C dL_areAccountsRight_269 (by decide) (fun c156 => ?_) (fun c156 => ?_)
                    · have hR := hR.trans (if_pos c156)
                      have hok := hok.1 c156
                      refine x_iconst (pc := 276) (v := 0) C dL_areAccountsRight_276 (by decide) ?_
                      refine x_istore (pc := 277) (i := 4) (ls2 := [(4, .int 0), (2, .long v111), (8, .ref (G.2.2.1 2)), (7, .int r9), (6, .int r7), (0, .ref (ad 176)), (1, .int a1), (5, .int a5)]) C dL_areAccountsRight_277 (by decide) rfl ?_
                      refine x_iinc (pc := 279) (i := 5) (v := (a5 + 1)) (ls2 := [(5, .int (a5 + 1)), (4, .int 0), (2, .long v111), (8, .ref (G.2.2.1 2)), (7, .int r9), (6, .int r7), (0, .ref (ad 176)), (1, .int a1)]) C 7 dL_areAccountsRight_279 rfl rfl (by decide) rfl ?_
                      refine x_goto (pc := 282) (tgt := 69) C dL_areAccountsRight_282 (by decide) ?_
                      refine x_sub [6, 7, 2, 1, 0] (ls2 := [(0, .ref (ad 176)), (1, .int a1), (2, .long v111), (4, .int 0), (5, .int (a5 + 1))]) rfl ?_
                      refine x_wid (k0 := cs0 + 4) (n0 := ss0 + 124) (by omega) (by omega) ?_
                      exact ih B152 a1 v111 0 (a5 + 1) _ _ ⟨by omega, by omega⟩ R0 hR hok (x_wid (by omega) (by omega) k)
                    · have hR := hR.trans (if_neg c156)
                      have hok := hok.2 c156
                      refine x_iconst (pc := 272) (v := 1) C dL_areAccountsRight_272 (by decide) ?_
                      refine x_goto (pc := 273) (tgt := 277) C dL_areAccountsRight_273 (by decide) ?_
                      refine x_istore (pc := 277) (i := 4) (ls2 := [(4, .int 1), (2, .long v111), (8, .ref (G.2.2.1 2)), (7, .int r9), (6, .int r7), (0, .ref (ad 176)), (1, .int a1), (5, .int a5)]) C dL_areAccountsRight_277 (by decide) rfl ?_
                      refine x_iinc (pc := 279) (i := 5) (v := (a5 + 1)) (ls2 := [(5, .int (a5 + 1)), (4, .int 1), (2, .long v111), (8, .ref (G.2.2.1 2)), (7, .int r9), (6, .int r7), (0, .ref (ad 176)), (1, .int a1)]) C 7 dL_areAccountsRight_279 rfl rfl (by decide) rfl ?_
                      refine x_goto (pc := 282) (tgt := 69) C dL_areAccountsRight_282 (by decide) ?_
                      refine x_sub [6, 7, 2, 1, 0] (ls2 := [(0, .ref (ad 176)), (1, .int a1), (2, .long v111), (4, .int 1), (5, .int (a5 + 1))]) rfl ?_
                      refine x_wid (k0 := cs0 + 4) (n0 := ss0 + 124) (by omega) (by omega) ?_
                      exact ih B152 a1 v111 1 (a5 + 1) _ _ ⟨by omega, by omega⟩ R0 hR hok (x_wid (by omega) (by omega) k)
      · have hR := hR.trans (if_pos c12)
        have hok := hok.1 c12
        refine x_ldcK (pc := 100) (i := 1) C (by decide) rfl rfl dL_areAccountsRight_100 ?_
        refine x_goto (pc := 102) (tgt := 137) C dL_areAccountsRight_102 (by decide) ?_
        refine x_astore (pc := 137) (i := 8) (ls2 := [(8, .ref (G.2.2.1 1)), (7, .int r9), (6, .int r7), (0, .ref (ad 176)), (1, .int a1), (2, .long a2), (4, .int a4), (5, .int a5)]) C dL_areAccountsRight_137 (by decide) rfl ?_
        refine x_lload_n (pc := 139) (i := 2) C 5 dL_areAccountsRight_139 rfl rfl ?_
        refine x_iload (pc := 140) (i := 6) C 2 dL_areAccountsRight_140 rfl ?_
        refine x_i2l (pc := 142) C dL_areAccountsRight_142 ?_
        refine x_ladd (pc := 143) C dL_areAccountsRight_143 ?_
        refine x_nmL (fun v157 ev157 => ?_)
        have hR := nmE hR ev157
        have hok := hok v157 ev157
        refine x_lstore_n (pc := 144) (i := 2) (ls2 := [(2, .long v157), (8, .ref (G.2.2.1 1)), (7, .int r9), (6, .int r7), (0, .ref (ad 176)), (1, .int a1), (4, .int a4), (5, .int a5)]) C dL_areAccountsRight_144 rfl (by decide) rfl ?_
        refine x_iload (pc := 145) (i := 4) C 6 dL_areAccountsRight_145 rfl ?_
        refine x_if_eq (pc := 147) (tgt := 276) C dL_areAccountsRight_147 (by decide) (fun c158 => ?_) (fun c158 => ?_)
        · have hR := hR.trans (if_pos c158)
          have hok := hok.1 c158
          refine x_iconst (pc := 276) (v := 0) C dL_areAccountsRight_276 (by decide) ?_
          refine x_istore (pc := 277) (i := 4) (ls2 := [(4, .int 0), (2, .long v157), (8, .ref (G.2.2.1 1)), (7, .int r9), (6, .int r7), (0, .ref (ad 176)), (1, .int a1), (5, .int a5)]) C dL_areAccountsRight_277 (by decide) rfl ?_
          refine x_iinc (pc := 279) (i := 5) (v := (a5 + 1)) (ls2 := [(5, .int (a5 + 1)), (4, .int 0), (2, .long v157), (8, .ref (G.2.2.1 1)), (7, .int r9), (6, .int r7), (0, .ref (ad 176)), (1, .int a1)]) C 7 dL_areAccountsRight_279 rfl rfl (by decide) rfl ?_
          refine x_goto (pc := 282) (tgt := 69) C dL_areAccountsRight_282 (by decide) ?_
          refine x_sub [6, 7, 2, 1, 0] (ls2 := [(0, .ref (ad 176)), (1, .int a1), (2, .long v157), (4, .int 0), (5, .int (a5 + 1))]) rfl ?_
          refine x_wid (k0 := cs0 + 4) (n0 := ss0 + 124) (by omega) (by omega) ?_
          exact ih B a1 v157 0 (a5 + 1) _ _ ⟨by omega, by omega⟩ R0 hR hok (x_wid (by omega) (by omega) k)
        · have hR := hR.trans (if_neg c158)
          have hok := hok.2 c158
          refine x_aload_n (pc := 150) (i := 0) C 4 dL_areAccountsRight_150 rfl rfl ?_
          refine x_iload (pc := 151) (i := 5) C 7 dL_areAccountsRight_151 rfl ?_
          have h159 := hok.1
          have hok := hok.2
          refine x_cIV (pc := 153) (as := [.int a5]) (q := 176) C (c_X6_availableIn_n C.2.2.2.2.2.2.2.1  B M O a5 h159) (fs := _) e_I rfl cv_X6_availableIn cd_X6_availableIn wd_5_6 ⟨Nat.le_of_ble_eq_true rfl, Nat.le_of_ble_eq_true rfl⟩ ⟨by simp only [rmd]; omega, by simp only [rmd]; omega⟩ rfl rfl (Nat.le_of_ble_eq_true rfl) dL_areAccountsRight_153 ?_
          refine x_nmI (fun r160 er160 => ?_)
          have hR := nmE hR er160
          have hok := hok r160 er160
          refine x_iload (pc := 156) (i := 6) C 3 dL_areAccountsRight_156 rfl ?_
          refine x_iload (pc := 158) (i := 7) C 2 dL_areAccountsRight_158 rfl ?_
          refine x_iadd (pc := 160) C dL_areAccountsRight_160 ?_
          refine x_icmp_ne (pc := 161) (tgt := 276) C dL_areAccountsRight_161 (by decide) (fun c161 => ?_) (fun c161 => ?_)
          · have hR := hR.trans (if_neg c161)
            have hok := hok.2 c161
            refine x_iconst (pc := 276) (v := 0) C dL_areAccountsRight_276 (by decide) ?_
            refine x_istore (pc := 277) (i := 4) (ls2 := [(4, .int 0), (2, .long v157), (8, .ref (G.2.2.1 1)), (7, .int r9), (6, .int r7), (0, .ref (ad 176)), (1, .int a1), (5, .int a5)]) C dL_areAccountsRight_277 (by decide) rfl ?_
            refine x_iinc (pc := 279) (i := 5) (v := (a5 + 1)) (ls2 := [(5, .int (a5 + 1)), (4, .int 0), (2, .long v157), (8, .ref (G.2.2.1 1)), (7, .int r9), (6, .int r7), (0, .ref (ad 176)), (1, .int a1)]) C 7 dL_areAccountsRight_279 rfl rfl (by decide) rfl ?_
            refine x_goto (pc := 282) (tgt := 69) C dL_areAccountsRight_282 (by decide) ?_
            refine x_sub [6, 7, 2, 1, 0] (ls2 := [(0, .ref (ad 176)), (1, .int a1), (2, .long v157), (4, .int 0), (5, .int (a5 + 1))]) rfl ?_
            refine x_wid (k0 := cs0 + 4) (n0 := ss0 + 124) (by omega) (by omega) ?_
            exact ih B a1 v157 0 (a5 + 1) _ _ ⟨by omega, by omega⟩ R0 hR hok (x_wid (by omega) (by omega) k)
          · have hR := hR.trans (if_pos c161)
            have hok := hok.1 c161
            refine x_iload (pc := 164) (i := 6) C 3 dL_areAccountsRight_164 rfl ?_
            refine x_iload (pc := 166) (i := 7) C 2 dL_areAccountsRight_166 rfl ?_
            refine x_iadd (pc := 168) C dL_areAccountsRight_168 ?_
            refine x_if_lt (pc := 169) (tgt := 276) C dL_areAccountsRight_169 (by decide) (fun c162 => ?_) (fun c162 => ?_)
            · have hR := hR.trans (if_pos c162)
              have hok := hok.1 c162
              refine x_iconst (pc := 276) (v := 0) C dL_areAccountsRight_276 (by decide) ?_
              refine x_istore (pc := 277) (i := 4) (ls2 := [(4, .int 0), (2, .long v157), (8, .ref (G.2.2.1 1)), (7, .int r9), (6, .int r7), (0, .ref (ad 176)), (1, .int a1), (5, .int a5)]) C dL_areAccountsRight_277 (by decide) rfl ?_
              refine x_iinc (pc := 279) (i := 5) (v := (a5 + 1)) (ls2 := [(5, .int (a5 + 1)), (4, .int 0), (2, .long v157), (8, .ref (G.2.2.1 1)), (7, .int r9), (6, .int r7), (0, .ref (ad 176)), (1, .int a1)]) C 7 dL_areAccountsRight_279 rfl rfl (by decide) rfl ?_
              refine x_goto (pc := 282) (tgt := 69) C dL_areAccountsRight_282 (by decide) ?_
              refine x_sub [6, 7, 2, 1, 0] (ls2 := [(0, .ref (ad 176)), (1, .int a1), (2, .long v157), (4, .int 0), (5, .int (a5 + 1))]) rfl ?_
              refine x_wid (k0 := cs0 + 4) (n0 := ss0 + 124) (by omega) (by omega) ?_
              exact ih B a1 v157 0 (a5 + 1) _ _ ⟨by omega, by omega⟩ R0 hR hok (x_wid (by omega) (by omega) k)
            · have hR := hR.trans (if_neg c162)
              have hok := hok.2 c162
              refine x_aload_n (pc := 172) (i := 0) C 4 dL_areAccountsRight_172 rfl rfl ?_
              refine x_iload (pc := 173) (i := 5) C 7 dL_areAccountsRight_173 rfl ?_
              have h163 := hok.1
              have hok := hok.2
              refine x_cIV (pc := 175) (as := [.int a5]) (q := 176) C (c_X6_interestOf_n C.2.2.2.2.2.2.2.1  B M O a5 h163) (fs := _) e_I rfl cv_X6_interestOf cd_X6_interestOf wd_5_11 ⟨Nat.le_of_ble_eq_true rfl, Nat.le_of_ble_eq_true rfl⟩ ⟨by simp only [rmd]; omega, by simp only [rmd]; omega⟩ rfl rfl (Nat.le_of_ble_eq_true rfl) dL_areAccountsRight_175 ?_
              refine x_nmI (fun r164 er164 => ?_)
              have hR := nmE hR er164
              have hok := hok r164 er164
              refine x_aload_n (pc := 178) (i := 0) C 4 dL_areAccountsRight_178 rfl rfl ?_
              refine x_iload (pc := 179) (i := 5) C 7 dL_areAccountsRight_179 rfl ?_
              have h165 := hok.1
              have hok := hok.2
              refine x_cIV (pc := 181) (as := [.int a5]) (q := 176) C (c_X6_kindOf_n C.2.2.2.2.2.2.2.1  B M O a5 h165) (fs := _) e_I rfl cv_X6_kindOf cd_X6_kindOf wd_4_238 ⟨Nat.le_of_ble_eq_true rfl, Nat.le_of_ble_eq_true rfl⟩ ⟨by simp only [rmd]; omega, by simp only [rmd]; omega⟩ rfl rfl (Nat.le_of_ble_eq_true rfl) dL_areAccountsRight_181 ?_
              refine x_nmI (fun r166 er166 => ?_)
              have hR := nmE hR er166
              have hok := hok r166 er166
              refine x_iload (pc := 184) (i := 6) C 3 dL_areAccountsRight_184 rfl ?_
              refine x_iload (pc := 186) (i := 7) C 2 dL_areAccountsRight_186 rfl ?_
              refine x_aload_n (pc := 188) (i := 0) C 4 dL_areAccountsRight_188 rfl rfl ?_
              refine x_iload (pc := 189) (i := 5) C 7 dL_areAccountsRight_189 rfl ?_
              have h167 := hok.1
              have hok := hok.2
              refine x_cIV (pc := 191) (as := [.int a5]) (q := 176) C (c_X6_wasTouched_n C.2.2.2.2.2.2.2.1  B M O a5 h167) (fs := _) e_I rfl cv_X6_wasTouched cd_X6_wasTouched wd_5_16 ⟨Nat.le_of_ble_eq_true rfl, Nat.le_of_ble_eq_true rfl⟩ ⟨by simp only [rmd]; omega, by simp only [rmd]; omega⟩ rfl rfl (Nat.le_of_ble_eq_true rfl) dL_areAccountsRight_191 ?_
              refine x_nmI (fun r168 er168 => ?_)
              have hR := nmE hR er168
              have hok := hok r168 er168
              refine x_cIS (pc := 194) (as := [.int r166, .int r7, .int r9, .int r168]) C (c_L_interest C.2.2.2.2.2.2.2.1  B M O r166 r7 r9 r168) wd_5_21 cd_L_interest wd_5_20 ⟨Nat.le_of_ble_eq_true rfl, Nat.le_of_ble_eq_true rfl⟩ ⟨by simp only [rmd]; omega, by simp only [rmd]; omega⟩ rfl rfl (Nat.le_of_ble_eq_true rfl) dL_areAccountsRight_194 ?_
              refine x_nmI (fun r169 er169 => ?_)
              have hR := nmE hR er169
              have hok := hok r169 er169
              refine x_icmp_ne (pc := 197) (tgt := 276) C dL_areAccountsRight_197 (by decide) (fun c170 => ?_) (fun c170 => ?_)
              · have hR := hR.trans (if_neg c170)
                have hok := hok.2 c170
                refine x_iconst (pc := 276) (v := 0) C dL_areAccountsRight_276 (by decide) ?_
                refine x_istore (pc := 277) (i := 4) (ls2 := [(4, .int 0), (2, .long v157), (8, .ref (G.2.2.1 1)), (7, .int r9), (6, .int r7), (0, .ref (ad 176)), (1, .int a1), (5, .int a5)]) C dL_areAccountsRight_277 (by decide) rfl ?_
                refine x_iinc (pc := 279) (i := 5) (v := (a5 + 1)) (ls2 := [(5, .int (a5 + 1)), (4, .int 0), (2, .long v157), (8, .ref (G.2.2.1 1)), (7, .int r9), (6, .int r7), (0, .ref (ad 176)), (1, .int a1)]) C 7 dL_areAccountsRight_279 rfl rfl (by decide) rfl ?_
                refine x_goto (pc := 282) (tgt := 69) C dL_areAccountsRight_282 (by decide) ?_
                refine x_sub [6, 7, 2, 1, 0] (ls2 := [(0, .ref (ad 176)), (1, .int a1), (2, .long v157), (4, .int 0), (5, .int (a5 + 1))]) rfl ?_
                refine x_wid (k0 := cs0 + 4) (n0 := ss0 + 124) (by omega) (by omega) ?_
                exact ih B a1 v157 0 (a5 + 1) _ _ ⟨by omega, by omega⟩ R0 hR hok (x_wid (by omega) (by omega) k)
              · have hR := hR.trans (if_pos c170)
                have hok := hok.1 c170
                refine x_aload_n (pc := 200) (i := 0) C 4 dL_areAccountsRight_200 rfl rfl ?_
                refine x_aload_n (pc := 201) (i := 0) C 4 dL_areAccountsRight_201 rfl rfl ?_
                refine x_iload (pc := 202) (i := 5) C 7 dL_areAccountsRight_202 rfl ?_
                have h171 := hok.1
                have hok := hok.2
                refine x_cIV (pc := 204) (as := [.int a5]) (q := 176) C (c_X6_writeStatement_n C.2.2.2.2.2.2.2.1  B M O a5 h171) (fs := _) e_I rfl cv_X6_writeStatement cd_X6_writeStatement wd_5_24 ⟨Nat.le_of_ble_eq_true rfl, Nat.le_of_ble_eq_true rfl⟩ ⟨by simp only [rmd]; omega, by simp only [rmd]; omega⟩ rfl rfl (Nat.le_of_ble_eq_true rfl) dL_areAccountsRight_204 ?_
                refine x_nmIB (fun z172 ez172 => ?_)
                have hR := nmE hR ez172
                have hok := hok z172 ez172
                refine x_sbnew C hG.2 ⟨(Nat.le_of_ble_eq_true rfl), (Nat.le_of_ble_eq_true rfl)⟩ ⟨by simp only [rmd]; omega, by simp only [rmd]; omega⟩ (Nat.le_of_ble_eq_true rfl) (fun qS hAS => ?_)
                have CS := cx_x C hAS
                have hGS : (xG G 2 2).2.2.2.2 2 = 2 ∧ (xG G 2 2).2.2.2.2 3 = 2 := ⟨rfl, rfl⟩
                refine x_nmB (fun B173 eB173 => ?_)
                have hR := nmE hR eB173
                have hok := hok B173 eB173
                refine x_aload (pc := 214) (i := 8) CS 1 dL_areAccountsRight_214 rfl ?_
                have h174 := hok.1
                have hok := hok.2
                refine x_cRV (pc := 216) (as := [.ref ((xG G 2 2).2.2.1 1)]) (q := 193) CS (c_J4_append_15ec4 CS.2.2.2.2.2.2.2.1 hGS 1 (by decide) B173 M O  h174) (fs := _) (e_D hGS) rfl cv_J4_append_15ec4 rfl cd_J4_append_15ec4 wd_6_32 ⟨Nat.le_of_ble_eq_true rfl, Nat.le_of_ble_eq_true rfl⟩ ⟨by simp only [rmd]; omega, by simp only [rmd]; omega⟩ rfl rfl (Nat.le_of_ble_eq_true rfl) dL_areAccountsRight_216 ?_
                refine x_nmB (fun B175 eB175 => ?_)
                have hR := nmE hR eB175
                have hok := hok B175 eB175
                refine x_iload (pc := 219) (i := 5) CS 7 dL_areAccountsRight_219 rfl ?_
                have h176 := hok.1
                have hok := hok.2
                refine x_cRV (pc := 221) (as := [.int a5]) (q := 193) CS (c_J4_append_bf812_D CS.2.2.2.2.2.2.2.1 hGS B175 M O a5 h176) (fs := _) (e_D hGS) rfl cv_J4_append_bf812 rfl cd_J4_append_bf812 wd_6_33 ⟨Nat.le_of_ble_eq_true rfl, Nat.le_of_ble_eq_true rfl⟩ ⟨by simp only [rmd]; omega, by simp only [rmd]; omega⟩ rfl rfl (Nat.le_of_ble_eq_true rfl) dL_areAccountsRight_221 ?_
                refine x_nmB (fun B177 eB177 => ?_)
                have hR := nmE hR eB177
                have hok := hok B177 eB177
                refine x_ldcK (pc := 224) (i := 5) CS (by decide) rfl rfl dL_areAccountsRight_224 ?_
                have h178 := hok.1
                have hok := hok.2
                refine x_cRV (pc := 226) (as := [.ref ((xG G 2 2).2.2.1 5)]) (q := 193) CS (c_J4_append_15ec4 CS.2.2.2.2.2.2.2.1 hGS 5 (by decide) B177 M O  h178) (fs := _) (e_D hGS) rfl cv_J4_append_15ec4 rfl cd_J4_append_15ec4 wd_6_32 ⟨Nat.le_of_ble_eq_true rfl, Nat.le_of_ble_eq_true rfl⟩ ⟨by simp only [rmd]; omega, by simp only [rmd]; omega⟩ rfl rfl (Nat.le_of_ble_eq_true rfl) dL_areAccountsRight_226 ?_
                refine x_nmB (fun B179 eB179 => ?_)
                have hR := nmE hR eB179
                have hok := hok B179 eB179
                refine x_iload (pc := 229) (i := 6) CS 3 dL_areAccountsRight_229 rfl ?_
                have h180 := hok.1
                have hok := hok.2
                refine x_cRV (pc := 231) (as := [.int r7]) (q := 193) CS (c_J4_append_bf812_D CS.2.2.2.2.2.2.2.1 hGS B179 M O r7 h180) (fs := _) (e_D hGS) rfl cv_J4_append_bf812 rfl cd_J4_append_bf812 wd_6_33 ⟨Nat.le_of_ble_eq_true rfl, Nat.le_of_ble_eq_true rfl⟩ ⟨by simp only [rmd]; omega, by simp only [rmd]; omega⟩ rfl rfl (Nat.le_of_ble_eq_true rfl) dL_areAccountsRight_231 ?_
                refine x_nmB (fun B181 eB181 => ?_)
                have hR := nmE hR eB181
                have hok := hok B181 eB181
                refine x_ldcK (pc := 234) (i := 6) CS (by decide) rfl rfl dL_areAccountsRight_234 ?_
                have h182 := hok.1
                have hok := hok.2
                refine x_cRV (pc := 236) (as := [.ref ((xG G 2 2).2.2.1 6)]) (q := 193) CS (c_J4_append_15ec4 CS.2.2.2.2.2.2.2.1 hGS 6 (by decide) B181 M O  h182) (fs := _) (e_D hGS) rfl cv_J4_append_15ec4 rfl cd_J4_append_15ec4 wd_6_32 ⟨Nat.le_of_ble_eq_true rfl, Nat.le_of_ble_eq_true rfl⟩ ⟨by simp only [rmd]; omega, by simp only [rmd]; omega⟩ rfl rfl (Nat.le_of_ble_eq_true rfl) dL_areAccountsRight_236 ?_
                refine x_nmB (fun B183 eB183 => ?_)
                have hR := nmE hR eB183
                have hok := hok B183 eB183
                refine x_iload (pc := 239) (i := 7) CS 2 dL_areAccountsRight_239 rfl ?_
                have h184 := hok.1
                have hok := hok.2
                refine x_cRV (pc := 241) (as := [.int r9]) (q := 193) CS (c_J4_append_bf812_D CS.2.2.2.2.2.2.2.1 hGS B183 M O r9 h184) (fs := _) (e_D hGS) rfl cv_J4_append_bf812 rfl cd_J4_append_bf812 wd_6_33 ⟨Nat.le_of_ble_eq_true rfl, Nat.le_of_ble_eq_true rfl⟩ ⟨by simp only [rmd]; omega, by simp only [rmd]; omega⟩ rfl rfl (Nat.le_of_ble_eq_true rfl) dL_areAccountsRight_241 ?_
                refine x_nmB (fun B185 eB185 => ?_)
                have hR := nmE hR eB185
                have hok := hok B185 eB185
                refine x_aload_n (pc := 244) (i := 0) CS 4 dL_areAccountsRight_244 rfl rfl ?_
                refine x_iload (pc := 245) (i := 5) CS 7 dL_areAccountsRight_245 rfl ?_
                have h186 := hok.1
                have hok := hok.2
                refine x_cIV (pc := 247) (as := [.int a5]) (q := 176) CS (c_X6_wasTouched_n CS.2.2.2.2.2.2.2.1  B185 M O a5 h186) (fs := _) e_I rfl cv_X6_wasTouched cd_X6_wasTouched wd_5_16 ⟨Nat.le_of_ble_eq_true rfl, Nat.le_of_ble_eq_true rfl⟩ ⟨by simp only [rmd]; omega, by simp only [rmd]; omega⟩ rfl rfl (Nat.le_of_ble_eq_true rfl) dL_areAccountsRight_247 ?_
                refine x_nmI (fun r187 er187 => ?_)
                have hR := nmE hR er187
                have hok := hok r187 er187
                refine x_if_eq (pc := 250) (tgt := 258) CS dL_areAccountsRight_250 (by decide) (fun c188 => ?_) (fun c188 => ?_)
                · have hR := hR.trans (if_pos c188)
                  have hok := hok.1 c188
                  refine x_ldcK (pc := 258) (i := 8) CS (by decide) rfl rfl dL_areAccountsRight_258 ?_
                  have h189 := hok.1
                  have hok := hok.2
                  refine x_cRV (pc := 260) (as := [.ref ((xG G 2 2).2.2.1 8)]) (q := 193) CS (c_J4_append_15ec4 CS.2.2.2.2.2.2.2.1 hGS 8 (by decide) B185 M O  h189) (fs := _) (e_D hGS) rfl cv_J4_append_15ec4 rfl cd_J4_append_15ec4 wd_6_32 ⟨Nat.le_of_ble_eq_true rfl, Nat.le_of_ble_eq_true rfl⟩ ⟨by simp only [rmd]; omega, by simp only [rmd]; omega⟩ rfl rfl (Nat.le_of_ble_eq_true rfl) dL_areAccountsRight_260 ?_
                  refine x_nmB (fun B190 eB190 => ?_)
                  have hR := nmE hR eB190
                  have hok := hok B190 eB190
                  have h192 := hok.1
                  have hok := hok.2
                  refine x_sbstr CS h192 ⟨(Nat.le_of_ble_eq_true rfl), (Nat.le_of_ble_eq_true rfl)⟩ ⟨by simp only [rmd]; omega, by simp only [rmd]; omega⟩ (Nat.le_of_ble_eq_true rfl) (fun qT hAT => ?_)
                  have CT := cx_x C hAT
                  have hGT : (xG G 3 2).2.2.2.2 2 = 3 ∧ (xG G 3 2).2.2.2.2 3 = 2 := ⟨rfl, rfl⟩
                  refine x_nmB (fun B191 eB191 => ?_)
                  have hR := nmE hR eB191
                  have hok := hok B191 eB191
                  have h193 := hok.1
                  have hok := hok.2
                  refine x_cIS (pc := 266) (as := [.ref ((xadL ad qT) 176), .int z172.1, .ref ((xadL ad qT) 193)]) CT (c_L_isLine CT.2.2.2.2.2.2.2.1 hGT B191 M O z172.1 h193) wd_6_40 cd_L_isLine wd_6_39 ⟨Nat.le_of_ble_eq_true rfl, Nat.le_of_ble_eq_true rfl⟩ ⟨by simp only [rmd]; omega, by simp only [rmd]; omega⟩ rfl rfl (Nat.le_of_ble_eq_true rfl) dL_areAccountsRight_266 ?_
                  refine x_nmI (fun r194 er194 => ?_)
                  have hR := nmE hR er194
                  have hok := hok r194 er194
                  refine x_back hG.2 ?_
                  refine x_if_eq (pc := 269) (tgt := 276) C dL_areAccountsRight_269 (by decide) (fun c195 => ?_) (fun c195 => ?_)
                  · have hR := hR.trans (if_pos c195)
                    have hok := hok.1 c195
                    refine x_iconst (pc := 276) (v := 0) C dL_areAccountsRight_276 (by decide) ?_
                    refine x_istore (pc := 277) (i := 4) (ls2 := [(4, .int 0), (2, .long v157), (8, .ref (G.2.2.1 1)), (7, .int r9), (6, .int r7), (0, .ref (ad 176)), (1, .int a1), (5, .int a5)]) C dL_areAccountsRight_277 (by decide) rfl ?_
                    refine x_iinc (pc := 279) (i := 5) (v := (a5 + 1)) (ls2 := [(5, .int (a5 + 1)), (4, .int 0), (2, .long v157), (8, .ref (G.2.2.1 1)), (7, .int r9), (6, .int r7), (0, .ref (ad 176)), (1, .int a1)]) C 7 dL_areAccountsRight_279 rfl rfl (by decide) rfl ?_
                    refine x_goto (pc := 282) (tgt := 69) C dL_areAccountsRight_282 (by decide) ?_
                    refine x_sub [6, 7, 2, 1, 0] (ls2 := [(0, .ref (ad 176)), (1, .int a1), (2, .long v157), (4, .int 0), (5, .int (a5 + 1))]) rfl ?_
                    refine x_wid (k0 := cs0 + 4) (n0 := ss0 + 124) (by omega) (by omega) ?_
                    exact ih B191 a1 v157 0 (a5 + 1) _ _ ⟨by omega, by omega⟩ R0 hR hok (x_wid (by omega) (by omega) k)
                  · have hR := hR.trans (if_neg c195)
                    have hok := hok.2 c195
                    refine x_iconst (pc := 272) (v := 1) C dL_areAccountsRight_272 (by decide) ?_
                    refine x_goto (pc := 273) (tgt := 277) C dL_areAccountsRight_273 (by decide) ?_
                    refine x_istore (pc := 277) (i := 4) (ls2 := [(4, .int 1), (2, .long v157), (8, .ref (G.2.2.1 1)), (7, .int r9), (6, .int r7), (0, .ref (ad 176)), (1, .int a1), (5, .int a5)]) C dL_areAccountsRight_277 (by decide) rfl ?_
                    refine x_iinc (pc := 279) (i := 5) (v := (a5 + 1)) (ls2 := [(5, .int (a5 + 1)), (4, .int 1), (2, .long v157), (8, .ref (G.2.2.1 1)), (7, .int r9), (6, .int r7), (0, .ref (ad 176)), (1, .int a1)]) C 7 dL_areAccountsRight_279 rfl rfl (by decide) rfl ?_
                    refine x_goto (pc := 282) (tgt := 69) C dL_areAccountsRight_282 (by decide) ?_
                    refine x_sub [6, 7, 2, 1, 0] (ls2 := [(0, .ref (ad 176)), (1, .int a1), (2, .long v157), (4, .int 1), (5, .int (a5 + 1))]) rfl ?_
                    refine x_wid (k0 := cs0 + 4) (n0 := ss0 + 124) (by omega) (by omega) ?_
                    exact ih B191 a1 v157 1 (a5 + 1) _ _ ⟨by omega, by omega⟩ R0 hR hok (x_wid (by omega) (by omega) k)
                · have hR := hR.trans (if_neg c188)
                  have hok := hok.2 c188
                  refine x_ldcK (pc := 253) (i := 7) CS (by decide) rfl rfl dL_areAccountsRight_253 ?_
                  refine x_goto (pc := 255) (tgt := 260) CS dL_areAccountsRight_255 (by decide) ?_
                  have h196 := hok.1
                  have hok := hok.2
                  refine x_cRV (pc := 260) (as := [.ref ((xG G 2 2).2.2.1 7)]) (q := 193) CS (c_J4_append_15ec4 CS.2.2.2.2.2.2.2.1 hGS 7 (by decide) B185 M O  h196) (fs := _) (e_D hGS) rfl cv_J4_append_15ec4 rfl cd_J4_append_15ec4 wd_6_32 ⟨Nat.le_of_ble_eq_true rfl, Nat.le_of_ble_eq_true rfl⟩ ⟨by simp only [rmd]; omega, by simp only [rmd]; omega⟩ rfl rfl (Nat.le_of_ble_eq_true rfl) dL_areAccountsRight_260 ?_
                  refine x_nmB (fun B197 eB197 => ?_)
                  have hR := nmE hR eB197
                  have hok := hok B197 eB197
                  have h199 := hok.1
                  have hok := hok.2
                  refine x_sbstr CS h199 ⟨(Nat.le_of_ble_eq_true rfl), (Nat.le_of_ble_eq_true rfl)⟩ ⟨by simp only [rmd]; omega, by simp only [rmd]; omega⟩ (Nat.le_of_ble_eq_true rfl) (fun qT hAT => ?_)
                  have CT := cx_x C hAT
                  have hGT : (xG G 3 2).2.2.2.2 2 = 3 ∧ (xG G 3 2).2.2.2.2 3 = 2 := ⟨rfl, rfl⟩
                  refine x_nmB (fun B198 eB198 => ?_)
                  have hR := nmE hR eB198
                  have hok := hok B198 eB198
                  have h200 := hok.1
                  have hok := hok.2
                  refine x_cIS (pc := 266) (as := [.ref ((xadL ad qT) 176), .int z172.1, .ref ((xadL ad qT) 193)]) CT (c_L_isLine CT.2.2.2.2.2.2.2.1 hGT B198 M O z172.1 h200) wd_6_40 cd_L_isLine wd_6_39 ⟨Nat.le_of_ble_eq_true rfl, Nat.le_of_ble_eq_true rfl⟩ ⟨by simp only [rmd]; omega, by simp only [rmd]; omega⟩ rfl rfl (Nat.le_of_ble_eq_true rfl) dL_areAccountsRight_266 ?_
                  refine x_nmI (fun r201 er201 => ?_)
                  have hR := nmE hR er201
                  have hok := hok r201 er201
                  refine x_back hG.2 ?_
                  refine x_if_eq (pc := 269) (tgt := 276) C dL_areAccountsRight_269 (by decide) (fun c202 => ?_) (fun c202 => ?_)
                  · have hR := hR.trans (if_pos c202)
                    have hok := hok.1 c202
                    refine x_iconst (pc := 276) (v := 0) C dL_areAccountsRight_276 (by decide) ?_
                    refine x_istore (pc := 277) (i := 4) (ls2 := [(4, .int 0), (2, .long v157), (8, .ref (G.2.2.1 1)), (7, .int r9), (6, .int r7), (0, .ref (ad 176)), (1, .int a1), (5, .int a5)]) C dL_areAccountsRight_277 (by decide) rfl ?_
                    refine x_iinc (pc := 279) (i := 5) (v := (a5 + 1)) (ls2 := [(5, .int (a5 + 1)), (4, .int 0), (2, .long v157), (8, .ref (G.2.2.1 1)), (7, .int r9), (6, .int r7), (0, .ref (ad 176)), (1, .int a1)]) C 7 dL_areAccountsRight_279 rfl rfl (by decide) rfl ?_
                    refine x_goto (pc := 282) (tgt := 69) C dL_areAccountsRight_282 (by decide) ?_
                    refine x_sub [6, 7, 2, 1, 0] (ls2 := [(0, .ref (ad 176)), (1, .int a1), (2, .long v157), (4, .int 0), (5, .int (a5 + 1))]) rfl ?_
                    refine x_wid (k0 := cs0 + 4) (n0 := ss0 + 124) (by omega) (by omega) ?_
                    exact ih B198 a1 v157 0 (a5 + 1) _ _ ⟨by omega, by omega⟩ R0 hR hok (x_wid (by omega) (by omega) k)
                  · have hR := hR.trans (if_neg c202)
                    have hok := hok.2 c202
                    refine x_iconst (pc := 272) (v := 1) C dL_areAccountsRight_272 (by decide) ?_
                    refine x_goto (pc := 273) (tgt := 277) C dL_areAccountsRight_273 (by decide) ?_
                    refine x_istore (pc := 277) (i := 4) (ls2 := [(4, .int 1), (2, .long v157), (8, .ref (G.2.2.1 1)), (7, .int r9), (6, .int r7), (0, .ref (ad 176)), (1, .int a1), (5, .int a5)]) C dL_areAccountsRight_277 (by decide) rfl ?_
                    refine x_iinc (pc := 279) (i := 5) (v := (a5 + 1)) (ls2 := [(5, .int (a5 + 1)), (4, .int 1), (2, .long v157), (8, .ref (G.2.2.1 1)), (7, .int r9), (6, .int r7), (0, .ref (ad 176)), (1, .int a1)]) C 7 dL_areAccountsRight_279 rfl rfl (by decide) rfl ?_
                    refine x_goto (pc := 282) (tgt := 69) C dL_areAccountsRight_282 (by decide) ?_
                    refine x_sub [6, 7, 2, 1, 0] (ls2 := [(0, .ref (ad 176)), (1, .int a1), (2, .long v157), (4, .int 1), (5, .int (a5 + 1))]) rfl ?_
                    refine x_wid (k0 := cs0 + 4) (n0 := ss0 + 124) (by omega) (by omega) ?_
                    exact ih B198 a1 v157 1 (a5 + 1) _ _ ⟨by omega, by omega⟩ R0 hR hok (x_wid (by omega) (by omega) k)
set_option maxHeartbeats 4000000 in
set_option maxRecDepth 100000 in
theorem t_L_areAccountsRight_L288 {p0 : Program} {l : Launch} {e : Env} {s : State} {m : MethodId} {args : Array Value} {below : List Frame} {meth : Method} {c : Code} {A : Nat → Prop} {G : GT} {ad : Nat → Nat} {Q : State → Prop} (C : CX p0 l s m args meth c A G ad cL_areAccountsRight RL 9 (some .boolean)) (hG : G.2.2.2.2 2 = 0 ∧ G.2.2.2.2 3 = 0)   (n : Nat) (B : StB) (a1 : Int32) (a2 : Int64) (a4 : Int32) (a5 : Int32) (M : StM) (O : StO) : ∀ (cs0 ss0 : Nat) (hcs : cs0 + n * 0 ≤ 96 ∧ ss0 + n * 0 ≤ 2576) (R0 : Int32) (hR : R0 = f_L_areAccountsRight_L288 n B a1 a2 a4 a5) (hok : ok_L_areAccountsRight_L288 n B a1 a2 a4 a5) (k : X p0 l e (rmd 22 96 2576) s m args below meth c A G ad 9 (cs0 + n * 0) (ss0 + n * 0) Q B M O [(0, .ref (ad 176)), (1, .int a1), (2, .long a2), (4, .int R0)] 369 []), X p0 l e (rmd 22 96 2576) s m args below meth c A G ad 9 cs0 ss0 Q B M O [(0, .ref (ad 176)), (1, .int a1), (2, .long a2), (4, .int a4), (5, .int a5)] 288 [] := by
  induction n generalizing B a1 a2 a4 a5 with
  | zero => intro cs0 ss0 hcs R0 hR hok k; exact False.elim hok
  | succ n ih =>
    intro cs0 ss0 hcs R0 hR hok k
    have hR : R0 = (if a1 ≤ (a5 + 1) then a4 else (nm (f_X6_accountAtRank_n B a5) (fun (r206 : Int32) => (nm (f_X6_accountAtRank_n B (a5 + 1)) (fun (r208 : Int32) => (if a4 = 0 then (f_L_areAccountsRight_L288 n B a1 a2 0 (a5 + 1)) else (nm (f_X6_balanceOf_n B r206) (fun (r211 : Int32) => (nm (f_X6_balanceOf_n B r208) (fun (r213 : Int32) => (if r213 < r211 then (f_L_areAccountsRight_L288 n B a1 a2 1 (a5 + 1)) else (nm (f_X6_balanceOf_n B r206) (fun (r216 : Int32) => (nm (f_X6_balanceOf_n B r208) (fun (r218 : Int32) => (if r216 = r218 then (if r208 ≤ r206 then (f_L_areAccountsRight_L288 n B a1 a2 0 (a5 + 1)) else (f_L_areAccountsRight_L288 n B a1 a2 1 (a5 + 1))) else (f_L_areAccountsRight_L288 n B a1 a2 0 (a5 + 1)))))))))))))))))) := hR
    have hok : ((a1 ≤ (a5 + 1) → True) ∧ (¬ a1 ≤ (a5 + 1) → ((ok_X6_accountAtRank_n B a5) ∧ (∀ r206 : Int32, r206 = (f_X6_accountAtRank_n B a5) → ((ok_X6_accountAtRank_n B (a5 + 1)) ∧ (∀ r208 : Int32, r208 = (f_X6_accountAtRank_n B (a5 + 1)) → ((a4 = 0 → (ok_L_areAccountsRight_L288 n B a1 a2 0 (a5 + 1))) ∧ (¬ a4 = 0 → ((ok_X6_balanceOf_n B r206) ∧ (∀ r211 : Int32, r211 = (f_X6_balanceOf_n B r206) → ((ok_X6_balanceOf_n B r208) ∧ (∀ r213 : Int32, r213 = (f_X6_balanceOf_n B r208) → ((r213 < r211 → (ok_L_areAccountsRight_L288 n B a1 a2 1 (a5 + 1))) ∧ (¬ r213 < r211 → ((ok_X6_balanceOf_n B r206) ∧ (∀ r216 : Int32, r216 = (f_X6_balanceOf_n B r206) → ((ok_X6_balanceOf_n B r208) ∧ (∀ r218 : Int32, r218 = (f_X6_balanceOf_n B r208) → ((r216 = r218 → ((r208 ≤ r206 → (ok_L_areAccountsRight_L288 n B a1 a2 0 (a5 + 1))) ∧ (¬ r208 ≤ r206 → (ok_L_areAccountsRight_L288 n B a1 a2 1 (a5 + 1))))) ∧ (¬ r216 = r218 → (ok_L_areAccountsRight_L288 n B a1 a2 0 (a5 + 1)))))))))))))))))))))) := hok
    refine x_iload (pc := 288) (i := 5) C 4 dL_areAccountsRight_288 rfl ?_
    refine x_iconst (pc := 290) (v := 1) C dL_areAccountsRight_290 (by decide) ?_
    refine x_iadd (pc := 291) C dL_areAccountsRight_291 ?_
    refine x_iload_n (pc := 292) (i := 1) C 1 dL_areAccountsRight_292 rfl rfl ?_
    refine x_icmp_ge (pc := 293) (tgt := 369) C dL_areAccountsRight_293 (by decide) (fun c204 => ?_) (fun c204 => ?_)
    · have hR := hR.trans (if_pos c204)
      refine x_sub [0, 1, 2, 3] (ls2 := [(0, .ref (ad 176)), (1, .int a1), (2, .long a2), (4, .int a4)]) rfl ?_
      subst hR
      exact x_wid (by omega) (by omega) k
    · have hR := hR.trans (if_neg c204)
      have hok := hok.2 c204
      refine x_aload_n (pc := 296) (i := 0) C 0 dL_areAccountsRight_296 rfl rfl ?_
      refine x_iload (pc := 297) (i := 5) C 4 dL_areAccountsRight_297 rfl ?_
      have h205 := hok.1
      have hok := hok.2
      refine x_cIV (pc := 299) (as := [.int a5]) (q := 176) C (c_X6_accountAtRank_n C.2.2.2.2.2.2.2.1  B M O a5 h205) (fs := _) e_I rfl cv_X6_accountAtRank cd_X6_accountAtRank wd_4_153 ⟨Nat.le_of_ble_eq_true rfl, Nat.le_of_ble_eq_true rfl⟩ ⟨by simp only [rmd]; omega, by simp only [rmd]; omega⟩ rfl rfl (Nat.le_of_ble_eq_true rfl) dL_areAccountsRight_299 ?_
      refine x_nmI (fun r206 er206 => ?_)
      have hR := nmE hR er206
      have hok := hok r206 er206
      refine x_istore (pc := 302) (i := 6) (ls2 := [(6, .int r206), (0, .ref (ad 176)), (1, .int a1), (2, .long a2), (4, .int a4), (5, .int a5)]) C dL_areAccountsRight_302 (by decide) rfl ?_
      refine x_aload_n (pc := 304) (i := 0) C 1 dL_areAccountsRight_304 rfl rfl ?_
      refine x_iload (pc := 305) (i := 5) C 5 dL_areAccountsRight_305 rfl ?_
      refine x_iconst (pc := 307) (v := 1) C dL_areAccountsRight_307 (by decide) ?_
      refine x_iadd (pc := 308) C dL_areAccountsRight_308 ?_
      have h207 := hok.1
      have hok := hok.2
      refine x_cIV (pc := 309) (as := [.int (a5 + 1)]) (q := 176) C (c_X6_accountAtRank_n C.2.2.2.2.2.2.2.1  B M O (a5 + 1) h207) (fs := _) e_I rfl cv_X6_accountAtRank cd_X6_accountAtRank wd_4_153 ⟨Nat.le_of_ble_eq_true rfl, Nat.le_of_ble_eq_true rfl⟩ ⟨by simp only [rmd]; omega, by simp only [rmd]; omega⟩ rfl rfl (Nat.le_of_ble_eq_true rfl) dL_areAccountsRight_309 ?_
      refine x_nmI (fun r208 er208 => ?_)
      have hR := nmE hR er208
      have hok := hok r208 er208
      refine x_istore (pc := 312) (i := 7) (ls2 := [(7, .int r208), (6, .int r206), (0, .ref (ad 176)), (1, .int a1), (2, .long a2), (4, .int a4), (5, .int a5)]) C dL_areAccountsRight_312 (by decide) rfl ?_
      refine x_iload (pc := 314) (i := 4) C 5 dL_areAccountsRight_314 rfl ?_
      refine x_if_eq (pc := 316) (tgt := 360) C dL_areAccountsRight_316 (by decide) (fun c209 => ?_) (fun c209 => ?_)
      · have hR := hR.trans (if_pos c209)
        have hok := hok.1 c209
        refine x_iconst (pc := 360) (v := 0) C dL_areAccountsRight_360 (by decide) ?_
        refine x_istore (pc := 361) (i := 4) (ls2 := [(4, .int 0), (7, .int r208), (6, .int r206), (0, .ref (ad 176)), (1, .int a1), (2, .long a2), (5, .int a5)]) C dL_areAccountsRight_361 (by decide) rfl ?_
        refine x_iinc (pc := 363) (i := 5) (v := (a5 + 1)) (ls2 := [(5, .int (a5 + 1)), (4, .int 0), (7, .int r208), (6, .int r206), (0, .ref (ad 176)), (1, .int a1), (2, .long a2)]) C 6 dL_areAccountsRight_363 rfl rfl (by decide) rfl ?_
        refine x_goto (pc := 366) (tgt := 288) C dL_areAccountsRight_366 (by decide) ?_
        refine x_sub [4, 5, 6, 1, 0] (ls2 := [(0, .ref (ad 176)), (1, .int a1), (2, .long a2), (4, .int 0), (5, .int (a5 + 1))]) rfl ?_
        refine x_wid (k0 := cs0 + 0) (n0 := ss0 + 0) (by omega) (by omega) ?_
        exact ih B a1 a2 0 (a5 + 1) _ _ ⟨by omega, by omega⟩ R0 hR hok (x_wid (by omega) (by omega) k)
      · have hR := hR.trans (if_neg c209)
        have hok := hok.2 c209
        refine x_aload_n (pc := 319) (i := 0) C 2 dL_areAccountsRight_319 rfl rfl ?_
        refine x_iload (pc := 320) (i := 6) C 1 dL_areAccountsRight_320 rfl ?_
        have h210 := hok.1
        have hok := hok.2
        refine x_cIV (pc := 322) (as := [.int r206]) (q := 176) C (c_X6_balanceOf_n C.2.2.2.2.2.2.2.1  B M O r206 h210) (fs := _) e_I rfl cv_X6_balanceOf cd_X6_balanceOf wd_4_144 ⟨Nat.le_of_ble_eq_true rfl, Nat.le_of_ble_eq_true rfl⟩ ⟨by simp only [rmd]; omega, by simp only [rmd]; omega⟩ rfl rfl (Nat.le_of_ble_eq_true rfl) dL_areAccountsRight_322 ?_
        refine x_nmI (fun r211 er211 => ?_)
        have hR := nmE hR er211
        have hok := hok r211 er211
        refine x_aload_n (pc := 325) (i := 0) C 2 dL_areAccountsRight_325 rfl rfl ?_
        refine x_iload (pc := 326) (i := 7) C 0 dL_areAccountsRight_326 rfl ?_
        have h212 := hok.1
        have hok := hok.2
        refine x_cIV (pc := 328) (as := [.int r208]) (q := 176) C (c_X6_balanceOf_n C.2.2.2.2.2.2.2.1  B M O r208 h212) (fs := _) e_I rfl cv_X6_balanceOf cd_X6_balanceOf wd_4_144 ⟨Nat.le_of_ble_eq_true rfl, Nat.le_of_ble_eq_true rfl⟩ ⟨by simp only [rmd]; omega, by simp only [rmd]; omega⟩ rfl rfl (Nat.le_of_ble_eq_true rfl) dL_areAccountsRight_328 ?_
        refine x_nmI (fun r213 er213 => ?_)
        have hR := nmE hR er213
        have hok := hok r213 er213
        refine x_icmp_gt (pc := 331) (tgt := 356) C dL_areAccountsRight_331 (by decide) (fun c214 => ?_) (fun c214 => ?_)
        · have hR := hR.trans (if_pos c214)
          have hok := hok.1 c214
          refine x_iconst (pc := 356) (v := 1) C dL_areAccountsRight_356 (by decide) ?_
          refine x_goto (pc := 357) (tgt := 361) C dL_areAccountsRight_357 (by decide) ?_
          refine x_istore (pc := 361) (i := 4) (ls2 := [(4, .int 1), (7, .int r208), (6, .int r206), (0, .ref (ad 176)), (1, .int a1), (2, .long a2), (5, .int a5)]) C dL_areAccountsRight_361 (by decide) rfl ?_
          refine x_iinc (pc := 363) (i := 5) (v := (a5 + 1)) (ls2 := [(5, .int (a5 + 1)), (4, .int 1), (7, .int r208), (6, .int r206), (0, .ref (ad 176)), (1, .int a1), (2, .long a2)]) C 6 dL_areAccountsRight_363 rfl rfl (by decide) rfl ?_
          refine x_goto (pc := 366) (tgt := 288) C dL_areAccountsRight_366 (by decide) ?_
          refine x_sub [4, 5, 6, 1, 0] (ls2 := [(0, .ref (ad 176)), (1, .int a1), (2, .long a2), (4, .int 1), (5, .int (a5 + 1))]) rfl ?_
          refine x_wid (k0 := cs0 + 0) (n0 := ss0 + 0) (by omega) (by omega) ?_
          exact ih B a1 a2 1 (a5 + 1) _ _ ⟨by omega, by omega⟩ R0 hR hok (x_wid (by omega) (by omega) k)
        · have hR := hR.trans (if_neg c214)
          have hok := hok.2 c214
          refine x_aload_n (pc := 334) (i := 0) C 2 dL_areAccountsRight_334 rfl rfl ?_
          refine x_iload (pc := 335) (i := 6) C 1 dL_areAccountsRight_335 rfl ?_
          have h215 := hok.1
          have hok := hok.2
          refine x_cIV (pc := 337) (as := [.int r206]) (q := 176) C (c_X6_balanceOf_n C.2.2.2.2.2.2.2.1  B M O r206 h215) (fs := _) e_I rfl cv_X6_balanceOf cd_X6_balanceOf wd_4_144 ⟨Nat.le_of_ble_eq_true rfl, Nat.le_of_ble_eq_true rfl⟩ ⟨by simp only [rmd]; omega, by simp only [rmd]; omega⟩ rfl rfl (Nat.le_of_ble_eq_true rfl) dL_areAccountsRight_337 ?_
          refine x_nmI (fun r216 er216 => ?_)
          have hR := nmE hR er216
          have hok := hok r216 er216
          refine x_aload_n (pc := 340) (i := 0) C 2 dL_areAccountsRight_340 rfl rfl ?_
          refine x_iload (pc := 341) (i := 7) C 0 dL_areAccountsRight_341 rfl ?_
          have h217 := hok.1
          have hok := hok.2
          refine x_cIV (pc := 343) (as := [.int r208]) (q := 176) C (c_X6_balanceOf_n C.2.2.2.2.2.2.2.1  B M O r208 h217) (fs := _) e_I rfl cv_X6_balanceOf cd_X6_balanceOf wd_4_144 ⟨Nat.le_of_ble_eq_true rfl, Nat.le_of_ble_eq_true rfl⟩ ⟨by simp only [rmd]; omega, by simp only [rmd]; omega⟩ rfl rfl (Nat.le_of_ble_eq_true rfl) dL_areAccountsRight_343 ?_
          refine x_nmI (fun r218 er218 => ?_)
          have hR := nmE hR er218
          have hok := hok r218 er218
          refine x_icmp_ne (pc := 346) (tgt := 360) C dL_areAccountsRight_346 (by decide) (fun c219 => ?_) (fun c219 => ?_)
          · have hR := hR.trans (if_neg c219)
            have hok := hok.2 c219
            refine x_iconst (pc := 360) (v := 0) C dL_areAccountsRight_360 (by decide) ?_
            refine x_istore (pc := 361) (i := 4) (ls2 := [(4, .int 0), (7, .int r208), (6, .int r206), (0, .ref (ad 176)), (1, .int a1), (2, .long a2), (5, .int a5)]) C dL_areAccountsRight_361 (by decide) rfl ?_
            refine x_iinc (pc := 363) (i := 5) (v := (a5 + 1)) (ls2 := [(5, .int (a5 + 1)), (4, .int 0), (7, .int r208), (6, .int r206), (0, .ref (ad 176)), (1, .int a1), (2, .long a2)]) C 6 dL_areAccountsRight_363 rfl rfl (by decide) rfl ?_
            refine x_goto (pc := 366) (tgt := 288) C dL_areAccountsRight_366 (by decide) ?_
            refine x_sub [4, 5, 6, 1, 0] (ls2 := [(0, .ref (ad 176)), (1, .int a1), (2, .long a2), (4, .int 0), (5, .int (a5 + 1))]) rfl ?_
            refine x_wid (k0 := cs0 + 0) (n0 := ss0 + 0) (by omega) (by omega) ?_
            exact ih B a1 a2 0 (a5 + 1) _ _ ⟨by omega, by omega⟩ R0 hR hok (x_wid (by omega) (by omega) k)
          · have hR := hR.trans (if_pos c219)
            have hok := hok.1 c219
            refine x_iload (pc := 349) (i := 6) C 1 dL_areAccountsRight_349 rfl ?_
            refine x_iload (pc := 351) (i := 7) C 0 dL_areAccountsRight_351 rfl ?_
            refine x_icmp_ge (pc := 353) (tgt := 360) C dL_areAccountsRight_353 (by decide) (fun c220 => ?_) (fun c220 => ?_)
            · have hR := hR.trans (if_pos c220)
              have hok := hok.1 c220
              refine x_iconst (pc := 360) (v := 0) C dL_areAccountsRight_360 (by decide) ?_
              refine x_istore (pc := 361) (i := 4) (ls2 := [(4, .int 0), (7, .int r208), (6, .int r206), (0, .ref (ad 176)), (1, .int a1), (2, .long a2), (5, .int a5)]) C dL_areAccountsRight_361 (by decide) rfl ?_
              refine x_iinc (pc := 363) (i := 5) (v := (a5 + 1)) (ls2 := [(5, .int (a5 + 1)), (4, .int 0), (7, .int r208), (6, .int r206), (0, .ref (ad 176)), (1, .int a1), (2, .long a2)]) C 6 dL_areAccountsRight_363 rfl rfl (by decide) rfl ?_
              refine x_goto (pc := 366) (tgt := 288) C dL_areAccountsRight_366 (by decide) ?_
              refine x_sub [4, 5, 6, 1, 0] (ls2 := [(0, .ref (ad 176)), (1, .int a1), (2, .long a2), (4, .int 0), (5, .int (a5 + 1))]) rfl ?_
              refine x_wid (k0 := cs0 + 0) (n0 := ss0 + 0) (by omega) (by omega) ?_
              exact ih B a1 a2 0 (a5 + 1) _ _ ⟨by omega, by omega⟩ R0 hR hok (x_wid (by omega) (by omega) k)
            · have hR := hR.trans (if_neg c220)
              have hok := hok.2 c220
              refine x_iconst (pc := 356) (v := 1) C dL_areAccountsRight_356 (by decide) ?_
              refine x_goto (pc := 357) (tgt := 361) C dL_areAccountsRight_357 (by decide) ?_
              refine x_istore (pc := 361) (i := 4) (ls2 := [(4, .int 1), (7, .int r208), (6, .int r206), (0, .ref (ad 176)), (1, .int a1), (2, .long a2), (5, .int a5)]) C dL_areAccountsRight_361 (by decide) rfl ?_
              refine x_iinc (pc := 363) (i := 5) (v := (a5 + 1)) (ls2 := [(5, .int (a5 + 1)), (4, .int 1), (7, .int r208), (6, .int r206), (0, .ref (ad 176)), (1, .int a1), (2, .long a2)]) C 6 dL_areAccountsRight_363 rfl rfl (by decide) rfl ?_
              refine x_goto (pc := 366) (tgt := 288) C dL_areAccountsRight_366 (by decide) ?_
              refine x_sub [4, 5, 6, 1, 0] (ls2 := [(0, .ref (ad 176)), (1, .int a1), (2, .long a2), (4, .int 1), (5, .int (a5 + 1))]) rfl ?_
              refine x_wid (k0 := cs0 + 0) (n0 := ss0 + 0) (by omega) (by omega) ?_
              exact ih B a1 a2 1 (a5 + 1) _ _ ⟨by omega, by omega⟩ R0 hR hok (x_wid (by omega) (by omega) k)
set_option maxHeartbeats 4000000 in
set_option maxRecDepth 100000 in
theorem t_L_areAccountsRight_J424 {p0 : Program} {l : Launch} {e : Env} {s : State} {m : MethodId} {args : Array Value} {below : List Frame} {meth : Method} {c : Code} {A : Nat → Prop} {G : GT} {ad : Nat → Nat} (C : CX p0 l s m args meth c A G ad cL_areAccountsRight RL 9 (some .boolean)) (hG : G.2.2.2.2 2 = 0 ∧ G.2.2.2.2 3 = 0) (B : StB) (a1 : Int32) (a2 : Int64) (s0 : Int32) (M : StM) (O : StO) (cs0 ss0 : Nat) (hcs : cs0 + 0 ≤ 96 ∧ ss0 + 0 ≤ 2576) (R0 : Int32 × StB) (hR : R0 = f_L_areAccountsRight_J424 B a1 a2 s0) (hok : ok_L_areAccountsRight_J424 B a1 a2 s0) : X p0 l e (rmd 22 96 2576) s m args below meth c A G ad 9 cs0 ss0 (MQ below (QI G A ad R0.1 R0.2 M O) args s 96 2576 A) B M O [(0, .ref (ad 176)), (1, .int a1), (2, .long a2)] 424 [.int s0] := by
  have hR : R0 = (if s0 = 0 then (0, B) else (if a1 = 0 then (1, B) else (nm (f_X6_meanBalance_n B) (fun (r226 : UInt64) => (if (dcmpl r226 (FP.ddiv (FP.l2d a2) (FP.i2d a1))) = 0 then (1, B) else (0, B)))))) := hR
  have hok : ((s0 = 0 → True) ∧ (¬ s0 = 0 → ((a1 = 0 → True) ∧ (¬ a1 = 0 → ((ok_X6_meanBalance_n B) ∧ (∀ r226 : UInt64, r226 = (f_X6_meanBalance_n B) → (vf_n64 (FP.ddiv (FP.l2d a2) (FP.i2d a1))))))))) := hok
  refine x_istore (pc := 424) (i := 4) (ls2 := [(4, .int s0), (0, .ref (ad 176)), (1, .int a1), (2, .long a2)]) C dL_areAccountsRight_424 (by decide) rfl ?_
  refine x_iload (pc := 426) (i := 4) C 0 dL_areAccountsRight_426 rfl ?_
  refine x_if_eq (pc := 428) (tgt := 452) C dL_areAccountsRight_428 (by decide) (fun c223 => ?_) (fun c223 => ?_)
  · have hR := hR.trans (if_pos c223)
    refine x_iconst (pc := 452) (v := 0) C dL_areAccountsRight_452 (by decide) ?_
    refine x_wid (k0 := 96) (n0 := 2576) (by omega) (by omega) ?_
    exact x_zretB (pc := 453) C rfl (by decide) hR dL_areAccountsRight_453
  · have hR := hR.trans (if_neg c223)
    have hok := hok.2 c223
    refine x_iload_n (pc := 431) (i := 1) C 2 dL_areAccountsRight_431 rfl rfl ?_
    refine x_if_eq (pc := 432) (tgt := 448) C dL_areAccountsRight_432 (by decide) (fun c224 => ?_) (fun c224 => ?_)
    · have hR := hR.trans (if_pos c224)
      refine x_iconst (pc := 448) (v := 1) C dL_areAccountsRight_448 (by decide) ?_
      refine x_goto (pc := 449) (tgt := 453) C dL_areAccountsRight_449 (by decide) ?_
      refine x_wid (k0 := 96) (n0 := 2576) (by omega) (by omega) ?_
      exact x_zretB (pc := 453) C rfl (by decide) hR dL_areAccountsRight_453
    · have hR := hR.trans (if_neg c224)
      have hok := hok.2 c224
      refine x_aload_n (pc := 435) (i := 0) C 1 dL_areAccountsRight_435 rfl rfl ?_
      have h225 := hok.1
      have hok := hok.2
      refine x_cDV (pc := 436) (as := []) (q := 176) C (c_X6_meanBalance_n C.2.2.2.2.2.2.2.1  B M O  h225) (fs := _) e_I rfl cv_X6_meanBalance cd_X6_meanBalance wd_6_82 ⟨Nat.le_of_ble_eq_true rfl, Nat.le_of_ble_eq_true rfl⟩ ⟨by simp only [rmd]; omega, by simp only [rmd]; omega⟩ rfl rfl (Nat.le_of_ble_eq_true rfl) dL_areAccountsRight_436 ?_
      refine x_nmD (fun r226 er226 => ?_)
      have hR := nmE hR er226
      have hok := hok r226 er226
      refine x_lload_n (pc := 439) (i := 2) C 3 dL_areAccountsRight_439 rfl rfl ?_
      refine x_l2d (pc := 440) C dL_areAccountsRight_440 ?_
      refine x_iload_n (pc := 441) (i := 1) C 2 dL_areAccountsRight_441 rfl rfl ?_
      refine x_i2d (pc := 442) C dL_areAccountsRight_442 ?_
      have h227 := hok
      refine x_ddiv (pc := 443) C h227 dL_areAccountsRight_443 ?_
      refine x_dcmpl (pc := 444) C dL_areAccountsRight_444 ?_
      refine x_if_ne (pc := 445) (tgt := 452) C dL_areAccountsRight_445 (by decide) (fun c228 => ?_) (fun c228 => ?_)
      · have hR := hR.trans (if_neg c228)
        refine x_iconst (pc := 452) (v := 0) C dL_areAccountsRight_452 (by decide) ?_
        refine x_wid (k0 := 96) (n0 := 2576) (by omega) (by omega) ?_
        exact x_zretB (pc := 453) C rfl (by decide) hR dL_areAccountsRight_453
      · have hR := hR.trans (if_pos c228)
        refine x_iconst (pc := 448) (v := 1) C dL_areAccountsRight_448 (by decide) ?_
        refine x_goto (pc := 449) (tgt := 453) C dL_areAccountsRight_449 (by decide) ?_
        refine x_wid (k0 := 96) (n0 := 2576) (by omega) (by omega) ?_
        exact x_zretB (pc := 453) C rfl (by decide) hR dL_areAccountsRight_453
set_option maxHeartbeats 4000000 in
set_option maxRecDepth 100000 in
theorem t_L_areAccountsRight_J423 {p0 : Program} {l : Launch} {e : Env} {s : State} {m : MethodId} {args : Array Value} {below : List Frame} {meth : Method} {c : Code} {A : Nat → Prop} {G : GT} {ad : Nat → Nat} (C : CX p0 l s m args meth c A G ad cL_areAccountsRight RL 9 (some .boolean)) (hG : G.2.2.2.2 2 = 0 ∧ G.2.2.2.2 3 = 0) (B : StB) (a1 : Int32) (a2 : Int64) (M : StM) (O : StO) (cs0 ss0 : Nat) (hcs : cs0 + 0 ≤ 96 ∧ ss0 + 0 ≤ 2576) (R0 : Int32 × StB) (hR : R0 = f_L_areAccountsRight_J423 B a1 a2) (hok : ok_L_areAccountsRight_J423 B a1 a2) : X p0 l e (rmd 22 96 2576) s m args below meth c A G ad 9 cs0 ss0 (MQ below (QI G A ad R0.1 R0.2 M O) args s 96 2576 A) B M O [(0, .ref (ad 176)), (1, .int a1), (2, .long a2)] 423 [] := by
  have hR : R0 = (f_L_areAccountsRight_J424 B a1 a2 0) := hR
  have hok : (ok_L_areAccountsRight_J424 B a1 a2 0) := hok
  refine x_iconst (pc := 423) (v := 0) C dL_areAccountsRight_423 (by decide) ?_
  refine x_sub [0, 1, 2] (ls2 := [(0, .ref (ad 176)), (1, .int a1), (2, .long a2)]) rfl ?_
  exact t_L_areAccountsRight_J424 C hG B a1 a2 0 M O _ _ ⟨by omega, by omega⟩ _ hR hok
set_option maxHeartbeats 4000000 in
set_option maxRecDepth 100000 in
theorem t_L_areAccountsRight_J64 {p0 : Program} {l : Launch} {e : Env} {s : State} {m : MethodId} {args : Array Value} {below : List Frame} {meth : Method} {c : Code} {A : Nat → Prop} {G : GT} {ad : Nat → Nat} (C : CX p0 l s m args meth c A G ad cL_areAccountsRight RL 9 (some .boolean)) (hG : G.2.2.2.2 2 = 0 ∧ G.2.2.2.2 3 = 0) (B : StB) (a1 : Int32) (a2 : Int64) (s0 : Int32) (M : StM) (O : StO) (cs0 ss0 : Nat) (hcs : cs0 + 80 ≤ 96 ∧ ss0 + 2480 ≤ 2576) (R0 : Int32 × StB) (hR : R0 = f_L_areAccountsRight_J64 B a1 a2 s0) (hok : ok_L_areAccountsRight_J64 B a1 a2 s0) : X p0 l e (rmd 22 96 2576) s m args below meth c A G ad 9 cs0 ss0 (MQ below (QI G A ad R0.1 R0.2 M O) args s 96 2576 A) B M O [(0, .ref (ad 176)), (1, .int a1), (2, .long a2)] 64 [.int s0] := by
  have hR : R0 = (nm (f_L_areAccountsRight_L69 20 B a1 a2 s0 0) (fun (z203 : Int64 × Int32 × StB) => (nm (f_L_areAccountsRight_L288 20 z203.2.2 a1 z203.1 z203.2.1 0) (fun (z221 : Int32) => (if z221 = 0 then (f_L_areAccountsRight_J423 z203.2.2 a1 z203.1) else (nm (f_X6_totalInk z203.2.2) (fun (r230 : Int64) => (nm (f_X6_bankBalance z203.2.2) (fun (r231 : Int32) => (if (lg_cmp r230 (z203.1 + (Int32.toInt64 r231))) = 0 then (nm (f_X6_totalInkByMovements z203.2.2) (fun (r233 : Int64) => (nm (f_X6_totalInk z203.2.2) (fun (r235 : Int64) => (if (lg_cmp r233 r235) = 0 then (nm (f_X6_bankBalance z203.2.2) (fun (r237 : Int32) => (nm (f_X6_chargesPaid z203.2.2) (fun (r238 : Int64) => (nm (f_X6_interestPaid z203.2.2) (fun (r239 : Int64) => (if (lg_cmp (Int32.toInt64 r237) (r238 - r239)) = 0 then (f_L_areAccountsRight_J424 z203.2.2 a1 z203.1 1) else (f_L_areAccountsRight_J423 z203.2.2 a1 z203.1)))))))) else (f_L_areAccountsRight_J423 z203.2.2 a1 z203.1)))))) else (f_L_areAccountsRight_J423 z203.2.2 a1 z203.1))))))))))) := hR
  have hok : ((ok_L_areAccountsRight_L69 20 B a1 a2 s0 0) ∧ ∀ z203 : Int64 × Int32 × StB, z203 = f_L_areAccountsRight_L69 20 B a1 a2 s0 0 → ((ok_L_areAccountsRight_L288 20 z203.2.2 a1 z203.1 z203.2.1 0) ∧ ∀ z221 : Int32, z221 = f_L_areAccountsRight_L288 20 z203.2.2 a1 z203.1 z203.2.1 0 → ((z221 = 0 → (ok_L_areAccountsRight_J423 z203.2.2 a1 z203.1)) ∧ (¬ z221 = 0 → ((ok_X6_totalInk z203.2.2) ∧ (∀ r230 : Int64, r230 = (f_X6_totalInk z203.2.2) → (∀ r231 : Int32, r231 = (f_X6_bankBalance z203.2.2) → (((lg_cmp r230 (z203.1 + (Int32.toInt64 r231))) = 0 → (∀ r233 : Int64, r233 = (f_X6_totalInkByMovements z203.2.2) → ((ok_X6_totalInk z203.2.2) ∧ (∀ r235 : Int64, r235 = (f_X6_totalInk z203.2.2) → (((lg_cmp r233 r235) = 0 → (∀ r237 : Int32, r237 = (f_X6_bankBalance z203.2.2) → (∀ r238 : Int64, r238 = (f_X6_chargesPaid z203.2.2) → (∀ r239 : Int64, r239 = (f_X6_interestPaid z203.2.2) → (((lg_cmp (Int32.toInt64 r237) (r238 - r239)) = 0 → (ok_L_areAccountsRight_J424 z203.2.2 a1 z203.1 1)) ∧ (¬ (lg_cmp (Int32.toInt64 r237) (r238 - r239)) = 0 → (ok_L_areAccountsRight_J423 z203.2.2 a1 z203.1))))))) ∧ (¬ (lg_cmp r233 r235) = 0 → (ok_L_areAccountsRight_J423 z203.2.2 a1 z203.1))))))) ∧ (¬ (lg_cmp r230 (z203.1 + (Int32.toInt64 r231))) = 0 → (ok_L_areAccountsRight_J423 z203.2.2 a1 z203.1)))))))))) := hok
  refine x_istore (pc := 64) (i := 4) (ls2 := [(4, .int s0), (0, .ref (ad 176)), (1, .int a1), (2, .long a2)]) C dL_areAccountsRight_64 (by decide) rfl ?_
  refine x_iconst (pc := 66) (v := 0) C dL_areAccountsRight_66 (by decide) ?_
  refine x_istore (pc := 67) (i := 5) (ls2 := [(5, .int 0), (4, .int s0), (0, .ref (ad 176)), (1, .int a1), (2, .long a2)]) C dL_areAccountsRight_67 (by decide) rfl ?_
  refine x_sub [2, 3, 4, 1, 0] (ls2 := [(0, .ref (ad 176)), (1, .int a1), (2, .long a2), (4, .int s0), (5, .int 0)]) rfl ?_
  obtain ⟨z203, ez203⟩ : ∃ z : Int64 × Int32 × StB, z = f_L_areAccountsRight_L69 20 B a1 a2 s0 0 := ⟨_, rfl⟩
  refine t_L_areAccountsRight_L69 C hG 20 B a1 a2 s0 0 M O _ _ ⟨by omega, by omega⟩ z203 ez203 hok.1 ?_
  have hR := nmE hR ez203
  have hok := hok.2 z203 ez203
  refine x_iconst (pc := 285) (v := 0) C dL_areAccountsRight_285 (by decide) ?_
  refine x_istore (pc := 286) (i := 5) (ls2 := [(5, .int 0), (0, .ref (ad 176)), (1, .int a1), (2, .long z203.1), (4, .int z203.2.1)]) C dL_areAccountsRight_286 (by decide) rfl ?_
  refine x_sub [1, 2, 3, 4, 0] (ls2 := [(0, .ref (ad 176)), (1, .int a1), (2, .long z203.1), (4, .int z203.2.1), (5, .int 0)]) rfl ?_
  obtain ⟨z221, ez221⟩ : ∃ z : Int32, z = f_L_areAccountsRight_L288 20 z203.2.2 a1 z203.1 z203.2.1 0 := ⟨_, rfl⟩
  refine t_L_areAccountsRight_L288 C hG 20 z203.2.2 a1 z203.1 z203.2.1 0 M O _ _ ⟨by omega, by omega⟩ z221 ez221 hok.1 ?_
  have hR := nmE hR ez221
  have hok := hok.2 z221 ez221
  refine x_iload (pc := 369) (i := 4) C 3 dL_areAccountsRight_369 rfl ?_
  refine x_if_eq (pc := 371) (tgt := 423) C dL_areAccountsRight_371 (by decide) (fun c222 => ?_) (fun c222 => ?_)
  · have hR := hR.trans (if_pos c222)
    have hok := hok.1 c222
    refine x_sub [0, 1, 2] (ls2 := [(0, .ref (ad 176)), (1, .int a1), (2, .long z203.1)]) rfl ?_
    exact t_L_areAccountsRight_J423 C hG z203.2.2 a1 z203.1 M O _ _ ⟨by omega, by omega⟩ _ hR hok
  · have hR := hR.trans (if_neg c222)
    have hok := hok.2 c222
    refine x_aload_n (pc := 374) (i := 0) C 0 dL_areAccountsRight_374 rfl rfl ?_
    have h229 := hok.1
    have hok := hok.2
    refine x_cLV (pc := 375) (as := []) (q := 176) C (c_X6_totalInk C.2.2.2.2.2.2.2.1  z203.2.2 M O  h229) (fs := _) e_I rfl cv_X6_totalInk cd_X6_totalInk wd_6_58 ⟨Nat.le_of_ble_eq_true rfl, Nat.le_of_ble_eq_true rfl⟩ ⟨by simp only [rmd]; omega, by simp only [rmd]; omega⟩ rfl rfl (Nat.le_of_ble_eq_true rfl) dL_areAccountsRight_375 ?_
    refine x_nmL (fun r230 er230 => ?_)
    have hR := nmE hR er230
    have hok := hok r230 er230
    refine x_lload_n (pc := 378) (i := 2) C 2 dL_areAccountsRight_378 rfl rfl ?_
    refine x_aload_n (pc := 379) (i := 0) C 0 dL_areAccountsRight_379 rfl rfl ?_
    refine x_cIV (pc := 380) (as := []) (q := 176) C (c_X6_bankBalance C.2.2.2.2.2.2.2.1  z203.2.2 M O ) (fs := _) e_I rfl cv_X6_bankBalance cd_X6_bankBalance wd_6_66 ⟨Nat.le_of_ble_eq_true rfl, Nat.le_of_ble_eq_true rfl⟩ ⟨by simp only [rmd]; omega, by simp only [rmd]; omega⟩ rfl rfl (Nat.le_of_ble_eq_true rfl) dL_areAccountsRight_380 ?_
    refine x_nmI (fun r231 er231 => ?_)
    have hR := nmE hR er231
    have hok := hok r231 er231
    refine x_i2l (pc := 383) C dL_areAccountsRight_383 ?_
    refine x_ladd (pc := 384) C dL_areAccountsRight_384 ?_
    refine x_lcmp (pc := 385) C dL_areAccountsRight_385 ?_
    refine x_if_ne (pc := 386) (tgt := 423) C dL_areAccountsRight_386 (by decide) (fun c232 => ?_) (fun c232 => ?_)
    · have hR := hR.trans (if_neg c232)
      have hok := hok.2 c232
      refine x_sub [0, 1, 2] (ls2 := [(0, .ref (ad 176)), (1, .int a1), (2, .long z203.1)]) rfl ?_
      exact t_L_areAccountsRight_J423 C hG z203.2.2 a1 z203.1 M O _ _ ⟨by omega, by omega⟩ _ hR hok
    · have hR := hR.trans (if_pos c232)
      have hok := hok.1 c232
      refine x_aload_n (pc := 389) (i := 0) C 0 dL_areAccountsRight_389 rfl rfl ?_
      refine x_cLV (pc := 390) (as := []) (q := 176) C (c_X6_totalInkByMovements C.2.2.2.2.2.2.2.1  z203.2.2 M O ) (fs := _) e_I rfl cv_X6_totalInkByMovements cd_X6_totalInkByMovements wd_6_70 ⟨Nat.le_of_ble_eq_true rfl, Nat.le_of_ble_eq_true rfl⟩ ⟨by simp only [rmd]; omega, by simp only [rmd]; omega⟩ rfl rfl (Nat.le_of_ble_eq_true rfl) dL_areAccountsRight_390 ?_
      refine x_nmL (fun r233 er233 => ?_)
      have hR := nmE hR er233
      have hok := hok r233 er233
      refine x_aload_n (pc := 393) (i := 0) C 0 dL_areAccountsRight_393 rfl rfl ?_
      have h234 := hok.1
      have hok := hok.2
      refine x_cLV (pc := 394) (as := []) (q := 176) C (c_X6_totalInk C.2.2.2.2.2.2.2.1  z203.2.2 M O  h234) (fs := _) e_I rfl cv_X6_totalInk cd_X6_totalInk wd_6_58 ⟨Nat.le_of_ble_eq_true rfl, Nat.le_of_ble_eq_true rfl⟩ ⟨by simp only [rmd]; omega, by simp only [rmd]; omega⟩ rfl rfl (Nat.le_of_ble_eq_true rfl) dL_areAccountsRight_394 ?_
      refine x_nmL (fun r235 er235 => ?_)
      have hR := nmE hR er235
      have hok := hok r235 er235
      refine x_lcmp (pc := 397) C dL_areAccountsRight_397 ?_
      refine x_if_ne (pc := 398) (tgt := 423) C dL_areAccountsRight_398 (by decide) (fun c236 => ?_) (fun c236 => ?_)
      · have hR := hR.trans (if_neg c236)
        have hok := hok.2 c236
        refine x_sub [0, 1, 2] (ls2 := [(0, .ref (ad 176)), (1, .int a1), (2, .long z203.1)]) rfl ?_
        exact t_L_areAccountsRight_J423 C hG z203.2.2 a1 z203.1 M O _ _ ⟨by omega, by omega⟩ _ hR hok
      · have hR := hR.trans (if_pos c236)
        have hok := hok.1 c236
        refine x_aload_n (pc := 401) (i := 0) C 0 dL_areAccountsRight_401 rfl rfl ?_
        refine x_cIV (pc := 402) (as := []) (q := 176) C (c_X6_bankBalance C.2.2.2.2.2.2.2.1  z203.2.2 M O ) (fs := _) e_I rfl cv_X6_bankBalance cd_X6_bankBalance wd_6_66 ⟨Nat.le_of_ble_eq_true rfl, Nat.le_of_ble_eq_true rfl⟩ ⟨by simp only [rmd]; omega, by simp only [rmd]; omega⟩ rfl rfl (Nat.le_of_ble_eq_true rfl) dL_areAccountsRight_402 ?_
        refine x_nmI (fun r237 er237 => ?_)
        have hR := nmE hR er237
        have hok := hok r237 er237
        refine x_i2l (pc := 405) C dL_areAccountsRight_405 ?_
        refine x_aload_n (pc := 406) (i := 0) C 0 dL_areAccountsRight_406 rfl rfl ?_
        refine x_cLV (pc := 407) (as := []) (q := 176) C (c_X6_chargesPaid C.2.2.2.2.2.2.2.1  z203.2.2 M O ) (fs := _) e_I rfl cv_X6_chargesPaid cd_X6_chargesPaid wd_6_74 ⟨Nat.le_of_ble_eq_true rfl, Nat.le_of_ble_eq_true rfl⟩ ⟨by simp only [rmd]; omega, by simp only [rmd]; omega⟩ rfl rfl (Nat.le_of_ble_eq_true rfl) dL_areAccountsRight_407 ?_
        refine x_nmL (fun r238 er238 => ?_)
        have hR := nmE hR er238
        have hok := hok r238 er238
        refine x_aload_n (pc := 410) (i := 0) C 0 dL_areAccountsRight_410 rfl rfl ?_
        refine x_cLV (pc := 411) (as := []) (q := 176) C (c_X6_interestPaid C.2.2.2.2.2.2.2.1  z203.2.2 M O ) (fs := _) e_I rfl cv_X6_interestPaid cd_X6_interestPaid wd_6_78 ⟨Nat.le_of_ble_eq_true rfl, Nat.le_of_ble_eq_true rfl⟩ ⟨by simp only [rmd]; omega, by simp only [rmd]; omega⟩ rfl rfl (Nat.le_of_ble_eq_true rfl) dL_areAccountsRight_411 ?_
        refine x_nmL (fun r239 er239 => ?_)
        have hR := nmE hR er239
        have hok := hok r239 er239
        refine x_lsub (pc := 414) C dL_areAccountsRight_414 ?_
        refine x_lcmp (pc := 415) C dL_areAccountsRight_415 ?_
        refine x_if_ne (pc := 416) (tgt := 423) C dL_areAccountsRight_416 (by decide) (fun c240 => ?_) (fun c240 => ?_)
        · have hR := hR.trans (if_neg c240)
          have hok := hok.2 c240
          refine x_sub [0, 1, 2] (ls2 := [(0, .ref (ad 176)), (1, .int a1), (2, .long z203.1)]) rfl ?_
          exact t_L_areAccountsRight_J423 C hG z203.2.2 a1 z203.1 M O _ _ ⟨by omega, by omega⟩ _ hR hok
        · have hR := hR.trans (if_pos c240)
          have hok := hok.1 c240
          refine x_iconst (pc := 419) (v := 1) C dL_areAccountsRight_419 (by decide) ?_
          refine x_goto (pc := 420) (tgt := 424) C dL_areAccountsRight_420 (by decide) ?_
          refine x_sub [0, 1, 2] (ls2 := [(0, .ref (ad 176)), (1, .int a1), (2, .long z203.1)]) rfl ?_
          exact t_L_areAccountsRight_J424 C hG z203.2.2 a1 z203.1 1 M O _ _ ⟨by omega, by omega⟩ _ hR hok
set_option maxHeartbeats 4000000 in
set_option maxRecDepth 100000 in
theorem t_L_areAccountsRight_J63 {p0 : Program} {l : Launch} {e : Env} {s : State} {m : MethodId} {args : Array Value} {below : List Frame} {meth : Method} {c : Code} {A : Nat → Prop} {G : GT} {ad : Nat → Nat} (C : CX p0 l s m args meth c A G ad cL_areAccountsRight RL 9 (some .boolean)) (hG : G.2.2.2.2 2 = 0 ∧ G.2.2.2.2 3 = 0) (B : StB) (a1 : Int32) (a2 : Int64) (M : StM) (O : StO) (cs0 ss0 : Nat) (hcs : cs0 + 80 ≤ 96 ∧ ss0 + 2480 ≤ 2576) (R0 : Int32 × StB) (hR : R0 = f_L_areAccountsRight_J63 B a1 a2) (hok : ok_L_areAccountsRight_J63 B a1 a2) : X p0 l e (rmd 22 96 2576) s m args below meth c A G ad 9 cs0 ss0 (MQ below (QI G A ad R0.1 R0.2 M O) args s 96 2576 A) B M O [(0, .ref (ad 176)), (1, .int a1), (2, .long a2)] 63 [] := by
  have hR : R0 = (f_L_areAccountsRight_J64 B a1 a2 0) := hR
  have hok : (ok_L_areAccountsRight_J64 B a1 a2 0) := hok
  refine x_iconst (pc := 63) (v := 0) C dL_areAccountsRight_63 (by decide) ?_
  refine x_sub [0, 1, 2] (ls2 := [(0, .ref (ad 176)), (1, .int a1), (2, .long a2)]) rfl ?_
  exact t_L_areAccountsRight_J64 C hG B a1 a2 0 M O _ _ ⟨by omega, by omega⟩ _ hR hok
set_option maxHeartbeats 4000000 in
set_option maxRecDepth 100000 in
theorem c_L_areAccountsRight {l : Launch} {A : Nat → Prop} {G : GT} {ad : Nat → Nat} (gl : Gl l A G ad) (hG : G.2.2.2.2 2 = 0 ∧ G.2.2.2.2 3 = 0) (B : StB) (M : StM) (O : StO)  (hok : ok_L_areAccountsRight B) : Met l yL_areAccountsRight (wof yL_areAccountsRight cL_areAccountsRight 9 (some .boolean)) (rmd 22 96 2576) (va_Pc [.ref (ad 176)] (PW G A ad B M O)) (QI G A ad (f_L_areAccountsRight B).1 (f_L_areAccountsRight B).2 M O) 96 2576 A := by
  refine x_body (own := RL) (by decide +kernel) rfl gl (Nat.le_of_ble_eq_true rfl) (ls := [(0, .ref (ad 176))]) rfl ?_
  intro p0 e s m args below meth c C
  have hR : (f_L_areAccountsRight B) = (nm (f_X6_accountCount B) (fun (r1 : Int32) => (nm (f_L_ask B 0 r1 0) (fun (z3 : Int32 × StB) => (if z3.1 = (-20002) then (nm (f_L_ask z3.2 0 (-1) 0) (fun (z242 : Int32 × StB) => (if z242.1 = (-20002) then (nm (f_L_ask z242.2 1 r1 0) (fun (z245 : Int32 × StB) => (if z245.1 = (-20004) then (nm (f_L_ask z245.2 1 (-1) 0) (fun (z248 : Int32 × StB) => (if z248.1 = (-20004) then (f_L_areAccountsRight_J64 z248.2 r1 0 1) else (f_L_areAccountsRight_J63 z248.2 r1 0)))) else (f_L_areAccountsRight_J63 z245.2 r1 0)))) else (f_L_areAccountsRight_J63 z242.2 r1 0)))) else (f_L_areAccountsRight_J63 z3.2 r1 0)))))) := rfl
  have hok : (∀ r1 : Int32, r1 = (f_X6_accountCount B) → ((ok_L_ask B 0 r1 0) ∧ (∀ z3 : Int32 × StB, z3 = (f_L_ask B 0 r1 0) → ((z3.1 = (-20002) → ((ok_L_ask z3.2 0 (-1) 0) ∧ (∀ z242 : Int32 × StB, z242 = (f_L_ask z3.2 0 (-1) 0) → ((z242.1 = (-20002) → ((ok_L_ask z242.2 1 r1 0) ∧ (∀ z245 : Int32 × StB, z245 = (f_L_ask z242.2 1 r1 0) → ((z245.1 = (-20004) → ((ok_L_ask z245.2 1 (-1) 0) ∧ (∀ z248 : Int32 × StB, z248 = (f_L_ask z245.2 1 (-1) 0) → ((z248.1 = (-20004) → (ok_L_areAccountsRight_J64 z248.2 r1 0 1)) ∧ (¬ z248.1 = (-20004) → (ok_L_areAccountsRight_J63 z248.2 r1 0)))))) ∧ (¬ z245.1 = (-20004) → (ok_L_areAccountsRight_J63 z245.2 r1 0)))))) ∧ (¬ z242.1 = (-20002) → (ok_L_areAccountsRight_J63 z242.2 r1 0)))))) ∧ (¬ z3.1 = (-20002) → (ok_L_areAccountsRight_J63 z3.2 r1 0)))))) := hok
  refine x_aload_n (pc := 0) (i := 0) C 0 dL_areAccountsRight_0 rfl rfl ?_
  refine x_cIV (pc := 1) (as := []) (q := 176) C (c_X6_accountCount C.2.2.2.2.2.2.2.1  B M O ) (fs := _) e_I rfl cv_X6_accountCount cd_X6_accountCount wd_2_61 ⟨Nat.le_of_ble_eq_true rfl, Nat.le_of_ble_eq_true rfl⟩ ⟨by simp only [rmd]; omega, by simp only [rmd]; omega⟩ rfl rfl (Nat.le_of_ble_eq_true rfl) dL_areAccountsRight_1 ?_
  refine x_nmI (fun r1 er1 => ?_)
  have hR := nmE hR er1
  have hok := hok r1 er1
  refine x_istore_n (pc := 4) (i := 1) (ls2 := [(1, .int r1), (0, .ref (ad 176))]) C dL_areAccountsRight_4 rfl (by decide) rfl ?_
  refine x_lconst (pc := 5) (v := 0) C dL_areAccountsRight_5 (by decide) ?_
  refine x_lstore_n (pc := 6) (i := 2) (ls2 := [(2, .long 0), (1, .int r1), (0, .ref (ad 176))]) C dL_areAccountsRight_6 rfl (by decide) rfl ?_
  refine x_aload_n (pc := 7) (i := 0) C 2 dL_areAccountsRight_7 rfl rfl ?_
  refine x_iconst (pc := 8) (v := 0) C dL_areAccountsRight_8 (by decide) ?_
  refine x_iload_n (pc := 9) (i := 1) C 1 dL_areAccountsRight_9 rfl rfl ?_
  refine x_iconst (pc := 10) (v := 0) C dL_areAccountsRight_10 (by decide) ?_
  have h2 := hok.1
  have hok := hok.2
  refine x_cWS (pc := 11) (as := [.ref (ad 176), .int 0, .int r1, .int 0]) (n := 4) C (c_L_ask C.2.2.2.2.2.2.2.1  B M O 0 r1 0 h2) wd_4_138 wd_4_139 wd_1_0 wd_4_140 ⟨by decide, by decide, by decide +kernel⟩ ⟨Nat.le_of_ble_eq_true rfl, Nat.le_of_ble_eq_true rfl⟩ ⟨by simp only [rmd]; omega, by simp only [rmd]; omega⟩ rfl rfl (Nat.le_of_ble_eq_true rfl) dL_areAccountsRight_11 ?_
  refine x_nmIB (fun z3 ez3 => ?_)
  have hR := nmE hR ez3
  have hok := hok z3 ez3
  refine x_sipush (pc := 14) (v := (-20002)) C dL_areAccountsRight_14 (by decide) ?_
  refine x_icmp_ne (pc := 17) (tgt := 63) C dL_areAccountsRight_17 (by decide) (fun c4 => ?_) (fun c4 => ?_)
  · have hR := hR.trans (if_neg c4)
    have hok := hok.2 c4
    refine x_sub [2, 1, 0] (ls2 := [(0, .ref (ad 176)), (1, .int r1), (2, .long 0)]) rfl ?_
    exact t_L_areAccountsRight_J63 C hG z3.2 r1 0 M O _ _ ⟨by omega, by omega⟩ _ hR hok
  · have hR := hR.trans (if_pos c4)
    have hok := hok.1 c4
    refine x_aload_n (pc := 20) (i := 0) C 2 dL_areAccountsRight_20 rfl rfl ?_
    refine x_iconst (pc := 21) (v := 0) C dL_areAccountsRight_21 (by decide) ?_
    refine x_iconst (pc := 22) (v := (-1)) C dL_areAccountsRight_22 (by decide) ?_
    refine x_iconst (pc := 23) (v := 0) C dL_areAccountsRight_23 (by decide) ?_
    have h241 := hok.1
    have hok := hok.2
    refine x_cWS (pc := 24) (as := [.ref (ad 176), .int 0, .int (-1), .int 0]) (n := 4) C (c_L_ask C.2.2.2.2.2.2.2.1  z3.2 M O 0 (-1) 0 h241) wd_4_138 wd_4_139 wd_1_0 wd_4_140 ⟨by decide, by decide, by decide +kernel⟩ ⟨Nat.le_of_ble_eq_true rfl, Nat.le_of_ble_eq_true rfl⟩ ⟨by simp only [rmd]; omega, by simp only [rmd]; omega⟩ rfl rfl (Nat.le_of_ble_eq_true rfl) dL_areAccountsRight_24 ?_
    refine x_nmIB (fun z242 ez242 => ?_)
    have hR := nmE hR ez242
    have hok := hok z242 ez242
    refine x_sipush (pc := 27) (v := (-20002)) C dL_areAccountsRight_27 (by decide) ?_
    refine x_icmp_ne (pc := 30) (tgt := 63) C dL_areAccountsRight_30 (by decide) (fun c243 => ?_) (fun c243 => ?_)
    · have hR := hR.trans (if_neg c243)
      have hok := hok.2 c243
      refine x_sub [2, 1, 0] (ls2 := [(0, .ref (ad 176)), (1, .int r1), (2, .long 0)]) rfl ?_
      exact t_L_areAccountsRight_J63 C hG z242.2 r1 0 M O _ _ ⟨by omega, by omega⟩ _ hR hok
    · have hR := hR.trans (if_pos c243)
      have hok := hok.1 c243
      refine x_aload_n (pc := 33) (i := 0) C 2 dL_areAccountsRight_33 rfl rfl ?_
      refine x_iconst (pc := 34) (v := 1) C dL_areAccountsRight_34 (by decide) ?_
      refine x_iload_n (pc := 35) (i := 1) C 1 dL_areAccountsRight_35 rfl rfl ?_
      refine x_iconst (pc := 36) (v := 0) C dL_areAccountsRight_36 (by decide) ?_
      have h244 := hok.1
      have hok := hok.2
      refine x_cWS (pc := 37) (as := [.ref (ad 176), .int 1, .int r1, .int 0]) (n := 4) C (c_L_ask C.2.2.2.2.2.2.2.1  z242.2 M O 1 r1 0 h244) wd_4_138 wd_4_139 wd_1_0 wd_4_140 ⟨by decide, by decide, by decide +kernel⟩ ⟨Nat.le_of_ble_eq_true rfl, Nat.le_of_ble_eq_true rfl⟩ ⟨by simp only [rmd]; omega, by simp only [rmd]; omega⟩ rfl rfl (Nat.le_of_ble_eq_true rfl) dL_areAccountsRight_37 ?_
      refine x_nmIB (fun z245 ez245 => ?_)
      have hR := nmE hR ez245
      have hok := hok z245 ez245
      refine x_sipush (pc := 40) (v := (-20004)) C dL_areAccountsRight_40 (by decide) ?_
      refine x_icmp_ne (pc := 43) (tgt := 63) C dL_areAccountsRight_43 (by decide) (fun c246 => ?_) (fun c246 => ?_)
      · have hR := hR.trans (if_neg c246)
        have hok := hok.2 c246
        refine x_sub [2, 1, 0] (ls2 := [(0, .ref (ad 176)), (1, .int r1), (2, .long 0)]) rfl ?_
        exact t_L_areAccountsRight_J63 C hG z245.2 r1 0 M O _ _ ⟨by omega, by omega⟩ _ hR hok
      · have hR := hR.trans (if_pos c246)
        have hok := hok.1 c246
        refine x_aload_n (pc := 46) (i := 0) C 2 dL_areAccountsRight_46 rfl rfl ?_
        refine x_iconst (pc := 47) (v := 1) C dL_areAccountsRight_47 (by decide) ?_
        refine x_iconst (pc := 48) (v := (-1)) C dL_areAccountsRight_48 (by decide) ?_
        refine x_iconst (pc := 49) (v := 0) C dL_areAccountsRight_49 (by decide) ?_
        have h247 := hok.1
        have hok := hok.2
        refine x_cWS (pc := 50) (as := [.ref (ad 176), .int 1, .int (-1), .int 0]) (n := 4) C (c_L_ask C.2.2.2.2.2.2.2.1  z245.2 M O 1 (-1) 0 h247) wd_4_138 wd_4_139 wd_1_0 wd_4_140 ⟨by decide, by decide, by decide +kernel⟩ ⟨Nat.le_of_ble_eq_true rfl, Nat.le_of_ble_eq_true rfl⟩ ⟨by simp only [rmd]; omega, by simp only [rmd]; omega⟩ rfl rfl (Nat.le_of_ble_eq_true rfl) dL_areAccountsRight_50 ?_
        refine x_nmIB (fun z248 ez248 => ?_)
        have hR := nmE hR ez248
        have hok := hok z248 ez248
        refine x_sipush (pc := 53) (v := (-20004)) C dL_areAccountsRight_53 (by decide) ?_
        refine x_icmp_ne (pc := 56) (tgt := 63) C dL_areAccountsRight_56 (by decide) (fun c249 => ?_) (fun c249 => ?_)
        · have hR := hR.trans (if_neg c249)
          have hok := hok.2 c249
          refine x_sub [2, 1, 0] (ls2 := [(0, .ref (ad 176)), (1, .int r1), (2, .long 0)]) rfl ?_
          exact t_L_areAccountsRight_J63 C hG z248.2 r1 0 M O _ _ ⟨by omega, by omega⟩ _ hR hok
        · have hR := hR.trans (if_pos c249)
          have hok := hok.1 c249
          refine x_iconst (pc := 59) (v := 1) C dL_areAccountsRight_59 (by decide) ?_
          refine x_goto (pc := 60) (tgt := 64) C dL_areAccountsRight_60 (by decide) ?_
          refine x_sub [2, 1, 0] (ls2 := [(0, .ref (ad 176)), (1, .int r1), (2, .long 0)]) rfl ?_
          exact t_L_areAccountsRight_J64 C hG z248.2 r1 0 1 M O _ _ ⟨by omega, by omega⟩ _ hR hok
