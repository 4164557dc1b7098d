set_option maxHeartbeats 4000000 in
set_option maxRecDepth 100000 in
theorem c_X7_written {l : Launch} {A : Nat → Prop} {G : GT} {ad : Nat → Nat} (gl : Gl l A ad)  (B : StB) (M : StM) (O : StO) (x0 : Int32) (x1 : Int32) (hok : ok_X7_written M x0 x1) : Met l yX7_written (wof yX7_written cX7_written 3 (some .int)) (rmd 3 0 0) (va_Pc [.ref (ad 193), .int x0, .int x1] (PW G A ad B M O)) (QI G A ad (f_X7_written M x0 x1).1 B (f_X7_written M x0 x1).2 O) 0 0 A := by
  refine x_body (own := RX7) (by decide +kernel) rfl gl (Nat.le_of_ble_eq_true rfl) (ls := [(0, .ref (ad 193)), (1, .int x0), (2, .int x1)]) rfl ?_
  intro p0 e s m args below meth c C
  have hR : (f_X7_written M x0 x1) = (nm (f_X7_isIn x0 0 ((ma M 0 (ix 11)) - 1)) (fun (r2 : Int32) => (nm (f_X7_goes M r2) (fun (z4 : Int32 × StM) => (if z4.1 = 0 then (0, z4.2) else ((ma z4.2 0 (ix ((94 + (3 * x0)) + x1))), z4.2)))))) := rfl
  have hok : (∀ r2 : Int32, r2 = (f_X7_isIn x0 0 ((ma M 0 (ix 11)) - 1)) → ((ok_X7_goes M r2) ∧ (∀ z4 : Int32 × StM, z4 = (f_X7_goes M r2) → ((z4.1 = 0 → True) ∧ (¬ z4.1 = 0 → (vp_in ((94 + (3 * x0)) + x1) 124)))))) := hok
  refine x_aload_n (pc := 0) (i := 0) C 0 dX7_written_0 rfl rfl ?_
  refine x_iload_n (pc := 1) (i := 1) C 1 dX7_written_1 rfl rfl ?_
  refine x_iconst (pc := 2) (v := 0) C dX7_written_2 (by decide) ?_
  refine x_aload_n (pc := 3) (i := 0) C 0 dX7_written_3 rfl rfl ?_
  refine x_get (pc := 4) (q := 193) (i := 0) C e_M rfl ttX7 (by decide) wd_6_227 rfl dX7_written_4 ?_
  refine x_bipush (pc := 7) (v := 11) C dX7_written_7 (by decide) ?_
  have h1 : vp_in (11) 124 := (by decide : ¬ ((11 : Int32) < 0 ∨ 124 ≤ Int32.toNatClampNeg 11))
  refine x_iald (pc := 9) (q := 194) C e_M0 h1 dX7_written_9 ?_
  refine x_iconst (pc := 10) (v := 1) C dX7_written_10 (by decide) ?_
  refine x_isub (pc := 11) C dX7_written_11 ?_
  refine x_cIS (pc := 12) (as := [.int x0, .int 0, .int ((ma M 0 (ix 11)) - 1)]) C (c_X7_isIn C.2.2.2.2.2.2.2.1  B M O x0 0 ((ma M 0 (ix 11)) - 1)) wd_7_91 cd_X7_isIn wd_7_90 ⟨Nat.le_of_ble_eq_true rfl, Nat.le_of_ble_eq_true rfl⟩ ⟨Nat.le_of_ble_eq_true rfl, Nat.le_of_ble_eq_true rfl⟩ rfl rfl (Nat.le_of_ble_eq_true rfl) dX7_written_12 ?_
  refine x_nmI (fun r2 er2 => ?_)
  have hR := nmE hR er2
  have hok := hok r2 er2
  have h3 := hok.1
  have hok := hok.2
  refine x_cIV (pc := 15) (as := [.int r2]) (q := 193) C (c_X7_goes C.2.2.2.2.2.2.2.1  B M O r2 h3) (fs := _) e_M rfl cv_X7_goes cd_X7_goes wd_7_59 ⟨Nat.le_of_ble_eq_true rfl, Nat.le_of_ble_eq_true rfl⟩ ⟨Nat.le_of_ble_eq_true rfl, Nat.le_of_ble_eq_true rfl⟩ rfl rfl (Nat.le_of_ble_eq_true rfl) dX7_written_15 ?_
  refine x_nmIM (fun z4 ez4 => ?_)
  have hR := nmE hR ez4
  have hok := hok z4 ez4
  refine x_if_eq (pc := 18) (tgt := 37) C dX7_written_18 (by decide) (fun c5 => ?_) (fun c5 => ?_)
  · have hR := hR.trans (if_pos c5)
    refine x_iconst (pc := 37) (v := 0) C dX7_written_37 (by decide) ?_
    exact x_iretM (pc := 38) C rfl hR dX7_written_38
  · have hR := hR.trans (if_neg c5)
    have hok := hok.2 c5
    refine x_aload_n (pc := 21) (i := 0) C 0 dX7_written_21 rfl rfl ?_
    refine x_get (pc := 22) (q := 193) (i := 0) C e_M rfl ttX7 (by decide) wd_6_227 rfl dX7_written_22 ?_
    refine x_bipush (pc := 25) (v := 94) C dX7_written_25 (by decide) ?_
    refine x_iconst (pc := 27) (v := 3) C dX7_written_27 (by decide) ?_
    refine x_iload_n (pc := 28) (i := 1) C 1 dX7_written_28 rfl rfl ?_
    refine x_imul (pc := 29) C dX7_written_29 ?_
    refine x_iadd (pc := 30) C dX7_written_30 ?_
    refine x_iload_n (pc := 31) (i := 2) C 2 dX7_written_31 rfl rfl ?_
    refine x_iadd (pc := 32) C dX7_written_32 ?_
    have h6 := hok
    refine x_iald (pc := 33) (q := 194) C e_M0 h6 dX7_written_33 ?_
    refine x_goto (pc := 34) (tgt := 38) C dX7_written_34 (by decide) ?_
    exact x_iretM (pc := 38) C rfl hR dX7_written_38
set_option maxHeartbeats 4000000 in
set_option maxRecDepth 100000 in
theorem c_X7_statementAt {l : Launch} {A : Nat → Prop} {G : GT} {ad : Nat → Nat} (gl : Gl l A ad)  (B : StB) (M : StM) (O : StO) (x0 : Int32) (hok : ok_X7_statementAt M x0) : Met l yX7_statementAt (wof yX7_statementAt cX7_statementAt 2 (some .char)) (rmd 3 0 0) (va_Pc [.ref (ad 193), .int x0] (PW G A ad B M O)) (QI G A ad (f_X7_statementAt M x0).1 B (f_X7_statementAt M x0).2 O) 0 0 A := by
  refine x_body (own := RX7) (by decide +kernel) rfl gl (Nat.le_of_ble_eq_true rfl) (ls := [(0, .ref (ad 193)), (1, .int x0)]) rfl ?_
  intro p0 e s m args below meth c C
  have hR : (f_X7_statementAt M x0) = (nm (f_X7_isIn x0 0 ((mi M 14) - 1)) (fun (r1 : Int32) => (nm (f_X7_goes M r1) (fun (z3 : Int32 × StM) => (if z3.1 = 0 then (0, z3.2) else ((Int32.toUInt32 (ma z3.2 6 (ix x0)) % 65536).toInt32, z3.2)))))) := rfl
  have hok : (∀ r1 : Int32, r1 = (f_X7_isIn x0 0 ((mi M 14) - 1)) → ((ok_X7_goes M r1) ∧ (∀ z3 : Int32 × StM, z3 = (f_X7_goes M r1) → ((z3.1 = 0 → True) ∧ (¬ z3.1 = 0 → (vp_in x0 40 ∧ (narrow .char (.int ((Int32.toUInt32 (ma z3.2 6 (ix x0)) % 65536).toInt32)) = .int ((Int32.toUInt32 (ma z3.2 6 (ix x0)) % 65536).toInt32)))))))) := hok
  refine x_aload_n (pc := 0) (i := 0) C 0 dX7_statementAt_0 rfl rfl ?_
  refine x_iload_n (pc := 1) (i := 1) C 1 dX7_statementAt_1 rfl rfl ?_
  refine x_iconst (pc := 2) (v := 0) C dX7_statementAt_2 (by decide) ?_
  refine x_aload_n (pc := 3) (i := 0) C 0 dX7_statementAt_3 rfl rfl ?_
  refine x_get (pc := 4) (q := 193) (i := 14) C e_M rfl ttX7 (by decide) wd_7_1 rfl dX7_statementAt_4 ?_
  refine x_iconst (pc := 7) (v := 1) C dX7_statementAt_7 (by decide) ?_
  refine x_isub (pc := 8) C dX7_statementAt_8 ?_
  refine x_cIS (pc := 9) (as := [.int x0, .int 0, .int ((mi M 14) - 1)]) C (c_X7_isIn C.2.2.2.2.2.2.2.1  B M O x0 0 ((mi M 14) - 1)) wd_7_91 cd_X7_isIn wd_7_90 ⟨Nat.le_of_ble_eq_true rfl, Nat.le_of_ble_eq_true rfl⟩ ⟨Nat.le_of_ble_eq_true rfl, Nat.le_of_ble_eq_true rfl⟩ rfl rfl (Nat.le_of_ble_eq_true rfl) dX7_statementAt_9 ?_
  refine x_nmI (fun r1 er1 => ?_)
  have hR := nmE hR er1
  have hok := hok r1 er1
  have h2 := hok.1
  have hok := hok.2
  refine x_cIV (pc := 12) (as := [.int r1]) (q := 193) C (c_X7_goes C.2.2.2.2.2.2.2.1  B M O r1 h2) (fs := _) e_M rfl cv_X7_goes cd_X7_goes wd_7_59 ⟨Nat.le_of_ble_eq_true rfl, Nat.le_of_ble_eq_true rfl⟩ ⟨Nat.le_of_ble_eq_true rfl, Nat.le_of_ble_eq_true rfl⟩ rfl rfl (Nat.le_of_ble_eq_true rfl) dX7_statementAt_12 ?_
  refine x_nmIM (fun z3 ez3 => ?_)
  have hR := nmE hR ez3
  have hok := hok z3 ez3
  refine x_if_eq (pc := 15) (tgt := 28) C dX7_statementAt_15 (by decide) (fun c4 => ?_) (fun c4 => ?_)
  · have hR := hR.trans (if_pos c4)
    refine x_iconst (pc := 28) (v := 0) C dX7_statementAt_28 (by decide) ?_
    exact x_zretM (pc := 29) C rfl (by decide) hR dX7_statementAt_29
  · have hR := hR.trans (if_neg c4)
    have hok := hok.2 c4
    refine x_aload_n (pc := 18) (i := 0) C 0 dX7_statementAt_18 rfl rfl ?_
    refine x_get (pc := 19) (q := 193) (i := 13) C e_M rfl ttX7 (by decide) wd_7_0 rfl dX7_statementAt_19 ?_
    refine x_iload_n (pc := 22) (i := 1) C 1 dX7_statementAt_22 rfl rfl ?_
    have h5 := hok.1
    have hok := hok.2
    refine x_iald (pc := 23) (q := 200) C e_M6 h5 dX7_statementAt_23 ?_
    refine x_i2c (pc := 24) C dX7_statementAt_24 ?_
    refine x_goto (pc := 25) (tgt := 29) C dX7_statementAt_25 (by decide) ?_
    have h6 := hok
    exact x_zretM (pc := 29) C rfl h6 hR dX7_statementAt_29
set_option maxHeartbeats 4000000 in
set_option maxRecDepth 100000 in
theorem c_X7_digit {l : Launch} {A : Nat → Prop} {G : GT} {ad : Nat → Nat} (gl : Gl l A ad)  (B : StB) (M : StM) (O : StO)  (hok : ok_X7_digit M) : Met l yX7_digit (wof yX7_digit cX7_digit 1 (some .int)) (rmd 3 0 0) (va_Pc [.ref (ad 193)] (PW G A ad B M O)) (QI G A ad (f_X7_digit M).1 B (f_X7_digit M).2 O) 0 0 A := by
  refine x_body (own := RX7) (by decide +kernel) rfl gl (Nat.le_of_ble_eq_true rfl) (ls := [(0, .ref (ad 193))]) rfl ?_
  intro p0 e s m args below meth c C
  have hR : (f_X7_digit M) = (nm (f_X7_reads M 48 57) (fun (z2 : Int32 × StM) => (z2.1, z2.2))) := rfl
  have hok : ((ok_X7_reads M 48 57)) := hok
  refine x_aload_n (pc := 0) (i := 0) C 0 dX7_digit_0 rfl rfl ?_
  refine x_bipush (pc := 1) (v := 48) C dX7_digit_1 (by decide) ?_
  refine x_bipush (pc := 3) (v := 57) C dX7_digit_3 (by decide) ?_
  have h1 := hok
  refine x_cIV (pc := 5) (as := [.int 48, .int 57]) (q := 193) C (c_X7_reads C.2.2.2.2.2.2.2.1  B M O 48 57 h1) (fs := _) e_M rfl cv_X7_reads cd_X7_reads wd_8_168 ⟨Nat.le_of_ble_eq_true rfl, Nat.le_of_ble_eq_true rfl⟩ ⟨Nat.le_of_ble_eq_true rfl, Nat.le_of_ble_eq_true rfl⟩ rfl rfl (Nat.le_of_ble_eq_true rfl) dX7_digit_5 ?_
  refine x_nmIM (fun z2 ez2 => ?_)
  have hR := nmE hR ez2
  exact x_iretM (pc := 8) C rfl hR dX7_digit_8
set_option maxHeartbeats 4000000 in
set_option maxRecDepth 100000 in
theorem t_X7_errorPosition_J14 {p0 : Program} {l : Launch} {e : Env} {s : State} {m : MethodId} {args : Array Value} {below : List Frame} {meth : Method} {c : Code} {A : Nat → Prop} {G : GT} {ad : Nat → Nat} (C : CX p0 l s m args meth c A G ad cX7_errorPosition RX7 1 (some .int))  (M : StM) (s0 : Int32) (B : StB) (O : StO) (R0 : Int32 × StM) (hR : R0 = f_X7_errorPosition_J14 M s0) (hok : ok_X7_errorPosition_J14 M s0) : X p0 l e (rmd 3 0 0) s m args below meth c A G ad 1 0 0 (MQ below (QI G A ad R0.1 B R0.2 O) args s 0 0 A) B M O [(0, .ref (ad 193))] 14 [.int s0, .ref (ad 193)] := by
  have hR : R0 = (nm (f_X7_goes M s0) (fun (z3 : Int32 × StM) => (if z3.1 = 0 then (0, z3.2) else ((mi z3.2 7), z3.2)))) := hR
  have hok : ((ok_X7_goes M s0)) := hok
  have h2 := hok
  refine x_cIV (pc := 14) (as := [.int s0]) (q := 193) C (c_X7_goes C.2.2.2.2.2.2.2.1  B M O s0 h2) (fs := _) e_M rfl cv_X7_goes cd_X7_goes wd_7_59 ⟨Nat.le_of_ble_eq_true rfl, Nat.le_of_ble_eq_true rfl⟩ ⟨Nat.le_of_ble_eq_true rfl, Nat.le_of_ble_eq_true rfl⟩ rfl rfl (Nat.le_of_ble_eq_true rfl) dX7_errorPosition_14 ?_
  refine x_nmIM (fun z3 ez3 => ?_)
  have hR := nmE hR ez3
  refine x_if_eq (pc := 17) (tgt := 27) C dX7_errorPosition_17 (by decide) (fun c4 => ?_) (fun c4 => ?_)
  · have hR := hR.trans (if_pos c4)
    refine x_iconst (pc := 27) (v := 0) C dX7_errorPosition_27 (by decide) ?_
    exact x_iretM (pc := 28) C rfl hR dX7_errorPosition_28
  · have hR := hR.trans (if_neg c4)
    refine x_aload_n (pc := 20) (i := 0) C 0 dX7_errorPosition_20 rfl rfl ?_
    refine x_get (pc := 21) (q := 193) (i := 7) C e_M rfl ttX7 (by decide) wd_6_234 rfl dX7_errorPosition_21 ?_
    refine x_goto (pc := 24) (tgt := 28) C dX7_errorPosition_24 (by decide) ?_
    exact x_iretM (pc := 28) C rfl hR dX7_errorPosition_28
set_option maxHeartbeats 4000000 in
set_option maxRecDepth 100000 in
theorem c_X7_errorPosition {l : Launch} {A : Nat → Prop} {G : GT} {ad : Nat → Nat} (gl : Gl l A ad)  (B : StB) (M : StM) (O : StO)  (hok : ok_X7_errorPosition M) : Met l yX7_errorPosition (wof yX7_errorPosition cX7_errorPosition 1 (some .int)) (rmd 3 0 0) (va_Pc [.ref (ad 193)] (PW G A ad B M O)) (QI G A ad (f_X7_errorPosition M).1 B (f_X7_errorPosition M).2 O) 0 0 A := by
  refine x_body (own := RX7) (by decide +kernel) rfl gl (Nat.le_of_ble_eq_true rfl) (ls := [(0, .ref (ad 193))]) rfl ?_
  intro p0 e s m args below meth c C
  have hR : (f_X7_errorPosition M) = (if (mi M 7) = (-1) then (f_X7_errorPosition_J14 M 0) else (f_X7_errorPosition_J14 M 1)) := rfl
  have hok : (((mi M 7) = (-1) → (ok_X7_errorPosition_J14 M 0)) ∧ (¬ (mi M 7) = (-1) → (ok_X7_errorPosition_J14 M 1))) := hok
  refine x_aload_n (pc := 0) (i := 0) C 0 dX7_errorPosition_0 rfl rfl ?_
  refine x_aload_n (pc := 1) (i := 0) C 0 dX7_errorPosition_1 rfl rfl ?_
  refine x_get (pc := 2) (q := 193) (i := 7) C e_M rfl ttX7 (by decide) wd_6_234 rfl dX7_errorPosition_2 ?_
  refine x_iconst (pc := 5) (v := (-1)) C dX7_errorPosition_5 (by decide) ?_
  refine x_icmp_eq (pc := 6) (tgt := 13) C dX7_errorPosition_6 (by decide) (fun c1 => ?_) (fun c1 => ?_)
  · have hR := hR.trans (if_pos c1)
    have hok := hok.1 c1
    refine x_iconst (pc := 13) (v := 0) C dX7_errorPosition_13 (by decide) ?_
    refine x_sub [0] (ls2 := [(0, .ref (ad 193))]) rfl ?_
    exact t_X7_errorPosition_J14 C M 0 B O _ hR hok
  · have hR := hR.trans (if_neg c1)
    have hok := hok.2 c1
    refine x_iconst (pc := 9) (v := 1) C dX7_errorPosition_9 (by decide) ?_
    refine x_goto (pc := 10) (tgt := 14) C dX7_errorPosition_10 (by decide) ?_
    refine x_sub [0] (ls2 := [(0, .ref (ad 193))]) rfl ?_
    exact t_X7_errorPosition_J14 C M 1 B O _ hR hok
set_option maxHeartbeats 4000000 in
set_option maxRecDepth 100000 in
theorem t_X7_failedCommand_J14 {p0 : Program} {l : Launch} {e : Env} {s : State} {m : MethodId} {args : Array Value} {below : List Frame} {meth : Method} {c : Code} {A : Nat → Prop} {G : GT} {ad : Nat → Nat} (C : CX p0 l s m args meth c A G ad cX7_failedCommand RX7 1 (some .int))  (M : StM) (s0 : Int32) (B : StB) (O : StO) (R0 : Int32 × StM) (hR : R0 = f_X7_failedCommand_J14 M s0) (hok : ok_X7_failedCommand_J14 M s0) : X p0 l e (rmd 3 0 0) s m args below meth c A G ad 1 0 0 (MQ below (QI G A ad R0.1 B R0.2 O) args s 0 0 A) B M O [(0, .ref (ad 193))] 14 [.int s0, .ref (ad 193)] := by
  have hR : R0 = (nm (f_X7_goes M s0) (fun (z3 : Int32 × StM) => (if z3.1 = 0 then (0, z3.2) else ((mi z3.2 8), z3.2)))) := hR
  have hok : ((ok_X7_goes M s0)) := hok
  have h2 := hok
  refine x_cIV (pc := 14) (as := [.int s0]) (q := 193) C (c_X7_goes C.2.2.2.2.2.2.2.1  B M O s0 h2) (fs := _) e_M rfl cv_X7_goes cd_X7_goes wd_7_59 ⟨Nat.le_of_ble_eq_true rfl, Nat.le_of_ble_eq_true rfl⟩ ⟨Nat.le_of_ble_eq_true rfl, Nat.le_of_ble_eq_true rfl⟩ rfl rfl (Nat.le_of_ble_eq_true rfl) dX7_failedCommand_14 ?_
  refine x_nmIM (fun z3 ez3 => ?_)
  have hR := nmE hR ez3
  refine x_if_eq (pc := 17) (tgt := 27) C dX7_failedCommand_17 (by decide) (fun c4 => ?_) (fun c4 => ?_)
  · have hR := hR.trans (if_pos c4)
    refine x_iconst (pc := 27) (v := 0) C dX7_failedCommand_27 (by decide) ?_
    exact x_iretM (pc := 28) C rfl hR dX7_failedCommand_28
  · have hR := hR.trans (if_neg c4)
    refine x_aload_n (pc := 20) (i := 0) C 0 dX7_failedCommand_20 rfl rfl ?_
    refine x_get (pc := 21) (q := 193) (i := 8) C e_M rfl ttX7 (by decide) wd_6_235 rfl dX7_failedCommand_21 ?_
    refine x_goto (pc := 24) (tgt := 28) C dX7_failedCommand_24 (by decide) ?_
    exact x_iretM (pc := 28) C rfl hR dX7_failedCommand_28
set_option maxHeartbeats 4000000 in
set_option maxRecDepth 100000 in
theorem c_X7_failedCommand {l : Launch} {A : Nat → Prop} {G : GT} {ad : Nat → Nat} (gl : Gl l A ad)  (B : StB) (M : StM) (O : StO)  (hok : ok_X7_failedCommand M) : Met l yX7_failedCommand (wof yX7_failedCommand cX7_failedCommand 1 (some .int)) (rmd 3 0 0) (va_Pc [.ref (ad 193)] (PW G A ad B M O)) (QI G A ad (f_X7_failedCommand M).1 B (f_X7_failedCommand M).2 O) 0 0 A := by
  refine x_body (own := RX7) (by decide +kernel) rfl gl (Nat.le_of_ble_eq_true rfl) (ls := [(0, .ref (ad 193))]) rfl ?_
  intro p0 e s m args below meth c C
  have hR : (f_X7_failedCommand M) = (if (mi M 8) = (-1) then (f_X7_failedCommand_J14 M 0) else (f_X7_failedCommand_J14 M 1)) := rfl
  have hok : (((mi M 8) = (-1) → (ok_X7_failedCommand_J14 M 0)) ∧ (¬ (mi M 8) = (-1) → (ok_X7_failedCommand_J14 M 1))) := hok
  refine x_aload_n (pc := 0) (i := 0) C 0 dX7_failedCommand_0 rfl rfl ?_
  refine x_aload_n (pc := 1) (i := 0) C 0 dX7_failedCommand_1 rfl rfl ?_
  refine x_get (pc := 2) (q := 193) (i := 8) C e_M rfl ttX7 (by decide) wd_6_235 rfl dX7_failedCommand_2 ?_
  refine x_iconst (pc := 5) (v := (-1)) C dX7_failedCommand_5 (by decide) ?_
  refine x_icmp_eq (pc := 6) (tgt := 13) C dX7_failedCommand_6 (by decide) (fun c1 => ?_) (fun c1 => ?_)
  · have hR := hR.trans (if_pos c1)
    have hok := hok.1 c1
    refine x_iconst (pc := 13) (v := 0) C dX7_failedCommand_13 (by decide) ?_
    refine x_sub [0] (ls2 := [(0, .ref (ad 193))]) rfl ?_
    exact t_X7_failedCommand_J14 C M 0 B O _ hR hok
  · have hR := hR.trans (if_neg c1)
    have hok := hok.2 c1
    refine x_iconst (pc := 9) (v := 1) C dX7_failedCommand_9 (by decide) ?_
    refine x_goto (pc := 10) (tgt := 14) C dX7_failedCommand_10 (by decide) ?_
    refine x_sub [0] (ls2 := [(0, .ref (ad 193))]) rfl ?_
    exact t_X7_failedCommand_J14 C M 1 B O _ hR hok
set_option maxHeartbeats 4000000 in
set_option maxRecDepth 100000 in
theorem c_X7_open {l : Launch} {A : Nat → Prop} {G : GT} {ad : Nat → Nat} (gl : Gl l A ad)  (B : StB) (M : StM) (O : StO) (x0 : Int32) (hok : ok_X7_open M x0) : Met l yX7_open (wof yX7_open cX7_open 2 (some .int)) (rmd 4 0 0) (va_Pc [.ref (ad 193), .int x0] (PW G A ad B M O)) (QI G A ad (f_X7_open M x0).1 B (f_X7_open M x0).2 O) 0 0 A := by
  refine x_body (own := RX7) (by decide +kernel) rfl gl (Nat.le_of_ble_eq_true rfl) (ls := [(0, .ref (ad 193)), (1, .int x0)]) rfl ?_
  intro p0 e s m args below meth c C
  have hR : (f_X7_open M x0) = (nm (f_X7_begins M) (fun (M2 : StM) => (nm (f_X7_opens M2 x0) (fun (z4 : Int32 × StM) => (nm (f_X7_ends z4.2 z4.1) (fun (z6 : Int32 × StM) => (z6.1, z6.2))))))) := rfl
  have hok : ((ok_X7_begins M) ∧ (∀ M2 : StM, M2 = (f_X7_begins M) → ((ok_X7_opens M2 x0) ∧ (∀ z4 : Int32 × StM, z4 = (f_X7_opens M2 x0) → ((ok_X7_ends z4.2 z4.1)))))) := hok
  refine x_aload_n (pc := 0) (i := 0) C 0 dX7_open_0 rfl rfl ?_
  have h1 := hok.1
  have hok := hok.2
  refine x_cVV (pc := 1) (as := []) (q := 193) C (c_X7_begins C.2.2.2.2.2.2.2.1  B M O  h1) (fs := _) e_M rfl cv_X7_begins cd_X7_begins wd_7_82 ⟨Nat.le_of_ble_eq_true rfl, Nat.le_of_ble_eq_true rfl⟩ ⟨Nat.le_of_ble_eq_true rfl, Nat.le_of_ble_eq_true rfl⟩ rfl rfl (Nat.le_of_ble_eq_true rfl) dX7_open_1 ?_
  refine x_nmM (fun M2 eM2 => ?_)
  have hR := nmE hR eM2
  have hok := hok M2 eM2
  refine x_aload_n (pc := 4) (i := 0) C 0 dX7_open_4 rfl rfl ?_
  refine x_aload_n (pc := 5) (i := 0) C 0 dX7_open_5 rfl rfl ?_
  refine x_iload_n (pc := 6) (i := 1) C 1 dX7_open_6 rfl rfl ?_
  have h3 := hok.1
  have hok := hok.2
  refine x_cIV (pc := 7) (as := [.int x0]) (q := 193) C (c_X7_opens C.2.2.2.2.2.2.2.1  B M2 O x0 h3) (fs := _) e_M rfl cv_X7_opens cd_X7_opens wd_7_86 ⟨Nat.le_of_ble_eq_true rfl, Nat.le_of_ble_eq_true rfl⟩ ⟨Nat.le_of_ble_eq_true rfl, Nat.le_of_ble_eq_true rfl⟩ rfl rfl (Nat.le_of_ble_eq_true rfl) dX7_open_7 ?_
  refine x_nmIM (fun z4 ez4 => ?_)
  have hR := nmE hR ez4
  have hok := hok z4 ez4
  have h5 := hok
  refine x_cIV (pc := 10) (as := [.int z4.1]) (q := 193) C (c_X7_ends C.2.2.2.2.2.2.2.1  B z4.2 O z4.1 h5) (fs := _) e_M rfl cv_X7_ends cd_X7_ends wd_7_96 ⟨Nat.le_of_ble_eq_true rfl, Nat.le_of_ble_eq_true rfl⟩ ⟨Nat.le_of_ble_eq_true rfl, Nat.le_of_ble_eq_true rfl⟩ rfl rfl (Nat.le_of_ble_eq_true rfl) dX7_open_10 ?_
  refine x_nmIM (fun z6 ez6 => ?_)
  have hR := nmE hR ez6
  exact x_iretM (pc := 13) C rfl hR dX7_open_13
set_option maxHeartbeats 4000000 in
set_option maxRecDepth 100000 in
theorem t_X7_pays_J35 {p0 : Program} {l : Launch} {e : Env} {s : State} {m : MethodId} {args : Array Value} {below : List Frame} {meth : Method} {c : Code} {A : Nat → Prop} {G : GT} {ad : Nat → Nat} (C : CX p0 l s m args meth c A G ad cX7_pays RX7 4 (some .int))  (M : StM) (a1 : Int32) (a2 : Int32) (s0 : Int32) (s1 : Int32) (s2 : Int32) (B : StB) (O : StO) (R0 : Int32 × StM) (hR : R0 = f_X7_pays_J35 M a1 a2 s0 s1 s2) (hok : ok_X7_pays_J35 M a1 a2 s0 s1 s2) : X p0 l e (rmd 4 0 0) s m args below meth c A G ad 4 0 0 (MQ below (QI G A ad R0.1 B R0.2 O) args s 0 0 A) B M O [(0, .ref (ad 193)), (1, .int a1), (2, .int a2)] 35 [.int s0, .int s1, .int s2, .ref (ad 193)] := by
  have hR : R0 = (nm (f_X7_holds M s2 s1 s0 1) (fun (z6 : Int32 × StM) => (if z6.1 = 0 then (0, z6.2) else (nm (f_X7_changes z6.2 a1 a2) (fun (M9 : StM) => (nm (sma M9 0 (ix 5) ((ma M9 0 (ix 5)) + a2)) (fun (M12 : StM) => (nm (f_X7_writes M12 100 a2 a1) (fun (M14 : StM) => (nm (f_X7_of M14 a1 1) (fun (r16 : Int32) => (r16, M14)))))))))))) := hR
  have hok : (∀ z6 : Int32 × StM, z6 = (f_X7_holds M s2 s1 s0 1) → ((z6.1 = 0 → True) ∧ (¬ z6.1 = 0 → ((ok_X7_changes z6.2 a1 a2) ∧ (∀ M9 : StM, M9 = (f_X7_changes z6.2 a1 a2) → (∀ M12 : StM, M12 = (sma M9 0 (ix 5) ((ma M9 0 (ix 5)) + a2)) → ((ok_X7_writes M12 100 a2 a1) ∧ (∀ M14 : StM, M14 = (f_X7_writes M12 100 a2 a1) → ((ok_X7_of M14 a1 1)))))))))) := hok
  refine x_iconst (pc := 35) (v := 1) C dX7_pays_35 (by decide) ?_
  refine x_cIV (pc := 36) (as := [.int s2, .int s1, .int s0, .int 1]) (q := 193) C (c_X7_holds C.2.2.2.2.2.2.2.1  B M O s2 s1 s0 1) (fs := _) e_M rfl cv_X7_holds cd_X7_holds wd_7_63 ⟨Nat.le_of_ble_eq_true rfl, Nat.le_of_ble_eq_true rfl⟩ ⟨Nat.le_of_ble_eq_true rfl, Nat.le_of_ble_eq_true rfl⟩ rfl rfl (Nat.le_of_ble_eq_true rfl) dX7_pays_36 ?_
  refine x_nmIM (fun z6 ez6 => ?_)
  have hR := nmE hR ez6
  have hok := hok z6 ez6
  refine x_if_ne (pc := 39) (tgt := 44) C dX7_pays_39 (by decide) (fun c7 => ?_) (fun c7 => ?_)
  · have hR := hR.trans (if_neg c7)
    have hok := hok.2 c7
    refine x_aload_n (pc := 44) (i := 0) C 0 dX7_pays_44 rfl rfl ?_
    refine x_iload_n (pc := 45) (i := 1) C 1 dX7_pays_45 rfl rfl ?_
    refine x_iload_n (pc := 46) (i := 2) C 2 dX7_pays_46 rfl rfl ?_
    have h8 := hok.1
    have hok := hok.2
    refine x_cVV (pc := 47) (as := [.int a1, .int a2]) (q := 193) C (c_X7_changes C.2.2.2.2.2.2.2.1  B z6.2 O a1 a2 h8) (fs := _) e_M rfl cv_X7_changes cd_X7_changes wd_7_123 ⟨Nat.le_of_ble_eq_true rfl, Nat.le_of_ble_eq_true rfl⟩ ⟨Nat.le_of_ble_eq_true rfl, Nat.le_of_ble_eq_true rfl⟩ rfl rfl (Nat.le_of_ble_eq_true rfl) dX7_pays_47 ?_
    refine x_nmM (fun M9 eM9 => ?_)
    have hR := nmE hR eM9
    have hok := hok M9 eM9
    refine x_aload_n (pc := 50) (i := 0) C 0 dX7_pays_50 rfl rfl ?_
    refine x_get (pc := 51) (q := 193) (i := 0) C e_M rfl ttX7 (by decide) wd_6_227 rfl dX7_pays_51 ?_
    refine x_iconst (pc := 54) (v := 5) C dX7_pays_54 (by decide) ?_
    refine x_dup2 (pc := 55) C dX7_pays_55 rfl rfl ?_
    have h10 : vp_in (5) 124 := (by decide : ¬ ((5 : Int32) < 0 ∨ 124 ≤ Int32.toNatClampNeg 5))
    refine x_iald (pc := 56) (q := 194) C e_M0 h10 dX7_pays_56 ?_
    refine x_iload_n (pc := 57) (i := 2) C 2 dX7_pays_57 rfl rfl ?_
    refine x_iadd (pc := 58) C dX7_pays_58 ?_
    have h11 : vp_in (5) 124 := (by decide : ¬ ((5 : Int32) < 0 ∨ 124 ≤ Int32.toNatClampNeg 5))
    refine x_iastM (pc := 59) (j := 0) (q := 194) C rfl (by decide) e_M0 e_M0.2 h11 dX7_pays_59 ?_
    refine x_nmM (fun M12 eM12 => ?_)
    have hR := nmE hR eM12
    have hok := hok M12 eM12
    refine x_aload_n (pc := 60) (i := 0) C 0 dX7_pays_60 rfl rfl ?_
    refine x_bipush (pc := 61) (v := 100) C dX7_pays_61 (by decide) ?_
    refine x_iload_n (pc := 63) (i := 2) C 2 dX7_pays_63 rfl rfl ?_
    refine x_iload_n (pc := 64) (i := 1) C 1 dX7_pays_64 rfl rfl ?_
    have h13 := hok.1
    have hok := hok.2
    refine x_cVV (pc := 65) (as := [.int 100, .int a2, .int a1]) (q := 193) C (c_X7_writes C.2.2.2.2.2.2.2.1  B M12 O 100 a2 a1 h13) (fs := _) e_M rfl cv_X7_writes cd_X7_writes wd_7_127 ⟨Nat.le_of_ble_eq_true rfl, Nat.le_of_ble_eq_true rfl⟩ ⟨Nat.le_of_ble_eq_true rfl, Nat.le_of_ble_eq_true rfl⟩ rfl rfl (Nat.le_of_ble_eq_true rfl) dX7_pays_65 ?_
    refine x_nmM (fun M14 eM14 => ?_)
    have hR := nmE hR eM14
    have hok := hok M14 eM14
    refine x_aload_n (pc := 68) (i := 0) C 0 dX7_pays_68 rfl rfl ?_
    refine x_iload_n (pc := 69) (i := 1) C 1 dX7_pays_69 rfl rfl ?_
    refine x_iconst (pc := 70) (v := 1) C dX7_pays_70 (by decide) ?_
    have h15 := hok
    refine x_cIV (pc := 71) (as := [.int a1, .int 1]) (q := 193) C (c_X7_of C.2.2.2.2.2.2.2.1  B M14 O a1 1 h15) (fs := _) e_M rfl cv_X7_of cd_X7_of wd_7_119 ⟨Nat.le_of_ble_eq_true rfl, Nat.le_of_ble_eq_true rfl⟩ ⟨Nat.le_of_ble_eq_true rfl, Nat.le_of_ble_eq_true rfl⟩ rfl rfl (Nat.le_of_ble_eq_true rfl) dX7_pays_71 ?_
    refine x_nmI (fun r16 er16 => ?_)
    have hR := nmE hR er16
    exact x_iretM (pc := 74) C rfl hR dX7_pays_74
  · have hR := hR.trans (if_pos c7)
    refine x_iconst (pc := 42) (v := 0) C dX7_pays_42 (by decide) ?_
    exact x_iretM (pc := 43) C rfl hR dX7_pays_43
set_option maxHeartbeats 4000000 in
set_option maxRecDepth 100000 in
theorem t_X7_pays_J34 {p0 : Program} {l : Launch} {e : Env} {s : State} {m : MethodId} {args : Array Value} {below : List Frame} {meth : Method} {c : Code} {A : Nat → Prop} {G : GT} {ad : Nat → Nat} (C : CX p0 l s m args meth c A G ad cX7_pays RX7 4 (some .int))  (M : StM) (a1 : Int32) (a2 : Int32) (s0 : Int32) (s1 : Int32) (B : StB) (O : StO) (R0 : Int32 × StM) (hR : R0 = f_X7_pays_J34 M a1 a2 s0 s1) (hok : ok_X7_pays_J34 M a1 a2 s0 s1) : X p0 l e (rmd 4 0 0) s m args below meth c A G ad 4 0 0 (MQ below (QI G A ad R0.1 B R0.2 O) args s 0 0 A) B M O [(0, .ref (ad 193)), (1, .int a1), (2, .int a2)] 34 [.int s0, .int s1, .ref (ad 193)] := by
  have hR : R0 = (f_X7_pays_J35 M a1 a2 0 s0 s1) := hR
  have hok : (ok_X7_pays_J35 M a1 a2 0 s0 s1) := hok
  refine x_iconst (pc := 34) (v := 0) C dX7_pays_34 (by decide) ?_
  refine x_sub [0, 1, 2] (ls2 := [(0, .ref (ad 193)), (1, .int a1), (2, .int a2)]) rfl ?_
  exact t_X7_pays_J35 C M a1 a2 0 s0 s1 B O _ hR hok
set_option maxHeartbeats 4000000 in
set_option maxRecDepth 100000 in
theorem c_X7_pays {l : Launch} {A : Nat → Prop} {G : GT} {ad : Nat → Nat} (gl : Gl l A ad)  (B : StB) (M : StM) (O : StO) (x0 : Int32) (x1 : Int32) (hok : ok_X7_pays M x0 x1) : Met l yX7_pays (wof yX7_pays cX7_pays 4 (some .int)) (rmd 4 0 0) (va_Pc [.ref (ad 193), .int x0, .int x1] (PW G A ad B M O)) (QI G A ad (f_X7_pays M x0 x1).1 B (f_X7_pays M x0 x1).2 O) 0 0 A := by
  refine x_body (own := RX7) (by decide +kernel) rfl gl (Nat.le_of_ble_eq_true rfl) (ls := [(0, .ref (ad 193)), (1, .int x0), (2, .int x1)]) rfl ?_
  intro p0 e s m args below meth c C
  have hR : (f_X7_pays M x0 x1) = (nm (f_X7_isAmount x1) (fun (r2 : Int32) => (nm (f_X7_isAccount M x0) (fun (r4 : Int32) => (if r2 = 0 then (f_X7_pays_J34 M x0 x1 r2 r4) else (nm (f_X7_of M x0 1) (fun (r18 : Int32) => (if (9999 - x1) < r18 then (f_X7_pays_J34 M x0 x1 r2 r4) else (f_X7_pays_J35 M x0 x1 1 r2 r4))))))))) := rfl
  have hok : ((ok_X7_isAmount x1) ∧ (∀ r2 : Int32, r2 = (f_X7_isAmount x1) → ((ok_X7_isAccount M x0) ∧ (∀ r4 : Int32, r4 = (f_X7_isAccount M x0) → ((r2 = 0 → (ok_X7_pays_J34 M x0 x1 r2 r4)) ∧ (¬ r2 = 0 → ((ok_X7_of M x0 1) ∧ (∀ r18 : Int32, r18 = (f_X7_of M x0 1) → (((9999 - x1) < r18 → (ok_X7_pays_J34 M x0 x1 r2 r4)) ∧ (¬ (9999 - x1) < r18 → (ok_X7_pays_J35 M x0 x1 1 r2 r4))))))))))) := hok
  refine x_iload_n (pc := 0) (i := 2) C 2 dX7_pays_0 rfl rfl ?_
  have h1 := hok.1
  have hok := hok.2
  refine x_cIS (pc := 1) (as := [.int x1]) C (c_X7_isAmount C.2.2.2.2.2.2.2.1  B M O x1 h1) wd_7_113 cd_X7_isAmount wd_7_112 ⟨Nat.le_of_ble_eq_true rfl, Nat.le_of_ble_eq_true rfl⟩ ⟨Nat.le_of_ble_eq_true rfl, Nat.le_of_ble_eq_true rfl⟩ rfl rfl (Nat.le_of_ble_eq_true rfl) dX7_pays_1 ?_
  refine x_nmI (fun r2 er2 => ?_)
  have hR := nmE hR er2
  have hok := hok r2 er2
  refine x_istore_n (pc := 4) (i := 3) (ls2 := [(3, .int r2), (0, .ref (ad 193)), (1, .int x0), (2, .int x1)]) C dX7_pays_4 rfl (by decide) rfl ?_
  refine x_aload_n (pc := 5) (i := 0) C 1 dX7_pays_5 rfl rfl ?_
  refine x_aload_n (pc := 6) (i := 0) C 1 dX7_pays_6 rfl rfl ?_
  refine x_iload_n (pc := 7) (i := 1) C 2 dX7_pays_7 rfl rfl ?_
  have h3 := hok.1
  have hok := hok.2
  refine x_cIV (pc := 8) (as := [.int x0]) (q := 193) C (c_X7_isAccount C.2.2.2.2.2.2.2.1  B M O x0 h3) (fs := _) e_M rfl cv_X7_isAccount cd_X7_isAccount wd_7_115 ⟨Nat.le_of_ble_eq_true rfl, Nat.le_of_ble_eq_true rfl⟩ ⟨Nat.le_of_ble_eq_true rfl, Nat.le_of_ble_eq_true rfl⟩ rfl rfl (Nat.le_of_ble_eq_true rfl) dX7_pays_8 ?_
  refine x_nmI (fun r4 er4 => ?_)
  have hR := nmE hR er4
  have hok := hok r4 er4
  refine x_iload_n (pc := 11) (i := 3) C 0 dX7_pays_11 rfl rfl ?_
  refine x_iload_n (pc := 12) (i := 3) C 0 dX7_pays_12 rfl rfl ?_
  refine x_if_eq (pc := 13) (tgt := 34) C dX7_pays_13 (by decide) (fun c5 => ?_) (fun c5 => ?_)
  · have hR := hR.trans (if_pos c5)
    have hok := hok.1 c5
    refine x_sub [1, 2, 3] (ls2 := [(0, .ref (ad 193)), (1, .int x0), (2, .int x1)]) rfl ?_
    exact t_X7_pays_J34 C M x0 x1 r2 r4 B O _ hR hok
  · have hR := hR.trans (if_neg c5)
    have hok := hok.2 c5
    refine x_aload_n (pc := 16) (i := 0) C 1 dX7_pays_16 rfl rfl ?_
    refine x_iload_n (pc := 17) (i := 1) C 2 dX7_pays_17 rfl rfl ?_
    refine x_iconst (pc := 18) (v := 1) C dX7_pays_18 (by decide) ?_
    have h17 := hok.1
    have hok := hok.2
    refine x_cIV (pc := 19) (as := [.int x0, .int 1]) (q := 193) C (c_X7_of C.2.2.2.2.2.2.2.1  B M O x0 1 h17) (fs := _) e_M rfl cv_X7_of cd_X7_of wd_7_119 ⟨Nat.le_of_ble_eq_true rfl, Nat.le_of_ble_eq_true rfl⟩ ⟨Nat.le_of_ble_eq_true rfl, Nat.le_of_ble_eq_true rfl⟩ rfl rfl (Nat.le_of_ble_eq_true rfl) dX7_pays_19 ?_
    refine x_nmI (fun r18 er18 => ?_)
    have hR := nmE hR er18
    have hok := hok r18 er18
    refine x_sipush (pc := 22) (v := 9999) C dX7_pays_22 (by decide) ?_
    refine x_iload_n (pc := 25) (i := 2) C 3 dX7_pays_25 rfl rfl ?_
    refine x_isub (pc := 26) C dX7_pays_26 ?_
    refine x_icmp_gt (pc := 27) (tgt := 34) C dX7_pays_27 (by decide) (fun c19 => ?_) (fun c19 => ?_)
    · have hR := hR.trans (if_pos c19)
      have hok := hok.1 c19
      refine x_sub [1, 2, 3] (ls2 := [(0, .ref (ad 193)), (1, .int x0), (2, .int x1)]) rfl ?_
      exact t_X7_pays_J34 C M x0 x1 r2 r4 B O _ hR hok
    · have hR := hR.trans (if_neg c19)
      have hok := hok.2 c19
      refine x_iconst (pc := 30) (v := 1) C dX7_pays_30 (by decide) ?_
      refine x_goto (pc := 31) (tgt := 35) C dX7_pays_31 (by decide) ?_
      refine x_sub [1, 2, 3] (ls2 := [(0, .ref (ad 193)), (1, .int x0), (2, .int x1)]) rfl ?_
      exact t_X7_pays_J35 C M x0 x1 1 r2 r4 B O _ hR hok
set_option maxHeartbeats 4000000 in
set_option maxRecDepth 100000 in
theorem t_X7_draws_J38 {p0 : Program} {l : Launch} {e : Env} {s : State} {m : MethodId} {args : Array Value} {below : List Frame} {meth : Method} {c : Code} {A : Nat → Prop} {G : GT} {ad : Nat → Nat} (C : CX p0 l s m args meth c A G ad cX7_draws RX7 4 (some .int))  (M : StM) (a1 : Int32) (a2 : Int32) (s0 : Int32) (s1 : Int32) (s2 : Int32) (B : StB) (O : StO) (R0 : Int32 × StM) (hR : R0 = f_X7_draws_J38 M a1 a2 s0 s1 s2) (hok : ok_X7_draws_J38 M a1 a2 s0 s1 s2) : X p0 l e (rmd 4 0 0) s m args below meth c A G ad 4 0 0 (MQ below (QI G A ad R0.1 B R0.2 O) args s 0 0 A) B M O [(0, .ref (ad 193)), (1, .int a1), (2, .int a2)] 38 [.int s0, .int s1, .int s2, .ref (ad 193)] := by
  have hR : R0 = (nm (f_X7_holds M s2 s1 s0 1) (fun (z6 : Int32 × StM) => (if z6.1 = 0 then (0, z6.2) else (nm (f_X7_changes z6.2 a1 (-a2)) (fun (M9 : StM) => (nm (f_X7_accountAt a1) (fun (r10 : Int32) => (nm (sma M9 0 (ix (r10 + 3)) 1) (fun (M12 : StM) => (nm (sma M12 0 (ix 6) ((ma M12 0 (ix 6)) + a2)) (fun (M15 : StM) => (nm (f_X7_writes M15 119 a2 a1) (fun (M17 : StM) => (nm (f_X7_of M17 a1 1) (fun (r19 : Int32) => (r19, M17)))))))))))))))) := hR
  have hok : (∀ z6 : Int32 × StM, z6 = (f_X7_holds M s2 s1 s0 1) → ((z6.1 = 0 → True) ∧ (¬ z6.1 = 0 → ((ok_X7_changes z6.2 a1 (-a2)) ∧ (∀ M9 : StM, M9 = (f_X7_changes z6.2 a1 (-a2)) → (∀ r10 : Int32, r10 = (f_X7_accountAt a1) → (vp_in (r10 + 3) 124 ∧ (∀ M12 : StM, M12 = (sma M9 0 (ix (r10 + 3)) 1) → (∀ M15 : StM, M15 = (sma M12 0 (ix 6) ((ma M12 0 (ix 6)) + a2)) → ((ok_X7_writes M15 119 a2 a1) ∧ (∀ M17 : StM, M17 = (f_X7_writes M15 119 a2 a1) → ((ok_X7_of M17 a1 1))))))))))))) := hok
  refine x_iconst (pc := 38) (v := 1) C dX7_draws_38 (by decide) ?_
  refine x_cIV (pc := 39) (as := [.int s2, .int s1, .int s0, .int 1]) (q := 193) C (c_X7_holds C.2.2.2.2.2.2.2.1  B M O s2 s1 s0 1) (fs := _) e_M rfl cv_X7_holds cd_X7_holds wd_7_63 ⟨Nat.le_of_ble_eq_true rfl, Nat.le_of_ble_eq_true rfl⟩ ⟨Nat.le_of_ble_eq_true rfl, Nat.le_of_ble_eq_true rfl⟩ rfl rfl (Nat.le_of_ble_eq_true rfl) dX7_draws_39 ?_
  refine x_nmIM (fun z6 ez6 => ?_)
  have hR := nmE hR ez6
  have hok := hok z6 ez6
  refine x_if_ne (pc := 42) (tgt := 47) C dX7_draws_42 (by decide) (fun c7 => ?_) (fun c7 => ?_)
  · have hR := hR.trans (if_neg c7)
    have hok := hok.2 c7
    refine x_aload_n (pc := 47) (i := 0) C 0 dX7_draws_47 rfl rfl ?_
    refine x_iload_n (pc := 48) (i := 1) C 1 dX7_draws_48 rfl rfl ?_
    refine x_iload_n (pc := 49) (i := 2) C 2 dX7_draws_49 rfl rfl ?_
    refine x_ineg (pc := 50) C dX7_draws_50 ?_
    have h8 := hok.1
    have hok := hok.2
    refine x_cVV (pc := 51) (as := [.int a1, .int (-a2)]) (q := 193) C (c_X7_changes C.2.2.2.2.2.2.2.1  B z6.2 O a1 (-a2) h8) (fs := _) e_M rfl cv_X7_changes cd_X7_changes wd_7_123 ⟨Nat.le_of_ble_eq_true rfl, Nat.le_of_ble_eq_true rfl⟩ ⟨Nat.le_of_ble_eq_true rfl, Nat.le_of_ble_eq_true rfl⟩ rfl rfl (Nat.le_of_ble_eq_true rfl) dX7_draws_51 ?_
    refine x_nmM (fun M9 eM9 => ?_)
    have hR := nmE hR eM9
    have hok := hok M9 eM9
    refine x_aload_n (pc := 54) (i := 0) C 0 dX7_draws_54 rfl rfl ?_
    refine x_get (pc := 55) (q := 193) (i := 0) C e_M rfl ttX7 (by decide) wd_6_227 rfl dX7_draws_55 ?_
    refine x_iload_n (pc := 58) (i := 1) C 1 dX7_draws_58 rfl rfl ?_
    refine x_cIS (pc := 59) (as := [.int a1]) C (c_X7_accountAt C.2.2.2.2.2.2.2.1  B M9 O a1) wd_7_94 cd_X7_accountAt wd_7_93 ⟨Nat.le_of_ble_eq_true rfl, Nat.le_of_ble_eq_true rfl⟩ ⟨Nat.le_of_ble_eq_true rfl, Nat.le_of_ble_eq_true rfl⟩ rfl rfl (Nat.le_of_ble_eq_true rfl) dX7_draws_59 ?_
    refine x_nmI (fun r10 er10 => ?_)
    have hR := nmE hR er10
    have hok := hok r10 er10
    refine x_iconst (pc := 62) (v := 3) C dX7_draws_62 (by decide) ?_
    refine x_iadd (pc := 63) C dX7_draws_63 ?_
    refine x_iconst (pc := 64) (v := 1) C dX7_draws_64 (by decide) ?_
    have h11 := hok.1
    have hok := hok.2
    refine x_iastM (pc := 65) (j := 0) (q := 194) C rfl (by decide) e_M0 e_M0.2 h11 dX7_draws_65 ?_
    refine x_nmM (fun M12 eM12 => ?_)
    have hR := nmE hR eM12
    have hok := hok M12 eM12
    refine x_aload_n (pc := 66) (i := 0) C 0 dX7_draws_66 rfl rfl ?_
    refine x_get (pc := 67) (q := 193) (i := 0) C e_M rfl ttX7 (by decide) wd_6_227 rfl dX7_draws_67 ?_
    refine x_bipush (pc := 70) (v := 6) C dX7_draws_70 (by decide) ?_
    refine x_dup2 (pc := 72) C dX7_draws_72 rfl rfl ?_
    have h13 : vp_in (6) 124 := (by decide : ¬ ((6 : Int32) < 0 ∨ 124 ≤ Int32.toNatClampNeg 6))
    refine x_iald (pc := 73) (q := 194) C e_M0 h13 dX7_draws_73 ?_
    refine x_iload_n (pc := 74) (i := 2) C 2 dX7_draws_74 rfl rfl ?_
    refine x_iadd (pc := 75) C dX7_draws_75 ?_
    have h14 : vp_in (6) 124 := (by decide : ¬ ((6 : Int32) < 0 ∨ 124 ≤ Int32.toNatClampNeg 6))
    refine x_iastM (pc := 76) (j := 0) (q := 194) C rfl (by decide) e_M0 e_M0.2 h14 dX7_draws_76 ?_
    refine x_nmM (fun M15 eM15 => ?_)
    have hR := nmE hR eM15
    have hok := hok M15 eM15
    refine x_aload_n (pc := 77) (i := 0) C 0 dX7_draws_77 rfl rfl ?_
    refine x_bipush (pc := 78) (v := 119) C dX7_draws_78 (by decide) ?_
    refine x_iload_n (pc := 80) (i := 2) C 2 dX7_draws_80 rfl rfl ?_
    refine x_iload_n (pc := 81) (i := 1) C 1 dX7_draws_81 rfl rfl ?_
    have h16 := hok.1
    have hok := hok.2
    refine x_cVV (pc := 82) (as := [.int 119, .int a2, .int a1]) (q := 193) C (c_X7_writes C.2.2.2.2.2.2.2.1  B M15 O 119 a2 a1 h16) (fs := _) e_M rfl cv_X7_writes cd_X7_writes wd_7_127 ⟨Nat.le_of_ble_eq_true rfl, Nat.le_of_ble_eq_true rfl⟩ ⟨Nat.le_of_ble_eq_true rfl, Nat.le_of_ble_eq_true rfl⟩ rfl rfl (Nat.le_of_ble_eq_true rfl) dX7_draws_82 ?_
    refine x_nmM (fun M17 eM17 => ?_)
    have hR := nmE hR eM17
    have hok := hok M17 eM17
    refine x_aload_n (pc := 85) (i := 0) C 0 dX7_draws_85 rfl rfl ?_
    refine x_iload_n (pc := 86) (i := 1) C 1 dX7_draws_86 rfl rfl ?_
    refine x_iconst (pc := 87) (v := 1) C dX7_draws_87 (by decide) ?_
    have h18 := hok
    refine x_cIV (pc := 88) (as := [.int a1, .int 1]) (q := 193) C (c_X7_of C.2.2.2.2.2.2.2.1  B M17 O a1 1 h18) (fs := _) e_M rfl cv_X7_of cd_X7_of wd_7_119 ⟨Nat.le_of_ble_eq_true rfl, Nat.le_of_ble_eq_true rfl⟩ ⟨Nat.le_of_ble_eq_true rfl, Nat.le_of_ble_eq_true rfl⟩ rfl rfl (Nat.le_of_ble_eq_true rfl) dX7_draws_88 ?_
    refine x_nmI (fun r19 er19 => ?_)
    have hR := nmE hR er19
    exact x_iretM (pc := 91) C rfl hR dX7_draws_91
  · have hR := hR.trans (if_pos c7)
    refine x_iconst (pc := 45) (v := 0) C dX7_draws_45 (by decide) ?_
    exact x_iretM (pc := 46) C rfl hR dX7_draws_46
set_option maxHeartbeats 4000000 in
set_option maxRecDepth 100000 in
theorem t_X7_draws_J37 {p0 : Program} {l : Launch} {e : Env} {s : State} {m : MethodId} {args : Array Value} {below : List Frame} {meth : Method} {c : Code} {A : Nat → Prop} {G : GT} {ad : Nat → Nat} (C : CX p0 l s m args meth c A G ad cX7_draws RX7 4 (some .int))  (M : StM) (a1 : Int32) (a2 : Int32) (s0 : Int32) (s1 : Int32) (B : StB) (O : StO) (R0 : Int32 × StM) (hR : R0 = f_X7_draws_J37 M a1 a2 s0 s1) (hok : ok_X7_draws_J37 M a1 a2 s0 s1) : X p0 l e (rmd 4 0 0) s m args below meth c A G ad 4 0 0 (MQ below (QI G A ad R0.1 B R0.2 O) args s 0 0 A) B M O [(0, .ref (ad 193)), (1, .int a1), (2, .int a2)] 37 [.int s0, .int s1, .ref (ad 193)] := by
  have hR : R0 = (f_X7_draws_J38 M a1 a2 0 s0 s1) := hR
  have hok : (ok_X7_draws_J38 M a1 a2 0 s0 s1) := hok
  refine x_iconst (pc := 37) (v := 0) C dX7_draws_37 (by decide) ?_
  refine x_sub [0, 1, 2] (ls2 := [(0, .ref (ad 193)), (1, .int a1), (2, .int a2)]) rfl ?_
  exact t_X7_draws_J38 C M a1 a2 0 s0 s1 B O _ hR hok
set_option maxHeartbeats 4000000 in
set_option maxRecDepth 100000 in
theorem c_X7_draws {l : Launch} {A : Nat → Prop} {G : GT} {ad : Nat → Nat} (gl : Gl l A ad)  (B : StB) (M : StM) (O : StO) (x0 : Int32) (x1 : Int32) (hok : ok_X7_draws M x0 x1) : Met l yX7_draws (wof yX7_draws cX7_draws 4 (some .int)) (rmd 4 0 0) (va_Pc [.ref (ad 193), .int x0, .int x1] (PW G A ad B M O)) (QI G A ad (f_X7_draws M x0 x1).1 B (f_X7_draws M x0 x1).2 O) 0 0 A := by
  refine x_body (own := RX7) (by decide +kernel) rfl gl (Nat.le_of_ble_eq_true rfl) (ls := [(0, .ref (ad 193)), (1, .int x0), (2, .int x1)]) rfl ?_
  intro p0 e s m args below meth c C
  have hR : (f_X7_draws M x0 x1) = (nm (f_X7_isAmount x1) (fun (r2 : Int32) => (nm (f_X7_isAccount M x0) (fun (r4 : Int32) => (if r2 = 0 then (f_X7_draws_J37 M x0 x1 r2 r4) else (nm (f_X7_of M x0 1) (fun (r21 : Int32) => (nm (f_X7_of M x0 2) (fun (r23 : Int32) => (if (r21 + r23) < x1 then (f_X7_draws_J37 M x0 x1 r2 r4) else (f_X7_draws_J38 M x0 x1 1 r2 r4))))))))))) := rfl
  have hok : ((ok_X7_isAmount x1) ∧ (∀ r2 : Int32, r2 = (f_X7_isAmount x1) → ((ok_X7_isAccount M x0) ∧ (∀ r4 : Int32, r4 = (f_X7_isAccount M x0) → ((r2 = 0 → (ok_X7_draws_J37 M x0 x1 r2 r4)) ∧ (¬ r2 = 0 → ((ok_X7_of M x0 1) ∧ (∀ r21 : Int32, r21 = (f_X7_of M x0 1) → ((ok_X7_of M x0 2) ∧ (∀ r23 : Int32, r23 = (f_X7_of M x0 2) → (((r21 + r23) < x1 → (ok_X7_draws_J37 M x0 x1 r2 r4)) ∧ (¬ (r21 + r23) < x1 → (ok_X7_draws_J38 M x0 x1 1 r2 r4))))))))))))) := hok
  refine x_iload_n (pc := 0) (i := 2) C 2 dX7_draws_0 rfl rfl ?_
  have h1 := hok.1
  have hok := hok.2
  refine x_cIS (pc := 1) (as := [.int x1]) C (c_X7_isAmount C.2.2.2.2.2.2.2.1  B M O x1 h1) wd_7_113 cd_X7_isAmount wd_7_112 ⟨Nat.le_of_ble_eq_true rfl, Nat.le_of_ble_eq_true rfl⟩ ⟨Nat.le_of_ble_eq_true rfl, Nat.le_of_ble_eq_true rfl⟩ rfl rfl (Nat.le_of_ble_eq_true rfl) dX7_draws_1 ?_
  refine x_nmI (fun r2 er2 => ?_)
  have hR := nmE hR er2
  have hok := hok r2 er2
  refine x_istore_n (pc := 4) (i := 3) (ls2 := [(3, .int r2), (0, .ref (ad 193)), (1, .int x0), (2, .int x1)]) C dX7_draws_4 rfl (by decide) rfl ?_
  refine x_aload_n (pc := 5) (i := 0) C 1 dX7_draws_5 rfl rfl ?_
  refine x_aload_n (pc := 6) (i := 0) C 1 dX7_draws_6 rfl rfl ?_
  refine x_iload_n (pc := 7) (i := 1) C 2 dX7_draws_7 rfl rfl ?_
  have h3 := hok.1
  have hok := hok.2
  refine x_cIV (pc := 8) (as := [.int x0]) (q := 193) C (c_X7_isAccount C.2.2.2.2.2.2.2.1  B M O x0 h3) (fs := _) e_M rfl cv_X7_isAccount cd_X7_isAccount wd_7_115 ⟨Nat.le_of_ble_eq_true rfl, Nat.le_of_ble_eq_true rfl⟩ ⟨Nat.le_of_ble_eq_true rfl, Nat.le_of_ble_eq_true rfl⟩ rfl rfl (Nat.le_of_ble_eq_true rfl) dX7_draws_8 ?_
  refine x_nmI (fun r4 er4 => ?_)
  have hR := nmE hR er4
  have hok := hok r4 er4
  refine x_iload_n (pc := 11) (i := 3) C 0 dX7_draws_11 rfl rfl ?_
  refine x_iload_n (pc := 12) (i := 3) C 0 dX7_draws_12 rfl rfl ?_
  refine x_if_eq (pc := 13) (tgt := 37) C dX7_draws_13 (by decide) (fun c5 => ?_) (fun c5 => ?_)
  · have hR := hR.trans (if_pos c5)
    have hok := hok.1 c5
    refine x_sub [1, 2, 3] (ls2 := [(0, .ref (ad 193)), (1, .int x0), (2, .int x1)]) rfl ?_
    exact t_X7_draws_J37 C M x0 x1 r2 r4 B O _ hR hok
  · have hR := hR.trans (if_neg c5)
    have hok := hok.2 c5
    refine x_aload_n (pc := 16) (i := 0) C 1 dX7_draws_16 rfl rfl ?_
    refine x_iload_n (pc := 17) (i := 1) C 2 dX7_draws_17 rfl rfl ?_
    refine x_iconst (pc := 18) (v := 1) C dX7_draws_18 (by decide) ?_
    have h20 := hok.1
    have hok := hok.2
    refine x_cIV (pc := 19) (as := [.int x0, .int 1]) (q := 193) C (c_X7_of C.2.2.2.2.2.2.2.1  B M O x0 1 h20) (fs := _) e_M rfl cv_X7_of cd_X7_of wd_7_119 ⟨Nat.le_of_ble_eq_true rfl, Nat.le_of_ble_eq_true rfl⟩ ⟨Nat.le_of_ble_eq_true rfl, Nat.le_of_ble_eq_true rfl⟩ rfl rfl (Nat.le_of_ble_eq_true rfl) dX7_draws_19 ?_
    refine x_nmI (fun r21 er21 => ?_)
    have hR := nmE hR er21
    have hok := hok r21 er21
    refine x_aload_n (pc := 22) (i := 0) C 1 dX7_draws_22 rfl rfl ?_
    refine x_iload_n (pc := 23) (i := 1) C 2 dX7_draws_23 rfl rfl ?_
    refine x_iconst (pc := 24) (v := 2) C dX7_draws_24 (by decide) ?_
    have h22 := hok.1
    have hok := hok.2
    refine x_cIV (pc := 25) (as := [.int x0, .int 2]) (q := 193) C (c_X7_of C.2.2.2.2.2.2.2.1  B M O x0 2 h22) (fs := _) e_M rfl cv_X7_of cd_X7_of wd_7_119 ⟨Nat.le_of_ble_eq_true rfl, Nat.le_of_ble_eq_true rfl⟩ ⟨Nat.le_of_ble_eq_true rfl, Nat.le_of_ble_eq_true rfl⟩ rfl rfl (Nat.le_of_ble_eq_true rfl) dX7_draws_25 ?_
    refine x_nmI (fun r23 er23 => ?_)
    have hR := nmE hR er23
    have hok := hok r23 er23
    refine x_iadd (pc := 28) C dX7_draws_28 ?_
    refine x_iload_n (pc := 29) (i := 2) C 3 dX7_draws_29 rfl rfl ?_
    refine x_icmp_lt (pc := 30) (tgt := 37) C dX7_draws_30 (by decide) (fun c24 => ?_) (fun c24 => ?_)
    · have hR := hR.trans (if_pos c24)
      have hok := hok.1 c24
      refine x_sub [1, 2, 3] (ls2 := [(0, .ref (ad 193)), (1, .int x0), (2, .int x1)]) rfl ?_
      exact t_X7_draws_J37 C M x0 x1 r2 r4 B O _ hR hok
    · have hR := hR.trans (if_neg c24)
      have hok := hok.2 c24
      refine x_iconst (pc := 33) (v := 1) C dX7_draws_33 (by decide) ?_
      refine x_goto (pc := 34) (tgt := 38) C dX7_draws_34 (by decide) ?_
      refine x_sub [1, 2, 3] (ls2 := [(0, .ref (ad 193)), (1, .int x0), (2, .int x1)]) rfl ?_
      exact t_X7_draws_J38 C M x0 x1 1 r2 r4 B O _ hR hok
