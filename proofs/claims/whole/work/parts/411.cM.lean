set_option maxHeartbeats 4000000 in
set_option maxRecDepth 100000 in
theorem c_X7_kindOf {l : Launch} {A : Nat → Prop} {G : GT} {ad : Nat → Nat} (gl : Gl l A ad)  (B : StB) (M : StM) (O : StO) (x0 : Int32) (hok : ok_X7_kindOf M x0) : Met l yX7_kindOf (wof yX7_kindOf cX7_kindOf 2 (some .int)) (rmd 5 0 0) (va_Pc [.ref (ad 193), .int x0] (PW G A ad B M O)) (QI G A ad (f_X7_kindOf M x0).1 B (f_X7_kindOf M x0).2 O) 0 0 A := by
  refine x_body (own := RX7) (by decide +kernel) rfl gl (Nat.le_of_ble_eq_true rfl) (ls := [(0, .ref (ad 193)), (1, .int x0)]) rfl ?_
  intro p0 e s m args below meth c C
  have hR : (f_X7_kindOf M x0) = (nm (f_X7_asks M x0 0) (fun (z2 : Int32 × StM) => (z2.1, z2.2))) := rfl
  have hok : ((ok_X7_asks M x0 0)) := hok
  refine x_aload_n (pc := 0) (i := 0) C 0 dX7_kindOf_0 rfl rfl ?_
  refine x_iload_n (pc := 1) (i := 1) C 1 dX7_kindOf_1 rfl rfl ?_
  refine x_iconst (pc := 2) (v := 0) C dX7_kindOf_2 (by decide) ?_
  have h1 := hok
  refine x_cIV (pc := 3) (as := [.int x0, .int 0]) (q := 193) C (c_X7_asks C.2.2.2.2.2.2.2.1  B M O x0 0 h1) (fs := _) e_M rfl cv_X7_asks cd_X7_asks wd_7_217 ⟨Nat.le_of_ble_eq_true rfl, Nat.le_of_ble_eq_true rfl⟩ ⟨Nat.le_of_ble_eq_true rfl, Nat.le_of_ble_eq_true rfl⟩ rfl rfl (Nat.le_of_ble_eq_true rfl) dX7_kindOf_3 ?_
  refine x_nmIM (fun z2 ez2 => ?_)
  have hR := nmE hR ez2
  exact x_iretM (pc := 6) C rfl hR dX7_kindOf_6
set_option maxHeartbeats 4000000 in
set_option maxRecDepth 100000 in
theorem c_X7_balanceOf {l : Launch} {A : Nat → Prop} {G : GT} {ad : Nat → Nat} (gl : Gl l A ad)  (B : StB) (M : StM) (O : StO) (x0 : Int32) (hok : ok_X7_balanceOf M x0) : Met l yX7_balanceOf (wof yX7_balanceOf cX7_balanceOf 2 (some .int)) (rmd 5 0 0) (va_Pc [.ref (ad 193), .int x0] (PW G A ad B M O)) (QI G A ad (f_X7_balanceOf M x0).1 B (f_X7_balanceOf M x0).2 O) 0 0 A := by
  refine x_body (own := RX7) (by decide +kernel) rfl gl (Nat.le_of_ble_eq_true rfl) (ls := [(0, .ref (ad 193)), (1, .int x0)]) rfl ?_
  intro p0 e s m args below meth c C
  have hR : (f_X7_balanceOf M x0) = (nm (f_X7_asks M x0 1) (fun (z2 : Int32 × StM) => (z2.1, z2.2))) := rfl
  have hok : ((ok_X7_asks M x0 1)) := hok
  refine x_aload_n (pc := 0) (i := 0) C 0 dX7_balanceOf_0 rfl rfl ?_
  refine x_iload_n (pc := 1) (i := 1) C 1 dX7_balanceOf_1 rfl rfl ?_
  refine x_iconst (pc := 2) (v := 1) C dX7_balanceOf_2 (by decide) ?_
  have h1 := hok
  refine x_cIV (pc := 3) (as := [.int x0, .int 1]) (q := 193) C (c_X7_asks C.2.2.2.2.2.2.2.1  B M O x0 1 h1) (fs := _) e_M rfl cv_X7_asks cd_X7_asks wd_7_217 ⟨Nat.le_of_ble_eq_true rfl, Nat.le_of_ble_eq_true rfl⟩ ⟨Nat.le_of_ble_eq_true rfl, Nat.le_of_ble_eq_true rfl⟩ rfl rfl (Nat.le_of_ble_eq_true rfl) dX7_balanceOf_3 ?_
  refine x_nmIM (fun z2 ez2 => ?_)
  have hR := nmE hR ez2
  exact x_iretM (pc := 6) C rfl hR dX7_balanceOf_6
set_option maxHeartbeats 4000000 in
set_option maxRecDepth 100000 in
theorem c_X7_limitOf {l : Launch} {A : Nat → Prop} {G : GT} {ad : Nat → Nat} (gl : Gl l A ad)  (B : StB) (M : StM) (O : StO) (x0 : Int32) (hok : ok_X7_limitOf M x0) : Met l yX7_limitOf (wof yX7_limitOf cX7_limitOf 2 (some .int)) (rmd 5 0 0) (va_Pc [.ref (ad 193), .int x0] (PW G A ad B M O)) (QI G A ad (f_X7_limitOf M x0).1 B (f_X7_limitOf M x0).2 O) 0 0 A := by
  refine x_body (own := RX7) (by decide +kernel) rfl gl (Nat.le_of_ble_eq_true rfl) (ls := [(0, .ref (ad 193)), (1, .int x0)]) rfl ?_
  intro p0 e s m args below meth c C
  have hR : (f_X7_limitOf M x0) = (nm (f_X7_asks M x0 2) (fun (z2 : Int32 × StM) => (z2.1, z2.2))) := rfl
  have hok : ((ok_X7_asks M x0 2)) := hok
  refine x_aload_n (pc := 0) (i := 0) C 0 dX7_limitOf_0 rfl rfl ?_
  refine x_iload_n (pc := 1) (i := 1) C 1 dX7_limitOf_1 rfl rfl ?_
  refine x_iconst (pc := 2) (v := 2) C dX7_limitOf_2 (by decide) ?_
  have h1 := hok
  refine x_cIV (pc := 3) (as := [.int x0, .int 2]) (q := 193) C (c_X7_asks C.2.2.2.2.2.2.2.1  B M O x0 2 h1) (fs := _) e_M rfl cv_X7_asks cd_X7_asks wd_7_217 ⟨Nat.le_of_ble_eq_true rfl, Nat.le_of_ble_eq_true rfl⟩ ⟨Nat.le_of_ble_eq_true rfl, Nat.le_of_ble_eq_true rfl⟩ rfl rfl (Nat.le_of_ble_eq_true rfl) dX7_limitOf_3 ?_
  refine x_nmIM (fun z2 ez2 => ?_)
  have hR := nmE hR ez2
  exact x_iretM (pc := 6) C rfl hR dX7_limitOf_6
set_option maxHeartbeats 4000000 in
set_option maxRecDepth 100000 in
theorem c_X7_wasTouched {l : Launch} {A : Nat → Prop} {G : GT} {ad : Nat → Nat} (gl : Gl l A ad)  (B : StB) (M : StM) (O : StO) (x0 : Int32) (hok : ok_X7_wasTouched M x0) : Met l yX7_wasTouched (wof yX7_wasTouched cX7_wasTouched 2 (some .boolean)) (rmd 5 0 0) (va_Pc [.ref (ad 193), .int x0] (PW G A ad B M O)) (QI G A ad (f_X7_wasTouched M x0).1 B (f_X7_wasTouched M x0).2 O) 0 0 A := by
  refine x_body (own := RX7) (by decide +kernel) rfl gl (Nat.le_of_ble_eq_true rfl) (ls := [(0, .ref (ad 193)), (1, .int x0)]) rfl ?_
  intro p0 e s m args below meth c C
  have hR : (f_X7_wasTouched M x0) = (nm (f_X7_asks M x0 3) (fun (z2 : Int32 × StM) => (if z2.1 = 1 then (1, z2.2) else (0, z2.2)))) := rfl
  have hok : ((ok_X7_asks M x0 3)) := hok
  refine x_aload_n (pc := 0) (i := 0) C 0 dX7_wasTouched_0 rfl rfl ?_
  refine x_iload_n (pc := 1) (i := 1) C 1 dX7_wasTouched_1 rfl rfl ?_
  refine x_iconst (pc := 2) (v := 3) C dX7_wasTouched_2 (by decide) ?_
  have h1 := hok
  refine x_cIV (pc := 3) (as := [.int x0, .int 3]) (q := 193) C (c_X7_asks C.2.2.2.2.2.2.2.1  B M O x0 3 h1) (fs := _) e_M rfl cv_X7_asks cd_X7_asks wd_7_217 ⟨Nat.le_of_ble_eq_true rfl, Nat.le_of_ble_eq_true rfl⟩ ⟨Nat.le_of_ble_eq_true rfl, Nat.le_of_ble_eq_true rfl⟩ rfl rfl (Nat.le_of_ble_eq_true rfl) dX7_wasTouched_3 ?_
  refine x_nmIM (fun z2 ez2 => ?_)
  have hR := nmE hR ez2
  refine x_iconst (pc := 6) (v := 1) C dX7_wasTouched_6 (by decide) ?_
  refine x_icmp_ne (pc := 7) (tgt := 14) C dX7_wasTouched_7 (by decide) (fun c3 => ?_) (fun c3 => ?_)
  · have hR := hR.trans (if_neg c3)
    refine x_iconst (pc := 14) (v := 0) C dX7_wasTouched_14 (by decide) ?_
    exact x_zretM (pc := 15) C rfl (by decide) hR dX7_wasTouched_15
  · have hR := hR.trans (if_pos c3)
    refine x_iconst (pc := 10) (v := 1) C dX7_wasTouched_10 (by decide) ?_
    refine x_goto (pc := 11) (tgt := 15) C dX7_wasTouched_11 (by decide) ?_
    exact x_zretM (pc := 15) C rfl (by decide) hR dX7_wasTouched_15
set_option maxHeartbeats 4000000 in
set_option maxRecDepth 100000 in
theorem c_X7_totalInk {l : Launch} {A : Nat → Prop} {G : GT} {ad : Nat → Nat} (gl : Gl l A ad)  (B : StB) (M : StM) (O : StO)  (hok : ok_X7_totalInk M) : Met l yX7_totalInk (wof yX7_totalInk cX7_totalInk 1 (some .long)) (rmd 5 0 0) (va_Pc [.ref (ad 193)] (PW G A ad B M O)) (QL G A ad (f_X7_totalInk M).1 B (f_X7_totalInk M).2 O) 0 0 A := by
  refine x_body (own := RX7) (by decide +kernel) rfl gl (Nat.le_of_ble_eq_true rfl) (ls := [(0, .ref (ad 193))]) rfl ?_
  intro p0 e s m args below meth c C
  have hR : (f_X7_totalInk M) = (nm (smi M 15 0) (fun (M1 : StM) => (nm (f_X7_balances M1) (fun (r3 : Int64) => ((r3 + (Int32.toInt64 (ma M1 0 (ix 4)))), M1))))) := rfl
  have hok : (∀ M1 : StM, M1 = (smi M 15 0) → ((ok_X7_balances M1))) := hok
  refine x_aload_n (pc := 0) (i := 0) C 0 dX7_totalInk_0 rfl rfl ?_
  refine x_iconst (pc := 1) (v := 0) C dX7_totalInk_1 (by decide) ?_
  refine x_put (pc := 2) (M2 := (smi M 15 0)) (B2 := B) (O2 := O) (q := 193) (i := 15) C tyX7 tyX7_ok nmX7 e_M rfl ttX7 (by decide) wd_7_2 rfl rfl rfl (Nat.le_of_ble_eq_true rfl) dX7_totalInk_2 (put_M_15 ) (o_smi 15 0) ?_
  refine x_nmM (fun M1 eM1 => ?_)
  have hR := nmE hR eM1
  have hok := hok M1 eM1
  refine x_aload_n (pc := 5) (i := 0) C 0 dX7_totalInk_5 rfl rfl ?_
  have h2 := hok
  refine x_cLV (pc := 6) (as := []) (q := 193) C (c_X7_balances C.2.2.2.2.2.2.2.1  B M1 O  h2) (fs := _) e_M rfl cv_X7_balances cd_X7_balances wd_8_9 ⟨Nat.le_of_ble_eq_true rfl, Nat.le_of_ble_eq_true rfl⟩ ⟨Nat.le_of_ble_eq_true rfl, Nat.le_of_ble_eq_true rfl⟩ rfl rfl (Nat.le_of_ble_eq_true rfl) dX7_totalInk_6 ?_
  refine x_nmL (fun r3 er3 => ?_)
  have hR := nmE hR er3
  refine x_aload_n (pc := 9) (i := 0) C 0 dX7_totalInk_9 rfl rfl ?_
  refine x_get (pc := 10) (q := 193) (i := 0) C e_M rfl ttX7 (by decide) wd_6_227 rfl dX7_totalInk_10 ?_
  refine x_iconst (pc := 13) (v := 4) C dX7_totalInk_13 (by decide) ?_
  have h4 : vp_in (4) 124 := (by decide : ¬ ((4 : Int32) < 0 ∨ 124 ≤ Int32.toNatClampNeg 4))
  refine x_iald (pc := 14) (q := 194) C e_M0 h4 dX7_totalInk_14 ?_
  refine x_i2l (pc := 15) C dX7_totalInk_15 ?_
  refine x_ladd (pc := 16) C dX7_totalInk_16 ?_
  exact x_lretM (pc := 17) C rfl hR dX7_totalInk_17
set_option maxHeartbeats 4000000 in
set_option maxRecDepth 100000 in
theorem c_X7_numberBehindBlank {l : Launch} {A : Nat → Prop} {G : GT} {ad : Nat → Nat} (gl : Gl l A ad)  (B : StB) (M : StM) (O : StO)  (hok : ok_X7_numberBehindBlank M) : Met l yX7_numberBehindBlank (wof yX7_numberBehindBlank cX7_numberBehindBlank 2 (some .int)) (rmd 5 0 0) (va_Pc [.ref (ad 193)] (PW G A ad B M O)) (QI G A ad (f_X7_numberBehindBlank M).1 B (f_X7_numberBehindBlank M).2 O) 0 0 A := by
  refine x_body (own := RX7) (by decide +kernel) rfl gl (Nat.le_of_ble_eq_true rfl) (ls := [(0, .ref (ad 193))]) rfl ?_
  intro p0 e s m args below meth c C
  have hR : (f_X7_numberBehindBlank M) = (nm (f_X7_reads M 32 32) (fun (z2 : Int32 × StM) => (nm (f_X7_number z2.2) (fun (z4 : Int32 × StM) => (z4.1, z4.2))))) := rfl
  have hok : ((ok_X7_reads M 32 32) ∧ (∀ z2 : Int32 × StM, z2 = (f_X7_reads M 32 32) → ((ok_X7_number z2.2)))) := hok
  refine x_aload_n (pc := 0) (i := 0) C 0 dX7_numberBehindBlank_0 rfl rfl ?_
  refine x_bipush (pc := 1) (v := 32) C dX7_numberBehindBlank_1 (by decide) ?_
  refine x_bipush (pc := 3) (v := 32) C dX7_numberBehindBlank_3 (by decide) ?_
  have h1 := hok.1
  have hok := hok.2
  refine x_cIV (pc := 5) (as := [.int 32, .int 32]) (q := 193) C (c_X7_reads C.2.2.2.2.2.2.2.1  B M O 32 32 h1) (fs := _) e_M rfl cv_X7_reads cd_X7_reads wd_8_168 ⟨Nat.le_of_ble_eq_true rfl, Nat.le_of_ble_eq_true rfl⟩ ⟨Nat.le_of_ble_eq_true rfl, Nat.le_of_ble_eq_true rfl⟩ rfl rfl (Nat.le_of_ble_eq_true rfl) dX7_numberBehindBlank_5 ?_
  refine x_nmIM (fun z2 ez2 => ?_)
  have hR := nmE hR ez2
  have hok := hok z2 ez2
  refine x_istore_n (pc := 8) (i := 1) (ls2 := [(1, .int z2.1), (0, .ref (ad 193))]) C dX7_numberBehindBlank_8 rfl (by decide) rfl ?_
  refine x_aload_n (pc := 9) (i := 0) C 1 dX7_numberBehindBlank_9 rfl rfl ?_
  have h3 := hok
  refine x_cIV (pc := 10) (as := []) (q := 193) C (c_X7_number C.2.2.2.2.2.2.2.1  B z2.2 O  h3) (fs := _) e_M rfl cv_X7_number cd_X7_number wd_8_176 ⟨Nat.le_of_ble_eq_true rfl, Nat.le_of_ble_eq_true rfl⟩ ⟨Nat.le_of_ble_eq_true rfl, Nat.le_of_ble_eq_true rfl⟩ rfl rfl (Nat.le_of_ble_eq_true rfl) dX7_numberBehindBlank_10 ?_
  refine x_nmIM (fun z4 ez4 => ?_)
  have hR := nmE hR ez4
  exact x_iretM (pc := 13) C rfl hR dX7_numberBehindBlank_13
set_option maxHeartbeats 4000000 in
set_option maxRecDepth 100000 in
theorem t_X7_gains_J45 {p0 : Program} {l : Launch} {e : Env} {s : State} {m : MethodId} {args : Array Value} {below : List Frame} {meth : Method} {c : Code} {A : Nat → Prop} {G : GT} {ad : Nat → Nat} (C : CX p0 l s m args meth c A G ad cX7_gains RX7 3 none)  (M : StM) (a1 : Int32) (a2 : Int32) (B : StB) (O : StO) (R0 : StM) (hR : R0 = f_X7_gains_J45 M a1 a2) (hok : ok_X7_gains_J45 M a1 a2) : X p0 l e (rmd 6 0 0) s m args below meth c A G ad 3 0 0 (MQ below (QV G A ad B R0 O) args s 0 0 A) B M O [(0, .ref (ad 193)), (1, .int a1), (2, .int a2)] 45 [] := by
  have hR : R0 = (nm (f_X7_gives M a1 99 (-a2)) (fun (M5 : StM) => M5)) := hR
  have hok : ((ok_X7_gives M a1 99 (-a2))) := hok
  refine x_aload_n (pc := 45) (i := 0) C 0 dX7_gains_45 rfl rfl ?_
  refine x_iload_n (pc := 46) (i := 1) C 1 dX7_gains_46 rfl rfl ?_
  refine x_bipush (pc := 47) (v := 99) C dX7_gains_47 (by decide) ?_
  refine x_iload_n (pc := 49) (i := 2) C 2 dX7_gains_49 rfl rfl ?_
  refine x_ineg (pc := 50) C dX7_gains_50 ?_
  have h4 := hok
  refine x_cVV (pc := 51) (as := [.int a1, .int 99, .int (-a2)]) (q := 193) C (c_X7_gives C.2.2.2.2.2.2.2.1  B M O a1 99 (-a2) h4) (fs := _) e_M rfl cv_X7_gives cd_X7_gives wd_7_196 ⟨Nat.le_of_ble_eq_true rfl, Nat.le_of_ble_eq_true rfl⟩ ⟨Nat.le_of_ble_eq_true rfl, Nat.le_of_ble_eq_true rfl⟩ rfl rfl (Nat.le_of_ble_eq_true rfl) dX7_gains_51 ?_
  refine x_nmM (fun M5 eM5 => ?_)
  have hR := nmE hR eM5
  exact x_vretM (pc := 54) C rfl hR dX7_gains_54
set_option maxHeartbeats 4000000 in
set_option maxRecDepth 100000 in
theorem c_X7_gains {l : Launch} {A : Nat → Prop} {G : GT} {ad : Nat → Nat} (gl : Gl l A ad)  (B : StB) (M : StM) (O : StO) (x0 : Int32) (hok : ok_X7_gains M x0) : Met l yX7_gains (wof yX7_gains cX7_gains 3 none) (rmd 6 0 0) (va_Pc [.ref (ad 193), .int x0] (PW G A ad B M O)) (QV G A ad B (f_X7_gains M x0) O) 0 0 A := by
  refine x_body (own := RX7) (by decide +kernel) rfl gl (Nat.le_of_ble_eq_true rfl) (ls := [(0, .ref (ad 193)), (1, .int x0)]) rfl ?_
  intro p0 e s m args below meth c C
  have hR : (f_X7_gains M x0) = (nm (f_X7_earns M x0) (fun (r2 : Int32) => (if r2 ≤ 0 then (f_X7_gains_J45 M x0 r2) else (nm (f_X7_changes M x0 r2) (fun (M7 : StM) => (nm (sma M7 0 (ix 4) ((ma M7 0 (ix 4)) - r2)) (fun (M10 : StM) => (nm (sma M10 0 (ix 8) ((ma M10 0 (ix 8)) + r2)) (fun (M13 : StM) => (nm (f_X7_writes M13 105 r2 x0) (fun (M15 : StM) => (f_X7_gains_J45 M15 x0 r2)))))))))))) := rfl
  have hok : ((ok_X7_earns M x0) ∧ (∀ r2 : Int32, r2 = (f_X7_earns M x0) → ((r2 ≤ 0 → (ok_X7_gains_J45 M x0 r2)) ∧ (¬ r2 ≤ 0 → ((ok_X7_changes M x0 r2) ∧ (∀ M7 : StM, M7 = (f_X7_changes M x0 r2) → (∀ M10 : StM, M10 = (sma M7 0 (ix 4) ((ma M7 0 (ix 4)) - r2)) → (∀ M13 : StM, M13 = (sma M10 0 (ix 8) ((ma M10 0 (ix 8)) + r2)) → ((ok_X7_writes M13 105 r2 x0) ∧ (∀ M15 : StM, M15 = (f_X7_writes M13 105 r2 x0) → (ok_X7_gains_J45 M15 x0 r2))))))))))) := hok
  refine x_aload_n (pc := 0) (i := 0) C 0 dX7_gains_0 rfl rfl ?_
  refine x_iload_n (pc := 1) (i := 1) C 1 dX7_gains_1 rfl rfl ?_
  have h1 := hok.1
  have hok := hok.2
  refine x_cIV (pc := 2) (as := [.int x0]) (q := 193) C (c_X7_earns C.2.2.2.2.2.2.2.1  B M O x0 h1) (fs := _) e_M rfl cv_X7_earns cd_X7_earns wd_7_204 ⟨Nat.le_of_ble_eq_true rfl, Nat.le_of_ble_eq_true rfl⟩ ⟨Nat.le_of_ble_eq_true rfl, Nat.le_of_ble_eq_true rfl⟩ rfl rfl (Nat.le_of_ble_eq_true rfl) dX7_gains_2 ?_
  refine x_nmI (fun r2 er2 => ?_)
  have hR := nmE hR er2
  have hok := hok r2 er2
  refine x_istore_n (pc := 5) (i := 2) (ls2 := [(2, .int r2), (0, .ref (ad 193)), (1, .int x0)]) C dX7_gains_5 rfl (by decide) rfl ?_
  refine x_iload_n (pc := 6) (i := 2) C 0 dX7_gains_6 rfl rfl ?_
  refine x_if_le (pc := 7) (tgt := 45) C dX7_gains_7 (by decide) (fun c3 => ?_) (fun c3 => ?_)
  · have hR := hR.trans (if_pos c3)
    have hok := hok.1 c3
    refine x_sub [1, 2, 0] (ls2 := [(0, .ref (ad 193)), (1, .int x0), (2, .int r2)]) rfl ?_
    exact t_X7_gains_J45 C M x0 r2 B O _ hR hok
  · have hR := hR.trans (if_neg c3)
    have hok := hok.2 c3
    refine x_aload_n (pc := 10) (i := 0) C 1 dX7_gains_10 rfl rfl ?_
    refine x_iload_n (pc := 11) (i := 1) C 2 dX7_gains_11 rfl rfl ?_
    refine x_iload_n (pc := 12) (i := 2) C 0 dX7_gains_12 rfl rfl ?_
    have h6 := hok.1
    have hok := hok.2
    refine x_cVV (pc := 13) (as := [.int x0, .int r2]) (q := 193) C (c_X7_changes C.2.2.2.2.2.2.2.1  B M O x0 r2 h6) (fs := _) e_M rfl cv_X7_changes cd_X7_changes wd_7_123 ⟨Nat.le_of_ble_eq_true rfl, Nat.le_of_ble_eq_true rfl⟩ ⟨Nat.le_of_ble_eq_true rfl, Nat.le_of_ble_eq_true rfl⟩ rfl rfl (Nat.le_of_ble_eq_true rfl) dX7_gains_13 ?_
    refine x_nmM (fun M7 eM7 => ?_)
    have hR := nmE hR eM7
    have hok := hok M7 eM7
    refine x_aload_n (pc := 16) (i := 0) C 1 dX7_gains_16 rfl rfl ?_
    refine x_get (pc := 17) (q := 193) (i := 0) C e_M rfl ttX7 (by decide) wd_6_227 rfl dX7_gains_17 ?_
    refine x_iconst (pc := 20) (v := 4) C dX7_gains_20 (by decide) ?_
    refine x_dup2 (pc := 21) C dX7_gains_21 rfl rfl ?_
    have h8 : vp_in (4) 124 := (by decide : ¬ ((4 : Int32) < 0 ∨ 124 ≤ Int32.toNatClampNeg 4))
    refine x_iald (pc := 22) (q := 194) C e_M0 h8 dX7_gains_22 ?_
    refine x_iload_n (pc := 23) (i := 2) C 0 dX7_gains_23 rfl rfl ?_
    refine x_isub (pc := 24) C dX7_gains_24 ?_
    have h9 : vp_in (4) 124 := (by decide : ¬ ((4 : Int32) < 0 ∨ 124 ≤ Int32.toNatClampNeg 4))
    refine x_iastM (pc := 25) (j := 0) (q := 194) C rfl (by decide) e_M0 e_M0.2 h9 dX7_gains_25 ?_
    refine x_nmM (fun M10 eM10 => ?_)
    have hR := nmE hR eM10
    have hok := hok M10 eM10
    refine x_aload_n (pc := 26) (i := 0) C 1 dX7_gains_26 rfl rfl ?_
    refine x_get (pc := 27) (q := 193) (i := 0) C e_M rfl ttX7 (by decide) wd_6_227 rfl dX7_gains_27 ?_
    refine x_bipush (pc := 30) (v := 8) C dX7_gains_30 (by decide) ?_
    refine x_dup2 (pc := 32) C dX7_gains_32 rfl rfl ?_
    have h11 : vp_in (8) 124 := (by decide : ¬ ((8 : Int32) < 0 ∨ 124 ≤ Int32.toNatClampNeg 8))
    refine x_iald (pc := 33) (q := 194) C e_M0 h11 dX7_gains_33 ?_
    refine x_iload_n (pc := 34) (i := 2) C 0 dX7_gains_34 rfl rfl ?_
    refine x_iadd (pc := 35) C dX7_gains_35 ?_
    have h12 : vp_in (8) 124 := (by decide : ¬ ((8 : Int32) < 0 ∨ 124 ≤ Int32.toNatClampNeg 8))
    refine x_iastM (pc := 36) (j := 0) (q := 194) C rfl (by decide) e_M0 e_M0.2 h12 dX7_gains_36 ?_
    refine x_nmM (fun M13 eM13 => ?_)
    have hR := nmE hR eM13
    have hok := hok M13 eM13
    refine x_aload_n (pc := 37) (i := 0) C 1 dX7_gains_37 rfl rfl ?_
    refine x_bipush (pc := 38) (v := 105) C dX7_gains_38 (by decide) ?_
    refine x_iload_n (pc := 40) (i := 2) C 0 dX7_gains_40 rfl rfl ?_
    refine x_iload_n (pc := 41) (i := 1) C 2 dX7_gains_41 rfl rfl ?_
    have h14 := hok.1
    have hok := hok.2
    refine x_cVV (pc := 42) (as := [.int 105, .int r2, .int x0]) (q := 193) C (c_X7_writes C.2.2.2.2.2.2.2.1  B M13 O 105 r2 x0 h14) (fs := _) e_M rfl cv_X7_writes cd_X7_writes wd_7_127 ⟨Nat.le_of_ble_eq_true rfl, Nat.le_of_ble_eq_true rfl⟩ ⟨Nat.le_of_ble_eq_true rfl, Nat.le_of_ble_eq_true rfl⟩ rfl rfl (Nat.le_of_ble_eq_true rfl) dX7_gains_42 ?_
    refine x_nmM (fun M15 eM15 => ?_)
    have hR := nmE hR eM15
    have hok := hok M15 eM15
    refine x_sub [1, 2, 0] (ls2 := [(0, .ref (ad 193)), (1, .int x0), (2, .int r2)]) rfl ?_
    exact t_X7_gains_J45 C M15 x0 r2 B O _ hR hok
set_option maxHeartbeats 4000000 in
set_option maxRecDepth 100000 in
theorem c_X7_interestOf {l : Launch} {A : Nat → Prop} {G : GT} {ad : Nat → Nat} (gl : Gl l A ad)  (B : StB) (M : StM) (O : StO) (x0 : Int32) (hok : ok_X7_interestOf M x0) : Met l yX7_interestOf (wof yX7_interestOf cX7_interestOf 2 (some .int)) (rmd 6 0 0) (va_Pc [.ref (ad 193), .int x0] (PW G A ad B M O)) (QI G A ad (f_X7_interestOf M x0).1 B (f_X7_interestOf M x0).2 O) 0 0 A := by
  refine x_body (own := RX7) (by decide +kernel) rfl gl (Nat.le_of_ble_eq_true rfl) (ls := [(0, .ref (ad 193)), (1, .int x0)]) rfl ?_
  intro p0 e s m args below meth c C
  have hR : (f_X7_interestOf M x0) = (nm (f_X7_isAccount M x0) (fun (r2 : Int32) => (nm (f_X7_goes M r2) (fun (z4 : Int32 × StM) => (if z4.1 = 0 then (0, z4.2) else (nm (f_X7_earns z4.2 x0) (fun (r7 : Int32) => (r7, z4.2)))))))) := rfl
  have hok : ((ok_X7_isAccount M x0) ∧ (∀ r2 : Int32, r2 = (f_X7_isAccount M x0) → ((ok_X7_goes M r2) ∧ (∀ z4 : Int32 × StM, z4 = (f_X7_goes M r2) → ((z4.1 = 0 → True) ∧ (¬ z4.1 = 0 → ((ok_X7_earns z4.2 x0)))))))) := hok
  refine x_aload_n (pc := 0) (i := 0) C 0 dX7_interestOf_0 rfl rfl ?_
  refine x_aload_n (pc := 1) (i := 0) C 0 dX7_interestOf_1 rfl rfl ?_
  refine x_iload_n (pc := 2) (i := 1) C 1 dX7_interestOf_2 rfl rfl ?_
  have h1 := hok.1
  have hok := hok.2
  refine x_cIV (pc := 3) (as := [.int x0]) (q := 193) C (c_X7_isAccount C.2.2.2.2.2.2.2.1  B M O x0 h1) (fs := _) e_M rfl cv_X7_isAccount cd_X7_isAccount wd_7_115 ⟨Nat.le_of_ble_eq_true rfl, Nat.le_of_ble_eq_true rfl⟩ ⟨Nat.le_of_ble_eq_true rfl, Nat.le_of_ble_eq_true rfl⟩ rfl rfl (Nat.le_of_ble_eq_true rfl) dX7_interestOf_3 ?_
  refine x_nmI (fun r2 er2 => ?_)
  have hR := nmE hR er2
  have hok := hok r2 er2
  have h3 := hok.1
  have hok := hok.2
  refine x_cIV (pc := 6) (as := [.int r2]) (q := 193) C (c_X7_goes C.2.2.2.2.2.2.2.1  B M O r2 h3) (fs := _) e_M rfl cv_X7_goes cd_X7_goes wd_7_59 ⟨Nat.le_of_ble_eq_true rfl, Nat.le_of_ble_eq_true rfl⟩ ⟨Nat.le_of_ble_eq_true rfl, Nat.le_of_ble_eq_true rfl⟩ rfl rfl (Nat.le_of_ble_eq_true rfl) dX7_interestOf_6 ?_
  refine x_nmIM (fun z4 ez4 => ?_)
  have hR := nmE hR ez4
  have hok := hok z4 ez4
  refine x_if_eq (pc := 9) (tgt := 20) C dX7_interestOf_9 (by decide) (fun c5 => ?_) (fun c5 => ?_)
  · have hR := hR.trans (if_pos c5)
    refine x_iconst (pc := 20) (v := 0) C dX7_interestOf_20 (by decide) ?_
    exact x_iretM (pc := 21) C rfl hR dX7_interestOf_21
  · have hR := hR.trans (if_neg c5)
    have hok := hok.2 c5
    refine x_aload_n (pc := 12) (i := 0) C 0 dX7_interestOf_12 rfl rfl ?_
    refine x_iload_n (pc := 13) (i := 1) C 1 dX7_interestOf_13 rfl rfl ?_
    have h6 := hok
    refine x_cIV (pc := 14) (as := [.int x0]) (q := 193) C (c_X7_earns C.2.2.2.2.2.2.2.1  B z4.2 O x0 h6) (fs := _) e_M rfl cv_X7_earns cd_X7_earns wd_7_204 ⟨Nat.le_of_ble_eq_true rfl, Nat.le_of_ble_eq_true rfl⟩ ⟨Nat.le_of_ble_eq_true rfl, Nat.le_of_ble_eq_true rfl⟩ rfl rfl (Nat.le_of_ble_eq_true rfl) dX7_interestOf_14 ?_
    refine x_nmI (fun r7 er7 => ?_)
    have hR := nmE hR er7
    refine x_goto (pc := 17) (tgt := 21) C dX7_interestOf_17 (by decide) ?_
    exact x_iretM (pc := 21) C rfl hR dX7_interestOf_21
set_option maxHeartbeats 4000000 in
set_option maxRecDepth 100000 in
theorem t_X7_closesDay_L4 {p0 : Program} {l : Launch} {e : Env} {s : State} {m : MethodId} {args : Array Value} {below : List Frame} {meth : Method} {c : Code} {A : Nat → Prop} {G : GT} {ad : Nat → Nat} {Q : State → Prop} (C : CX p0 l s m args meth c A G ad cX7_closesDay RX7 4 (some .int))    (n : Nat) (M : StM) (a1 : Int32) (a2 : Int32) (B : StB) (O : StO) : ∀ (R0 : Int32 × StM) (hR : R0 = f_X7_closesDay_L4 n M a1 a2) (hok : ok_X7_closesDay_L4 n M a1 a2) (k : X p0 l e (rmd 7 0 0) s m args below meth c A G ad 4 0 0 Q B R0.2 O [(0, .ref (ad 193)), (1, .int R0.1)] 59 []), X p0 l e (rmd 7 0 0) s m args below meth c A G ad 4 0 0 Q B M O [(0, .ref (ad 193)), (1, .int a1), (2, .int a2)] 4 [] := by
  induction n generalizing M a1 a2 with
  | zero => intro R0 hR hok k; exact False.elim hok
  | succ n ih =>
    intro R0 hR hok k
    have hR : R0 = (if (ma M 0 (ix 3)) ≤ a2 then (a1, M) else (nm (f_X7_ofPlace M a2 4) (fun (r4 : Int32) => (if r4 = (ma M 0 (ix 0)) then (nm (f_X7_isMoved M a2) (fun (z8 : Int32 × StM) => (if z8.1 = 0 then (nm (a1 + 0) (fun (v10 : Int32) => (nm (f_X7_drops z8.2 a2) (fun (M12 : StM) => (f_X7_closesDay_L4 n M12 v10 a2))))) else (nm (a1 + 1) (fun (v13 : Int32) => (nm (f_X7_drops z8.2 a2) (fun (M15 : StM) => (f_X7_closesDay_L4 n M15 v13 a2)))))))) else (f_X7_closesDay_L4 n M a1 (a2 + 1)))))) := hR
    have hok : (((ma M 0 (ix 3)) ≤ a2 → True) ∧ (¬ (ma M 0 (ix 3)) ≤ a2 → ((ok_X7_ofPlace M a2 4) ∧ (∀ r4 : Int32, r4 = (f_X7_ofPlace M a2 4) → ((r4 = (ma M 0 (ix 0)) → ((ok_X7_isMoved M a2) ∧ (∀ z8 : Int32 × StM, z8 = (f_X7_isMoved M a2) → ((z8.1 = 0 → (∀ v10 : Int32, v10 = (a1 + 0) → ((ok_X7_drops z8.2 a2) ∧ (∀ M12 : StM, M12 = (f_X7_drops z8.2 a2) → (ok_X7_closesDay_L4 n M12 v10 a2))))) ∧ (¬ z8.1 = 0 → (∀ v13 : Int32, v13 = (a1 + 1) → ((ok_X7_drops z8.2 a2) ∧ (∀ M15 : StM, M15 = (f_X7_drops z8.2 a2) → (ok_X7_closesDay_L4 n M15 v13 a2))))))))) ∧ (¬ r4 = (ma M 0 (ix 0)) → (ok_X7_closesDay_L4 n M a1 (a2 + 1)))))))) := hok
    refine x_iload_n (pc := 4) (i := 2) C 2 dX7_closesDay_4 rfl rfl ?_
    refine x_aload_n (pc := 5) (i := 0) C 0 dX7_closesDay_5 rfl rfl ?_
    refine x_get (pc := 6) (q := 193) (i := 0) C e_M rfl ttX7 (by decide) wd_6_227 rfl dX7_closesDay_6 ?_
    refine x_iconst (pc := 9) (v := 3) C dX7_closesDay_9 (by decide) ?_
    have h1 : vp_in (3) 124 := (by decide : ¬ ((3 : Int32) < 0 ∨ 124 ≤ Int32.toNatClampNeg 3))
    refine x_iald (pc := 10) (q := 194) C e_M0 h1 dX7_closesDay_10 ?_
    refine x_icmp_ge (pc := 11) (tgt := 59) C dX7_closesDay_11 (by decide) (fun c2 => ?_) (fun c2 => ?_)
    · have hR := hR.trans (if_pos c2)
      refine x_sub [0, 1] (ls2 := [(0, .ref (ad 193)), (1, .int a1)]) rfl ?_
      subst hR
      exact k
    · have hR := hR.trans (if_neg c2)
      have hok := hok.2 c2
      refine x_aload_n (pc := 14) (i := 0) C 0 dX7_closesDay_14 rfl rfl ?_
      refine x_iload_n (pc := 15) (i := 2) C 2 dX7_closesDay_15 rfl rfl ?_
      refine x_iconst (pc := 16) (v := 4) C dX7_closesDay_16 (by decide) ?_
      have h3 := hok.1
      have hok := hok.2
      refine x_cIV (pc := 17) (as := [.int a2, .int 4]) (q := 193) C (c_X7_ofPlace C.2.2.2.2.2.2.2.1  B M O a2 4 h3) (fs := _) e_M rfl cv_X7_ofPlace cd_X7_ofPlace wd_7_168 ⟨Nat.le_of_ble_eq_true rfl, Nat.le_of_ble_eq_true rfl⟩ ⟨Nat.le_of_ble_eq_true rfl, Nat.le_of_ble_eq_true rfl⟩ rfl rfl (Nat.le_of_ble_eq_true rfl) dX7_closesDay_17 ?_
      refine x_nmI (fun r4 er4 => ?_)
      have hR := nmE hR er4
      have hok := hok r4 er4
      refine x_aload_n (pc := 20) (i := 0) C 0 dX7_closesDay_20 rfl rfl ?_
      refine x_get (pc := 21) (q := 193) (i := 0) C e_M rfl ttX7 (by decide) wd_6_227 rfl dX7_closesDay_21 ?_
      refine x_iconst (pc := 24) (v := 0) C dX7_closesDay_24 (by decide) ?_
      have h5 : vp_in (0) 124 := (by decide : ¬ ((0 : Int32) < 0 ∨ 124 ≤ Int32.toNatClampNeg 0))
      refine x_iald (pc := 25) (q := 194) C e_M0 h5 dX7_closesDay_25 ?_
      refine x_icmp_ne (pc := 26) (tgt := 53) C dX7_closesDay_26 (by decide) (fun c6 => ?_) (fun c6 => ?_)
      · have hR := hR.trans (if_neg c6)
        have hok := hok.2 c6
        refine x_iinc (pc := 53) (i := 2) (v := (a2 + 1)) (ls2 := [(2, .int (a2 + 1)), (0, .ref (ad 193)), (1, .int a1)]) C 2 dX7_closesDay_53 rfl rfl (by decide) rfl ?_
        refine x_goto (pc := 56) (tgt := 4) C dX7_closesDay_56 (by decide) ?_
        refine x_sub [1, 2, 0] (ls2 := [(0, .ref (ad 193)), (1, .int a1), (2, .int (a2 + 1))]) rfl ?_
        exact ih M a1 (a2 + 1) R0 hR hok k
      · have hR := hR.trans (if_pos c6)
        have hok := hok.1 c6
        refine x_iload_n (pc := 29) (i := 1) C 1 dX7_closesDay_29 rfl rfl ?_
        refine x_aload_n (pc := 30) (i := 0) C 0 dX7_closesDay_30 rfl rfl ?_
        refine x_iload_n (pc := 31) (i := 2) C 2 dX7_closesDay_31 rfl rfl ?_
        have h7 := hok.1
        have hok := hok.2
        refine x_cIV (pc := 32) (as := [.int a2]) (q := 193) C (c_X7_isMoved C.2.2.2.2.2.2.2.1  B M O a2 h7) (fs := _) e_M rfl cv_X7_isMoved cd_X7_isMoved wd_7_188 ⟨Nat.le_of_ble_eq_true rfl, Nat.le_of_ble_eq_true rfl⟩ ⟨Nat.le_of_ble_eq_true rfl, Nat.le_of_ble_eq_true rfl⟩ rfl rfl (Nat.le_of_ble_eq_true rfl) dX7_closesDay_32 ?_
        refine x_nmIM (fun z8 ez8 => ?_)
        have hR := nmE hR ez8
        have hok := hok z8 ez8
        refine x_if_eq (pc := 35) (tgt := 42) C dX7_closesDay_35 (by decide) (fun c9 => ?_) (fun c9 => ?_)
        · have hR := hR.trans (if_pos c9)
          have hok := hok.1 c9
          refine x_iconst (pc := 42) (v := 0) C dX7_closesDay_42 (by decide) ?_
          refine x_iadd (pc := 43) C dX7_closesDay_43 ?_
          refine x_nmI (fun v10 ev10 => ?_)
          have hR := nmE hR ev10
          have hok := hok v10 ev10
          refine x_istore_n (pc := 44) (i := 1) (ls2 := [(1, .int v10), (0, .ref (ad 193)), (2, .int a2)]) C dX7_closesDay_44 rfl (by decide) rfl ?_
          refine x_aload_n (pc := 45) (i := 0) C 1 dX7_closesDay_45 rfl rfl ?_
          refine x_iload_n (pc := 46) (i := 2) C 2 dX7_closesDay_46 rfl rfl ?_
          have h11 := hok.1
          have hok := hok.2
          refine x_cVV (pc := 47) (as := [.int a2]) (q := 193) C (c_X7_drops C.2.2.2.2.2.2.2.1  B z8.2 O a2 h11) (fs := _) e_M rfl cv_X7_drops cd_X7_drops wd_7_172 ⟨Nat.le_of_ble_eq_true rfl, Nat.le_of_ble_eq_true rfl⟩ ⟨Nat.le_of_ble_eq_true rfl, Nat.le_of_ble_eq_true rfl⟩ rfl rfl (Nat.le_of_ble_eq_true rfl) dX7_closesDay_47 ?_
          refine x_nmM (fun M12 eM12 => ?_)
          have hR := nmE hR eM12
          have hok := hok M12 eM12
          refine x_goto (pc := 50) (tgt := 4) C dX7_closesDay_50 (by decide) ?_
          refine x_sub [1, 0, 2] (ls2 := [(0, .ref (ad 193)), (1, .int v10), (2, .int a2)]) rfl ?_
          exact ih M12 v10 a2 R0 hR hok k
        · have hR := hR.trans (if_neg c9)
          have hok := hok.2 c9
          refine x_iconst (pc := 38) (v := 1) C dX7_closesDay_38 (by decide) ?_
          refine x_goto (pc := 39) (tgt := 43) C dX7_closesDay_39 (by decide) ?_
          refine x_iadd (pc := 43) C dX7_closesDay_43 ?_
          refine x_nmI (fun v13 ev13 => ?_)
          have hR := nmE hR ev13
          have hok := hok v13 ev13
          refine x_istore_n (pc := 44) (i := 1) (ls2 := [(1, .int v13), (0, .ref (ad 193)), (2, .int a2)]) C dX7_closesDay_44 rfl (by decide) rfl ?_
          refine x_aload_n (pc := 45) (i := 0) C 1 dX7_closesDay_45 rfl rfl ?_
          refine x_iload_n (pc := 46) (i := 2) C 2 dX7_closesDay_46 rfl rfl ?_
          have h14 := hok.1
          have hok := hok.2
          refine x_cVV (pc := 47) (as := [.int a2]) (q := 193) C (c_X7_drops C.2.2.2.2.2.2.2.1  B z8.2 O a2 h14) (fs := _) e_M rfl cv_X7_drops cd_X7_drops wd_7_172 ⟨Nat.le_of_ble_eq_true rfl, Nat.le_of_ble_eq_true rfl⟩ ⟨Nat.le_of_ble_eq_true rfl, Nat.le_of_ble_eq_true rfl⟩ rfl rfl (Nat.le_of_ble_eq_true rfl) dX7_closesDay_47 ?_
          refine x_nmM (fun M15 eM15 => ?_)
          have hR := nmE hR eM15
          have hok := hok M15 eM15
          refine x_goto (pc := 50) (tgt := 4) C dX7_closesDay_50 (by decide) ?_
          refine x_sub [1, 0, 2] (ls2 := [(0, .ref (ad 193)), (1, .int v13), (2, .int a2)]) rfl ?_
          exact ih M15 v13 a2 R0 hR hok k
set_option maxHeartbeats 4000000 in
set_option maxRecDepth 100000 in
theorem t_X7_closesDay_L61 {p0 : Program} {l : Launch} {e : Env} {s : State} {m : MethodId} {args : Array Value} {below : List Frame} {meth : Method} {c : Code} {A : Nat → Prop} {G : GT} {ad : Nat → Nat} {Q : State → Prop} (C : CX p0 l s m args meth c A G ad cX7_closesDay RX7 4 (some .int))    (n : Nat) (M : StM) (a1 : Int32) (a3 : Int32) (B : StB) (O : StO) : ∀ (R0 : StM) (hR : R0 = f_X7_closesDay_L61 n M a1 a3) (hok : ok_X7_closesDay_L61 n M a1 a3) (k : X p0 l e (rmd 7 0 0) s m args below meth c A G ad 4 0 0 Q B R0 O [(0, .ref (ad 193)), (1, .int a1)] 82 []), X p0 l e (rmd 7 0 0) s m args below meth c A G ad 4 0 0 Q B M O [(0, .ref (ad 193)), (1, .int a1), (3, .int a3)] 61 [] := by
  induction n generalizing M a1 a3 with
  | zero => intro R0 hR hok k; exact False.elim hok
  | succ n ih =>
    intro R0 hR hok k
    have hR : R0 = (if (ma M 0 (ix 1)) ≤ a3 then M else (nm (f_X7_gains M a3) (fun (M20 : StM) => (f_X7_closesDay_L61 n M20 a1 (a3 + 1))))) := hR
    have hok : (((ma M 0 (ix 1)) ≤ a3 → True) ∧ (¬ (ma M 0 (ix 1)) ≤ a3 → ((ok_X7_gains M a3) ∧ (∀ M20 : StM, M20 = (f_X7_gains M a3) → (ok_X7_closesDay_L61 n M20 a1 (a3 + 1)))))) := hok
    refine x_iload_n (pc := 61) (i := 3) C 2 dX7_closesDay_61 rfl rfl ?_
    refine x_aload_n (pc := 62) (i := 0) C 0 dX7_closesDay_62 rfl rfl ?_
    refine x_get (pc := 63) (q := 193) (i := 0) C e_M rfl ttX7 (by decide) wd_6_227 rfl dX7_closesDay_63 ?_
    refine x_iconst (pc := 66) (v := 1) C dX7_closesDay_66 (by decide) ?_
    have h17 : vp_in (1) 124 := (by decide : ¬ ((1 : Int32) < 0 ∨ 124 ≤ Int32.toNatClampNeg 1))
    refine x_iald (pc := 67) (q := 194) C e_M0 h17 dX7_closesDay_67 ?_
    refine x_icmp_ge (pc := 68) (tgt := 82) C dX7_closesDay_68 (by decide) (fun c18 => ?_) (fun c18 => ?_)
    · have hR := hR.trans (if_pos c18)
      refine x_sub [0, 1] (ls2 := [(0, .ref (ad 193)), (1, .int a1)]) rfl ?_
      subst hR
      exact k
    · have hR := hR.trans (if_neg c18)
      have hok := hok.2 c18
      refine x_aload_n (pc := 71) (i := 0) C 0 dX7_closesDay_71 rfl rfl ?_
      refine x_iload_n (pc := 72) (i := 3) C 2 dX7_closesDay_72 rfl rfl ?_
      have h19 := hok.1
      have hok := hok.2
      refine x_cVV (pc := 73) (as := [.int a3]) (q := 193) C (c_X7_gains C.2.2.2.2.2.2.2.1  B M O a3 h19) (fs := _) e_M rfl cv_X7_gains cd_X7_gains wd_7_200 ⟨Nat.le_of_ble_eq_true rfl, Nat.le_of_ble_eq_true rfl⟩ ⟨Nat.le_of_ble_eq_true rfl, Nat.le_of_ble_eq_true rfl⟩ rfl rfl (Nat.le_of_ble_eq_true rfl) dX7_closesDay_73 ?_
      refine x_nmM (fun M20 eM20 => ?_)
      have hR := nmE hR eM20
      have hok := hok M20 eM20
      refine x_iinc (pc := 76) (i := 3) (v := (a3 + 1)) (ls2 := [(3, .int (a3 + 1)), (0, .ref (ad 193)), (1, .int a1)]) C 2 dX7_closesDay_76 rfl rfl (by decide) rfl ?_
      refine x_goto (pc := 79) (tgt := 61) C dX7_closesDay_79 (by decide) ?_
      refine x_sub [1, 2, 0] (ls2 := [(0, .ref (ad 193)), (1, .int a1), (3, .int (a3 + 1))]) rfl ?_
      exact ih M20 a1 (a3 + 1) R0 hR hok k
set_option maxHeartbeats 4000000 in
set_option maxRecDepth 100000 in
theorem t_X7_closesDay_L84 {p0 : Program} {l : Launch} {e : Env} {s : State} {m : MethodId} {args : Array Value} {below : List Frame} {meth : Method} {c : Code} {A : Nat → Prop} {G : GT} {ad : Nat → Nat} {Q : State → Prop} (C : CX p0 l s m args meth c A G ad cX7_closesDay RX7 4 (some .int))    (n : Nat) (M : StM) (a1 : Int32) (a3 : Int32) (B : StB) (O : StO) : ∀ (R0 : StM) (hR : R0 = f_X7_closesDay_L84 n M a1 a3) (hok : ok_X7_closesDay_L84 n M a1 a3) (k : X p0 l e (rmd 7 0 0) s m args below meth c A G ad 4 0 0 Q B R0 O [(0, .ref (ad 193)), (1, .int a1)] 112 []), X p0 l e (rmd 7 0 0) s m args below meth c A G ad 4 0 0 Q B M O [(0, .ref (ad 193)), (1, .int a1), (3, .int a3)] 84 [] := by
  induction n generalizing M a1 a3 with
  | zero => intro R0 hR hok k; exact False.elim hok
  | succ n ih =>
    intro R0 hR hok k
    have hR : R0 = (if (ma M 0 (ix 1)) ≤ a3 then M else (nm (f_X7_accountAt a3) (fun (r24 : Int32) => (nm (sma M 0 (ix (r24 + 3)) 0) (fun (M26 : StM) => (f_X7_closesDay_L84 n M26 a1 (a3 + 1))))))) := hR
    have hok : (((ma M 0 (ix 1)) ≤ a3 → True) ∧ (¬ (ma M 0 (ix 1)) ≤ a3 → (∀ r24 : Int32, r24 = (f_X7_accountAt a3) → (vp_in (r24 + 3) 124 ∧ (∀ M26 : StM, M26 = (sma M 0 (ix (r24 + 3)) 0) → (ok_X7_closesDay_L84 n M26 a1 (a3 + 1))))))) := hok
    refine x_iload_n (pc := 84) (i := 3) C 2 dX7_closesDay_84 rfl rfl ?_
    refine x_aload_n (pc := 85) (i := 0) C 0 dX7_closesDay_85 rfl rfl ?_
    refine x_get (pc := 86) (q := 193) (i := 0) C e_M rfl ttX7 (by decide) wd_6_227 rfl dX7_closesDay_86 ?_
    refine x_iconst (pc := 89) (v := 1) C dX7_closesDay_89 (by decide) ?_
    have h22 : vp_in (1) 124 := (by decide : ¬ ((1 : Int32) < 0 ∨ 124 ≤ Int32.toNatClampNeg 1))
    refine x_iald (pc := 90) (q := 194) C e_M0 h22 dX7_closesDay_90 ?_
    refine x_icmp_ge (pc := 91) (tgt := 112) C dX7_closesDay_91 (by decide) (fun c23 => ?_) (fun c23 => ?_)
    · have hR := hR.trans (if_pos c23)
      refine x_sub [0, 1] (ls2 := [(0, .ref (ad 193)), (1, .int a1)]) rfl ?_
      subst hR
      exact k
    · have hR := hR.trans (if_neg c23)
      have hok := hok.2 c23
      refine x_aload_n (pc := 94) (i := 0) C 0 dX7_closesDay_94 rfl rfl ?_
      refine x_get (pc := 95) (q := 193) (i := 0) C e_M rfl ttX7 (by decide) wd_6_227 rfl dX7_closesDay_95 ?_
      refine x_iload_n (pc := 98) (i := 3) C 2 dX7_closesDay_98 rfl rfl ?_
      refine x_cIS (pc := 99) (as := [.int a3]) C (c_X7_accountAt C.2.2.2.2.2.2.2.1  B M O a3) wd_7_94 cd_X7_accountAt wd_7_93 ⟨Nat.le_of_ble_eq_true rfl, Nat.le_of_ble_eq_true rfl⟩ ⟨Nat.le_of_ble_eq_true rfl, Nat.le_of_ble_eq_true rfl⟩ rfl rfl (Nat.le_of_ble_eq_true rfl) dX7_closesDay_99 ?_
      refine x_nmI (fun r24 er24 => ?_)
      have hR := nmE hR er24
      have hok := hok r24 er24
      refine x_iconst (pc := 102) (v := 3) C dX7_closesDay_102 (by decide) ?_
      refine x_iadd (pc := 103) C dX7_closesDay_103 ?_
      refine x_iconst (pc := 104) (v := 0) C dX7_closesDay_104 (by decide) ?_
      have h25 := hok.1
      have hok := hok.2
      refine x_iastM (pc := 105) (j := 0) (q := 194) C rfl (by decide) e_M0 e_M0.2 h25 dX7_closesDay_105 ?_
      refine x_nmM (fun M26 eM26 => ?_)
      have hR := nmE hR eM26
      have hok := hok M26 eM26
      refine x_iinc (pc := 106) (i := 3) (v := (a3 + 1)) (ls2 := [(3, .int (a3 + 1)), (0, .ref (ad 193)), (1, .int a1)]) C 2 dX7_closesDay_106 rfl rfl (by decide) rfl ?_
      refine x_goto (pc := 109) (tgt := 84) C dX7_closesDay_109 (by decide) ?_
      refine x_sub [1, 2, 0] (ls2 := [(0, .ref (ad 193)), (1, .int a1), (3, .int (a3 + 1))]) rfl ?_
      exact ih M26 a1 (a3 + 1) R0 hR hok k
set_option maxHeartbeats 4000000 in
set_option maxRecDepth 100000 in
theorem c_X7_closesDay {l : Launch} {A : Nat → Prop} {G : GT} {ad : Nat → Nat} (gl : Gl l A ad)  (B : StB) (M : StM) (O : StO)  (hok : ok_X7_closesDay M) : Met l yX7_closesDay (wof yX7_closesDay cX7_closesDay 4 (some .int)) (rmd 7 0 0) (va_Pc [.ref (ad 193)] (PW G A ad B M O)) (QI G A ad (f_X7_closesDay M).1 B (f_X7_closesDay M).2 O) 0 0 A := by
  refine x_body (own := RX7) (by decide +kernel) rfl gl (Nat.le_of_ble_eq_true rfl) (ls := [(0, .ref (ad 193))]) rfl ?_
  intro p0 e s m args below meth c C
  have hR : (f_X7_closesDay M) = (nm (f_X7_closesDay_L4 fu M 0 0) (fun (z16 : Int32 × StM) => (nm (f_X7_closesDay_L61 fu z16.2 z16.1 0) (fun (z21 : StM) => (nm (f_X7_closesDay_L84 fu z21 z16.1 0) (fun (z27 : StM) => (nm (sma z27 0 (ix 0) ((ma z27 0 (ix 0)) + 1)) (fun (M30 : StM) => (z16.1, M30))))))))) := rfl
  have hok : ((ok_X7_closesDay_L4 fu M 0 0) ∧ ∀ z16 : Int32 × StM, z16 = f_X7_closesDay_L4 fu M 0 0 → ((ok_X7_closesDay_L61 fu z16.2 z16.1 0) ∧ ∀ z21 : StM, z21 = f_X7_closesDay_L61 fu z16.2 z16.1 0 → (ok_X7_closesDay_L84 fu z21 z16.1 0))) := hok
  refine x_iconst (pc := 0) (v := 0) C dX7_closesDay_0 (by decide) ?_
  refine x_istore_n (pc := 1) (i := 1) (ls2 := [(1, .int 0), (0, .ref (ad 193))]) C dX7_closesDay_1 rfl (by decide) rfl ?_
  refine x_iconst (pc := 2) (v := 0) C dX7_closesDay_2 (by decide) ?_
  refine x_istore_n (pc := 3) (i := 2) (ls2 := [(2, .int 0), (1, .int 0), (0, .ref (ad 193))]) C dX7_closesDay_3 rfl (by decide) rfl ?_
  refine x_sub [2, 1, 0] (ls2 := [(0, .ref (ad 193)), (1, .int 0), (2, .int 0)]) rfl ?_
  obtain ⟨z16, ez16⟩ : ∃ z : Int32 × StM, z = f_X7_closesDay_L4 fu M 0 0 := ⟨_, rfl⟩
  refine t_X7_closesDay_L4 C fu M 0 0 B O z16 ez16 hok.1 ?_
  have hR := nmE hR ez16
  have hok := hok.2 z16 ez16
  refine x_iconst (pc := 59) (v := 0) C dX7_closesDay_59 (by decide) ?_
  refine x_istore_n (pc := 60) (i := 3) (ls2 := [(3, .int 0), (0, .ref (ad 193)), (1, .int z16.1)]) C dX7_closesDay_60 rfl (by decide) rfl ?_
  refine x_sub [1, 2, 0] (ls2 := [(0, .ref (ad 193)), (1, .int z16.1), (3, .int 0)]) rfl ?_
  obtain ⟨z21, ez21⟩ : ∃ z : StM, z = f_X7_closesDay_L61 fu z16.2 z16.1 0 := ⟨_, rfl⟩
  refine t_X7_closesDay_L61 C fu z16.2 z16.1 0 B O z21 ez21 hok.1 ?_
  have hR := nmE hR ez21
  have hok := hok.2 z21 ez21
  refine x_iconst (pc := 82) (v := 0) C dX7_closesDay_82 (by decide) ?_
  refine x_istore_n (pc := 83) (i := 3) (ls2 := [(3, .int 0), (0, .ref (ad 193)), (1, .int z16.1)]) C dX7_closesDay_83 rfl (by decide) rfl ?_
  refine x_sub [1, 2, 0] (ls2 := [(0, .ref (ad 193)), (1, .int z16.1), (3, .int 0)]) rfl ?_
  obtain ⟨z27, ez27⟩ : ∃ z : StM, z = f_X7_closesDay_L84 fu z21 z16.1 0 := ⟨_, rfl⟩
  refine t_X7_closesDay_L84 C fu z21 z16.1 0 B O z27 ez27 hok ?_
  have hR := nmE hR ez27
  refine x_aload_n (pc := 112) (i := 0) C 0 dX7_closesDay_112 rfl rfl ?_
  refine x_get (pc := 113) (q := 193) (i := 0) C e_M rfl ttX7 (by decide) wd_6_227 rfl dX7_closesDay_113 ?_
  refine x_iconst (pc := 116) (v := 0) C dX7_closesDay_116 (by decide) ?_
  refine x_dup2 (pc := 117) C dX7_closesDay_117 rfl rfl ?_
  have h28 : vp_in (0) 124 := (by decide : ¬ ((0 : Int32) < 0 ∨ 124 ≤ Int32.toNatClampNeg 0))
  refine x_iald (pc := 118) (q := 194) C e_M0 h28 dX7_closesDay_118 ?_
  refine x_iconst (pc := 119) (v := 1) C dX7_closesDay_119 (by decide) ?_
  refine x_iadd (pc := 120) C dX7_closesDay_120 ?_
  have h29 : vp_in (0) 124 := (by decide : ¬ ((0 : Int32) < 0 ∨ 124 ≤ Int32.toNatClampNeg 0))
  refine x_iastM (pc := 121) (j := 0) (q := 194) C rfl (by decide) e_M0 e_M0.2 h29 dX7_closesDay_121 ?_
  refine x_nmM (fun M30 eM30 => ?_)
  have hR := nmE hR eM30
  refine x_iload_n (pc := 122) (i := 1) C 1 dX7_closesDay_122 rfl rfl ?_
  exact x_iretM (pc := 123) C rfl hR dX7_closesDay_123
