set_option maxHeartbeats 4000000 in
set_option maxRecDepth 100000 in
theorem c_X7_bankBalance {l : Launch} {A : Nat → Prop} {G : GT} {ad : Nat → Nat} (gl : Gl l A ad)  (B : StB) (M : StM) (O : StO)  : Met l yX7_bankBalance (wof yX7_bankBalance cX7_bankBalance 1 (some .int)) (rmd 1 0 0) (va_Pc [.ref (ad 193)] (PW G A ad B M O)) (QI G A ad (f_X7_bankBalance M).1 B (f_X7_bankBalance M).2 O) 0 0 A := by
  refine x_body (own := RX7) (by decide +kernel) rfl gl (Nat.le_of_ble_eq_true rfl) (ls := [(0, .ref (ad 193))]) rfl ?_
  intro p0 e s m args below meth c C
  have hR : (f_X7_bankBalance M) = (nm (smi M 15 0) (fun (M1 : StM) => ((ma M1 0 (ix 4)), M1))) := rfl
  refine x_aload_n (pc := 0) (i := 0) C 0 dX7_bankBalance_0 rfl rfl ?_
  refine x_iconst (pc := 1) (v := 0) C dX7_bankBalance_1 (by decide) ?_
  refine x_put (pc := 2) (M2 := (smi M 15 0)) (B2 := B) (O2 := O) (q := 193) (i := 15) C tyX7 tyX7_ok nmX7 e_M rfl ttX7 (by decide) wd_7_2 rfl rfl rfl (Nat.le_of_ble_eq_true rfl) dX7_bankBalance_2 (put_M_15 ) (o_smi 15 0) ?_
  refine x_nmM (fun M1 eM1 => ?_)
  have hR := nmE hR eM1
  refine x_aload_n (pc := 5) (i := 0) C 0 dX7_bankBalance_5 rfl rfl ?_
  refine x_get (pc := 6) (q := 193) (i := 0) C e_M rfl ttX7 (by decide) wd_6_227 rfl dX7_bankBalance_6 ?_
  refine x_iconst (pc := 9) (v := 4) C dX7_bankBalance_9 (by decide) ?_
  have h2 : vp_in (4) 124 := (by decide : ¬ ((4 : Int32) < 0 ∨ 124 ≤ Int32.toNatClampNeg 4))
  refine x_iald (pc := 10) (q := 194) C e_M0 h2 dX7_bankBalance_10 ?_
  exact x_iretM (pc := 11) C rfl hR dX7_bankBalance_11
set_option maxHeartbeats 4000000 in
set_option maxRecDepth 100000 in
theorem c_X7_totalInkByMovements {l : Launch} {A : Nat → Prop} {G : GT} {ad : Nat → Nat} (gl : Gl l A ad)  (B : StB) (M : StM) (O : StO)  : Met l yX7_totalInkByMovements (wof yX7_totalInkByMovements cX7_totalInkByMovements 1 (some .long)) (rmd 1 0 0) (va_Pc [.ref (ad 193)] (PW G A ad B M O)) (QL G A ad (f_X7_totalInkByMovements M).1 B (f_X7_totalInkByMovements M).2 O) 0 0 A := by
  refine x_body (own := RX7) (by decide +kernel) rfl gl (Nat.le_of_ble_eq_true rfl) (ls := [(0, .ref (ad 193))]) rfl ?_
  intro p0 e s m args below meth c C
  have hR : (f_X7_totalInkByMovements M) = (nm (smi M 15 0) (fun (M1 : StM) => ((Int32.toInt64 ((ma M1 0 (ix 5)) - (ma M1 0 (ix 6)))), M1))) := rfl
  refine x_aload_n (pc := 0) (i := 0) C 0 dX7_totalInkByMovements_0 rfl rfl ?_
  refine x_iconst (pc := 1) (v := 0) C dX7_totalInkByMovements_1 (by decide) ?_
  refine x_put (pc := 2) (M2 := (smi M 15 0)) (B2 := B) (O2 := O) (q := 193) (i := 15) C tyX7 tyX7_ok nmX7 e_M rfl ttX7 (by decide) wd_7_2 rfl rfl rfl (Nat.le_of_ble_eq_true rfl) dX7_totalInkByMovements_2 (put_M_15 ) (o_smi 15 0) ?_
  refine x_nmM (fun M1 eM1 => ?_)
  have hR := nmE hR eM1
  refine x_aload_n (pc := 5) (i := 0) C 0 dX7_totalInkByMovements_5 rfl rfl ?_
  refine x_get (pc := 6) (q := 193) (i := 0) C e_M rfl ttX7 (by decide) wd_6_227 rfl dX7_totalInkByMovements_6 ?_
  refine x_iconst (pc := 9) (v := 5) C dX7_totalInkByMovements_9 (by decide) ?_
  have h2 : vp_in (5) 124 := (by decide : ¬ ((5 : Int32) < 0 ∨ 124 ≤ Int32.toNatClampNeg 5))
  refine x_iald (pc := 10) (q := 194) C e_M0 h2 dX7_totalInkByMovements_10 ?_
  refine x_aload_n (pc := 11) (i := 0) C 0 dX7_totalInkByMovements_11 rfl rfl ?_
  refine x_get (pc := 12) (q := 193) (i := 0) C e_M rfl ttX7 (by decide) wd_6_227 rfl dX7_totalInkByMovements_12 ?_
  refine x_bipush (pc := 15) (v := 6) C dX7_totalInkByMovements_15 (by decide) ?_
  have h3 : vp_in (6) 124 := (by decide : ¬ ((6 : Int32) < 0 ∨ 124 ≤ Int32.toNatClampNeg 6))
  refine x_iald (pc := 17) (q := 194) C e_M0 h3 dX7_totalInkByMovements_17 ?_
  refine x_isub (pc := 18) C dX7_totalInkByMovements_18 ?_
  refine x_i2l (pc := 19) C dX7_totalInkByMovements_19 ?_
  exact x_lretM (pc := 20) C rfl hR dX7_totalInkByMovements_20
set_option maxHeartbeats 4000000 in
set_option maxRecDepth 100000 in
theorem c_X7_transferredInk {l : Launch} {A : Nat → Prop} {G : GT} {ad : Nat → Nat} (gl : Gl l A ad)  (B : StB) (M : StM) (O : StO)  : Met l yX7_transferredInk (wof yX7_transferredInk cX7_transferredInk 1 (some .long)) (rmd 1 0 0) (va_Pc [.ref (ad 193)] (PW G A ad B M O)) (QL G A ad (f_X7_transferredInk M).1 B (f_X7_transferredInk M).2 O) 0 0 A := by
  refine x_body (own := RX7) (by decide +kernel) rfl gl (Nat.le_of_ble_eq_true rfl) (ls := [(0, .ref (ad 193))]) rfl ?_
  intro p0 e s m args below meth c C
  have hR : (f_X7_transferredInk M) = (nm (smi M 15 0) (fun (M1 : StM) => ((Int32.toInt64 (ma M1 0 (ix 7))), M1))) := rfl
  refine x_aload_n (pc := 0) (i := 0) C 0 dX7_transferredInk_0 rfl rfl ?_
  refine x_iconst (pc := 1) (v := 0) C dX7_transferredInk_1 (by decide) ?_
  refine x_put (pc := 2) (M2 := (smi M 15 0)) (B2 := B) (O2 := O) (q := 193) (i := 15) C tyX7 tyX7_ok nmX7 e_M rfl ttX7 (by decide) wd_7_2 rfl rfl rfl (Nat.le_of_ble_eq_true rfl) dX7_transferredInk_2 (put_M_15 ) (o_smi 15 0) ?_
  refine x_nmM (fun M1 eM1 => ?_)
  have hR := nmE hR eM1
  refine x_aload_n (pc := 5) (i := 0) C 0 dX7_transferredInk_5 rfl rfl ?_
  refine x_get (pc := 6) (q := 193) (i := 0) C e_M rfl ttX7 (by decide) wd_6_227 rfl dX7_transferredInk_6 ?_
  refine x_bipush (pc := 9) (v := 7) C dX7_transferredInk_9 (by decide) ?_
  have h2 : vp_in (7) 124 := (by decide : ¬ ((7 : Int32) < 0 ∨ 124 ≤ Int32.toNatClampNeg 7))
  refine x_iald (pc := 11) (q := 194) C e_M0 h2 dX7_transferredInk_11 ?_
  refine x_i2l (pc := 12) C dX7_transferredInk_12 ?_
  exact x_lretM (pc := 13) C rfl hR dX7_transferredInk_13
set_option maxHeartbeats 4000000 in
set_option maxRecDepth 100000 in
theorem c_X7_interestPaid {l : Launch} {A : Nat → Prop} {G : GT} {ad : Nat → Nat} (gl : Gl l A ad)  (B : StB) (M : StM) (O : StO)  : Met l yX7_interestPaid (wof yX7_interestPaid cX7_interestPaid 1 (some .long)) (rmd 1 0 0) (va_Pc [.ref (ad 193)] (PW G A ad B M O)) (QL G A ad (f_X7_interestPaid M).1 B (f_X7_interestPaid M).2 O) 0 0 A := by
  refine x_body (own := RX7) (by decide +kernel) rfl gl (Nat.le_of_ble_eq_true rfl) (ls := [(0, .ref (ad 193))]) rfl ?_
  intro p0 e s m args below meth c C
  have hR : (f_X7_interestPaid M) = (nm (smi M 15 0) (fun (M1 : StM) => ((Int32.toInt64 (ma M1 0 (ix 8))), M1))) := rfl
  refine x_aload_n (pc := 0) (i := 0) C 0 dX7_interestPaid_0 rfl rfl ?_
  refine x_iconst (pc := 1) (v := 0) C dX7_interestPaid_1 (by decide) ?_
  refine x_put (pc := 2) (M2 := (smi M 15 0)) (B2 := B) (O2 := O) (q := 193) (i := 15) C tyX7 tyX7_ok nmX7 e_M rfl ttX7 (by decide) wd_7_2 rfl rfl rfl (Nat.le_of_ble_eq_true rfl) dX7_interestPaid_2 (put_M_15 ) (o_smi 15 0) ?_
  refine x_nmM (fun M1 eM1 => ?_)
  have hR := nmE hR eM1
  refine x_aload_n (pc := 5) (i := 0) C 0 dX7_interestPaid_5 rfl rfl ?_
  refine x_get (pc := 6) (q := 193) (i := 0) C e_M rfl ttX7 (by decide) wd_6_227 rfl dX7_interestPaid_6 ?_
  refine x_bipush (pc := 9) (v := 8) C dX7_interestPaid_9 (by decide) ?_
  have h2 : vp_in (8) 124 := (by decide : ¬ ((8 : Int32) < 0 ∨ 124 ≤ Int32.toNatClampNeg 8))
  refine x_iald (pc := 11) (q := 194) C e_M0 h2 dX7_interestPaid_11 ?_
  refine x_i2l (pc := 12) C dX7_interestPaid_12 ?_
  exact x_lretM (pc := 13) C rfl hR dX7_interestPaid_13
set_option maxHeartbeats 4000000 in
set_option maxRecDepth 100000 in
theorem c_X7_chargesPaid {l : Launch} {A : Nat → Prop} {G : GT} {ad : Nat → Nat} (gl : Gl l A ad)  (B : StB) (M : StM) (O : StO)  : Met l yX7_chargesPaid (wof yX7_chargesPaid cX7_chargesPaid 1 (some .long)) (rmd 1 0 0) (va_Pc [.ref (ad 193)] (PW G A ad B M O)) (QL G A ad (f_X7_chargesPaid M).1 B (f_X7_chargesPaid M).2 O) 0 0 A := by
  refine x_body (own := RX7) (by decide +kernel) rfl gl (Nat.le_of_ble_eq_true rfl) (ls := [(0, .ref (ad 193))]) rfl ?_
  intro p0 e s m args below meth c C
  have hR : (f_X7_chargesPaid M) = (nm (smi M 15 0) (fun (M1 : StM) => ((Int32.toInt64 (ma M1 0 (ix 9))), M1))) := rfl
  refine x_aload_n (pc := 0) (i := 0) C 0 dX7_chargesPaid_0 rfl rfl ?_
  refine x_iconst (pc := 1) (v := 0) C dX7_chargesPaid_1 (by decide) ?_
  refine x_put (pc := 2) (M2 := (smi M 15 0)) (B2 := B) (O2 := O) (q := 193) (i := 15) C tyX7 tyX7_ok nmX7 e_M rfl ttX7 (by decide) wd_7_2 rfl rfl rfl (Nat.le_of_ble_eq_true rfl) dX7_chargesPaid_2 (put_M_15 ) (o_smi 15 0) ?_
  refine x_nmM (fun M1 eM1 => ?_)
  have hR := nmE hR eM1
  refine x_aload_n (pc := 5) (i := 0) C 0 dX7_chargesPaid_5 rfl rfl ?_
  refine x_get (pc := 6) (q := 193) (i := 0) C e_M rfl ttX7 (by decide) wd_6_227 rfl dX7_chargesPaid_6 ?_
  refine x_bipush (pc := 9) (v := 9) C dX7_chargesPaid_9 (by decide) ?_
  have h2 : vp_in (9) 124 := (by decide : ¬ ((9 : Int32) < 0 ∨ 124 ≤ Int32.toNatClampNeg 9))
  refine x_iald (pc := 11) (q := 194) C e_M0 h2 dX7_chargesPaid_11 ?_
  refine x_i2l (pc := 12) C dX7_chargesPaid_12 ?_
  exact x_lretM (pc := 13) C rfl hR dX7_chargesPaid_13
set_option maxHeartbeats 4000000 in
set_option maxRecDepth 100000 in
theorem c_X7_day {l : Launch} {A : Nat → Prop} {G : GT} {ad : Nat → Nat} (gl : Gl l A ad)  (B : StB) (M : StM) (O : StO)  : Met l yX7_day (wof yX7_day cX7_day 1 (some .int)) (rmd 1 0 0) (va_Pc [.ref (ad 193)] (PW G A ad B M O)) (QI G A ad (f_X7_day M).1 B (f_X7_day M).2 O) 0 0 A := by
  refine x_body (own := RX7) (by decide +kernel) rfl gl (Nat.le_of_ble_eq_true rfl) (ls := [(0, .ref (ad 193))]) rfl ?_
  intro p0 e s m args below meth c C
  have hR : (f_X7_day M) = (nm (smi M 15 0) (fun (M1 : StM) => ((ma M1 0 (ix 0)), M1))) := rfl
  refine x_aload_n (pc := 0) (i := 0) C 0 dX7_day_0 rfl rfl ?_
  refine x_iconst (pc := 1) (v := 0) C dX7_day_1 (by decide) ?_
  refine x_put (pc := 2) (M2 := (smi M 15 0)) (B2 := B) (O2 := O) (q := 193) (i := 15) C tyX7 tyX7_ok nmX7 e_M rfl ttX7 (by decide) wd_7_2 rfl rfl rfl (Nat.le_of_ble_eq_true rfl) dX7_day_2 (put_M_15 ) (o_smi 15 0) ?_
  refine x_nmM (fun M1 eM1 => ?_)
  have hR := nmE hR eM1
  refine x_aload_n (pc := 5) (i := 0) C 0 dX7_day_5 rfl rfl ?_
  refine x_get (pc := 6) (q := 193) (i := 0) C e_M rfl ttX7 (by decide) wd_6_227 rfl dX7_day_6 ?_
  refine x_iconst (pc := 9) (v := 0) C dX7_day_9 (by decide) ?_
  have h2 : vp_in (0) 124 := (by decide : ¬ ((0 : Int32) < 0 ∨ 124 ≤ Int32.toNatClampNeg 0))
  refine x_iald (pc := 10) (q := 194) C e_M0 h2 dX7_day_10 ?_
  exact x_iretM (pc := 11) C rfl hR dX7_day_11
set_option maxHeartbeats 4000000 in
set_option maxRecDepth 100000 in
theorem c_X7_transferCount {l : Launch} {A : Nat → Prop} {G : GT} {ad : Nat → Nat} (gl : Gl l A ad)  (B : StB) (M : StM) (O : StO)  : Met l yX7_transferCount (wof yX7_transferCount cX7_transferCount 1 (some .int)) (rmd 1 0 0) (va_Pc [.ref (ad 193)] (PW G A ad B M O)) (QI G A ad (f_X7_transferCount M).1 B (f_X7_transferCount M).2 O) 0 0 A := by
  refine x_body (own := RX7) (by decide +kernel) rfl gl (Nat.le_of_ble_eq_true rfl) (ls := [(0, .ref (ad 193))]) rfl ?_
  intro p0 e s m args below meth c C
  have hR : (f_X7_transferCount M) = (nm (smi M 15 0) (fun (M1 : StM) => ((ma M1 0 (ix 3)), M1))) := rfl
  refine x_aload_n (pc := 0) (i := 0) C 0 dX7_transferCount_0 rfl rfl ?_
  refine x_iconst (pc := 1) (v := 0) C dX7_transferCount_1 (by decide) ?_
  refine x_put (pc := 2) (M2 := (smi M 15 0)) (B2 := B) (O2 := O) (q := 193) (i := 15) C tyX7 tyX7_ok nmX7 e_M rfl ttX7 (by decide) wd_7_2 rfl rfl rfl (Nat.le_of_ble_eq_true rfl) dX7_transferCount_2 (put_M_15 ) (o_smi 15 0) ?_
  refine x_nmM (fun M1 eM1 => ?_)
  have hR := nmE hR eM1
  refine x_aload_n (pc := 5) (i := 0) C 0 dX7_transferCount_5 rfl rfl ?_
  refine x_get (pc := 6) (q := 193) (i := 0) C e_M rfl ttX7 (by decide) wd_6_227 rfl dX7_transferCount_6 ?_
  refine x_iconst (pc := 9) (v := 3) C dX7_transferCount_9 (by decide) ?_
  have h2 : vp_in (3) 124 := (by decide : ¬ ((3 : Int32) < 0 ∨ 124 ≤ Int32.toNatClampNeg 3))
  refine x_iald (pc := 10) (q := 194) C e_M0 h2 dX7_transferCount_10 ?_
  exact x_iretM (pc := 11) C rfl hR dX7_transferCount_11
set_option maxHeartbeats 4000000 in
set_option maxRecDepth 100000 in
theorem c_X7_bounceCount {l : Launch} {A : Nat → Prop} {G : GT} {ad : Nat → Nat} (gl : Gl l A ad)  (B : StB) (M : StM) (O : StO)  : Met l yX7_bounceCount (wof yX7_bounceCount cX7_bounceCount 1 (some .int)) (rmd 1 0 0) (va_Pc [.ref (ad 193)] (PW G A ad B M O)) (QI G A ad (f_X7_bounceCount M).1 B (f_X7_bounceCount M).2 O) 0 0 A := by
  refine x_body (own := RX7) (by decide +kernel) rfl gl (Nat.le_of_ble_eq_true rfl) (ls := [(0, .ref (ad 193))]) rfl ?_
  intro p0 e s m args below meth c C
  have hR : (f_X7_bounceCount M) = (nm (smi M 15 0) (fun (M1 : StM) => ((ma M1 0 (ix 10)), M1))) := rfl
  refine x_aload_n (pc := 0) (i := 0) C 0 dX7_bounceCount_0 rfl rfl ?_
  refine x_iconst (pc := 1) (v := 0) C dX7_bounceCount_1 (by decide) ?_
  refine x_put (pc := 2) (M2 := (smi M 15 0)) (B2 := B) (O2 := O) (q := 193) (i := 15) C tyX7 tyX7_ok nmX7 e_M rfl ttX7 (by decide) wd_7_2 rfl rfl rfl (Nat.le_of_ble_eq_true rfl) dX7_bounceCount_2 (put_M_15 ) (o_smi 15 0) ?_
  refine x_nmM (fun M1 eM1 => ?_)
  have hR := nmE hR eM1
  refine x_aload_n (pc := 5) (i := 0) C 0 dX7_bounceCount_5 rfl rfl ?_
  refine x_get (pc := 6) (q := 193) (i := 0) C e_M rfl ttX7 (by decide) wd_6_227 rfl dX7_bounceCount_6 ?_
  refine x_bipush (pc := 9) (v := 10) C dX7_bounceCount_9 (by decide) ?_
  have h2 : vp_in (10) 124 := (by decide : ¬ ((10 : Int32) < 0 ∨ 124 ≤ Int32.toNatClampNeg 10))
  refine x_iald (pc := 11) (q := 194) C e_M0 h2 dX7_bounceCount_11 ?_
  exact x_iretM (pc := 12) C rfl hR dX7_bounceCount_12
set_option maxHeartbeats 4000000 in
set_option maxRecDepth 100000 in
theorem c_X7_journalLength {l : Launch} {A : Nat → Prop} {G : GT} {ad : Nat → Nat} (gl : Gl l A ad)  (B : StB) (M : StM) (O : StO)  : Met l yX7_journalLength (wof yX7_journalLength cX7_journalLength 1 (some .int)) (rmd 1 0 0) (va_Pc [.ref (ad 193)] (PW G A ad B M O)) (QI G A ad (f_X7_journalLength M).1 B (f_X7_journalLength M).2 O) 0 0 A := by
  refine x_body (own := RX7) (by decide +kernel) rfl gl (Nat.le_of_ble_eq_true rfl) (ls := [(0, .ref (ad 193))]) rfl ?_
  intro p0 e s m args below meth c C
  have hR : (f_X7_journalLength M) = (nm (smi M 15 0) (fun (M1 : StM) => ((ma M1 0 (ix 11)), M1))) := rfl
  refine x_aload_n (pc := 0) (i := 0) C 0 dX7_journalLength_0 rfl rfl ?_
  refine x_iconst (pc := 1) (v := 0) C dX7_journalLength_1 (by decide) ?_
  refine x_put (pc := 2) (M2 := (smi M 15 0)) (B2 := B) (O2 := O) (q := 193) (i := 15) C tyX7 tyX7_ok nmX7 e_M rfl ttX7 (by decide) wd_7_2 rfl rfl rfl (Nat.le_of_ble_eq_true rfl) dX7_journalLength_2 (put_M_15 ) (o_smi 15 0) ?_
  refine x_nmM (fun M1 eM1 => ?_)
  have hR := nmE hR eM1
  refine x_aload_n (pc := 5) (i := 0) C 0 dX7_journalLength_5 rfl rfl ?_
  refine x_get (pc := 6) (q := 193) (i := 0) C e_M rfl ttX7 (by decide) wd_6_227 rfl dX7_journalLength_6 ?_
  refine x_bipush (pc := 9) (v := 11) C dX7_journalLength_9 (by decide) ?_
  have h2 : vp_in (11) 124 := (by decide : ¬ ((11 : Int32) < 0 ∨ 124 ≤ Int32.toNatClampNeg 11))
  refine x_iald (pc := 11) (q := 194) C e_M0 h2 dX7_journalLength_11 ?_
  exact x_iretM (pc := 12) C rfl hR dX7_journalLength_12
set_option maxHeartbeats 4000000 in
set_option maxRecDepth 100000 in
theorem c_X7_letterFor {l : Launch} {A : Nat → Prop} {G : GT} {ad : Nat → Nat} (gl : Gl l A ad)  (B : StB) (M : StM) (O : StO) (x0 : Int32) : Met l yX7_letterFor (wof yX7_letterFor cX7_letterFor 1 (some .int)) (rmd 1 0 0) (va_Pc [.int x0] (PW G A ad B M O)) (QI G A ad (f_X7_letterFor x0) B M O) 0 0 A := by
  refine x_body (own := RX7) (by decide +kernel) rfl gl (Nat.le_of_ble_eq_true rfl) (ls := [(0, .int x0)]) rfl ?_
  intro p0 e s m args below meth c C
  have hR : (f_X7_letterFor x0) = (if x0 = 0 then 67 else (if x0 = 1 then 83 else (if x0 = 2 then 81 else 86))) := rfl
  refine x_iload_n (pc := 0) (i := 0) C 0 dX7_letterFor_0 rfl rfl ?_
  refine x_if_ne (pc := 1) (tgt := 9) C dX7_letterFor_1 (by decide) (fun c1 => ?_) (fun c1 => ?_)
  · have hR := hR.trans (if_neg c1)
    refine x_iload_n (pc := 9) (i := 0) C 0 dX7_letterFor_9 rfl rfl ?_
    refine x_iconst (pc := 10) (v := 1) C dX7_letterFor_10 (by decide) ?_
    refine x_icmp_ne (pc := 11) (tgt := 19) C dX7_letterFor_11 (by decide) (fun c2 => ?_) (fun c2 => ?_)
    · have hR := hR.trans (if_neg c2)
      refine x_iload_n (pc := 19) (i := 0) C 0 dX7_letterFor_19 rfl rfl ?_
      refine x_iconst (pc := 20) (v := 2) C dX7_letterFor_20 (by decide) ?_
      refine x_icmp_ne (pc := 21) (tgt := 29) C dX7_letterFor_21 (by decide) (fun c3 => ?_) (fun c3 => ?_)
      · have hR := hR.trans (if_neg c3)
        refine x_bipush (pc := 29) (v := 86) C dX7_letterFor_29 (by decide) ?_
        exact x_iret (pc := 31) C rfl hR dX7_letterFor_31
      · have hR := hR.trans (if_pos c3)
        refine x_bipush (pc := 24) (v := 81) C dX7_letterFor_24 (by decide) ?_
        refine x_goto (pc := 26) (tgt := 31) C dX7_letterFor_26 (by decide) ?_
        exact x_iret (pc := 31) C rfl hR dX7_letterFor_31
    · have hR := hR.trans (if_pos c2)
      refine x_bipush (pc := 14) (v := 83) C dX7_letterFor_14 (by decide) ?_
      refine x_goto (pc := 16) (tgt := 31) C dX7_letterFor_16 (by decide) ?_
      exact x_iret (pc := 31) C rfl hR dX7_letterFor_31
  · have hR := hR.trans (if_pos c1)
    refine x_bipush (pc := 4) (v := 67) C dX7_letterFor_4 (by decide) ?_
    refine x_goto (pc := 6) (tgt := 31) C dX7_letterFor_6 (by decide) ?_
    exact x_iret (pc := 31) C rfl hR dX7_letterFor_31
set_option maxHeartbeats 4000000 in
set_option maxRecDepth 100000 in
theorem c_X7_put {l : Launch} {A : Nat → Prop} {G : GT} {ad : Nat → Nat} (gl : Gl l A ad)  (B : StB) (M : StM) (O : StO) (x0 : Int32) (x1 : Int32) (hok : ok_X7_put M x0 x1) : Met l yX7_put (wof yX7_put cX7_put 3 (some .int)) (rmd 1 0 0) (va_Pc [.ref (ad 193), .int x0, .int x1] (PW G A ad B M O)) (QI G A ad (f_X7_put M x0 x1).1 B (f_X7_put M x0 x1).2 O) 0 0 A := by
  refine x_body (own := RX7) (by decide +kernel) rfl gl (Nat.le_of_ble_eq_true rfl) (ls := [(0, .ref (ad 193)), (1, .int x0), (2, .int x1)]) rfl ?_
  intro p0 e s m args below meth c C
  have hR : (f_X7_put M x0 x1) = (nm (sma M 6 (ix x0) x1) (fun (M2 : StM) => ((x0 + 1), M2))) := rfl
  have hok : (vp_in x0 40) := hok
  refine x_aload_n (pc := 0) (i := 0) C 0 dX7_put_0 rfl rfl ?_
  refine x_get (pc := 1) (q := 193) (i := 13) C e_M rfl ttX7 (by decide) wd_7_0 rfl dX7_put_1 ?_
  refine x_iload_n (pc := 4) (i := 1) C 1 dX7_put_4 rfl rfl ?_
  refine x_iload_n (pc := 5) (i := 2) C 2 dX7_put_5 rfl rfl ?_
  have h1 := hok
  refine x_iastM (pc := 6) (j := 6) (q := 200) C rfl (by decide) e_M6 e_M6.2 h1 dX7_put_6 ?_
  refine x_nmM (fun M2 eM2 => ?_)
  have hR := nmE hR eM2
  refine x_iload_n (pc := 7) (i := 1) C 1 dX7_put_7 rfl rfl ?_
  refine x_iconst (pc := 8) (v := 1) C dX7_put_8 (by decide) ?_
  refine x_iadd (pc := 9) C dX7_put_9 ?_
  exact x_iretM (pc := 10) C rfl hR dX7_put_10
set_option maxHeartbeats 4000000 in
set_option maxRecDepth 100000 in
theorem c_X7_startOf {l : Launch} {A : Nat → Prop} {G : GT} {ad : Nat → Nat} (gl : Gl l A ad)  (B : StB) (M : StM) (O : StO) (x0 : Int32) : Met l yX7_startOf (wof yX7_startOf cX7_startOf 1 (some .int)) (rmd 1 0 0) (va_Pc [.int x0] (PW G A ad B M O)) (QI G A ad (f_X7_startOf x0) B M O) 0 0 A := by
  refine x_body (own := RX7) (by decide +kernel) rfl gl (Nat.le_of_ble_eq_true rfl) (ls := [(0, .int x0)]) rfl ?_
  intro p0 e s m args below meth c C
  have hR : (f_X7_startOf x0) = (if x0 = 0 then 0 else (if x0 = 1 then 4 else (if x0 = 2 then 9 else (5 * x0)))) := rfl
  refine x_iload_n (pc := 0) (i := 0) C 0 dX7_startOf_0 rfl rfl ?_
  refine x_if_ne (pc := 1) (tgt := 8) C dX7_startOf_1 (by decide) (fun c1 => ?_) (fun c1 => ?_)
  · have hR := hR.trans (if_neg c1)
    refine x_iload_n (pc := 8) (i := 0) C 0 dX7_startOf_8 rfl rfl ?_
    refine x_iconst (pc := 9) (v := 1) C dX7_startOf_9 (by decide) ?_
    refine x_icmp_ne (pc := 10) (tgt := 17) C dX7_startOf_10 (by decide) (fun c2 => ?_) (fun c2 => ?_)
    · have hR := hR.trans (if_neg c2)
      refine x_iload_n (pc := 17) (i := 0) C 0 dX7_startOf_17 rfl rfl ?_
      refine x_iconst (pc := 18) (v := 2) C dX7_startOf_18 (by decide) ?_
      refine x_icmp_ne (pc := 19) (tgt := 27) C dX7_startOf_19 (by decide) (fun c3 => ?_) (fun c3 => ?_)
      · have hR := hR.trans (if_neg c3)
        refine x_iconst (pc := 27) (v := 5) C dX7_startOf_27 (by decide) ?_
        refine x_iload_n (pc := 28) (i := 0) C 0 dX7_startOf_28 rfl rfl ?_
        refine x_imul (pc := 29) C dX7_startOf_29 ?_
        exact x_iret (pc := 30) C rfl hR dX7_startOf_30
      · have hR := hR.trans (if_pos c3)
        refine x_bipush (pc := 22) (v := 9) C dX7_startOf_22 (by decide) ?_
        refine x_goto (pc := 24) (tgt := 30) C dX7_startOf_24 (by decide) ?_
        exact x_iret (pc := 30) C rfl hR dX7_startOf_30
    · have hR := hR.trans (if_pos c2)
      refine x_iconst (pc := 13) (v := 4) C dX7_startOf_13 (by decide) ?_
      refine x_goto (pc := 14) (tgt := 30) C dX7_startOf_14 (by decide) ?_
      exact x_iret (pc := 30) C rfl hR dX7_startOf_30
  · have hR := hR.trans (if_pos c1)
    refine x_iconst (pc := 4) (v := 0) C dX7_startOf_4 (by decide) ?_
    refine x_goto (pc := 5) (tgt := 30) C dX7_startOf_5 (by decide) ?_
    exact x_iret (pc := 30) C rfl hR dX7_startOf_30
set_option maxHeartbeats 4000000 in
set_option maxRecDepth 100000 in
theorem c_X7_letterHere {l : Launch} {A : Nat → Prop} {G : GT} {ad : Nat → Nat} (gl : Gl l A ad)  (B : StB) (M : StM) (O : StO)  (hok : ok_X7_letterHere M) : Met l yX7_letterHere (wof yX7_letterHere cX7_letterHere 1 (some .int)) (rmd 1 0 0) (va_Pc [.ref (ad 193)] (PW G A ad B M O)) (QI G A ad (f_X7_letterHere M) B M O) 0 0 A := by
  refine x_body (own := RX7) (by decide +kernel) rfl gl (Nat.le_of_ble_eq_true rfl) (ls := [(0, .ref (ad 193))]) rfl ?_
  intro p0 e s m args below meth c C
  have hR : (f_X7_letterHere M) = (if (mi M 16) ≤ (mi M 17) then (-1) else (ma M 5 (ix (mi M 17)))) := rfl
  have hok : (((mi M 16) ≤ (mi M 17) → True) ∧ (¬ (mi M 16) ≤ (mi M 17) → (vp_in (mi M 17) 60))) := hok
  refine x_aload_n (pc := 0) (i := 0) C 0 dX7_letterHere_0 rfl rfl ?_
  refine x_get (pc := 1) (q := 193) (i := 17) C e_M rfl ttX7 (by decide) wd_7_4 rfl dX7_letterHere_1 ?_
  refine x_aload_n (pc := 4) (i := 0) C 0 dX7_letterHere_4 rfl rfl ?_
  refine x_get (pc := 5) (q := 193) (i := 16) C e_M rfl ttX7 (by decide) wd_7_3 rfl dX7_letterHere_5 ?_
  refine x_icmp_ge (pc := 8) (tgt := 23) C dX7_letterHere_8 (by decide) (fun c1 => ?_) (fun c1 => ?_)
  · have hR := hR.trans (if_pos c1)
    refine x_iconst (pc := 23) (v := (-1)) C dX7_letterHere_23 (by decide) ?_
    exact x_iret (pc := 24) C rfl hR dX7_letterHere_24
  · have hR := hR.trans (if_neg c1)
    have hok := hok.2 c1
    refine x_aload_n (pc := 11) (i := 0) C 0 dX7_letterHere_11 rfl rfl ?_
    refine x_get (pc := 12) (q := 193) (i := 11) C e_M rfl ttX7 (by decide) wd_6_238 rfl dX7_letterHere_12 ?_
    refine x_aload_n (pc := 15) (i := 0) C 0 dX7_letterHere_15 rfl rfl ?_
    refine x_get (pc := 16) (q := 193) (i := 17) C e_M rfl ttX7 (by decide) wd_7_4 rfl dX7_letterHere_16 ?_
    have h2 := hok
    refine x_iald (pc := 19) (q := 199) C e_M5 h2 dX7_letterHere_19 ?_
    refine x_goto (pc := 20) (tgt := 24) C dX7_letterHere_20 (by decide) ?_
    exact x_iret (pc := 24) C rfl hR dX7_letterHere_24
set_option maxHeartbeats 4000000 in
set_option maxRecDepth 100000 in
theorem t_X7_copies_M0_M1_L3 {p0 : Program} {l : Launch} {e : Env} {s : State} {m : MethodId} {args : Array Value} {below : List Frame} {meth : Method} {c : Code} {A : Nat → Prop} {G : GT} {ad : Nat → Nat} {Q : State → Prop} (C : CX p0 l s m args meth c A G ad cX7_copies RX7 5 none)    (n : Nat) (M : StM) (a1 : Int32) (a3 : Int32) (a4 : Int32) (B : StB) (O : StO) : ∀ (R0 : StM) (hR : R0 = f_X7_copies_M0_M1_L3 n M a1 a3 a4) (hok : ok_X7_copies_M0_M1_L3 n M a1 a3 a4) (k : X p0 l e (rmd 1 0 0) s m args below meth c A G ad 5 0 0 Q B R0 O [] 28 []), X p0 l e (rmd 1 0 0) s m args below meth c A G ad 5 0 0 Q B M O [(0, .ref (ad 194)), (1, .int a1), (2, .ref (ad 195)), (3, .int a3), (4, .int a4)] 3 [] := by
  induction n generalizing M a1 a3 a4 with
  | zero => intro R0 hR hok k; exact False.elim hok
  | succ n ih =>
    intro R0 hR hok k
    have hR : R0 = (if 124 ≤ a4 then M else (nm (sma M 1 (ix (a3 + a4)) (ma M 0 (ix (a1 + a4)))) (fun (M4 : StM) => (f_X7_copies_M0_M1_L3 n M4 a1 a3 (a4 + 1))))) := hR
    have hok : ((124 ≤ a4 → True) ∧ (¬ 124 ≤ a4 → (vp_in (a1 + a4) 124 ∧ (vp_in (a3 + a4) 124 ∧ (∀ M4 : StM, M4 = (sma M 1 (ix (a3 + a4)) (ma M 0 (ix (a1 + a4)))) → (ok_X7_copies_M0_M1_L3 n M4 a1 a3 (a4 + 1))))))) := hok
    refine x_iload (pc := 3) (i := 4) C 4 dX7_copies_3 rfl ?_
    refine x_bipush (pc := 5) (v := 124) C dX7_copies_5 (by decide) ?_
    refine x_icmp_ge (pc := 7) (tgt := 28) C dX7_copies_7 (by decide) (fun c1 => ?_) (fun c1 => ?_)
    · have hR := hR.trans (if_pos c1)
      refine x_sub [] (ls2 := []) rfl ?_
      subst hR
      exact k
    · have hR := hR.trans (if_neg c1)
      have hok := hok.2 c1
      refine x_aload_n (pc := 10) (i := 2) C 2 dX7_copies_10 rfl rfl ?_
      refine x_iload_n (pc := 11) (i := 3) C 3 dX7_copies_11 rfl rfl ?_
      refine x_iload (pc := 12) (i := 4) C 4 dX7_copies_12 rfl ?_
      refine x_iadd (pc := 14) C dX7_copies_14 ?_
      refine x_aload_n (pc := 15) (i := 0) C 0 dX7_copies_15 rfl rfl ?_
      refine x_iload_n (pc := 16) (i := 1) C 1 dX7_copies_16 rfl rfl ?_
      refine x_iload (pc := 17) (i := 4) C 4 dX7_copies_17 rfl ?_
      refine x_iadd (pc := 19) C dX7_copies_19 ?_
      have h2 := hok.1
      have hok := hok.2
      refine x_iald (pc := 20) (q := 194) C e_M0 h2 dX7_copies_20 ?_
      have h3 := hok.1
      have hok := hok.2
      refine x_iastM (pc := 21) (j := 1) (q := 195) C rfl (by decide) e_M1 e_M1.2 h3 dX7_copies_21 ?_
      refine x_nmM (fun M4 eM4 => ?_)
      have hR := nmE hR eM4
      have hok := hok M4 eM4
      refine x_iinc (pc := 22) (i := 4) (v := (a4 + 1)) (ls2 := [(4, .int (a4 + 1)), (0, .ref (ad 194)), (1, .int a1), (2, .ref (ad 195)), (3, .int a3)]) C 4 dX7_copies_22 rfl rfl (by decide) rfl ?_
      refine x_goto (pc := 25) (tgt := 3) C dX7_copies_25 (by decide) ?_
      refine x_sub [1, 2, 3, 4, 0] (ls2 := [(0, .ref (ad 194)), (1, .int a1), (2, .ref (ad 195)), (3, .int a3), (4, .int (a4 + 1))]) rfl ?_
      exact ih M4 a1 a3 (a4 + 1) R0 hR hok k
set_option maxHeartbeats 4000000 in
set_option maxRecDepth 100000 in
theorem c_X7_copies_M0_M1 {l : Launch} {A : Nat → Prop} {G : GT} {ad : Nat → Nat} (gl : Gl l A ad)  (B : StB) (M : StM) (O : StO) (x1 : Int32) (x3 : Int32) (hok : ok_X7_copies_M0_M1 M x1 x3) : Met l yX7_copies (wof yX7_copies cX7_copies 5 none) (rmd 1 0 0) (va_Pc [.ref (ad 194), .int x1, .ref (ad 195), .int x3] (PW G A ad B M O)) (QV G A ad B (f_X7_copies_M0_M1 M x1 x3) O) 0 0 A := by
  refine x_body (own := RX7) (by decide +kernel) rfl gl (Nat.le_of_ble_eq_true rfl) (ls := [(0, .ref (ad 194)), (1, .int x1), (2, .ref (ad 195)), (3, .int x3)]) rfl ?_
  intro p0 e s m args below meth c C
  have hR : (f_X7_copies_M0_M1 M x1 x3) = (nm (f_X7_copies_M0_M1_L3 fu M x1 x3 0) (fun (z5 : StM) => z5)) := rfl
  have hok : (ok_X7_copies_M0_M1_L3 fu M x1 x3 0) := hok
  refine x_iconst (pc := 0) (v := 0) C dX7_copies_0 (by decide) ?_
  refine x_istore (pc := 1) (i := 4) (ls2 := [(4, .int 0), (0, .ref (ad 194)), (1, .int x1), (2, .ref (ad 195)), (3, .int x3)]) C dX7_copies_1 (by decide) rfl ?_
  refine x_sub [1, 2, 3, 4, 0] (ls2 := [(0, .ref (ad 194)), (1, .int x1), (2, .ref (ad 195)), (3, .int x3), (4, .int 0)]) rfl ?_
  obtain ⟨z5, ez5⟩ : ∃ z : StM, z = f_X7_copies_M0_M1_L3 fu M x1 x3 0 := ⟨_, rfl⟩
  refine t_X7_copies_M0_M1_L3 C fu M x1 x3 0 B O z5 ez5 hok ?_
  have hR := nmE hR ez5
  exact x_vretM (pc := 28) C rfl hR dX7_copies_28
set_option maxHeartbeats 4000000 in
set_option maxRecDepth 100000 in
theorem t_X7_copies_M1_M4_L3 {p0 : Program} {l : Launch} {e : Env} {s : State} {m : MethodId} {args : Array Value} {below : List Frame} {meth : Method} {c : Code} {A : Nat → Prop} {G : GT} {ad : Nat → Nat} {Q : State → Prop} (C : CX p0 l s m args meth c A G ad cX7_copies RX7 5 none)    (n : Nat) (M : StM) (a1 : Int32) (a3 : Int32) (a4 : Int32) (B : StB) (O : StO) : ∀ (R0 : StM) (hR : R0 = f_X7_copies_M1_M4_L3 n M a1 a3 a4) (hok : ok_X7_copies_M1_M4_L3 n M a1 a3 a4) (k : X p0 l e (rmd 1 0 0) s m args below meth c A G ad 5 0 0 Q B R0 O [] 28 []), X p0 l e (rmd 1 0 0) s m args below meth c A G ad 5 0 0 Q B M O [(0, .ref (ad 195)), (1, .int a1), (2, .ref (ad 198)), (3, .int a3), (4, .int a4)] 3 [] := by
  induction n generalizing M a1 a3 a4 with
  | zero => intro R0 hR hok k; exact False.elim hok
  | succ n ih =>
    intro R0 hR hok k
    have hR : R0 = (if 124 ≤ a4 then M else (nm (sma M 4 (ix (a3 + a4)) (ma M 1 (ix (a1 + a4)))) (fun (M4 : StM) => (f_X7_copies_M1_M4_L3 n M4 a1 a3 (a4 + 1))))) := hR
    have hok : ((124 ≤ a4 → True) ∧ (¬ 124 ≤ a4 → (vp_in (a1 + a4) 124 ∧ (vp_in (a3 + a4) 992 ∧ (∀ M4 : StM, M4 = (sma M 4 (ix (a3 + a4)) (ma M 1 (ix (a1 + a4)))) → (ok_X7_copies_M1_M4_L3 n M4 a1 a3 (a4 + 1))))))) := hok
    refine x_iload (pc := 3) (i := 4) C 4 dX7_copies_3 rfl ?_
    refine x_bipush (pc := 5) (v := 124) C dX7_copies_5 (by decide) ?_
    refine x_icmp_ge (pc := 7) (tgt := 28) C dX7_copies_7 (by decide) (fun c1 => ?_) (fun c1 => ?_)
    · have hR := hR.trans (if_pos c1)
      refine x_sub [] (ls2 := []) rfl ?_
      subst hR
      exact k
    · have hR := hR.trans (if_neg c1)
      have hok := hok.2 c1
      refine x_aload_n (pc := 10) (i := 2) C 2 dX7_copies_10 rfl rfl ?_
      refine x_iload_n (pc := 11) (i := 3) C 3 dX7_copies_11 rfl rfl ?_
      refine x_iload (pc := 12) (i := 4) C 4 dX7_copies_12 rfl ?_
      refine x_iadd (pc := 14) C dX7_copies_14 ?_
      refine x_aload_n (pc := 15) (i := 0) C 0 dX7_copies_15 rfl rfl ?_
      refine x_iload_n (pc := 16) (i := 1) C 1 dX7_copies_16 rfl rfl ?_
      refine x_iload (pc := 17) (i := 4) C 4 dX7_copies_17 rfl ?_
      refine x_iadd (pc := 19) C dX7_copies_19 ?_
      have h2 := hok.1
      have hok := hok.2
      refine x_iald (pc := 20) (q := 195) C e_M1 h2 dX7_copies_20 ?_
      have h3 := hok.1
      have hok := hok.2
      refine x_iastM (pc := 21) (j := 4) (q := 198) C rfl (by decide) e_M4 e_M4.2 h3 dX7_copies_21 ?_
      refine x_nmM (fun M4 eM4 => ?_)
      have hR := nmE hR eM4
      have hok := hok M4 eM4
      refine x_iinc (pc := 22) (i := 4) (v := (a4 + 1)) (ls2 := [(4, .int (a4 + 1)), (0, .ref (ad 195)), (1, .int a1), (2, .ref (ad 198)), (3, .int a3)]) C 4 dX7_copies_22 rfl rfl (by decide) rfl ?_
      refine x_goto (pc := 25) (tgt := 3) C dX7_copies_25 (by decide) ?_
      refine x_sub [1, 2, 3, 4, 0] (ls2 := [(0, .ref (ad 195)), (1, .int a1), (2, .ref (ad 198)), (3, .int a3), (4, .int (a4 + 1))]) rfl ?_
      exact ih M4 a1 a3 (a4 + 1) R0 hR hok k
set_option maxHeartbeats 4000000 in
set_option maxRecDepth 100000 in
theorem c_X7_copies_M1_M4 {l : Launch} {A : Nat → Prop} {G : GT} {ad : Nat → Nat} (gl : Gl l A ad)  (B : StB) (M : StM) (O : StO) (x1 : Int32) (x3 : Int32) (hok : ok_X7_copies_M1_M4 M x1 x3) : Met l yX7_copies (wof yX7_copies cX7_copies 5 none) (rmd 1 0 0) (va_Pc [.ref (ad 195), .int x1, .ref (ad 198), .int x3] (PW G A ad B M O)) (QV G A ad B (f_X7_copies_M1_M4 M x1 x3) O) 0 0 A := by
  refine x_body (own := RX7) (by decide +kernel) rfl gl (Nat.le_of_ble_eq_true rfl) (ls := [(0, .ref (ad 195)), (1, .int x1), (2, .ref (ad 198)), (3, .int x3)]) rfl ?_
  intro p0 e s m args below meth c C
  have hR : (f_X7_copies_M1_M4 M x1 x3) = (nm (f_X7_copies_M1_M4_L3 fu M x1 x3 0) (fun (z5 : StM) => z5)) := rfl
  have hok : (ok_X7_copies_M1_M4_L3 fu M x1 x3 0) := hok
  refine x_iconst (pc := 0) (v := 0) C dX7_copies_0 (by decide) ?_
  refine x_istore (pc := 1) (i := 4) (ls2 := [(4, .int 0), (0, .ref (ad 195)), (1, .int x1), (2, .ref (ad 198)), (3, .int x3)]) C dX7_copies_1 (by decide) rfl ?_
  refine x_sub [1, 2, 3, 4, 0] (ls2 := [(0, .ref (ad 195)), (1, .int x1), (2, .ref (ad 198)), (3, .int x3), (4, .int 0)]) rfl ?_
  obtain ⟨z5, ez5⟩ : ∃ z : StM, z = f_X7_copies_M1_M4_L3 fu M x1 x3 0 := ⟨_, rfl⟩
  refine t_X7_copies_M1_M4_L3 C fu M x1 x3 0 B O z5 ez5 hok ?_
  have hR := nmE hR ez5
  exact x_vretM (pc := 28) C rfl hR dX7_copies_28
