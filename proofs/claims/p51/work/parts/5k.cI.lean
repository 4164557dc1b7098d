set_option maxHeartbeats 4000000 in
set_option maxRecDepth 100000 in
theorem c_X6_raise {l : Launch} {A : Nat → Prop} {G : GT} {ad : Nat → Nat} (gl : Gl l A G ad)  (B : StB) (M : StM) (O : StO) (x0 : Int32) : TMetV l yX6_raise (wof yX6_raise cX6_raise 1 none) (rmd 6 1 6) [.int x0] G A ad B M O (f_X6_raise B x0) 1 6 := by
  refine xt_body (own := RX6) (by decide +kernel) rfl gl (Nat.le_of_ble_eq_true rfl) (ls := [(0, .int x0)]) rfl ?_
  intro p0 e s m args below meth c hE C
  have hR : (f_X6_raise B x0) = (if x0 = 1 then (1, 0, B) else (if x0 = 2 then (2, 0, B) else (if x0 = 3 then (3, 0, B) else (if x0 = 4 then (4, 0, B) else (if x0 = 5 then (5, 0, B) else (0, 0, B)))))) := rfl
  refine x_iload_n (pc := 0) (i := 0) C 0 dX6_raise_0 rfl rfl ?_
  by_cases c1_0 : x0 = 1
  · have hR := hR.trans (if_pos c1_0)
    refine x_tabIn (pc := 1) (tgt := 36) (off := 35) C dX6_raise_1 c1_0 (by decide) (by decide) (by decide) (by decide) ?_
    exact xt_throw (pc := 36) (k := 1) (ik := 194) (ic := 196) C hE hR (by decide) (by decide +kernel) thr_k1 thr_i1 thr_g1 thr_b1 thr_o1 dX6_raise_36 dX6_raise_39 dX6_raise_40 dX6_raise_43 (Nat.le_of_ble_eq_true rfl) (Nat.le_of_ble_eq_true rfl) ⟨Nat.le_of_ble_eq_true rfl, Nat.le_of_ble_eq_true rfl⟩ (Nat.le_of_ble_eq_true rfl) (Nat.le_of_ble_eq_true rfl)
  have hR := hR.trans (if_neg c1_0)
  by_cases c1_1 : x0 = 2
  · have hR := hR.trans (if_pos c1_1)
    refine x_tabIn (pc := 1) (tgt := 44) (off := 43) C dX6_raise_1 c1_1 (by decide) (by decide) (by decide) (by decide) ?_
    exact xt_throw (pc := 44) (k := 2) (ik := 277) (ic := 279) C hE hR (by decide) (by decide +kernel) thr_k2 thr_i2 thr_g2 thr_b2 thr_o2 dX6_raise_44 dX6_raise_47 dX6_raise_48 dX6_raise_51 (Nat.le_of_ble_eq_true rfl) (Nat.le_of_ble_eq_true rfl) ⟨Nat.le_of_ble_eq_true rfl, Nat.le_of_ble_eq_true rfl⟩ (Nat.le_of_ble_eq_true rfl) (Nat.le_of_ble_eq_true rfl)
  have hR := hR.trans (if_neg c1_1)
  by_cases c1_2 : x0 = 3
  · have hR := hR.trans (if_pos c1_2)
    refine x_tabIn (pc := 1) (tgt := 52) (off := 51) C dX6_raise_1 c1_2 (by decide) (by decide) (by decide) (by decide) ?_
    exact xt_throw (pc := 52) (k := 3) (ik := 312) (ic := 314) C hE hR (by decide) (by decide +kernel) thr_k3 thr_i3 thr_g3 thr_b3 thr_o3 dX6_raise_52 dX6_raise_55 dX6_raise_56 dX6_raise_59 (Nat.le_of_ble_eq_true rfl) (Nat.le_of_ble_eq_true rfl) ⟨Nat.le_of_ble_eq_true rfl, Nat.le_of_ble_eq_true rfl⟩ (Nat.le_of_ble_eq_true rfl) (Nat.le_of_ble_eq_true rfl)
  have hR := hR.trans (if_neg c1_2)
  by_cases c1_3 : x0 = 4
  · have hR := hR.trans (if_pos c1_3)
    refine x_tabIn (pc := 1) (tgt := 60) (off := 59) C dX6_raise_1 c1_3 (by decide) (by decide) (by decide) (by decide) ?_
    exact xt_throw (pc := 60) (k := 4) (ik := 281) (ic := 283) C hE hR (by decide) (by decide +kernel) thr_k4 thr_i4 thr_g4 thr_b4 thr_o4 dX6_raise_60 dX6_raise_63 dX6_raise_64 dX6_raise_67 (Nat.le_of_ble_eq_true rfl) (Nat.le_of_ble_eq_true rfl) ⟨Nat.le_of_ble_eq_true rfl, Nat.le_of_ble_eq_true rfl⟩ (Nat.le_of_ble_eq_true rfl) (Nat.le_of_ble_eq_true rfl)
  have hR := hR.trans (if_neg c1_3)
  by_cases c1_4 : x0 = 5
  · have hR := hR.trans (if_pos c1_4)
    refine x_tabIn (pc := 1) (tgt := 68) (off := 67) C dX6_raise_1 c1_4 (by decide) (by decide) (by decide) (by decide) ?_
    exact xt_throw (pc := 68) (k := 5) (ik := 129) (ic := 131) C hE hR (by decide) (by decide +kernel) thr_k5 thr_i5 thr_g5 thr_b5 thr_o5 dX6_raise_68 dX6_raise_71 dX6_raise_72 dX6_raise_75 (Nat.le_of_ble_eq_true rfl) (Nat.le_of_ble_eq_true rfl) ⟨Nat.le_of_ble_eq_true rfl, Nat.le_of_ble_eq_true rfl⟩ (Nat.le_of_ble_eq_true rfl) (Nat.le_of_ble_eq_true rfl)
  have hR := hR.trans (if_neg c1_4)
  refine x_tabOut (pc := 1) (tgt := 76) C dX6_raise_1 (by
    have c1_0 : ¬ Int32.toInt x0 = 1 := sw_no c1_0
    have c1_1 : ¬ Int32.toInt x0 = 2 := sw_no c1_1
    have c1_2 : ¬ Int32.toInt x0 = 3 := sw_no c1_2
    have c1_3 : ¬ Int32.toInt x0 = 4 := sw_no c1_3
    have c1_4 : ¬ Int32.toInt x0 = 5 := sw_no c1_4
    omega) (by decide) ?_
  exact xt_vret (pc := 76) C rfl hR (Nat.le_of_ble_eq_true rfl) (Nat.le_of_ble_eq_true rfl) dX6_raise_76
set_option maxHeartbeats 4000000 in
set_option maxRecDepth 100000 in
theorem c_X6_raise_n {l : Launch} {A : Nat → Prop} {G : GT} {ad : Nat → Nat} (gl : Gl l A G ad)  (B : StB) (M : StM) (O : StO) (x0 : Int32) (hok : ok_X6_raise_n x0) : Met l yX6_raise (wof yX6_raise cX6_raise 1 none) (rmd 1 0 0) (va_Pc [.int x0] (PW G A ad B M O)) (QV G A ad B M O) 0 0 A := by
  refine x_body (own := RX6) (by decide +kernel) rfl gl (Nat.le_of_ble_eq_true rfl) (ls := [(0, .int x0)]) rfl ?_
  intro p0 e s m args below meth c C
  have hR : (f_X6_raise_n x0) = (if x0 = 1 then () else (if x0 = 2 then () else (if x0 = 3 then () else (if x0 = 4 then () else (if x0 = 5 then () else ()))))) := rfl
  have hok : ((x0 = 1 → False) ∧ (¬ x0 = 1 → ((x0 = 2 → False) ∧ (¬ x0 = 2 → ((x0 = 3 → False) ∧ (¬ x0 = 3 → ((x0 = 4 → False) ∧ (¬ x0 = 4 → ((x0 = 5 → False) ∧ (¬ x0 = 5 → True)))))))))) := hok
  refine x_iload_n (pc := 0) (i := 0) C 0 dX6_raise_0 rfl rfl ?_
  by_cases c1_0 : x0 = 1
  · have hR := hR.trans (if_pos c1_0)
    have hok := hok.1 c1_0
    refine x_tabIn (pc := 1) (tgt := 36) (off := 35) C dX6_raise_1 c1_0 (by decide) (by decide) (by decide) (by decide) ?_
    exact False.elim hok
  have hR := hR.trans (if_neg c1_0)
  have hok := hok.2 c1_0
  by_cases c1_1 : x0 = 2
  · have hR := hR.trans (if_pos c1_1)
    have hok := hok.1 c1_1
    refine x_tabIn (pc := 1) (tgt := 44) (off := 43) C dX6_raise_1 c1_1 (by decide) (by decide) (by decide) (by decide) ?_
    exact False.elim hok
  have hR := hR.trans (if_neg c1_1)
  have hok := hok.2 c1_1
  by_cases c1_2 : x0 = 3
  · have hR := hR.trans (if_pos c1_2)
    have hok := hok.1 c1_2
    refine x_tabIn (pc := 1) (tgt := 52) (off := 51) C dX6_raise_1 c1_2 (by decide) (by decide) (by decide) (by decide) ?_
    exact False.elim hok
  have hR := hR.trans (if_neg c1_2)
  have hok := hok.2 c1_2
  by_cases c1_3 : x0 = 4
  · have hR := hR.trans (if_pos c1_3)
    have hok := hok.1 c1_3
    refine x_tabIn (pc := 1) (tgt := 60) (off := 59) C dX6_raise_1 c1_3 (by decide) (by decide) (by decide) (by decide) ?_
    exact False.elim hok
  have hR := hR.trans (if_neg c1_3)
  have hok := hok.2 c1_3
  by_cases c1_4 : x0 = 5
  · have hR := hR.trans (if_pos c1_4)
    have hok := hok.1 c1_4
    refine x_tabIn (pc := 1) (tgt := 68) (off := 67) C dX6_raise_1 c1_4 (by decide) (by decide) (by decide) (by decide) ?_
    exact False.elim hok
  have hR := hR.trans (if_neg c1_4)
  have hok := hok.2 c1_4
  refine x_tabOut (pc := 1) (tgt := 76) C dX6_raise_1 (by
    have c1_0 : ¬ Int32.toInt x0 = 1 := sw_no c1_0
    have c1_1 : ¬ Int32.toInt x0 = 2 := sw_no c1_1
    have c1_2 : ¬ Int32.toInt x0 = 3 := sw_no c1_2
    have c1_3 : ¬ Int32.toInt x0 = 4 := sw_no c1_3
    have c1_4 : ¬ Int32.toInt x0 = 5 := sw_no c1_4
    omega) (by decide) ?_
  exact x_vret (pc := 76) C rfl dX6_raise_76
set_option maxHeartbeats 4000000 in
set_option maxRecDepth 100000 in
theorem c_X6_accountCount {l : Launch} {A : Nat → Prop} {G : GT} {ad : Nat → Nat} (gl : Gl l A G ad)  (B : StB) (M : StM) (O : StO)  : Met l yX6_accountCount (wof yX6_accountCount cX6_accountCount 1 (some .int)) (rmd 1 0 0) (va_Pc [.ref (ad 176)] (PW G A ad B M O)) (QI G A ad (f_X6_accountCount B) B M O) 0 0 A := by
  refine x_body (own := RX6) (by decide +kernel) rfl gl (Nat.le_of_ble_eq_true rfl) (ls := [(0, .ref (ad 176))]) rfl ?_
  intro p0 e s m args below meth c C
  have hR : (f_X6_accountCount B) = (bi B 1 0) := rfl
  refine x_aload_n (pc := 0) (i := 0) C 0 dX6_accountCount_0 rfl rfl ?_
  refine x_get (pc := 1) (q := 176) (i := 0) C e_I rfl ttX6 (by decide) wd_2_30 rfl dX6_accountCount_1 ?_
  refine x_get (pc := 4) (q := 0) (i := 0) C (e_L (by omega)) rfl ttX3 (by decide) wd_1_146 rfl dX6_accountCount_4 ?_
  refine x_get (pc := 7) (q := 1) (i := 0) C (e_A (by omega)) rfl ttX0 (by decide) wd_1_54 rfl dX6_accountCount_7 ?_
  exact x_iret (pc := 10) C rfl hR dX6_accountCount_10
set_option maxHeartbeats 4000000 in
set_option maxRecDepth 100000 in
theorem c_X6_transferCount {l : Launch} {A : Nat → Prop} {G : GT} {ad : Nat → Nat} (gl : Gl l A G ad)  (B : StB) (M : StM) (O : StO)  : Met l yX6_transferCount (wof yX6_transferCount cX6_transferCount 1 (some .int)) (rmd 1 0 0) (va_Pc [.ref (ad 176)] (PW G A ad B M O)) (QI G A ad (f_X6_transferCount B) B M O) 0 0 A := by
  refine x_body (own := RX6) (by decide +kernel) rfl gl (Nat.le_of_ble_eq_true rfl) (ls := [(0, .ref (ad 176))]) rfl ?_
  intro p0 e s m args below meth c C
  have hR : (f_X6_transferCount B) = (bi B 6 0) := rfl
  refine x_aload_n (pc := 0) (i := 0) C 0 dX6_transferCount_0 rfl rfl ?_
  refine x_get (pc := 1) (q := 176) (i := 0) C e_I rfl ttX6 (by decide) wd_2_30 rfl dX6_transferCount_1 ?_
  refine x_get (pc := 4) (q := 0) (i := 1) C (e_L (by omega)) rfl ttX3 (by decide) wd_1_148 rfl dX6_transferCount_4 ?_
  refine x_get (pc := 7) (q := 6) (i := 0) C (e_T (by omega)) rfl ttX5 (by decide) wd_1_87 rfl dX6_transferCount_7 ?_
  exact x_iret (pc := 10) C rfl hR dX6_transferCount_10
set_option maxHeartbeats 4000000 in
set_option maxRecDepth 100000 in
theorem c_X6_errorPosition {l : Launch} {A : Nat → Prop} {G : GT} {ad : Nat → Nat} (gl : Gl l A G ad)  (B : StB) (M : StM) (O : StO)  : TMet l yX6_errorPosition (wof yX6_errorPosition cX6_errorPosition 1 (some .int)) (rmd 6 4 24) [.ref (ad 176)] G A ad B M O (f_X6_errorPosition B) 4 24 := by
  refine xt_body (own := RX6) (by decide +kernel) rfl gl (Nat.le_of_ble_eq_true rfl) (ls := [(0, .ref (ad 176))]) rfl ?_
  intro p0 e s m args below meth c hE C
  have hR : (f_X6_errorPosition B) = (if 0 ≤ (bi B 176 8) then (0, (bi B 176 8), B) else (5, 0, B)) := rfl
  refine x_aload_n (pc := 0) (i := 0) C 0 dX6_errorPosition_0 rfl rfl ?_
  refine x_get (pc := 1) (q := 176) (i := 8) C e_I rfl ttX6 (by decide) wd_2_38 rfl dX6_errorPosition_1 ?_
  refine x_if_ge (pc := 4) (tgt := 15) C dX6_errorPosition_4 (by decide) (fun c1 => ?_) (fun c1 => ?_)
  · have hR := hR.trans (if_pos c1)
    refine x_aload_n (pc := 15) (i := 0) C 0 dX6_errorPosition_15 rfl rfl ?_
    refine x_get (pc := 16) (q := 176) (i := 8) C e_I rfl ttX6 (by decide) wd_2_38 rfl dX6_errorPosition_16 ?_
    exact xt_zret (pc := 19) C rfl rfl hR (Nat.le_of_ble_eq_true rfl) (Nat.le_of_ble_eq_true rfl) dX6_errorPosition_19
  · have hR := hR.trans (if_neg c1)
    exact xt_throw (pc := 7) (k := 5) (ik := 129) (ic := 131) C hE hR (by decide) (by decide +kernel) thr_k5 thr_i5 thr_g5 thr_b5 thr_o5 dX6_errorPosition_7 dX6_errorPosition_10 dX6_errorPosition_11 dX6_errorPosition_14 (Nat.le_of_ble_eq_true rfl) (Nat.le_of_ble_eq_true rfl) ⟨Nat.le_of_ble_eq_true rfl, Nat.le_of_ble_eq_true rfl⟩ (Nat.le_of_ble_eq_true rfl) (Nat.le_of_ble_eq_true rfl)
set_option maxHeartbeats 4000000 in
set_option maxRecDepth 100000 in
theorem c_X6_failedCommand {l : Launch} {A : Nat → Prop} {G : GT} {ad : Nat → Nat} (gl : Gl l A G ad)  (B : StB) (M : StM) (O : StO)  : TMet l yX6_failedCommand (wof yX6_failedCommand cX6_failedCommand 1 (some .int)) (rmd 6 4 24) [.ref (ad 176)] G A ad B M O (f_X6_failedCommand B) 4 24 := by
  refine xt_body (own := RX6) (by decide +kernel) rfl gl (Nat.le_of_ble_eq_true rfl) (ls := [(0, .ref (ad 176))]) rfl ?_
  intro p0 e s m args below meth c hE C
  have hR : (f_X6_failedCommand B) = (if 0 ≤ (bi B 176 9) then (0, (bi B 176 9), B) else (5, 0, B)) := rfl
  refine x_aload_n (pc := 0) (i := 0) C 0 dX6_failedCommand_0 rfl rfl ?_
  refine x_get (pc := 1) (q := 176) (i := 9) C e_I rfl ttX6 (by decide) wd_2_39 rfl dX6_failedCommand_1 ?_
  refine x_if_ge (pc := 4) (tgt := 15) C dX6_failedCommand_4 (by decide) (fun c1 => ?_) (fun c1 => ?_)
  · have hR := hR.trans (if_pos c1)
    refine x_aload_n (pc := 15) (i := 0) C 0 dX6_failedCommand_15 rfl rfl ?_
    refine x_get (pc := 16) (q := 176) (i := 9) C e_I rfl ttX6 (by decide) wd_2_39 rfl dX6_failedCommand_16 ?_
    exact xt_zret (pc := 19) C rfl rfl hR (Nat.le_of_ble_eq_true rfl) (Nat.le_of_ble_eq_true rfl) dX6_failedCommand_19
  · have hR := hR.trans (if_neg c1)
    exact xt_throw (pc := 7) (k := 5) (ik := 129) (ic := 131) C hE hR (by decide) (by decide +kernel) thr_k5 thr_i5 thr_g5 thr_b5 thr_o5 dX6_failedCommand_7 dX6_failedCommand_10 dX6_failedCommand_11 dX6_failedCommand_14 (Nat.le_of_ble_eq_true rfl) (Nat.le_of_ble_eq_true rfl) ⟨Nat.le_of_ble_eq_true rfl, Nat.le_of_ble_eq_true rfl⟩ (Nat.le_of_ble_eq_true rfl) (Nat.le_of_ble_eq_true rfl)
set_option maxHeartbeats 4000000 in
set_option maxRecDepth 100000 in
theorem c_X6_bankBalance {l : Launch} {A : Nat → Prop} {G : GT} {ad : Nat → Nat} (gl : Gl l A G ad)  (B : StB) (M : StM) (O : StO)  : Met l yX6_bankBalance (wof yX6_bankBalance cX6_bankBalance 1 (some .int)) (rmd 1 0 0) (va_Pc [.ref (ad 176)] (PW G A ad B M O)) (QI G A ad (f_X6_bankBalance B) B M O) 0 0 A := by
  refine x_body (own := RX6) (by decide +kernel) rfl gl (Nat.le_of_ble_eq_true rfl) (ls := [(0, .ref (ad 176))]) rfl ?_
  intro p0 e s m args below meth c C
  have hR : (f_X6_bankBalance B) = (bi B 0 4) := rfl
  refine x_aload_n (pc := 0) (i := 0) C 0 dX6_bankBalance_0 rfl rfl ?_
  refine x_get (pc := 1) (q := 176) (i := 0) C e_I rfl ttX6 (by decide) wd_2_30 rfl dX6_bankBalance_1 ?_
  refine x_get (pc := 4) (q := 0) (i := 4) C (e_L (by omega)) rfl ttX3 (by decide) wd_1_154 rfl dX6_bankBalance_4 ?_
  exact x_iret (pc := 7) C rfl hR dX6_bankBalance_7
set_option maxHeartbeats 4000000 in
set_option maxRecDepth 100000 in
theorem c_X6_totalInkByMovements {l : Launch} {A : Nat → Prop} {G : GT} {ad : Nat → Nat} (gl : Gl l A G ad)  (B : StB) (M : StM) (O : StO)  : Met l yX6_totalInkByMovements (wof yX6_totalInkByMovements cX6_totalInkByMovements 1 (some .long)) (rmd 1 0 0) (va_Pc [.ref (ad 176)] (PW G A ad B M O)) (QL G A ad (f_X6_totalInkByMovements B) B M O) 0 0 A := by
  refine x_body (own := RX6) (by decide +kernel) rfl gl (Nat.le_of_ble_eq_true rfl) (ls := [(0, .ref (ad 176))]) rfl ?_
  intro p0 e s m args below meth c C
  have hR : (f_X6_totalInkByMovements B) = ((bl B 0 6) - (bl B 0 7)) := rfl
  refine x_aload_n (pc := 0) (i := 0) C 0 dX6_totalInkByMovements_0 rfl rfl ?_
  refine x_get (pc := 1) (q := 176) (i := 0) C e_I rfl ttX6 (by decide) wd_2_30 rfl dX6_totalInkByMovements_1 ?_
  refine x_get (pc := 4) (q := 0) (i := 6) C (e_L (by omega)) rfl ttX3 (by decide) wd_1_158 rfl dX6_totalInkByMovements_4 ?_
  refine x_aload_n (pc := 7) (i := 0) C 0 dX6_totalInkByMovements_7 rfl rfl ?_
  refine x_get (pc := 8) (q := 176) (i := 0) C e_I rfl ttX6 (by decide) wd_2_30 rfl dX6_totalInkByMovements_8 ?_
  refine x_get (pc := 11) (q := 0) (i := 7) C (e_L (by omega)) rfl ttX3 (by decide) wd_1_160 rfl dX6_totalInkByMovements_11 ?_
  refine x_lsub (pc := 14) C dX6_totalInkByMovements_14 ?_
  exact x_lret (pc := 15) C rfl hR dX6_totalInkByMovements_15
set_option maxHeartbeats 4000000 in
set_option maxRecDepth 100000 in
theorem c_X6_chargesPaid {l : Launch} {A : Nat → Prop} {G : GT} {ad : Nat → Nat} (gl : Gl l A G ad)  (B : StB) (M : StM) (O : StO)  : Met l yX6_chargesPaid (wof yX6_chargesPaid cX6_chargesPaid 1 (some .long)) (rmd 1 0 0) (va_Pc [.ref (ad 176)] (PW G A ad B M O)) (QL G A ad (f_X6_chargesPaid B) B M O) 0 0 A := by
  refine x_body (own := RX6) (by decide +kernel) rfl gl (Nat.le_of_ble_eq_true rfl) (ls := [(0, .ref (ad 176))]) rfl ?_
  intro p0 e s m args below meth c C
  have hR : (f_X6_chargesPaid B) = (bl B 0 10) := rfl
  refine x_aload_n (pc := 0) (i := 0) C 0 dX6_chargesPaid_0 rfl rfl ?_
  refine x_get (pc := 1) (q := 176) (i := 0) C e_I rfl ttX6 (by decide) wd_2_30 rfl dX6_chargesPaid_1 ?_
  refine x_get (pc := 4) (q := 0) (i := 10) C (e_L (by omega)) rfl ttX3 (by decide) wd_1_165 rfl dX6_chargesPaid_4 ?_
  exact x_lret (pc := 7) C rfl hR dX6_chargesPaid_7
set_option maxHeartbeats 4000000 in
set_option maxRecDepth 100000 in
theorem c_X6_interestPaid {l : Launch} {A : Nat → Prop} {G : GT} {ad : Nat → Nat} (gl : Gl l A G ad)  (B : StB) (M : StM) (O : StO)  : Met l yX6_interestPaid (wof yX6_interestPaid cX6_interestPaid 1 (some .long)) (rmd 1 0 0) (va_Pc [.ref (ad 176)] (PW G A ad B M O)) (QL G A ad (f_X6_interestPaid B) B M O) 0 0 A := by
  refine x_body (own := RX6) (by decide +kernel) rfl gl (Nat.le_of_ble_eq_true rfl) (ls := [(0, .ref (ad 176))]) rfl ?_
  intro p0 e s m args below meth c C
  have hR : (f_X6_interestPaid B) = (bl B 0 9) := rfl
  refine x_aload_n (pc := 0) (i := 0) C 0 dX6_interestPaid_0 rfl rfl ?_
  refine x_get (pc := 1) (q := 176) (i := 0) C e_I rfl ttX6 (by decide) wd_2_30 rfl dX6_interestPaid_1 ?_
  refine x_get (pc := 4) (q := 0) (i := 9) C (e_L (by omega)) rfl ttX3 (by decide) wd_1_163 rfl dX6_interestPaid_4 ?_
  exact x_lret (pc := 7) C rfl hR dX6_interestPaid_7
set_option maxHeartbeats 4000000 in
set_option maxRecDepth 100000 in
theorem t_X6_fillSums_L10 {p0 : Program} {l : Launch} {e : Env} {s : State} {m : MethodId} {args : Array Value} {below : List Frame} {meth : Method} {c : Code} {A : Nat → Prop} {G : GT} {ad : Nat → Nat} {Q : State → Prop} (C : CX p0 l s m args meth c A G ad cX6_fillSums RX6 3 none)    (n : Nat) (B : StB) (a1 : Int32) (a2 : Int32) (M : StM) (O : StO) : ∀ (R0 : StB) (hR : R0 = f_X6_fillSums_L10 n B a1 a2) (hok : ok_X6_fillSums_L10 n B a1 a2) (k : X p0 l e (rmd 1 0 0) s m args below meth c A G ad 3 0 0 Q R0 M O [(0, .ref (ad 176)), (1, .int a1)] 31 []), X p0 l e (rmd 1 0 0) s m args below meth c A G ad 3 0 0 Q B M O [(0, .ref (ad 176)), (1, .int a1), (2, .int a2)] 10 [] := by
  induction n generalizing B a1 a2 with
  | zero => intro R0 hR hok k; exact False.elim hok
  | succ n ih =>
    intro R0 hR hok k
    have hR : R0 = (if 8 ≤ a2 then B else (nm (sba B (183 + ix a1) (ix a2) 0) (fun (B5 : StB) => (f_X6_fillSums_L10 n B5 a1 (a2 + 1))))) := hR
    have hok : ((8 ≤ a2 → True) ∧ (¬ 8 ≤ a2 → (vp_in a1 8 ∧ (vp_in a2 8 ∧ (∀ B5 : StB, B5 = (sba B (183 + ix a1) (ix a2) 0) → (ok_X6_fillSums_L10 n B5 a1 (a2 + 1))))))) := hok
    refine x_iload_n (pc := 10) (i := 2) C 2 dX6_fillSums_10 rfl rfl ?_
    refine x_bipush (pc := 11) (v := 8) C dX6_fillSums_11 (by decide) ?_
    refine x_icmp_ge (pc := 13) (tgt := 31) C dX6_fillSums_13 (by decide) (fun c2 => ?_) (fun c2 => ?_)
    · have hR := hR.trans (if_pos c2)
      refine x_sub [0, 1] (ls2 := [(0, .ref (ad 176)), (1, .int a1)]) rfl ?_
      subst hR
      exact k
    · have hR := hR.trans (if_neg c2)
      have hok := hok.2 c2
      refine x_aload_n (pc := 16) (i := 0) C 0 dX6_fillSums_16 rfl rfl ?_
      refine x_get (pc := 17) (q := 176) (i := 6) C e_I rfl ttX6 (by decide) wd_2_36 rfl dX6_fillSums_17 ?_
      refine x_iload_n (pc := 20) (i := 1) C 1 dX6_fillSums_20 rfl rfl ?_
      have h3 := hok.1
      have hok := hok.2
      have hxh3 : ix a1 < 8 := vp_ix h3
      refine x_aald2 (pc := 21) (q := 182) (t0 := 5) C rfl e_S rfl h3 (if_pos hxh3) dX6_fillSums_21 ?_
      refine x_iload_n (pc := 22) (i := 2) C 2 dX6_fillSums_22 rfl rfl ?_
      refine x_iconst (pc := 23) (v := 0) C dX6_fillSums_23 (by decide) ?_
      have h4 := hok.1
      have hok := hok.2
      refine x_iastB (pc := 24) (q := 183 + ix a1) C (e_Si hxh3) (e_Si hxh3).2 h4 dX6_fillSums_24 ?_
      refine x_nmB (fun B5 eB5 => ?_)
      have hR := nmE hR eB5
      have hok := hok B5 eB5
      refine x_iinc (pc := 25) (i := 2) (v := (a2 + 1)) (ls2 := [(2, .int (a2 + 1)), (0, .ref (ad 176)), (1, .int a1)]) C 2 dX6_fillSums_25 rfl rfl (by decide) rfl ?_
      refine x_goto (pc := 28) (tgt := 10) C dX6_fillSums_28 (by decide) ?_
      refine x_sub [1, 2, 0] (ls2 := [(0, .ref (ad 176)), (1, .int a1), (2, .int (a2 + 1))]) rfl ?_
      exact ih B5 a1 (a2 + 1) R0 hR hok k
set_option maxHeartbeats 4000000 in
set_option maxRecDepth 100000 in
theorem t_X6_fillSums_L2 {p0 : Program} {l : Launch} {e : Env} {s : State} {m : MethodId} {args : Array Value} {below : List Frame} {meth : Method} {c : Code} {A : Nat → Prop} {G : GT} {ad : Nat → Nat} {Q : State → Prop} (C : CX p0 l s m args meth c A G ad cX6_fillSums RX6 3 none)    (n : Nat) (B : StB) (a1 : Int32) (M : StM) (O : StO) : ∀ (R0 : StB) (hR : R0 = f_X6_fillSums_L2 n B a1) (hok : ok_X6_fillSums_L2 n B a1) (k : X p0 l e (rmd 1 0 0) s m args below meth c A G ad 3 0 0 Q R0 M O [(0, .ref (ad 176))] 37 []), X p0 l e (rmd 1 0 0) s m args below meth c A G ad 3 0 0 Q B M O [(0, .ref (ad 176)), (1, .int a1)] 2 [] := by
  induction n generalizing B a1 with
  | zero => intro R0 hR hok k; exact False.elim hok
  | succ n ih =>
    intro R0 hR hok k
    have hR : R0 = (if 8 ≤ a1 then B else (nm (f_X6_fillSums_L10 fu B a1 0) (fun (z6 : StB) => (f_X6_fillSums_L2 n z6 (a1 + 1))))) := hR
    have hok : ((8 ≤ a1 → True) ∧ (¬ 8 ≤ a1 → ((ok_X6_fillSums_L10 fu B a1 0) ∧ ∀ z6 : StB, z6 = f_X6_fillSums_L10 fu B a1 0 → (ok_X6_fillSums_L2 n z6 (a1 + 1))))) := hok
    refine x_iload_n (pc := 2) (i := 1) C 1 dX6_fillSums_2 rfl rfl ?_
    refine x_bipush (pc := 3) (v := 8) C dX6_fillSums_3 (by decide) ?_
    refine x_icmp_ge (pc := 5) (tgt := 37) C dX6_fillSums_5 (by decide) (fun c1 => ?_) (fun c1 => ?_)
    · have hR := hR.trans (if_pos c1)
      refine x_sub [0] (ls2 := [(0, .ref (ad 176))]) rfl ?_
      subst hR
      exact k
    · have hR := hR.trans (if_neg c1)
      have hok := hok.2 c1
      refine x_iconst (pc := 8) (v := 0) C dX6_fillSums_8 (by decide) ?_
      refine x_istore_n (pc := 9) (i := 2) (ls2 := [(2, .int 0), (0, .ref (ad 176)), (1, .int a1)]) C dX6_fillSums_9 rfl (by decide) rfl ?_
      refine x_sub [1, 2, 0] (ls2 := [(0, .ref (ad 176)), (1, .int a1), (2, .int 0)]) rfl ?_
      obtain ⟨z6, ez6⟩ : ∃ z : StB, z = f_X6_fillSums_L10 fu B a1 0 := ⟨_, rfl⟩
      refine t_X6_fillSums_L10 C fu B a1 0 M O z6 ez6 hok.1 ?_
      have hR := nmE hR ez6
      have hok := hok.2 z6 ez6
      refine x_iinc (pc := 31) (i := 1) (v := (a1 + 1)) (ls2 := [(1, .int (a1 + 1)), (0, .ref (ad 176))]) C 1 dX6_fillSums_31 rfl rfl (by decide) rfl ?_
      refine x_goto (pc := 34) (tgt := 2) C dX6_fillSums_34 (by decide) ?_
      refine x_sub [1, 0] (ls2 := [(0, .ref (ad 176)), (1, .int (a1 + 1))]) rfl ?_
      exact ih z6 (a1 + 1) R0 hR hok k
set_option maxHeartbeats 4000000 in
set_option maxRecDepth 100000 in
theorem t_X6_fillSums_L47 {p0 : Program} {l : Launch} {e : Env} {s : State} {m : MethodId} {args : Array Value} {below : List Frame} {meth : Method} {c : Code} {A : Nat → Prop} {G : GT} {ad : Nat → Nat} {Q : State → Prop} (C : CX p0 l s m args meth c A G ad cX6_fillSums RX6 3 none)    (n : Nat) (B : StB) (a2 : Int32) (M : StM) (O : StO) : ∀ (R0 : StB) (hR : R0 = f_X6_fillSums_L47 n B a2) (hok : ok_X6_fillSums_L47 n B a2) (k : X p0 l e (rmd 1 0 0) s m args below meth c A G ad 3 0 0 Q R0 M O [] 88 []), X p0 l e (rmd 1 0 0) s m args below meth c A G ad 3 0 0 Q B M O [(0, .ref (ad 176)), (1, .ref (ad 6)), (2, .int a2)] 47 [] := by
  induction n generalizing B a2 with
  | zero => intro R0 hR hok k; exact False.elim hok
  | succ n ih =>
    intro R0 hR hok k
    have hR : R0 = (if (bi B 6 0) ≤ a2 then B else (nm (sba B (183 + ix (ba B 8 (ix a2))) (ix (ba B 9 (ix a2))) ((ba B (183 + ix (ba B 8 (ix a2))) (ix (ba B 9 (ix a2)))) + (ba B 10 (ix a2)))) (fun (B15 : StB) => (f_X6_fillSums_L47 n B15 (a2 + 1))))) := hR
    have hok : (((bi B 6 0) ≤ a2 → True) ∧ (¬ (bi B 6 0) ≤ a2 → (vp_in a2 10 ∧ (vp_in (ba B 8 (ix a2)) 8 ∧ (vp_in a2 10 ∧ (vp_in (ba B 9 (ix a2)) 8 ∧ (vp_in a2 10 ∧ (vp_in (ba B 9 (ix a2)) 8 ∧ (∀ B15 : StB, B15 = (sba B (183 + ix (ba B 8 (ix a2))) (ix (ba B 9 (ix a2))) ((ba B (183 + ix (ba B 8 (ix a2))) (ix (ba B 9 (ix a2)))) + (ba B 10 (ix a2)))) → (ok_X6_fillSums_L47 n B15 (a2 + 1))))))))))) := hok
    refine x_iload_n (pc := 47) (i := 2) C 2 dX6_fillSums_47 rfl rfl ?_
    refine x_aload_n (pc := 48) (i := 1) C 1 dX6_fillSums_48 rfl rfl ?_
    refine x_get (pc := 49) (q := 6) (i := 0) C (e_T (by omega)) rfl ttX5 (by decide) wd_1_87 rfl dX6_fillSums_49 ?_
    refine x_icmp_ge (pc := 52) (tgt := 88) C dX6_fillSums_52 (by decide) (fun c8 => ?_) (fun c8 => ?_)
    · have hR := hR.trans (if_pos c8)
      refine x_sub [] (ls2 := []) rfl ?_
      subst hR
      exact k
    · have hR := hR.trans (if_neg c8)
      have hok := hok.2 c8
      refine x_aload_n (pc := 55) (i := 0) C 0 dX6_fillSums_55 rfl rfl ?_
      refine x_get (pc := 56) (q := 176) (i := 6) C e_I rfl ttX6 (by decide) wd_2_36 rfl dX6_fillSums_56 ?_
      refine x_aload_n (pc := 59) (i := 1) C 1 dX6_fillSums_59 rfl rfl ?_
      refine x_get (pc := 60) (q := 6) (i := 3) C (e_T (by omega)) rfl ttX5 (by decide) wd_1_93 rfl dX6_fillSums_60 ?_
      refine x_iload_n (pc := 63) (i := 2) C 2 dX6_fillSums_63 rfl rfl ?_
      have h9 := hok.1
      have hok := hok.2
      refine x_iald (pc := 64) (q := 8) C (e_Ts (by omega)) h9 dX6_fillSums_64 ?_
      have h10 := hok.1
      have hok := hok.2
      have hxh10 : ix (ba B 8 (ix a2)) < 8 := vp_ix h10
      refine x_aald2 (pc := 65) (q := 182) (t0 := 5) C rfl e_S rfl h10 (if_pos hxh10) dX6_fillSums_65 ?_
      refine x_aload_n (pc := 66) (i := 1) C 1 dX6_fillSums_66 rfl rfl ?_
      refine x_get (pc := 67) (q := 6) (i := 4) C (e_T (by omega)) rfl ttX5 (by decide) wd_1_96 rfl dX6_fillSums_67 ?_
      refine x_iload_n (pc := 70) (i := 2) C 2 dX6_fillSums_70 rfl rfl ?_
      have h11 := hok.1
      have hok := hok.2
      refine x_iald (pc := 71) (q := 9) C (e_Tr (by omega)) h11 dX6_fillSums_71 ?_
      refine x_dup2 (pc := 72) C dX6_fillSums_72 rfl rfl ?_
      have h12 := hok.1
      have hok := hok.2
      refine x_iald (pc := 73) (q := 183 + ix (ba B 8 (ix a2))) C (e_Si hxh10) h12 dX6_fillSums_73 ?_
      refine x_aload_n (pc := 74) (i := 1) C 1 dX6_fillSums_74 rfl rfl ?_
      refine x_get (pc := 75) (q := 6) (i := 5) C (e_T (by omega)) rfl ttX5 (by decide) wd_1_99 rfl dX6_fillSums_75 ?_
      refine x_iload_n (pc := 78) (i := 2) C 2 dX6_fillSums_78 rfl rfl ?_
      have h13 := hok.1
      have hok := hok.2
      refine x_iald (pc := 79) (q := 10) C (e_Ta (by omega)) h13 dX6_fillSums_79 ?_
      refine x_iadd (pc := 80) C dX6_fillSums_80 ?_
      have h14 := hok.1
      have hok := hok.2
      refine x_iastB (pc := 81) (q := 183 + ix (ba B 8 (ix a2))) C (e_Si hxh10) (e_Si hxh10).2 h14 dX6_fillSums_81 ?_
      refine x_nmB (fun B15 eB15 => ?_)
      have hR := nmE hR eB15
      have hok := hok B15 eB15
      refine x_iinc (pc := 82) (i := 2) (v := (a2 + 1)) (ls2 := [(2, .int (a2 + 1)), (0, .ref (ad 176)), (1, .ref (ad 6))]) C 2 dX6_fillSums_82 rfl rfl (by decide) rfl ?_
      refine x_goto (pc := 85) (tgt := 47) C dX6_fillSums_85 (by decide) ?_
      refine x_sub [1, 2, 0] (ls2 := [(0, .ref (ad 176)), (1, .ref (ad 6)), (2, .int (a2 + 1))]) rfl ?_
      exact ih B15 (a2 + 1) R0 hR hok k
set_option maxHeartbeats 4000000 in
set_option maxRecDepth 100000 in
theorem c_X6_fillSums {l : Launch} {A : Nat → Prop} {G : GT} {ad : Nat → Nat} (gl : Gl l A G ad)  (B : StB) (M : StM) (O : StO)  (hok : ok_X6_fillSums B) : Met l yX6_fillSums (wof yX6_fillSums cX6_fillSums 3 none) (rmd 1 0 0) (va_Pc [.ref (ad 176)] (PW G A ad B M O)) (QV G A ad (f_X6_fillSums B) M O) 0 0 A := by
  refine x_body (own := RX6) (by decide +kernel) rfl gl (Nat.le_of_ble_eq_true rfl) (ls := [(0, .ref (ad 176))]) rfl ?_
  intro p0 e s m args below meth c C
  have hR : (f_X6_fillSums B) = (nm (f_X6_fillSums_L2 fu B 0) (fun (z7 : StB) => (nm (f_X6_fillSums_L47 fu z7 0) (fun (z16 : StB) => z16)))) := rfl
  have hok : ((ok_X6_fillSums_L2 fu B 0) ∧ ∀ z7 : StB, z7 = f_X6_fillSums_L2 fu B 0 → (ok_X6_fillSums_L47 fu z7 0)) := hok
  refine x_iconst (pc := 0) (v := 0) C dX6_fillSums_0 (by decide) ?_
  refine x_istore_n (pc := 1) (i := 1) (ls2 := [(1, .int 0), (0, .ref (ad 176))]) C dX6_fillSums_1 rfl (by decide) rfl ?_
  refine x_sub [1, 0] (ls2 := [(0, .ref (ad 176)), (1, .int 0)]) rfl ?_
  obtain ⟨z7, ez7⟩ : ∃ z : StB, z = f_X6_fillSums_L2 fu B 0 := ⟨_, rfl⟩
  refine t_X6_fillSums_L2 C fu B 0 M O z7 ez7 hok.1 ?_
  have hR := nmE hR ez7
  have hok := hok.2 z7 ez7
  refine x_aload_n (pc := 37) (i := 0) C 0 dX6_fillSums_37 rfl rfl ?_
  refine x_get (pc := 38) (q := 176) (i := 0) C e_I rfl ttX6 (by decide) wd_2_30 rfl dX6_fillSums_38 ?_
  refine x_get (pc := 41) (q := 0) (i := 1) C (e_L (by omega)) rfl ttX3 (by decide) wd_1_148 rfl dX6_fillSums_41 ?_
  refine x_astore_n (pc := 44) (i := 1) (ls2 := [(1, .ref (ad 6)), (0, .ref (ad 176))]) C dX6_fillSums_44 rfl (by decide) rfl ?_
  refine x_iconst (pc := 45) (v := 0) C dX6_fillSums_45 (by decide) ?_
  refine x_istore_n (pc := 46) (i := 2) (ls2 := [(2, .int 0), (1, .ref (ad 6)), (0, .ref (ad 176))]) C dX6_fillSums_46 rfl (by decide) rfl ?_
  refine x_sub [2, 1, 0] (ls2 := [(0, .ref (ad 176)), (1, .ref (ad 6)), (2, .int 0)]) rfl ?_
  obtain ⟨z16, ez16⟩ : ∃ z : StB, z = f_X6_fillSums_L47 fu z7 0 := ⟨_, rfl⟩
  refine t_X6_fillSums_L47 C fu z7 0 M O z16 ez16 hok ?_
  have hR := nmE hR ez16
  exact x_vretB (pc := 88) C rfl hR dX6_fillSums_88
set_option maxHeartbeats 4000000 in
set_option maxRecDepth 100000 in
theorem c_X6_bounceCount {l : Launch} {A : Nat → Prop} {G : GT} {ad : Nat → Nat} (gl : Gl l A G ad)  (B : StB) (M : StM) (O : StO)  : Met l yX6_bounceCount (wof yX6_bounceCount cX6_bounceCount 1 (some .int)) (rmd 1 0 0) (va_Pc [.ref (ad 176)] (PW G A ad B M O)) (QI G A ad (f_X6_bounceCount B) B M O) 0 0 A := by
  refine x_body (own := RX6) (by decide +kernel) rfl gl (Nat.le_of_ble_eq_true rfl) (ls := [(0, .ref (ad 176))]) rfl ?_
  intro p0 e s m args below meth c C
  have hR : (f_X6_bounceCount B) = (bi B 0 5) := rfl
  refine x_aload_n (pc := 0) (i := 0) C 0 dX6_bounceCount_0 rfl rfl ?_
  refine x_get (pc := 1) (q := 176) (i := 0) C e_I rfl ttX6 (by decide) wd_2_30 rfl dX6_bounceCount_1 ?_
  refine x_get (pc := 4) (q := 0) (i := 5) C (e_L (by omega)) rfl ttX3 (by decide) wd_1_156 rfl dX6_bounceCount_4 ?_
  exact x_iret (pc := 7) C rfl hR dX6_bounceCount_7
set_option maxHeartbeats 4000000 in
set_option maxRecDepth 100000 in
theorem c_X6_journalLength {l : Launch} {A : Nat → Prop} {G : GT} {ad : Nat → Nat} (gl : Gl l A G ad)  (B : StB) (M : StM) (O : StO)  : Met l yX6_journalLength (wof yX6_journalLength cX6_journalLength 1 (some .int)) (rmd 1 0 0) (va_Pc [.ref (ad 176)] (PW G A ad B M O)) (QI G A ad (f_X6_journalLength B) B M O) 0 0 A := by
  refine x_body (own := RX6) (by decide +kernel) rfl gl (Nat.le_of_ble_eq_true rfl) (ls := [(0, .ref (ad 176))]) rfl ?_
  intro p0 e s m args below meth c C
  have hR : (f_X6_journalLength B) = (bi B 12 0) := rfl
  refine x_aload_n (pc := 0) (i := 0) C 0 dX6_journalLength_0 rfl rfl ?_
  refine x_get (pc := 1) (q := 176) (i := 0) C e_I rfl ttX6 (by decide) wd_2_30 rfl dX6_journalLength_1 ?_
  refine x_get (pc := 4) (q := 0) (i := 2) C (e_L (by omega)) rfl ttX3 (by decide) wd_1_150 rfl dX6_journalLength_4 ?_
  refine x_get (pc := 7) (q := 12) (i := 0) C (e_J (by omega)) rfl ttX2 (by decide) wd_1_125 rfl dX6_journalLength_7 ?_
  exact x_iret (pc := 10) C rfl hR dX6_journalLength_10
set_option maxHeartbeats 4000000 in
set_option maxRecDepth 100000 in
theorem c_X6_requireAccount {l : Launch} {A : Nat → Prop} {G : GT} {ad : Nat → Nat} (gl : Gl l A G ad)  (B : StB) (M : StM) (O : StO) (x0 : Int32) : TMetV l yX6_requireAccount (wof yX6_requireAccount cX6_requireAccount 2 none) (rmd 7 1 6) [.ref (ad 176), .int x0] G A ad B M O (f_X6_requireAccount B x0) 1 6 := by
  refine xt_body (own := RX6) (by decide +kernel) rfl gl (Nat.le_of_ble_eq_true rfl) (ls := [(0, .ref (ad 176)), (1, .int x0)]) rfl ?_
  intro p0 e s m args below meth c hE C
  have hR : (f_X6_requireAccount B x0) = (nm (f_X0_has 1 B x0) (fun (r1 : Int32) => (if r1 = 0 then (1, 0, B) else (0, 0, B)))) := rfl
  refine x_aload_n (pc := 0) (i := 0) C 0 dX6_requireAccount_0 rfl rfl ?_
  refine x_get (pc := 1) (q := 176) (i := 0) C e_I rfl ttX6 (by decide) wd_2_30 rfl dX6_requireAccount_1 ?_
  refine x_get (pc := 4) (q := 0) (i := 0) C (e_L (by omega)) rfl ttX3 (by decide) wd_1_146 rfl dX6_requireAccount_4 ?_
  refine x_iload_n (pc := 7) (i := 1) C 1 dX6_requireAccount_7 rfl rfl ?_
  refine x_cIV (pc := 8) (as := [.int x0]) (q := 1) C (c_X0_has C.2.2.2.2.2.2.2.1 1 (by omega) B M O x0) (fs := _) (e_A (by omega)) rfl cv_X0_has cd_X0_has wd_4_152 ⟨Nat.le_of_ble_eq_true rfl, Nat.le_of_ble_eq_true rfl⟩ ⟨Nat.le_of_ble_eq_true rfl, Nat.le_of_ble_eq_true rfl⟩ rfl rfl (Nat.le_of_ble_eq_true rfl) dX6_requireAccount_8 ?_
  refine x_nmI (fun r1 er1 => ?_)
  have hR := nmE hR er1
  refine x_if_ne (pc := 11) (tgt := 22) C dX6_requireAccount_11 (by decide) (fun c2 => ?_) (fun c2 => ?_)
  · have hR := hR.trans (if_neg c2)
    exact xt_vret (pc := 22) C rfl hR (Nat.le_of_ble_eq_true rfl) (Nat.le_of_ble_eq_true rfl) dX6_requireAccount_22
  · have hR := hR.trans (if_pos c2)
    exact xt_throw (pc := 14) (k := 1) (ik := 194) (ic := 196) C hE hR (by decide) (by decide +kernel) thr_k1 thr_i1 thr_g1 thr_b1 thr_o1 dX6_requireAccount_14 dX6_requireAccount_17 dX6_requireAccount_18 dX6_requireAccount_21 (Nat.le_of_ble_eq_true rfl) (Nat.le_of_ble_eq_true rfl) ⟨Nat.le_of_ble_eq_true rfl, Nat.le_of_ble_eq_true rfl⟩ (Nat.le_of_ble_eq_true rfl) (Nat.le_of_ble_eq_true rfl)
set_option maxHeartbeats 4000000 in
set_option maxRecDepth 100000 in
theorem c_X6_requireTransfer {l : Launch} {A : Nat → Prop} {G : GT} {ad : Nat → Nat} (gl : Gl l A G ad)  (B : StB) (M : StM) (O : StO) (x0 : Int32) (hok : ok_X6_requireTransfer B x0) : TMet l yX6_requireTransfer (wof yX6_requireTransfer cX6_requireTransfer 3 (some .int)) (rmd 7 1 6) [.ref (ad 176), .int x0] G A ad B M O (f_X6_requireTransfer B x0) 1 6 := by
  refine xt_body (own := RX6) (by decide +kernel) rfl gl (Nat.le_of_ble_eq_true rfl) (ls := [(0, .ref (ad 176)), (1, .int x0)]) rfl ?_
  intro p0 e s m args below meth c hE C
  have hR : (f_X6_requireTransfer B x0) = (nm (f_X5_find 6 B x0) (fun (r2 : Int32) => (if 0 ≤ r2 then (0, r2, B) else (5, 0, B)))) := rfl
  have hok : ((ok_X5_find 6 B x0)) := hok
  refine x_aload_n (pc := 0) (i := 0) C 0 dX6_requireTransfer_0 rfl rfl ?_
  refine x_get (pc := 1) (q := 176) (i := 0) C e_I rfl ttX6 (by decide) wd_2_30 rfl dX6_requireTransfer_1 ?_
  refine x_get (pc := 4) (q := 0) (i := 1) C (e_L (by omega)) rfl ttX3 (by decide) wd_1_148 rfl dX6_requireTransfer_4 ?_
  refine x_iload_n (pc := 7) (i := 1) C 1 dX6_requireTransfer_7 rfl rfl ?_
  have h1 := hok
  refine x_cIV (pc := 8) (as := [.int x0]) (q := 6) C (c_X5_find C.2.2.2.2.2.2.2.1 6 (by omega) B M O x0 h1) (fs := _) (e_T (by omega)) rfl cv_X5_find cd_X5_find wd_4_181 ⟨Nat.le_of_ble_eq_true rfl, Nat.le_of_ble_eq_true rfl⟩ ⟨Nat.le_of_ble_eq_true rfl, Nat.le_of_ble_eq_true rfl⟩ rfl rfl (Nat.le_of_ble_eq_true rfl) dX6_requireTransfer_8 ?_
  refine x_nmI (fun r2 er2 => ?_)
  have hR := nmE hR er2
  refine x_istore_n (pc := 11) (i := 2) (ls2 := [(2, .int r2), (0, .ref (ad 176)), (1, .int x0)]) C dX6_requireTransfer_11 rfl (by decide) rfl ?_
  refine x_iload_n (pc := 12) (i := 2) C 0 dX6_requireTransfer_12 rfl rfl ?_
  refine x_if_ge (pc := 13) (tgt := 24) C dX6_requireTransfer_13 (by decide) (fun c3 => ?_) (fun c3 => ?_)
  · have hR := hR.trans (if_pos c3)
    refine x_iload_n (pc := 24) (i := 2) C 0 dX6_requireTransfer_24 rfl rfl ?_
    exact xt_zret (pc := 25) C rfl rfl hR (Nat.le_of_ble_eq_true rfl) (Nat.le_of_ble_eq_true rfl) dX6_requireTransfer_25
  · have hR := hR.trans (if_neg c3)
    exact xt_throw (pc := 16) (k := 5) (ik := 129) (ic := 131) C hE hR (by decide) (by decide +kernel) thr_k5 thr_i5 thr_g5 thr_b5 thr_o5 dX6_requireTransfer_16 dX6_requireTransfer_19 dX6_requireTransfer_20 dX6_requireTransfer_23 (Nat.le_of_ble_eq_true rfl) (Nat.le_of_ble_eq_true rfl) ⟨Nat.le_of_ble_eq_true rfl, Nat.le_of_ble_eq_true rfl⟩ (Nat.le_of_ble_eq_true rfl) (Nat.le_of_ble_eq_true rfl)
set_option maxHeartbeats 4000000 in
set_option maxRecDepth 100000 in
theorem c_X6_requireAccount_n {l : Launch} {A : Nat → Prop} {G : GT} {ad : Nat → Nat} (gl : Gl l A G ad)  (B : StB) (M : StM) (O : StO) (x0 : Int32) (hok : ok_X6_requireAccount_n B x0) : Met l yX6_requireAccount (wof yX6_requireAccount cX6_requireAccount 2 none) (rmd 2 0 0) (va_Pc [.ref (ad 176), .int x0] (PW G A ad B M O)) (QV G A ad B M O) 0 0 A := by
  refine x_body (own := RX6) (by decide +kernel) rfl gl (Nat.le_of_ble_eq_true rfl) (ls := [(0, .ref (ad 176)), (1, .int x0)]) rfl ?_
  intro p0 e s m args below meth c C
  have hR : (f_X6_requireAccount_n B x0) = (nm (f_X0_has 1 B x0) (fun (r1 : Int32) => (if r1 = 0 then () else ()))) := rfl
  have hok : (∀ r1 : Int32, r1 = (f_X0_has 1 B x0) → ((r1 = 0 → False) ∧ (¬ r1 = 0 → True))) := hok
  refine x_aload_n (pc := 0) (i := 0) C 0 dX6_requireAccount_0 rfl rfl ?_
  refine x_get (pc := 1) (q := 176) (i := 0) C e_I rfl ttX6 (by decide) wd_2_30 rfl dX6_requireAccount_1 ?_
  refine x_get (pc := 4) (q := 0) (i := 0) C (e_L (by omega)) rfl ttX3 (by decide) wd_1_146 rfl dX6_requireAccount_4 ?_
  refine x_iload_n (pc := 7) (i := 1) C 1 dX6_requireAccount_7 rfl rfl ?_
  refine x_cIV (pc := 8) (as := [.int x0]) (q := 1) C (c_X0_has C.2.2.2.2.2.2.2.1 1 (by omega) B M O x0) (fs := _) (e_A (by omega)) rfl cv_X0_has cd_X0_has wd_4_152 ⟨Nat.le_of_ble_eq_true rfl, Nat.le_of_ble_eq_true rfl⟩ ⟨Nat.le_of_ble_eq_true rfl, Nat.le_of_ble_eq_true rfl⟩ rfl rfl (Nat.le_of_ble_eq_true rfl) dX6_requireAccount_8 ?_
  refine x_nmI (fun r1 er1 => ?_)
  have hR := nmE hR er1
  have hok := hok r1 er1
  refine x_if_ne (pc := 11) (tgt := 22) C dX6_requireAccount_11 (by decide) (fun c2 => ?_) (fun c2 => ?_)
  · have hR := hR.trans (if_neg c2)
    exact x_vret (pc := 22) C rfl dX6_requireAccount_22
  · have hR := hR.trans (if_pos c2)
    have hok := hok.1 c2
    exact False.elim hok
set_option maxHeartbeats 4000000 in
set_option maxRecDepth 100000 in
theorem c_X6_requireTransfer_n {l : Launch} {A : Nat → Prop} {G : GT} {ad : Nat → Nat} (gl : Gl l A G ad)  (B : StB) (M : StM) (O : StO) (x0 : Int32) (hok : ok_X6_requireTransfer_n B x0) : Met l yX6_requireTransfer (wof yX6_requireTransfer cX6_requireTransfer 3 (some .int)) (rmd 2 0 0) (va_Pc [.ref (ad 176), .int x0] (PW G A ad B M O)) (QI G A ad (f_X6_requireTransfer_n B x0) B M O) 0 0 A := by
  refine x_body (own := RX6) (by decide +kernel) rfl gl (Nat.le_of_ble_eq_true rfl) (ls := [(0, .ref (ad 176)), (1, .int x0)]) rfl ?_
  intro p0 e s m args below meth c C
  have hR : (f_X6_requireTransfer_n B x0) = (nm (f_X5_find 6 B x0) (fun (r2 : Int32) => (if 0 ≤ r2 then r2 else 0))) := rfl
  have hok : ((ok_X5_find 6 B x0) ∧ (∀ r2 : Int32, r2 = (f_X5_find 6 B x0) → ((0 ≤ r2 → True) ∧ (¬ 0 ≤ r2 → False)))) := hok
  refine x_aload_n (pc := 0) (i := 0) C 0 dX6_requireTransfer_0 rfl rfl ?_
  refine x_get (pc := 1) (q := 176) (i := 0) C e_I rfl ttX6 (by decide) wd_2_30 rfl dX6_requireTransfer_1 ?_
  refine x_get (pc := 4) (q := 0) (i := 1) C (e_L (by omega)) rfl ttX3 (by decide) wd_1_148 rfl dX6_requireTransfer_4 ?_
  refine x_iload_n (pc := 7) (i := 1) C 1 dX6_requireTransfer_7 rfl rfl ?_
  have h1 := hok.1
  have hok := hok.2
  refine x_cIV (pc := 8) (as := [.int x0]) (q := 6) C (c_X5_find C.2.2.2.2.2.2.2.1 6 (by omega) B M O x0 h1) (fs := _) (e_T (by omega)) rfl cv_X5_find cd_X5_find wd_4_181 ⟨Nat.le_of_ble_eq_true rfl, Nat.le_of_ble_eq_true rfl⟩ ⟨Nat.le_of_ble_eq_true rfl, Nat.le_of_ble_eq_true rfl⟩ rfl rfl (Nat.le_of_ble_eq_true rfl) dX6_requireTransfer_8 ?_
  refine x_nmI (fun r2 er2 => ?_)
  have hR := nmE hR er2
  have hok := hok r2 er2
  refine x_istore_n (pc := 11) (i := 2) (ls2 := [(2, .int r2), (0, .ref (ad 176)), (1, .int x0)]) C dX6_requireTransfer_11 rfl (by decide) rfl ?_
  refine x_iload_n (pc := 12) (i := 2) C 0 dX6_requireTransfer_12 rfl rfl ?_
  refine x_if_ge (pc := 13) (tgt := 24) C dX6_requireTransfer_13 (by decide) (fun c3 => ?_) (fun c3 => ?_)
  · have hR := hR.trans (if_pos c3)
    refine x_iload_n (pc := 24) (i := 2) C 0 dX6_requireTransfer_24 rfl rfl ?_
    exact x_iret (pc := 25) C rfl hR dX6_requireTransfer_25
  · have hR := hR.trans (if_neg c3)
    have hok := hok.2 c3
    exact False.elim hok
set_option maxHeartbeats 4000000 in
set_option maxRecDepth 100000 in
theorem c_X6_totalInk {l : Launch} {A : Nat → Prop} {G : GT} {ad : Nat → Nat} (gl : Gl l A G ad)  (B : StB) (M : StM) (O : StO)  (hok : ok_X6_totalInk B) : Met l yX6_totalInk (wof yX6_totalInk cX6_totalInk 1 (some .long)) (rmd 2 0 0) (va_Pc [.ref (ad 176)] (PW G A ad B M O)) (QL G A ad (f_X6_totalInk B) B M O) 0 0 A := by
  refine x_body (own := RX6) (by decide +kernel) rfl gl (Nat.le_of_ble_eq_true rfl) (ls := [(0, .ref (ad 176))]) rfl ?_
  intro p0 e s m args below meth c C
  have hR : (f_X6_totalInk B) = (nm (f_X0_sum 1 B) (fun (r2 : Int64) => ((Int32.toInt64 (bi B 0 4)) + r2))) := rfl
  have hok : ((ok_X0_sum 1 B)) := hok
  refine x_aload_n (pc := 0) (i := 0) C 0 dX6_totalInk_0 rfl rfl ?_
  refine x_get (pc := 1) (q := 176) (i := 0) C e_I rfl ttX6 (by decide) wd_2_30 rfl dX6_totalInk_1 ?_
  refine x_get (pc := 4) (q := 0) (i := 4) C (e_L (by omega)) rfl ttX3 (by decide) wd_1_154 rfl dX6_totalInk_4 ?_
  refine x_i2l (pc := 7) C dX6_totalInk_7 ?_
  refine x_aload_n (pc := 8) (i := 0) C 0 dX6_totalInk_8 rfl rfl ?_
  refine x_get (pc := 9) (q := 176) (i := 0) C e_I rfl ttX6 (by decide) wd_2_30 rfl dX6_totalInk_9 ?_
  refine x_get (pc := 12) (q := 0) (i := 0) C (e_L (by omega)) rfl ttX3 (by decide) wd_1_146 rfl dX6_totalInk_12 ?_
  have h1 := hok
  refine x_cLV (pc := 15) (as := []) (q := 1) C (c_X0_sum C.2.2.2.2.2.2.2.1 1 (by omega) B M O  h1) (fs := _) (e_A (by omega)) rfl cv_X0_sum cd_X0_sum wd_6_62 ⟨Nat.le_of_ble_eq_true rfl, Nat.le_of_ble_eq_true rfl⟩ ⟨Nat.le_of_ble_eq_true rfl, Nat.le_of_ble_eq_true rfl⟩ rfl rfl (Nat.le_of_ble_eq_true rfl) dX6_totalInk_15 ?_
  refine x_nmL (fun r2 er2 => ?_)
  have hR := nmE hR er2
  refine x_ladd (pc := 18) C dX6_totalInk_18 ?_
  exact x_lret (pc := 19) C rfl hR dX6_totalInk_19
set_option maxHeartbeats 4000000 in
set_option maxRecDepth 100000 in
theorem c_X6_meanBalance_n {l : Launch} {A : Nat → Prop} {G : GT} {ad : Nat → Nat} (gl : Gl l A G ad)  (B : StB) (M : StM) (O : StO)  (hok : ok_X6_meanBalance_n B) : Met l yX6_meanBalance (wof yX6_meanBalance cX6_meanBalance 1 (some .double)) (rmd 2 0 0) (va_Pc [.ref (ad 176)] (PW G A ad B M O)) (QD G A ad (f_X6_meanBalance_n B) B M O) 0 0 A := by
  refine x_body (own := RX6) (by decide +kernel) rfl gl (Nat.le_of_ble_eq_true rfl) (ls := [(0, .ref (ad 176))]) rfl ?_
  intro p0 e s m args below meth c C
  have hR : (f_X6_meanBalance_n B) = (if 1 ≤ (bi B 1 0) then (nm (f_X0_sum 1 B) (fun (r3 : Int64) => (FP.ddiv (FP.l2d r3) (FP.i2d (bi B 1 0))))) else 0) := rfl
  have hok : ((1 ≤ (bi B 1 0) → ((ok_X0_sum 1 B) ∧ (∀ r3 : Int64, r3 = (f_X0_sum 1 B) → (vf_n64 (FP.ddiv (FP.l2d r3) (FP.i2d (bi B 1 0))))))) ∧ (¬ 1 ≤ (bi B 1 0) → False)) := hok
  refine x_aload_n (pc := 0) (i := 0) C 0 dX6_meanBalance_0 rfl rfl ?_
  refine x_get (pc := 1) (q := 176) (i := 0) C e_I rfl ttX6 (by decide) wd_2_30 rfl dX6_meanBalance_1 ?_
  refine x_get (pc := 4) (q := 0) (i := 0) C (e_L (by omega)) rfl ttX3 (by decide) wd_1_146 rfl dX6_meanBalance_4 ?_
  refine x_get (pc := 7) (q := 1) (i := 0) C (e_A (by omega)) rfl ttX0 (by decide) wd_1_54 rfl dX6_meanBalance_7 ?_
  refine x_iconst (pc := 10) (v := 1) C dX6_meanBalance_10 (by decide) ?_
  refine x_icmp_ge (pc := 11) (tgt := 22) C dX6_meanBalance_11 (by decide) (fun c1 => ?_) (fun c1 => ?_)
  · have hR := hR.trans (if_pos c1)
    have hok := hok.1 c1
    refine x_aload_n (pc := 22) (i := 0) C 0 dX6_meanBalance_22 rfl rfl ?_
    refine x_get (pc := 23) (q := 176) (i := 0) C e_I rfl ttX6 (by decide) wd_2_30 rfl dX6_meanBalance_23 ?_
    refine x_get (pc := 26) (q := 0) (i := 0) C (e_L (by omega)) rfl ttX3 (by decide) wd_1_146 rfl dX6_meanBalance_26 ?_
    have h2 := hok.1
    have hok := hok.2
    refine x_cLV (pc := 29) (as := []) (q := 1) C (c_X0_sum C.2.2.2.2.2.2.2.1 1 (by omega) B M O  h2) (fs := _) (e_A (by omega)) rfl cv_X0_sum cd_X0_sum wd_6_62 ⟨Nat.le_of_ble_eq_true rfl, Nat.le_of_ble_eq_true rfl⟩ ⟨Nat.le_of_ble_eq_true rfl, Nat.le_of_ble_eq_true rfl⟩ rfl rfl (Nat.le_of_ble_eq_true rfl) dX6_meanBalance_29 ?_
    refine x_nmL (fun r3 er3 => ?_)
    have hR := nmE hR er3
    have hok := hok r3 er3
    refine x_l2d (pc := 32) C dX6_meanBalance_32 ?_
    refine x_aload_n (pc := 33) (i := 0) C 0 dX6_meanBalance_33 rfl rfl ?_
    refine x_get (pc := 34) (q := 176) (i := 0) C e_I rfl ttX6 (by decide) wd_2_30 rfl dX6_meanBalance_34 ?_
    refine x_get (pc := 37) (q := 0) (i := 0) C (e_L (by omega)) rfl ttX3 (by decide) wd_1_146 rfl dX6_meanBalance_37 ?_
    refine x_get (pc := 40) (q := 1) (i := 0) C (e_A (by omega)) rfl ttX0 (by decide) wd_1_54 rfl dX6_meanBalance_40 ?_
    refine x_i2d (pc := 43) C dX6_meanBalance_43 ?_
    have h4 := hok
    refine x_ddiv (pc := 44) C h4 dX6_meanBalance_44 ?_
    exact x_dret (pc := 45) C rfl hR dX6_meanBalance_45
  · have hR := hR.trans (if_neg c1)
    have hok := hok.2 c1
    exact False.elim hok
set_option maxHeartbeats 4000000 in
set_option maxRecDepth 100000 in
theorem c_X6_requireMovement {l : Launch} {A : Nat → Prop} {G : GT} {ad : Nat → Nat} (gl : Gl l A G ad)  (B : StB) (M : StM) (O : StO) (x0 : Int32) (hok : ok_X6_requireMovement B x0) : TMet l yX6_requireMovement (wof yX6_requireMovement cX6_requireMovement 2 (some .int)) (rmd 8 1 6) [.ref (ad 176), .int x0] G A ad B M O (f_X6_requireMovement B x0) 1 6 := by
  refine xt_body (own := RX6) (by decide +kernel) rfl gl (Nat.le_of_ble_eq_true rfl) (ls := [(0, .ref (ad 176)), (1, .int x0)]) rfl ?_
  intro p0 e s m args below meth c hE C
  have hR : (f_X6_requireMovement B x0) = (if x0 < 0 then (5, 0, B) else (if x0 < (bi B 12 0) then (nm (f_X2_slot 12 B x0) (fun (r4 : Int32) => (0, r4, B))) else (5, 0, B))) := rfl
  have hok : ((x0 < 0 → True) ∧ (¬ x0 < 0 → ((x0 < (bi B 12 0) → ((ok_X2_slot 12 B x0))) ∧ (¬ x0 < (bi B 12 0) → True)))) := hok
  refine x_iload_n (pc := 0) (i := 1) C 1 dX6_requireMovement_0 rfl rfl ?_
  refine x_if_lt (pc := 1) (tgt := 18) C dX6_requireMovement_1 (by decide) (fun c1 => ?_) (fun c1 => ?_)
  · have hR := hR.trans (if_pos c1)
    exact xt_throw (pc := 18) (k := 5) (ik := 129) (ic := 131) C hE hR (by decide) (by decide +kernel) thr_k5 thr_i5 thr_g5 thr_b5 thr_o5 dX6_requireMovement_18 dX6_requireMovement_21 dX6_requireMovement_22 dX6_requireMovement_25 (Nat.le_of_ble_eq_true rfl) (Nat.le_of_ble_eq_true rfl) ⟨Nat.le_of_ble_eq_true rfl, Nat.le_of_ble_eq_true rfl⟩ (Nat.le_of_ble_eq_true rfl) (Nat.le_of_ble_eq_true rfl)
  · have hR := hR.trans (if_neg c1)
    have hok := hok.2 c1
    refine x_iload_n (pc := 4) (i := 1) C 1 dX6_requireMovement_4 rfl rfl ?_
    refine x_aload_n (pc := 5) (i := 0) C 0 dX6_requireMovement_5 rfl rfl ?_
    refine x_get (pc := 6) (q := 176) (i := 0) C e_I rfl ttX6 (by decide) wd_2_30 rfl dX6_requireMovement_6 ?_
    refine x_get (pc := 9) (q := 0) (i := 2) C (e_L (by omega)) rfl ttX3 (by decide) wd_1_150 rfl dX6_requireMovement_9 ?_
    refine x_get (pc := 12) (q := 12) (i := 0) C (e_J (by omega)) rfl ttX2 (by decide) wd_1_125 rfl dX6_requireMovement_12 ?_
    refine x_icmp_lt (pc := 15) (tgt := 26) C dX6_requireMovement_15 (by decide) (fun c2 => ?_) (fun c2 => ?_)
    · have hR := hR.trans (if_pos c2)
      have hok := hok.1 c2
      refine x_aload_n (pc := 26) (i := 0) C 0 dX6_requireMovement_26 rfl rfl ?_
      refine x_get (pc := 27) (q := 176) (i := 0) C e_I rfl ttX6 (by decide) wd_2_30 rfl dX6_requireMovement_27 ?_
      refine x_get (pc := 30) (q := 0) (i := 2) C (e_L (by omega)) rfl ttX3 (by decide) wd_1_150 rfl dX6_requireMovement_30 ?_
      refine x_iload_n (pc := 33) (i := 1) C 1 dX6_requireMovement_33 rfl rfl ?_
      have h3 := hok
      refine x_cIV (pc := 34) (as := [.int x0]) (q := 12) C (c_X2_slot C.2.2.2.2.2.2.2.1 12 (by omega) B M O x0 h3) (fs := _) (e_J (by omega)) rfl cv_X2_slot cd_X2_slot wd_4_218 ⟨Nat.le_of_ble_eq_true rfl, Nat.le_of_ble_eq_true rfl⟩ ⟨Nat.le_of_ble_eq_true rfl, Nat.le_of_ble_eq_true rfl⟩ rfl rfl (Nat.le_of_ble_eq_true rfl) dX6_requireMovement_34 ?_
      refine x_nmI (fun r4 er4 => ?_)
      have hR := nmE hR er4
      exact xt_zret (pc := 37) C rfl rfl hR (Nat.le_of_ble_eq_true rfl) (Nat.le_of_ble_eq_true rfl) dX6_requireMovement_37
    · have hR := hR.trans (if_neg c2)
      exact xt_throw (pc := 18) (k := 5) (ik := 129) (ic := 131) C hE hR (by decide) (by decide +kernel) thr_k5 thr_i5 thr_g5 thr_b5 thr_o5 dX6_requireMovement_18 dX6_requireMovement_21 dX6_requireMovement_22 dX6_requireMovement_25 (Nat.le_of_ble_eq_true rfl) (Nat.le_of_ble_eq_true rfl) ⟨Nat.le_of_ble_eq_true rfl, Nat.le_of_ble_eq_true rfl⟩ (Nat.le_of_ble_eq_true rfl) (Nat.le_of_ble_eq_true rfl)
set_option maxHeartbeats 4000000 in
set_option maxRecDepth 100000 in
theorem c_X6_requireMovement_n {l : Launch} {A : Nat → Prop} {G : GT} {ad : Nat → Nat} (gl : Gl l A G ad)  (B : StB) (M : StM) (O : StO) (x0 : Int32) (hok : ok_X6_requireMovement_n B x0) : Met l yX6_requireMovement (wof yX6_requireMovement cX6_requireMovement 2 (some .int)) (rmd 3 0 0) (va_Pc [.ref (ad 176), .int x0] (PW G A ad B M O)) (QI G A ad (f_X6_requireMovement_n B x0) B M O) 0 0 A := by
  refine x_body (own := RX6) (by decide +kernel) rfl gl (Nat.le_of_ble_eq_true rfl) (ls := [(0, .ref (ad 176)), (1, .int x0)]) rfl ?_
  intro p0 e s m args below meth c C
  have hR : (f_X6_requireMovement_n B x0) = (if x0 < 0 then 0 else (if x0 < (bi B 12 0) then (nm (f_X2_slot 12 B x0) (fun (r4 : Int32) => r4)) else 0)) := rfl
  have hok : ((x0 < 0 → False) ∧ (¬ x0 < 0 → ((x0 < (bi B 12 0) → ((ok_X2_slot 12 B x0))) ∧ (¬ x0 < (bi B 12 0) → False)))) := hok
  refine x_iload_n (pc := 0) (i := 1) C 1 dX6_requireMovement_0 rfl rfl ?_
  refine x_if_lt (pc := 1) (tgt := 18) C dX6_requireMovement_1 (by decide) (fun c1 => ?_) (fun c1 => ?_)
  · have hR := hR.trans (if_pos c1)
    have hok := hok.1 c1
    exact False.elim hok
  · have hR := hR.trans (if_neg c1)
    have hok := hok.2 c1
    refine x_iload_n (pc := 4) (i := 1) C 1 dX6_requireMovement_4 rfl rfl ?_
    refine x_aload_n (pc := 5) (i := 0) C 0 dX6_requireMovement_5 rfl rfl ?_
    refine x_get (pc := 6) (q := 176) (i := 0) C e_I rfl ttX6 (by decide) wd_2_30 rfl dX6_requireMovement_6 ?_
    refine x_get (pc := 9) (q := 0) (i := 2) C (e_L (by omega)) rfl ttX3 (by decide) wd_1_150 rfl dX6_requireMovement_9 ?_
    refine x_get (pc := 12) (q := 12) (i := 0) C (e_J (by omega)) rfl ttX2 (by decide) wd_1_125 rfl dX6_requireMovement_12 ?_
    refine x_icmp_lt (pc := 15) (tgt := 26) C dX6_requireMovement_15 (by decide) (fun c2 => ?_) (fun c2 => ?_)
    · have hR := hR.trans (if_pos c2)
      have hok := hok.1 c2
      refine x_aload_n (pc := 26) (i := 0) C 0 dX6_requireMovement_26 rfl rfl ?_
      refine x_get (pc := 27) (q := 176) (i := 0) C e_I rfl ttX6 (by decide) wd_2_30 rfl dX6_requireMovement_27 ?_
      refine x_get (pc := 30) (q := 0) (i := 2) C (e_L (by omega)) rfl ttX3 (by decide) wd_1_150 rfl dX6_requireMovement_30 ?_
      refine x_iload_n (pc := 33) (i := 1) C 1 dX6_requireMovement_33 rfl rfl ?_
      have h3 := hok
      refine x_cIV (pc := 34) (as := [.int x0]) (q := 12) C (c_X2_slot C.2.2.2.2.2.2.2.1 12 (by omega) B M O x0 h3) (fs := _) (e_J (by omega)) rfl cv_X2_slot cd_X2_slot wd_4_218 ⟨Nat.le_of_ble_eq_true rfl, Nat.le_of_ble_eq_true rfl⟩ ⟨Nat.le_of_ble_eq_true rfl, Nat.le_of_ble_eq_true rfl⟩ rfl rfl (Nat.le_of_ble_eq_true rfl) dX6_requireMovement_34 ?_
      refine x_nmI (fun r4 er4 => ?_)
      have hR := nmE hR er4
      exact x_iret (pc := 37) C rfl hR dX6_requireMovement_37
    · have hR := hR.trans (if_neg c2)
      have hok := hok.2 c2
      exact False.elim hok
set_option maxHeartbeats 4000000 in
set_option maxRecDepth 100000 in
theorem c_X6_transferAt {l : Launch} {A : Nat → Prop} {G : GT} {ad : Nat → Nat} (gl : Gl l A G ad)  (B : StB) (M : StM) (O : StO) (x0 : Int32) (hok : ok_X6_transferAt B x0) : TMet l yX6_transferAt (wof yX6_transferAt cX6_transferAt 2 (some .int)) (rmd 8 4 24) [.ref (ad 176), .int x0] G A ad B M O (f_X6_transferAt B x0) 4 24 := by
  refine xt_body (own := RX6) (by decide +kernel) rfl gl (Nat.le_of_ble_eq_true rfl) (ls := [(0, .ref (ad 176)), (1, .int x0)]) rfl ?_
  intro p0 e s m args below meth c hE C
  have hR : (f_X6_transferAt B x0) = (if x0 < 0 then (1, 0, B) else (if x0 < (bi B 6 0) then (nm (f_X5_idAt 6 B x0) (fun (r4 : Int32) => (0, r4, B))) else (1, 0, B))) := rfl
  have hok : ((x0 < 0 → True) ∧ (¬ x0 < 0 → ((x0 < (bi B 6 0) → ((ok_X5_idAt 6 B x0))) ∧ (¬ x0 < (bi B 6 0) → True)))) := hok
  refine x_iload_n (pc := 0) (i := 1) C 1 dX6_transferAt_0 rfl rfl ?_
  refine x_if_lt (pc := 1) (tgt := 18) C dX6_transferAt_1 (by decide) (fun c1 => ?_) (fun c1 => ?_)
  · have hR := hR.trans (if_pos c1)
    exact xt_throw (pc := 18) (k := 1) (ik := 194) (ic := 196) C hE hR (by decide) (by decide +kernel) thr_k1 thr_i1 thr_g1 thr_b1 thr_o1 dX6_transferAt_18 dX6_transferAt_21 dX6_transferAt_22 dX6_transferAt_25 (Nat.le_of_ble_eq_true rfl) (Nat.le_of_ble_eq_true rfl) ⟨Nat.le_of_ble_eq_true rfl, Nat.le_of_ble_eq_true rfl⟩ (Nat.le_of_ble_eq_true rfl) (Nat.le_of_ble_eq_true rfl)
  · have hR := hR.trans (if_neg c1)
    have hok := hok.2 c1
    refine x_iload_n (pc := 4) (i := 1) C 1 dX6_transferAt_4 rfl rfl ?_
    refine x_aload_n (pc := 5) (i := 0) C 0 dX6_transferAt_5 rfl rfl ?_
    refine x_get (pc := 6) (q := 176) (i := 0) C e_I rfl ttX6 (by decide) wd_2_30 rfl dX6_transferAt_6 ?_
    refine x_get (pc := 9) (q := 0) (i := 1) C (e_L (by omega)) rfl ttX3 (by decide) wd_1_148 rfl dX6_transferAt_9 ?_
    refine x_get (pc := 12) (q := 6) (i := 0) C (e_T (by omega)) rfl ttX5 (by decide) wd_1_87 rfl dX6_transferAt_12 ?_
    refine x_icmp_lt (pc := 15) (tgt := 26) C dX6_transferAt_15 (by decide) (fun c2 => ?_) (fun c2 => ?_)
    · have hR := hR.trans (if_pos c2)
      have hok := hok.1 c2
      refine x_aload_n (pc := 26) (i := 0) C 0 dX6_transferAt_26 rfl rfl ?_
      refine x_get (pc := 27) (q := 176) (i := 0) C e_I rfl ttX6 (by decide) wd_2_30 rfl dX6_transferAt_27 ?_
      refine x_get (pc := 30) (q := 0) (i := 1) C (e_L (by omega)) rfl ttX3 (by decide) wd_1_148 rfl dX6_transferAt_30 ?_
      refine x_iload_n (pc := 33) (i := 1) C 1 dX6_transferAt_33 rfl rfl ?_
      have h3 := hok
      refine x_cIV (pc := 34) (as := [.int x0]) (q := 6) C (c_X5_idAt C.2.2.2.2.2.2.2.1 6 (by omega) B M O x0 h3) (fs := _) (e_T (by omega)) rfl cv_X5_idAt cd_X5_idAt wd_4_127 ⟨Nat.le_of_ble_eq_true rfl, Nat.le_of_ble_eq_true rfl⟩ ⟨Nat.le_of_ble_eq_true rfl, Nat.le_of_ble_eq_true rfl⟩ rfl rfl (Nat.le_of_ble_eq_true rfl) dX6_transferAt_34 ?_
      refine x_nmI (fun r4 er4 => ?_)
      have hR := nmE hR er4
      exact xt_zret (pc := 37) C rfl rfl hR (Nat.le_of_ble_eq_true rfl) (Nat.le_of_ble_eq_true rfl) dX6_transferAt_37
    · have hR := hR.trans (if_neg c2)
      exact xt_throw (pc := 18) (k := 1) (ik := 194) (ic := 196) C hE hR (by decide) (by decide +kernel) thr_k1 thr_i1 thr_g1 thr_b1 thr_o1 dX6_transferAt_18 dX6_transferAt_21 dX6_transferAt_22 dX6_transferAt_25 (Nat.le_of_ble_eq_true rfl) (Nat.le_of_ble_eq_true rfl) ⟨Nat.le_of_ble_eq_true rfl, Nat.le_of_ble_eq_true rfl⟩ (Nat.le_of_ble_eq_true rfl) (Nat.le_of_ble_eq_true rfl)
set_option maxHeartbeats 4000000 in
set_option maxRecDepth 100000 in
theorem c_X6_transferAt_n {l : Launch} {A : Nat → Prop} {G : GT} {ad : Nat → Nat} (gl : Gl l A G ad)  (B : StB) (M : StM) (O : StO) (x0 : Int32) (hok : ok_X6_transferAt_n B x0) : Met l yX6_transferAt (wof yX6_transferAt cX6_transferAt 2 (some .int)) (rmd 3 0 0) (va_Pc [.ref (ad 176), .int x0] (PW G A ad B M O)) (QI G A ad (f_X6_transferAt_n B x0) B M O) 0 0 A := by
  refine x_body (own := RX6) (by decide +kernel) rfl gl (Nat.le_of_ble_eq_true rfl) (ls := [(0, .ref (ad 176)), (1, .int x0)]) rfl ?_
  intro p0 e s m args below meth c C
  have hR : (f_X6_transferAt_n B x0) = (if x0 < 0 then 0 else (if x0 < (bi B 6 0) then (nm (f_X5_idAt 6 B x0) (fun (r4 : Int32) => r4)) else 0)) := rfl
  have hok : ((x0 < 0 → False) ∧ (¬ x0 < 0 → ((x0 < (bi B 6 0) → ((ok_X5_idAt 6 B x0))) ∧ (¬ x0 < (bi B 6 0) → False)))) := hok
  refine x_iload_n (pc := 0) (i := 1) C 1 dX6_transferAt_0 rfl rfl ?_
  refine x_if_lt (pc := 1) (tgt := 18) C dX6_transferAt_1 (by decide) (fun c1 => ?_) (fun c1 => ?_)
  · have hR := hR.trans (if_pos c1)
    have hok := hok.1 c1
    exact False.elim hok
  · have hR := hR.trans (if_neg c1)
    have hok := hok.2 c1
    refine x_iload_n (pc := 4) (i := 1) C 1 dX6_transferAt_4 rfl rfl ?_
    refine x_aload_n (pc := 5) (i := 0) C 0 dX6_transferAt_5 rfl rfl ?_
    refine x_get (pc := 6) (q := 176) (i := 0) C e_I rfl ttX6 (by decide) wd_2_30 rfl dX6_transferAt_6 ?_
    refine x_get (pc := 9) (q := 0) (i := 1) C (e_L (by omega)) rfl ttX3 (by decide) wd_1_148 rfl dX6_transferAt_9 ?_
    refine x_get (pc := 12) (q := 6) (i := 0) C (e_T (by omega)) rfl ttX5 (by decide) wd_1_87 rfl dX6_transferAt_12 ?_
    refine x_icmp_lt (pc := 15) (tgt := 26) C dX6_transferAt_15 (by decide) (fun c2 => ?_) (fun c2 => ?_)
    · have hR := hR.trans (if_pos c2)
      have hok := hok.1 c2
      refine x_aload_n (pc := 26) (i := 0) C 0 dX6_transferAt_26 rfl rfl ?_
      refine x_get (pc := 27) (q := 176) (i := 0) C e_I rfl ttX6 (by decide) wd_2_30 rfl dX6_transferAt_27 ?_
      refine x_get (pc := 30) (q := 0) (i := 1) C (e_L (by omega)) rfl ttX3 (by decide) wd_1_148 rfl dX6_transferAt_30 ?_
      refine x_iload_n (pc := 33) (i := 1) C 1 dX6_transferAt_33 rfl rfl ?_
      have h3 := hok
      refine x_cIV (pc := 34) (as := [.int x0]) (q := 6) C (c_X5_idAt C.2.2.2.2.2.2.2.1 6 (by omega) B M O x0 h3) (fs := _) (e_T (by omega)) rfl cv_X5_idAt cd_X5_idAt wd_4_127 ⟨Nat.le_of_ble_eq_true rfl, Nat.le_of_ble_eq_true rfl⟩ ⟨Nat.le_of_ble_eq_true rfl, Nat.le_of_ble_eq_true rfl⟩ rfl rfl (Nat.le_of_ble_eq_true rfl) dX6_transferAt_34 ?_
      refine x_nmI (fun r4 er4 => ?_)
      have hR := nmE hR er4
      exact x_iret (pc := 37) C rfl hR dX6_transferAt_37
    · have hR := hR.trans (if_neg c2)
      have hok := hok.2 c2
      exact False.elim hok
set_option maxHeartbeats 4000000 in
set_option maxRecDepth 100000 in
theorem c_X6_balanceOf {l : Launch} {A : Nat → Prop} {G : GT} {ad : Nat → Nat} (gl : Gl l A G ad)  (B : StB) (M : StM) (O : StO) (x0 : Int32) (hok : ok_X6_balanceOf B x0) : TMet l yX6_balanceOf (wof yX6_balanceOf cX6_balanceOf 2 (some .int)) (rmd 13 4 24) [.ref (ad 176), .int x0] G A ad B M O (f_X6_balanceOf B x0) 4 24 := by
  refine xt_body (own := RX6) (by decide +kernel) rfl gl (Nat.le_of_ble_eq_true rfl) (ls := [(0, .ref (ad 176)), (1, .int x0)]) rfl ?_
  intro p0 e s m args below meth c hE C
  have hR : (f_X6_balanceOf B x0) = (nm (f_X6_requireAccount B x0) (fun (z1 : Nat × Int32 × StB) => (if z1.1 = 0 then (0, (ba z1.2.2 3 (ix x0)), z1.2.2) else (z1.1, 0, z1.2.2)))) := rfl
  have hok : (∀ z1 : Nat × Int32 × StB, z1 = (f_X6_requireAccount B x0) → z1.1 = 0 → (vp_in x0 8)) := hok
  refine x_aload_n (pc := 0) (i := 0) C 0 dX6_balanceOf_0 rfl rfl ?_
  refine x_iload_n (pc := 1) (i := 1) C 1 dX6_balanceOf_1 rfl rfl ?_
  refine xt_cVV (pc := 2) (as := [.int x0]) (q := 176) C hE (c_X6_requireAccount C.2.2.2.2.2.2.2.1  B M O x0) (fs := _) e_I rfl cv_X6_requireAccount cd_X6_requireAccount wd_4_148 ⟨Nat.le_of_ble_eq_true rfl, Nat.le_of_ble_eq_true rfl⟩ ⟨Nat.le_of_ble_eq_true rfl, Nat.le_of_ble_eq_true rfl⟩ ⟨Nat.le_of_ble_eq_true rfl, Nat.le_of_ble_eq_true rfl⟩ rfl rfl (Nat.le_of_ble_eq_true rfl) dX6_balanceOf_2 (fun z1 ez1 hz => (nmE hR ez1).trans (if_neg hz)) (fun z1 ez1 hzz1 => ?_)
  have hR := (nmE hR ez1).trans (if_pos hzz1)
  have hok := hok z1 ez1 hzz1
  refine x_aload_n (pc := 5) (i := 0) C 0 dX6_balanceOf_5 rfl rfl ?_
  refine x_get (pc := 6) (q := 176) (i := 0) C e_I rfl ttX6 (by decide) wd_2_30 rfl dX6_balanceOf_6 ?_
  refine x_get (pc := 9) (q := 0) (i := 0) C (e_L (by omega)) rfl ttX3 (by decide) wd_1_146 rfl dX6_balanceOf_9 ?_
  refine x_get (pc := 12) (q := 1) (i := 2) C (e_A (by omega)) rfl ttX0 (by decide) wd_1_60 rfl dX6_balanceOf_12 ?_
  refine x_iload_n (pc := 15) (i := 1) C 1 dX6_balanceOf_15 rfl rfl ?_
  have h2 := hok
  refine x_iald (pc := 16) (q := 3) C (e_Ab (by omega)) h2 dX6_balanceOf_16 ?_
  exact xt_zret (pc := 17) C rfl rfl hR (Nat.le_of_ble_eq_true rfl) (Nat.le_of_ble_eq_true rfl) dX6_balanceOf_17
set_option maxHeartbeats 4000000 in
set_option maxRecDepth 100000 in
theorem c_X6_balanceOf_n {l : Launch} {A : Nat → Prop} {G : GT} {ad : Nat → Nat} (gl : Gl l A G ad)  (B : StB) (M : StM) (O : StO) (x0 : Int32) (hok : ok_X6_balanceOf_n B x0) : Met l yX6_balanceOf (wof yX6_balanceOf cX6_balanceOf 2 (some .int)) (rmd 3 0 0) (va_Pc [.ref (ad 176), .int x0] (PW G A ad B M O)) (QI G A ad (f_X6_balanceOf_n B x0) B M O) 0 0 A := by
  refine x_body (own := RX6) (by decide +kernel) rfl gl (Nat.le_of_ble_eq_true rfl) (ls := [(0, .ref (ad 176)), (1, .int x0)]) rfl ?_
  intro p0 e s m args below meth c C
  have hR : (f_X6_balanceOf_n B x0) = (ba B 3 (ix x0)) := rfl
  have hok : ((ok_X6_requireAccount_n B x0) ∧ (vp_in x0 8)) := hok
  refine x_aload_n (pc := 0) (i := 0) C 0 dX6_balanceOf_0 rfl rfl ?_
  refine x_iload_n (pc := 1) (i := 1) C 1 dX6_balanceOf_1 rfl rfl ?_
  have h1 := hok.1
  have hok := hok.2
  refine x_cVV (pc := 2) (as := [.int x0]) (q := 176) C (c_X6_requireAccount_n C.2.2.2.2.2.2.2.1  B M O x0 h1) (fs := _) e_I rfl cv_X6_requireAccount cd_X6_requireAccount wd_4_148 ⟨Nat.le_of_ble_eq_true rfl, Nat.le_of_ble_eq_true rfl⟩ ⟨Nat.le_of_ble_eq_true rfl, Nat.le_of_ble_eq_true rfl⟩ rfl rfl (Nat.le_of_ble_eq_true rfl) dX6_balanceOf_2 ?_
  refine x_aload_n (pc := 5) (i := 0) C 0 dX6_balanceOf_5 rfl rfl ?_
  refine x_get (pc := 6) (q := 176) (i := 0) C e_I rfl ttX6 (by decide) wd_2_30 rfl dX6_balanceOf_6 ?_
  refine x_get (pc := 9) (q := 0) (i := 0) C (e_L (by omega)) rfl ttX3 (by decide) wd_1_146 rfl dX6_balanceOf_9 ?_
  refine x_get (pc := 12) (q := 1) (i := 2) C (e_A (by omega)) rfl ttX0 (by decide) wd_1_60 rfl dX6_balanceOf_12 ?_
  refine x_iload_n (pc := 15) (i := 1) C 1 dX6_balanceOf_15 rfl rfl ?_
  have h2 := hok
  refine x_iald (pc := 16) (q := 3) C (e_Ab (by omega)) h2 dX6_balanceOf_16 ?_
  exact x_iret (pc := 17) C rfl hR dX6_balanceOf_17
set_option maxHeartbeats 4000000 in
set_option maxRecDepth 100000 in
theorem c_X6_accountAtRank {l : Launch} {A : Nat → Prop} {G : GT} {ad : Nat → Nat} (gl : Gl l A G ad)  (B : StB) (M : StM) (O : StO) (x0 : Int32) (hok : ok_X6_accountAtRank B x0) : TMet l yX6_accountAtRank (wof yX6_accountAtRank cX6_accountAtRank 2 (some .int)) (rmd 8 4 24) [.ref (ad 176), .int x0] G A ad B M O (f_X6_accountAtRank B x0) 4 24 := by
  refine xt_body (own := RX6) (by decide +kernel) rfl gl (Nat.le_of_ble_eq_true rfl) (ls := [(0, .ref (ad 176)), (1, .int x0)]) rfl ?_
  intro p0 e s m args below meth c hE C
  have hR : (f_X6_accountAtRank B x0) = (nm (f_X0_has 1 B x0) (fun (r1 : Int32) => (if r1 = 0 then (5, 0, B) else (nm (f_X0_atRank 1 B x0) (fun (r4 : Int32) => (0, r4, B)))))) := rfl
  have hok : (∀ r1 : Int32, r1 = (f_X0_has 1 B x0) → ((r1 = 0 → True) ∧ (¬ r1 = 0 → ((ok_X0_atRank 1 B x0))))) := hok
  refine x_aload_n (pc := 0) (i := 0) C 0 dX6_accountAtRank_0 rfl rfl ?_
  refine x_get (pc := 1) (q := 176) (i := 0) C e_I rfl ttX6 (by decide) wd_2_30 rfl dX6_accountAtRank_1 ?_
  refine x_get (pc := 4) (q := 0) (i := 0) C (e_L (by omega)) rfl ttX3 (by decide) wd_1_146 rfl dX6_accountAtRank_4 ?_
  refine x_iload_n (pc := 7) (i := 1) C 1 dX6_accountAtRank_7 rfl rfl ?_
  refine x_cIV (pc := 8) (as := [.int x0]) (q := 1) C (c_X0_has C.2.2.2.2.2.2.2.1 1 (by omega) B M O x0) (fs := _) (e_A (by omega)) rfl cv_X0_has cd_X0_has wd_4_152 ⟨Nat.le_of_ble_eq_true rfl, Nat.le_of_ble_eq_true rfl⟩ ⟨Nat.le_of_ble_eq_true rfl, Nat.le_of_ble_eq_true rfl⟩ rfl rfl (Nat.le_of_ble_eq_true rfl) dX6_accountAtRank_8 ?_
  refine x_nmI (fun r1 er1 => ?_)
  have hR := nmE hR er1
  have hok := hok r1 er1
  refine x_if_ne (pc := 11) (tgt := 22) C dX6_accountAtRank_11 (by decide) (fun c2 => ?_) (fun c2 => ?_)
  · have hR := hR.trans (if_neg c2)
    have hok := hok.2 c2
    refine x_aload_n (pc := 22) (i := 0) C 0 dX6_accountAtRank_22 rfl rfl ?_
    refine x_get (pc := 23) (q := 176) (i := 0) C e_I rfl ttX6 (by decide) wd_2_30 rfl dX6_accountAtRank_23 ?_
    refine x_get (pc := 26) (q := 0) (i := 0) C (e_L (by omega)) rfl ttX3 (by decide) wd_1_146 rfl dX6_accountAtRank_26 ?_
    refine x_iload_n (pc := 29) (i := 1) C 1 dX6_accountAtRank_29 rfl rfl ?_
    have h3 := hok
    refine x_cIV (pc := 30) (as := [.int x0]) (q := 1) C (c_X0_atRank C.2.2.2.2.2.2.2.1 1 (by omega) B M O x0 h3) (fs := _) (e_A (by omega)) rfl cv_X0_atRank cd_X0_atRank wd_4_157 ⟨Nat.le_of_ble_eq_true rfl, Nat.le_of_ble_eq_true rfl⟩ ⟨Nat.le_of_ble_eq_true rfl, Nat.le_of_ble_eq_true rfl⟩ rfl rfl (Nat.le_of_ble_eq_true rfl) dX6_accountAtRank_30 ?_
    refine x_nmI (fun r4 er4 => ?_)
    have hR := nmE hR er4
    exact xt_zret (pc := 33) C rfl rfl hR (Nat.le_of_ble_eq_true rfl) (Nat.le_of_ble_eq_true rfl) dX6_accountAtRank_33
  · have hR := hR.trans (if_pos c2)
    exact xt_throw (pc := 14) (k := 5) (ik := 129) (ic := 131) C hE hR (by decide) (by decide +kernel) thr_k5 thr_i5 thr_g5 thr_b5 thr_o5 dX6_accountAtRank_14 dX6_accountAtRank_17 dX6_accountAtRank_18 dX6_accountAtRank_21 (Nat.le_of_ble_eq_true rfl) (Nat.le_of_ble_eq_true rfl) ⟨Nat.le_of_ble_eq_true rfl, Nat.le_of_ble_eq_true rfl⟩ (Nat.le_of_ble_eq_true rfl) (Nat.le_of_ble_eq_true rfl)
set_option maxHeartbeats 4000000 in
set_option maxRecDepth 100000 in
theorem c_X6_accountAtRank_n {l : Launch} {A : Nat → Prop} {G : GT} {ad : Nat → Nat} (gl : Gl l A G ad)  (B : StB) (M : StM) (O : StO) (x0 : Int32) (hok : ok_X6_accountAtRank_n B x0) : Met l yX6_accountAtRank (wof yX6_accountAtRank cX6_accountAtRank 2 (some .int)) (rmd 3 0 0) (va_Pc [.ref (ad 176), .int x0] (PW G A ad B M O)) (QI G A ad (f_X6_accountAtRank_n B x0) B M O) 0 0 A := by
  refine x_body (own := RX6) (by decide +kernel) rfl gl (Nat.le_of_ble_eq_true rfl) (ls := [(0, .ref (ad 176)), (1, .int x0)]) rfl ?_
  intro p0 e s m args below meth c C
  have hR : (f_X6_accountAtRank_n B x0) = (nm (f_X0_has 1 B x0) (fun (r1 : Int32) => (if r1 = 0 then 0 else (nm (f_X0_atRank 1 B x0) (fun (r4 : Int32) => r4))))) := rfl
  have hok : (∀ r1 : Int32, r1 = (f_X0_has 1 B x0) → ((r1 = 0 → False) ∧ (¬ r1 = 0 → ((ok_X0_atRank 1 B x0))))) := hok
  refine x_aload_n (pc := 0) (i := 0) C 0 dX6_accountAtRank_0 rfl rfl ?_
  refine x_get (pc := 1) (q := 176) (i := 0) C e_I rfl ttX6 (by decide) wd_2_30 rfl dX6_accountAtRank_1 ?_
  refine x_get (pc := 4) (q := 0) (i := 0) C (e_L (by omega)) rfl ttX3 (by decide) wd_1_146 rfl dX6_accountAtRank_4 ?_
  refine x_iload_n (pc := 7) (i := 1) C 1 dX6_accountAtRank_7 rfl rfl ?_
  refine x_cIV (pc := 8) (as := [.int x0]) (q := 1) C (c_X0_has C.2.2.2.2.2.2.2.1 1 (by omega) B M O x0) (fs := _) (e_A (by omega)) rfl cv_X0_has cd_X0_has wd_4_152 ⟨Nat.le_of_ble_eq_true rfl, Nat.le_of_ble_eq_true rfl⟩ ⟨Nat.le_of_ble_eq_true rfl, Nat.le_of_ble_eq_true rfl⟩ rfl rfl (Nat.le_of_ble_eq_true rfl) dX6_accountAtRank_8 ?_
  refine x_nmI (fun r1 er1 => ?_)
  have hR := nmE hR er1
  have hok := hok r1 er1
  refine x_if_ne (pc := 11) (tgt := 22) C dX6_accountAtRank_11 (by decide) (fun c2 => ?_) (fun c2 => ?_)
  · have hR := hR.trans (if_neg c2)
    have hok := hok.2 c2
    refine x_aload_n (pc := 22) (i := 0) C 0 dX6_accountAtRank_22 rfl rfl ?_
    refine x_get (pc := 23) (q := 176) (i := 0) C e_I rfl ttX6 (by decide) wd_2_30 rfl dX6_accountAtRank_23 ?_
    refine x_get (pc := 26) (q := 0) (i := 0) C (e_L (by omega)) rfl ttX3 (by decide) wd_1_146 rfl dX6_accountAtRank_26 ?_
    refine x_iload_n (pc := 29) (i := 1) C 1 dX6_accountAtRank_29 rfl rfl ?_
    have h3 := hok
    refine x_cIV (pc := 30) (as := [.int x0]) (q := 1) C (c_X0_atRank C.2.2.2.2.2.2.2.1 1 (by omega) B M O x0 h3) (fs := _) (e_A (by omega)) rfl cv_X0_atRank cd_X0_atRank wd_4_157 ⟨Nat.le_of_ble_eq_true rfl, Nat.le_of_ble_eq_true rfl⟩ ⟨Nat.le_of_ble_eq_true rfl, Nat.le_of_ble_eq_true rfl⟩ rfl rfl (Nat.le_of_ble_eq_true rfl) dX6_accountAtRank_30 ?_
    refine x_nmI (fun r4 er4 => ?_)
    have hR := nmE hR er4
    exact x_iret (pc := 33) C rfl hR dX6_accountAtRank_33
  · have hR := hR.trans (if_pos c2)
    have hok := hok.1 c2
    exact False.elim hok
set_option maxHeartbeats 4000000 in
set_option maxRecDepth 100000 in
theorem c_X6_amountOf {l : Launch} {A : Nat → Prop} {G : GT} {ad : Nat → Nat} (gl : Gl l A G ad)  (B : StB) (M : StM) (O : StO) (x0 : Int32) (hok : ok_X6_amountOf B x0) : TMet l yX6_amountOf (wof yX6_amountOf cX6_amountOf 2 (some .int)) (rmd 13 4 24) [.ref (ad 176), .int x0] G A ad B M O (f_X6_amountOf B x0) 4 24 := by
  refine xt_body (own := RX6) (by decide +kernel) rfl gl (Nat.le_of_ble_eq_true rfl) (ls := [(0, .ref (ad 176)), (1, .int x0)]) rfl ?_
  intro p0 e s m args below meth c hE C
  have hR : (f_X6_amountOf B x0) = (nm (f_X6_requireTransfer B x0) (fun (z2 : Nat × Int32 × StB) => (if z2.1 = 0 then (0, (ba z2.2.2 10 (ix z2.2.1)), z2.2.2) else (z2.1, 0, z2.2.2)))) := rfl
  have hok : ((ok_X6_requireTransfer B x0) ∧ (∀ z2 : Nat × Int32 × StB, z2 = (f_X6_requireTransfer B x0) → z2.1 = 0 → (vp_in z2.2.1 10))) := hok
  refine x_aload_n (pc := 0) (i := 0) C 0 dX6_amountOf_0 rfl rfl ?_
  refine x_get (pc := 1) (q := 176) (i := 0) C e_I rfl ttX6 (by decide) wd_2_30 rfl dX6_amountOf_1 ?_
  refine x_get (pc := 4) (q := 0) (i := 1) C (e_L (by omega)) rfl ttX3 (by decide) wd_1_148 rfl dX6_amountOf_4 ?_
  refine x_get (pc := 7) (q := 6) (i := 5) C (e_T (by omega)) rfl ttX5 (by decide) wd_1_99 rfl dX6_amountOf_7 ?_
  refine x_aload_n (pc := 10) (i := 0) C 0 dX6_amountOf_10 rfl rfl ?_
  refine x_iload_n (pc := 11) (i := 1) C 1 dX6_amountOf_11 rfl rfl ?_
  have h1 := hok.1
  have hok := hok.2
  refine xt_cIV (pc := 12) (as := [.int x0]) (q := 176) C hE (c_X6_requireTransfer C.2.2.2.2.2.2.2.1  B M O x0 h1) (fs := _) e_I rfl cv_X6_requireTransfer cd_X6_requireTransfer wd_4_177 ⟨Nat.le_of_ble_eq_true rfl, Nat.le_of_ble_eq_true rfl⟩ ⟨Nat.le_of_ble_eq_true rfl, Nat.le_of_ble_eq_true rfl⟩ ⟨Nat.le_of_ble_eq_true rfl, Nat.le_of_ble_eq_true rfl⟩ rfl rfl (Nat.le_of_ble_eq_true rfl) dX6_amountOf_12 (fun z2 ez2 hz => (nmE hR ez2).trans (if_neg hz)) (fun z2 ez2 hzz2 => ?_)
  have hR := (nmE hR ez2).trans (if_pos hzz2)
  have hok := hok z2 ez2 hzz2
  have h3 := hok
  refine x_iald (pc := 15) (q := 10) C (e_Ta (by omega)) h3 dX6_amountOf_15 ?_
  exact xt_zret (pc := 16) C rfl rfl hR (Nat.le_of_ble_eq_true rfl) (Nat.le_of_ble_eq_true rfl) dX6_amountOf_16
set_option maxHeartbeats 4000000 in
set_option maxRecDepth 100000 in
theorem c_X6_amountOf_n {l : Launch} {A : Nat → Prop} {G : GT} {ad : Nat → Nat} (gl : Gl l A G ad)  (B : StB) (M : StM) (O : StO) (x0 : Int32) (hok : ok_X6_amountOf_n B x0) : Met l yX6_amountOf (wof yX6_amountOf cX6_amountOf 2 (some .int)) (rmd 3 0 0) (va_Pc [.ref (ad 176), .int x0] (PW G A ad B M O)) (QI G A ad (f_X6_amountOf_n B x0) B M O) 0 0 A := by
  refine x_body (own := RX6) (by decide +kernel) rfl gl (Nat.le_of_ble_eq_true rfl) (ls := [(0, .ref (ad 176)), (1, .int x0)]) rfl ?_
  intro p0 e s m args below meth c C
  have hR : (f_X6_amountOf_n B x0) = (nm (f_X6_requireTransfer_n B x0) (fun (r2 : Int32) => (ba B 10 (ix r2)))) := rfl
  have hok : ((ok_X6_requireTransfer_n B x0) ∧ (∀ r2 : Int32, r2 = (f_X6_requireTransfer_n B x0) → (vp_in r2 10))) := hok
  refine x_aload_n (pc := 0) (i := 0) C 0 dX6_amountOf_0 rfl rfl ?_
  refine x_get (pc := 1) (q := 176) (i := 0) C e_I rfl ttX6 (by decide) wd_2_30 rfl dX6_amountOf_1 ?_
  refine x_get (pc := 4) (q := 0) (i := 1) C (e_L (by omega)) rfl ttX3 (by decide) wd_1_148 rfl dX6_amountOf_4 ?_
  refine x_get (pc := 7) (q := 6) (i := 5) C (e_T (by omega)) rfl ttX5 (by decide) wd_1_99 rfl dX6_amountOf_7 ?_
  refine x_aload_n (pc := 10) (i := 0) C 0 dX6_amountOf_10 rfl rfl ?_
  refine x_iload_n (pc := 11) (i := 1) C 1 dX6_amountOf_11 rfl rfl ?_
  have h1 := hok.1
  have hok := hok.2
  refine x_cIV (pc := 12) (as := [.int x0]) (q := 176) C (c_X6_requireTransfer_n C.2.2.2.2.2.2.2.1  B M O x0 h1) (fs := _) e_I rfl cv_X6_requireTransfer cd_X6_requireTransfer wd_4_177 ⟨Nat.le_of_ble_eq_true rfl, Nat.le_of_ble_eq_true rfl⟩ ⟨Nat.le_of_ble_eq_true rfl, Nat.le_of_ble_eq_true rfl⟩ rfl rfl (Nat.le_of_ble_eq_true rfl) dX6_amountOf_12 ?_
  refine x_nmI (fun r2 er2 => ?_)
  have hR := nmE hR er2
  have hok := hok r2 er2
  have h3 := hok
  refine x_iald (pc := 15) (q := 10) C (e_Ta (by omega)) h3 dX6_amountOf_15 ?_
  exact x_iret (pc := 16) C rfl hR dX6_amountOf_16
set_option maxHeartbeats 4000000 in
set_option maxRecDepth 100000 in
theorem c_X6_netOf {l : Launch} {A : Nat → Prop} {G : GT} {ad : Nat → Nat} (gl : Gl l A G ad)  (B : StB) (M : StM) (O : StO) (x0 : Int32) (hok : ok_X6_netOf B x0) : TMet l yX6_netOf (wof yX6_netOf cX6_netOf 2 (some .int)) (rmd 13 4 24) [.ref (ad 176), .int x0] G A ad B M O (f_X6_netOf B x0) 4 24 := by
  refine xt_body (own := RX6) (by decide +kernel) rfl gl (Nat.le_of_ble_eq_true rfl) (ls := [(0, .ref (ad 176)), (1, .int x0)]) rfl ?_
  intro p0 e s m args below meth c hE C
  have hR : (f_X6_netOf B x0) = (nm (f_X6_requireAccount B x0) (fun (z1 : Nat × Int32 × StB) => (if z1.1 = 0 then (nm (f_X5_net 6 z1.2.2 x0) (fun (r3 : Int32) => (0, r3, z1.2.2))) else (z1.1, 0, z1.2.2)))) := rfl
  have hok : (∀ z1 : Nat × Int32 × StB, z1 = (f_X6_requireAccount B x0) → z1.1 = 0 → ((ok_X5_net 6 z1.2.2 x0))) := hok
  refine x_aload_n (pc := 0) (i := 0) C 0 dX6_netOf_0 rfl rfl ?_
  refine x_iload_n (pc := 1) (i := 1) C 1 dX6_netOf_1 rfl rfl ?_
  refine xt_cVV (pc := 2) (as := [.int x0]) (q := 176) C hE (c_X6_requireAccount C.2.2.2.2.2.2.2.1  B M O x0) (fs := _) e_I rfl cv_X6_requireAccount cd_X6_requireAccount wd_4_148 ⟨Nat.le_of_ble_eq_true rfl, Nat.le_of_ble_eq_true rfl⟩ ⟨Nat.le_of_ble_eq_true rfl, Nat.le_of_ble_eq_true rfl⟩ ⟨Nat.le_of_ble_eq_true rfl, Nat.le_of_ble_eq_true rfl⟩ rfl rfl (Nat.le_of_ble_eq_true rfl) dX6_netOf_2 (fun z1 ez1 hz => (nmE hR ez1).trans (if_neg hz)) (fun z1 ez1 hzz1 => ?_)
  have hR := (nmE hR ez1).trans (if_pos hzz1)
  have hok := hok z1 ez1 hzz1
  refine x_aload_n (pc := 5) (i := 0) C 0 dX6_netOf_5 rfl rfl ?_
  refine x_get (pc := 6) (q := 176) (i := 0) C e_I rfl ttX6 (by decide) wd_2_30 rfl dX6_netOf_6 ?_
  refine x_get (pc := 9) (q := 0) (i := 1) C (e_L (by omega)) rfl ttX3 (by decide) wd_1_148 rfl dX6_netOf_9 ?_
  refine x_iload_n (pc := 12) (i := 1) C 1 dX6_netOf_12 rfl rfl ?_
  have h2 := hok
  refine x_cIV (pc := 13) (as := [.int x0]) (q := 6) C (c_X5_net C.2.2.2.2.2.2.2.1 6 (by omega) z1.2.2 M O x0 h2) (fs := _) (e_T (by omega)) rfl cv_X5_net cd_X5_net wd_4_198 ⟨Nat.le_of_ble_eq_true rfl, Nat.le_of_ble_eq_true rfl⟩ ⟨Nat.le_of_ble_eq_true rfl, Nat.le_of_ble_eq_true rfl⟩ rfl rfl (Nat.le_of_ble_eq_true rfl) dX6_netOf_13 ?_
  refine x_nmI (fun r3 er3 => ?_)
  have hR := nmE hR er3
  exact xt_zret (pc := 16) C rfl rfl hR (Nat.le_of_ble_eq_true rfl) (Nat.le_of_ble_eq_true rfl) dX6_netOf_16
set_option maxHeartbeats 4000000 in
set_option maxRecDepth 100000 in
theorem c_X6_netOf_n {l : Launch} {A : Nat → Prop} {G : GT} {ad : Nat → Nat} (gl : Gl l A G ad)  (B : StB) (M : StM) (O : StO) (x0 : Int32) (hok : ok_X6_netOf_n B x0) : Met l yX6_netOf (wof yX6_netOf cX6_netOf 2 (some .int)) (rmd 3 0 0) (va_Pc [.ref (ad 176), .int x0] (PW G A ad B M O)) (QI G A ad (f_X6_netOf_n B x0) B M O) 0 0 A := by
  refine x_body (own := RX6) (by decide +kernel) rfl gl (Nat.le_of_ble_eq_true rfl) (ls := [(0, .ref (ad 176)), (1, .int x0)]) rfl ?_
  intro p0 e s m args below meth c C
  have hR : (f_X6_netOf_n B x0) = (nm (f_X5_net 6 B x0) (fun (r3 : Int32) => r3)) := rfl
  have hok : ((ok_X6_requireAccount_n B x0) ∧ ((ok_X5_net 6 B x0))) := hok
  refine x_aload_n (pc := 0) (i := 0) C 0 dX6_netOf_0 rfl rfl ?_
  refine x_iload_n (pc := 1) (i := 1) C 1 dX6_netOf_1 rfl rfl ?_
  have h1 := hok.1
  have hok := hok.2
  refine x_cVV (pc := 2) (as := [.int x0]) (q := 176) C (c_X6_requireAccount_n C.2.2.2.2.2.2.2.1  B M O x0 h1) (fs := _) e_I rfl cv_X6_requireAccount cd_X6_requireAccount wd_4_148 ⟨Nat.le_of_ble_eq_true rfl, Nat.le_of_ble_eq_true rfl⟩ ⟨Nat.le_of_ble_eq_true rfl, Nat.le_of_ble_eq_true rfl⟩ rfl rfl (Nat.le_of_ble_eq_true rfl) dX6_netOf_2 ?_
  refine x_aload_n (pc := 5) (i := 0) C 0 dX6_netOf_5 rfl rfl ?_
  refine x_get (pc := 6) (q := 176) (i := 0) C e_I rfl ttX6 (by decide) wd_2_30 rfl dX6_netOf_6 ?_
  refine x_get (pc := 9) (q := 0) (i := 1) C (e_L (by omega)) rfl ttX3 (by decide) wd_1_148 rfl dX6_netOf_9 ?_
  refine x_iload_n (pc := 12) (i := 1) C 1 dX6_netOf_12 rfl rfl ?_
  have h2 := hok
  refine x_cIV (pc := 13) (as := [.int x0]) (q := 6) C (c_X5_net C.2.2.2.2.2.2.2.1 6 (by omega) B M O x0 h2) (fs := _) (e_T (by omega)) rfl cv_X5_net cd_X5_net wd_4_198 ⟨Nat.le_of_ble_eq_true rfl, Nat.le_of_ble_eq_true rfl⟩ ⟨Nat.le_of_ble_eq_true rfl, Nat.le_of_ble_eq_true rfl⟩ rfl rfl (Nat.le_of_ble_eq_true rfl) dX6_netOf_13 ?_
  refine x_nmI (fun r3 er3 => ?_)
  have hR := nmE hR er3
  exact x_iret (pc := 16) C rfl hR dX6_netOf_16
set_option maxHeartbeats 4000000 in
set_option maxRecDepth 100000 in
theorem c_X6_leadsTo {l : Launch} {A : Nat → Prop} {G : GT} {ad : Nat → Nat} (gl : Gl l A G ad)  (B : StB) (M : StM) (O : StO) (x0 : Int32) (x1 : Int32) (hok : ok_X6_leadsTo B x0 x1) : TMet l yX6_leadsTo (wof yX6_leadsTo cX6_leadsTo 3 (some .boolean)) (rmd 13 4 24) [.ref (ad 176), .int x0, .int x1] G A ad B M O (f_X6_leadsTo B x0 x1) 4 24 := by
  refine xt_body (own := RX6) (by decide +kernel) rfl gl (Nat.le_of_ble_eq_true rfl) (ls := [(0, .ref (ad 176)), (1, .int x0), (2, .int x1)]) rfl ?_
  intro p0 e s m args below meth c hE C
  have hR : (f_X6_leadsTo B x0 x1) = (nm (f_X6_requireAccount B x0) (fun (z1 : Nat × Int32 × StB) => (if z1.1 = 0 then (nm (f_X6_requireAccount z1.2.2 x1) (fun (z2 : Nat × Int32 × StB) => (if z2.1 = 0 then (nm (f_X5_connect 6 z2.2.2 x0 x1) (fun (r4 : Int32) => (0, r4, z2.2.2))) else (z2.1, 0, z2.2.2)))) else (z1.1, 0, z1.2.2)))) := rfl
  have hok : (∀ z1 : Nat × Int32 × StB, z1 = (f_X6_requireAccount B x0) → z1.1 = 0 → (∀ z2 : Nat × Int32 × StB, z2 = (f_X6_requireAccount z1.2.2 x1) → z2.1 = 0 → ((ok_X5_connect 6 z2.2.2 x0 x1) ∧ (∀ r4 : Int32, r4 = (f_X5_connect 6 z2.2.2 x0 x1) → (narrow .boolean (.int r4) = .int r4))))) := hok
  refine x_aload_n (pc := 0) (i := 0) C 0 dX6_leadsTo_0 rfl rfl ?_
  refine x_iload_n (pc := 1) (i := 1) C 1 dX6_leadsTo_1 rfl rfl ?_
  refine xt_cVV (pc := 2) (as := [.int x0]) (q := 176) C hE (c_X6_requireAccount C.2.2.2.2.2.2.2.1  B M O x0) (fs := _) e_I rfl cv_X6_requireAccount cd_X6_requireAccount wd_4_148 ⟨Nat.le_of_ble_eq_true rfl, Nat.le_of_ble_eq_true rfl⟩ ⟨Nat.le_of_ble_eq_true rfl, Nat.le_of_ble_eq_true rfl⟩ ⟨Nat.le_of_ble_eq_true rfl, Nat.le_of_ble_eq_true rfl⟩ rfl rfl (Nat.le_of_ble_eq_true rfl) dX6_leadsTo_2 (fun z1 ez1 hz => (nmE hR ez1).trans (if_neg hz)) (fun z1 ez1 hzz1 => ?_)
  have hR := (nmE hR ez1).trans (if_pos hzz1)
  have hok := hok z1 ez1 hzz1
  refine x_aload_n (pc := 5) (i := 0) C 0 dX6_leadsTo_5 rfl rfl ?_
  refine x_iload_n (pc := 6) (i := 2) C 2 dX6_leadsTo_6 rfl rfl ?_
  refine xt_cVV (pc := 7) (as := [.int x1]) (q := 176) C hE (c_X6_requireAccount C.2.2.2.2.2.2.2.1  z1.2.2 M O x1) (fs := _) e_I rfl cv_X6_requireAccount cd_X6_requireAccount wd_4_148 ⟨Nat.le_of_ble_eq_true rfl, Nat.le_of_ble_eq_true rfl⟩ ⟨Nat.le_of_ble_eq_true rfl, Nat.le_of_ble_eq_true rfl⟩ ⟨Nat.le_of_ble_eq_true rfl, Nat.le_of_ble_eq_true rfl⟩ rfl rfl (Nat.le_of_ble_eq_true rfl) dX6_leadsTo_7 (fun z2 ez2 hz => (nmE hR ez2).trans (if_neg hz)) (fun z2 ez2 hzz2 => ?_)
  have hR := (nmE hR ez2).trans (if_pos hzz2)
  have hok := hok z2 ez2 hzz2
  refine x_aload_n (pc := 10) (i := 0) C 0 dX6_leadsTo_10 rfl rfl ?_
  refine x_get (pc := 11) (q := 176) (i := 0) C e_I rfl ttX6 (by decide) wd_2_30 rfl dX6_leadsTo_11 ?_
  refine x_get (pc := 14) (q := 0) (i := 1) C (e_L (by omega)) rfl ttX3 (by decide) wd_1_148 rfl dX6_leadsTo_14 ?_
  refine x_iload_n (pc := 17) (i := 1) C 1 dX6_leadsTo_17 rfl rfl ?_
  refine x_iload_n (pc := 18) (i := 2) C 2 dX6_leadsTo_18 rfl rfl ?_
  have h3 := hok.1
  have hok := hok.2
  refine x_cIV (pc := 19) (as := [.int x0, .int x1]) (q := 6) C (c_X5_connect C.2.2.2.2.2.2.2.1 6 (by omega) z2.2.2 M O x0 x1 h3) (fs := _) (e_T (by omega)) rfl cv_X5_connect cd_X5_connect wd_4_206 ⟨Nat.le_of_ble_eq_true rfl, Nat.le_of_ble_eq_true rfl⟩ ⟨Nat.le_of_ble_eq_true rfl, Nat.le_of_ble_eq_true rfl⟩ rfl rfl (Nat.le_of_ble_eq_true rfl) dX6_leadsTo_19 ?_
  refine x_nmI (fun r4 er4 => ?_)
  have hR := nmE hR er4
  have hok := hok r4 er4
  have h5 := hok
  exact xt_zret (pc := 22) C rfl h5 hR (Nat.le_of_ble_eq_true rfl) (Nat.le_of_ble_eq_true rfl) dX6_leadsTo_22
set_option maxHeartbeats 4000000 in
set_option maxRecDepth 100000 in
theorem c_X6_leadsTo_n {l : Launch} {A : Nat → Prop} {G : GT} {ad : Nat → Nat} (gl : Gl l A G ad)  (B : StB) (M : StM) (O : StO) (x0 : Int32) (x1 : Int32) (hok : ok_X6_leadsTo_n B x0 x1) : Met l yX6_leadsTo (wof yX6_leadsTo cX6_leadsTo 3 (some .boolean)) (rmd 3 0 0) (va_Pc [.ref (ad 176), .int x0, .int x1] (PW G A ad B M O)) (QI G A ad (f_X6_leadsTo_n B x0 x1) B M O) 0 0 A := by
  refine x_body (own := RX6) (by decide +kernel) rfl gl (Nat.le_of_ble_eq_true rfl) (ls := [(0, .ref (ad 176)), (1, .int x0), (2, .int x1)]) rfl ?_
  intro p0 e s m args below meth c C
  have hR : (f_X6_leadsTo_n B x0 x1) = (nm (f_X5_connect 6 B x0 x1) (fun (r4 : Int32) => r4)) := rfl
  have hok : ((ok_X6_requireAccount_n B x0) ∧ ((ok_X6_requireAccount_n B x1) ∧ ((ok_X5_connect 6 B x0 x1) ∧ (∀ r4 : Int32, r4 = (f_X5_connect 6 B x0 x1) → (narrow .boolean (.int r4) = .int r4))))) := hok
  refine x_aload_n (pc := 0) (i := 0) C 0 dX6_leadsTo_0 rfl rfl ?_
  refine x_iload_n (pc := 1) (i := 1) C 1 dX6_leadsTo_1 rfl rfl ?_
  have h1 := hok.1
  have hok := hok.2
  refine x_cVV (pc := 2) (as := [.int x0]) (q := 176) C (c_X6_requireAccount_n C.2.2.2.2.2.2.2.1  B M O x0 h1) (fs := _) e_I rfl cv_X6_requireAccount cd_X6_requireAccount wd_4_148 ⟨Nat.le_of_ble_eq_true rfl, Nat.le_of_ble_eq_true rfl⟩ ⟨Nat.le_of_ble_eq_true rfl, Nat.le_of_ble_eq_true rfl⟩ rfl rfl (Nat.le_of_ble_eq_true rfl) dX6_leadsTo_2 ?_
  refine x_aload_n (pc := 5) (i := 0) C 0 dX6_leadsTo_5 rfl rfl ?_
  refine x_iload_n (pc := 6) (i := 2) C 2 dX6_leadsTo_6 rfl rfl ?_
  have h2 := hok.1
  have hok := hok.2
  refine x_cVV (pc := 7) (as := [.int x1]) (q := 176) C (c_X6_requireAccount_n C.2.2.2.2.2.2.2.1  B M O x1 h2) (fs := _) e_I rfl cv_X6_requireAccount cd_X6_requireAccount wd_4_148 ⟨Nat.le_of_ble_eq_true rfl, Nat.le_of_ble_eq_true rfl⟩ ⟨Nat.le_of_ble_eq_true rfl, Nat.le_of_ble_eq_true rfl⟩ rfl rfl (Nat.le_of_ble_eq_true rfl) dX6_leadsTo_7 ?_
  refine x_aload_n (pc := 10) (i := 0) C 0 dX6_leadsTo_10 rfl rfl ?_
  refine x_get (pc := 11) (q := 176) (i := 0) C e_I rfl ttX6 (by decide) wd_2_30 rfl dX6_leadsTo_11 ?_
  refine x_get (pc := 14) (q := 0) (i := 1) C (e_L (by omega)) rfl ttX3 (by decide) wd_1_148 rfl dX6_leadsTo_14 ?_
  refine x_iload_n (pc := 17) (i := 1) C 1 dX6_leadsTo_17 rfl rfl ?_
  refine x_iload_n (pc := 18) (i := 2) C 2 dX6_leadsTo_18 rfl rfl ?_
  have h3 := hok.1
  have hok := hok.2
  refine x_cIV (pc := 19) (as := [.int x0, .int x1]) (q := 6) C (c_X5_connect C.2.2.2.2.2.2.2.1 6 (by omega) B M O x0 x1 h3) (fs := _) (e_T (by omega)) rfl cv_X5_connect cd_X5_connect wd_4_206 ⟨Nat.le_of_ble_eq_true rfl, Nat.le_of_ble_eq_true rfl⟩ ⟨Nat.le_of_ble_eq_true rfl, Nat.le_of_ble_eq_true rfl⟩ rfl rfl (Nat.le_of_ble_eq_true rfl) dX6_leadsTo_19 ?_
  refine x_nmI (fun r4 er4 => ?_)
  have hR := nmE hR er4
  have hok := hok r4 er4
  have h5 := hok
  exact x_zret (pc := 22) C rfl h5 hR dX6_leadsTo_22
set_option maxHeartbeats 4000000 in
set_option maxRecDepth 100000 in
theorem c_X6_daysUntilDue {l : Launch} {A : Nat → Prop} {G : GT} {ad : Nat → Nat} (gl : Gl l A G ad)  (B : StB) (M : StM) (O : StO) (x0 : Int32) (hok : ok_X6_daysUntilDue B x0) : TMet l yX6_daysUntilDue (wof yX6_daysUntilDue cX6_daysUntilDue 2 (some .int)) (rmd 13 4 24) [.ref (ad 176), .int x0] G A ad B M O (f_X6_daysUntilDue B x0) 4 24 := by
  refine xt_body (own := RX6) (by decide +kernel) rfl gl (Nat.le_of_ble_eq_true rfl) (ls := [(0, .ref (ad 176)), (1, .int x0)]) rfl ?_
  intro p0 e s m args below meth c hE C
  have hR : (f_X6_daysUntilDue B x0) = (nm (f_X6_requireTransfer B x0) (fun (z2 : Nat × Int32 × StB) => (if z2.1 = 0 then (0, ((ba z2.2.2 11 (ix z2.2.1)) - (bi z2.2.2 0 3)), z2.2.2) else (z2.1, 0, z2.2.2)))) := rfl
  have hok : ((ok_X6_requireTransfer B x0) ∧ (∀ z2 : Nat × Int32 × StB, z2 = (f_X6_requireTransfer B x0) → z2.1 = 0 → (vp_in z2.2.1 10))) := hok
  refine x_aload_n (pc := 0) (i := 0) C 0 dX6_daysUntilDue_0 rfl rfl ?_
  refine x_get (pc := 1) (q := 176) (i := 0) C e_I rfl ttX6 (by decide) wd_2_30 rfl dX6_daysUntilDue_1 ?_
  refine x_get (pc := 4) (q := 0) (i := 1) C (e_L (by omega)) rfl ttX3 (by decide) wd_1_148 rfl dX6_daysUntilDue_4 ?_
  refine x_get (pc := 7) (q := 6) (i := 6) C (e_T (by omega)) rfl ttX5 (by decide) wd_1_102 rfl dX6_daysUntilDue_7 ?_
  refine x_aload_n (pc := 10) (i := 0) C 0 dX6_daysUntilDue_10 rfl rfl ?_
  refine x_iload_n (pc := 11) (i := 1) C 1 dX6_daysUntilDue_11 rfl rfl ?_
  have h1 := hok.1
  have hok := hok.2
  refine xt_cIV (pc := 12) (as := [.int x0]) (q := 176) C hE (c_X6_requireTransfer C.2.2.2.2.2.2.2.1  B M O x0 h1) (fs := _) e_I rfl cv_X6_requireTransfer cd_X6_requireTransfer wd_4_177 ⟨Nat.le_of_ble_eq_true rfl, Nat.le_of_ble_eq_true rfl⟩ ⟨Nat.le_of_ble_eq_true rfl, Nat.le_of_ble_eq_true rfl⟩ ⟨Nat.le_of_ble_eq_true rfl, Nat.le_of_ble_eq_true rfl⟩ rfl rfl (Nat.le_of_ble_eq_true rfl) dX6_daysUntilDue_12 (fun z2 ez2 hz => (nmE hR ez2).trans (if_neg hz)) (fun z2 ez2 hzz2 => ?_)
  have hR := (nmE hR ez2).trans (if_pos hzz2)
  have hok := hok z2 ez2 hzz2
  have h3 := hok
  refine x_iald (pc := 15) (q := 11) C (e_Td (by omega)) h3 dX6_daysUntilDue_15 ?_
  refine x_aload_n (pc := 16) (i := 0) C 0 dX6_daysUntilDue_16 rfl rfl ?_
  refine x_get (pc := 17) (q := 176) (i := 0) C e_I rfl ttX6 (by decide) wd_2_30 rfl dX6_daysUntilDue_17 ?_
  refine x_get (pc := 20) (q := 0) (i := 3) C (e_L (by omega)) rfl ttX3 (by decide) wd_1_152 rfl dX6_daysUntilDue_20 ?_
  refine x_isub (pc := 23) C dX6_daysUntilDue_23 ?_
  exact xt_zret (pc := 24) C rfl rfl hR (Nat.le_of_ble_eq_true rfl) (Nat.le_of_ble_eq_true rfl) dX6_daysUntilDue_24
set_option maxHeartbeats 4000000 in
set_option maxRecDepth 100000 in
theorem c_X6_daysUntilDue_n {l : Launch} {A : Nat → Prop} {G : GT} {ad : Nat → Nat} (gl : Gl l A G ad)  (B : StB) (M : StM) (O : StO) (x0 : Int32) (hok : ok_X6_daysUntilDue_n B x0) : Met l yX6_daysUntilDue (wof yX6_daysUntilDue cX6_daysUntilDue 2 (some .int)) (rmd 3 0 0) (va_Pc [.ref (ad 176), .int x0] (PW G A ad B M O)) (QI G A ad (f_X6_daysUntilDue_n B x0) B M O) 0 0 A := by
  refine x_body (own := RX6) (by decide +kernel) rfl gl (Nat.le_of_ble_eq_true rfl) (ls := [(0, .ref (ad 176)), (1, .int x0)]) rfl ?_
  intro p0 e s m args below meth c C
  have hR : (f_X6_daysUntilDue_n B x0) = (nm (f_X6_requireTransfer_n B x0) (fun (r2 : Int32) => ((ba B 11 (ix r2)) - (bi B 0 3)))) := rfl
  have hok : ((ok_X6_requireTransfer_n B x0) ∧ (∀ r2 : Int32, r2 = (f_X6_requireTransfer_n B x0) → (vp_in r2 10))) := hok
  refine x_aload_n (pc := 0) (i := 0) C 0 dX6_daysUntilDue_0 rfl rfl ?_
  refine x_get (pc := 1) (q := 176) (i := 0) C e_I rfl ttX6 (by decide) wd_2_30 rfl dX6_daysUntilDue_1 ?_
  refine x_get (pc := 4) (q := 0) (i := 1) C (e_L (by omega)) rfl ttX3 (by decide) wd_1_148 rfl dX6_daysUntilDue_4 ?_
  refine x_get (pc := 7) (q := 6) (i := 6) C (e_T (by omega)) rfl ttX5 (by decide) wd_1_102 rfl dX6_daysUntilDue_7 ?_
  refine x_aload_n (pc := 10) (i := 0) C 0 dX6_daysUntilDue_10 rfl rfl ?_
  refine x_iload_n (pc := 11) (i := 1) C 1 dX6_daysUntilDue_11 rfl rfl ?_
  have h1 := hok.1
  have hok := hok.2
  refine x_cIV (pc := 12) (as := [.int x0]) (q := 176) C (c_X6_requireTransfer_n C.2.2.2.2.2.2.2.1  B M O x0 h1) (fs := _) e_I rfl cv_X6_requireTransfer cd_X6_requireTransfer wd_4_177 ⟨Nat.le_of_ble_eq_true rfl, Nat.le_of_ble_eq_true rfl⟩ ⟨Nat.le_of_ble_eq_true rfl, Nat.le_of_ble_eq_true rfl⟩ rfl rfl (Nat.le_of_ble_eq_true rfl) dX6_daysUntilDue_12 ?_
  refine x_nmI (fun r2 er2 => ?_)
  have hR := nmE hR er2
  have hok := hok r2 er2
  have h3 := hok
  refine x_iald (pc := 15) (q := 11) C (e_Td (by omega)) h3 dX6_daysUntilDue_15 ?_
  refine x_aload_n (pc := 16) (i := 0) C 0 dX6_daysUntilDue_16 rfl rfl ?_
  refine x_get (pc := 17) (q := 176) (i := 0) C e_I rfl ttX6 (by decide) wd_2_30 rfl dX6_daysUntilDue_17 ?_
  refine x_get (pc := 20) (q := 0) (i := 3) C (e_L (by omega)) rfl ttX3 (by decide) wd_1_152 rfl dX6_daysUntilDue_20 ?_
  refine x_isub (pc := 23) C dX6_daysUntilDue_23 ?_
  exact x_iret (pc := 24) C rfl hR dX6_daysUntilDue_24
set_option maxHeartbeats 4000000 in
set_option maxRecDepth 100000 in
theorem c_X6_limitOf_n {l : Launch} {A : Nat → Prop} {G : GT} {ad : Nat → Nat} (gl : Gl l A G ad)  (B : StB) (M : StM) (O : StO) (x0 : Int32) (hok : ok_X6_limitOf_n B x0) : Met l yX6_limitOf (wof yX6_limitOf cX6_limitOf 2 (some .int)) (rmd 3 0 0) (va_Pc [.ref (ad 176), .int x0] (PW G A ad B M O)) (QI G A ad (f_X6_limitOf_n B x0) B M O) 0 0 A := by
  refine x_body (own := RX6) (by decide +kernel) rfl gl (Nat.le_of_ble_eq_true rfl) (ls := [(0, .ref (ad 176)), (1, .int x0)]) rfl ?_
  intro p0 e s m args below meth c C
  have hR : (f_X6_limitOf_n B x0) = (ba B 4 (ix x0)) := rfl
  have hok : ((ok_X6_requireAccount_n B x0) ∧ (vp_in x0 8)) := hok
  refine x_aload_n (pc := 0) (i := 0) C 0 dX6_limitOf_0 rfl rfl ?_
  refine x_iload_n (pc := 1) (i := 1) C 1 dX6_limitOf_1 rfl rfl ?_
  have h1 := hok.1
  have hok := hok.2
  refine x_cVV (pc := 2) (as := [.int x0]) (q := 176) C (c_X6_requireAccount_n C.2.2.2.2.2.2.2.1  B M O x0 h1) (fs := _) e_I rfl cv_X6_requireAccount cd_X6_requireAccount wd_4_148 ⟨Nat.le_of_ble_eq_true rfl, Nat.le_of_ble_eq_true rfl⟩ ⟨Nat.le_of_ble_eq_true rfl, Nat.le_of_ble_eq_true rfl⟩ rfl rfl (Nat.le_of_ble_eq_true rfl) dX6_limitOf_2 ?_
  refine x_aload_n (pc := 5) (i := 0) C 0 dX6_limitOf_5 rfl rfl ?_
  refine x_get (pc := 6) (q := 176) (i := 0) C e_I rfl ttX6 (by decide) wd_2_30 rfl dX6_limitOf_6 ?_
  refine x_get (pc := 9) (q := 0) (i := 0) C (e_L (by omega)) rfl ttX3 (by decide) wd_1_146 rfl dX6_limitOf_9 ?_
  refine x_get (pc := 12) (q := 1) (i := 3) C (e_A (by omega)) rfl ttX0 (by decide) wd_1_62 rfl dX6_limitOf_12 ?_
  refine x_iload_n (pc := 15) (i := 1) C 1 dX6_limitOf_15 rfl rfl ?_
  have h2 := hok
  refine x_iald (pc := 16) (q := 4) C (e_Al (by omega)) h2 dX6_limitOf_16 ?_
  exact x_iret (pc := 17) C rfl hR dX6_limitOf_17
set_option maxHeartbeats 4000000 in
set_option maxRecDepth 100000 in
theorem c_X6_kindOf_n {l : Launch} {A : Nat → Prop} {G : GT} {ad : Nat → Nat} (gl : Gl l A G ad)  (B : StB) (M : StM) (O : StO) (x0 : Int32) (hok : ok_X6_kindOf_n B x0) : Met l yX6_kindOf (wof yX6_kindOf cX6_kindOf 2 (some .int)) (rmd 3 0 0) (va_Pc [.ref (ad 176), .int x0] (PW G A ad B M O)) (QI G A ad (f_X6_kindOf_n B x0) B M O) 0 0 A := by
  refine x_body (own := RX6) (by decide +kernel) rfl gl (Nat.le_of_ble_eq_true rfl) (ls := [(0, .ref (ad 176)), (1, .int x0)]) rfl ?_
  intro p0 e s m args below meth c C
  have hR : (f_X6_kindOf_n B x0) = (ba B 2 (ix x0)) := rfl
  have hok : ((ok_X6_requireAccount_n B x0) ∧ (vp_in x0 8)) := hok
  refine x_aload_n (pc := 0) (i := 0) C 0 dX6_kindOf_0 rfl rfl ?_
  refine x_iload_n (pc := 1) (i := 1) C 1 dX6_kindOf_1 rfl rfl ?_
  have h1 := hok.1
  have hok := hok.2
  refine x_cVV (pc := 2) (as := [.int x0]) (q := 176) C (c_X6_requireAccount_n C.2.2.2.2.2.2.2.1  B M O x0 h1) (fs := _) e_I rfl cv_X6_requireAccount cd_X6_requireAccount wd_4_148 ⟨Nat.le_of_ble_eq_true rfl, Nat.le_of_ble_eq_true rfl⟩ ⟨Nat.le_of_ble_eq_true rfl, Nat.le_of_ble_eq_true rfl⟩ rfl rfl (Nat.le_of_ble_eq_true rfl) dX6_kindOf_2 ?_
  refine x_aload_n (pc := 5) (i := 0) C 0 dX6_kindOf_5 rfl rfl ?_
  refine x_get (pc := 6) (q := 176) (i := 0) C e_I rfl ttX6 (by decide) wd_2_30 rfl dX6_kindOf_6 ?_
  refine x_get (pc := 9) (q := 0) (i := 0) C (e_L (by omega)) rfl ttX3 (by decide) wd_1_146 rfl dX6_kindOf_9 ?_
  refine x_get (pc := 12) (q := 1) (i := 1) C (e_A (by omega)) rfl ttX0 (by decide) wd_1_56 rfl dX6_kindOf_12 ?_
  refine x_iload_n (pc := 15) (i := 1) C 1 dX6_kindOf_15 rfl rfl ?_
  have h2 := hok
  refine x_iald (pc := 16) (q := 2) C (e_Ak (by omega)) h2 dX6_kindOf_16 ?_
  exact x_iret (pc := 17) C rfl hR dX6_kindOf_17
set_option maxHeartbeats 4000000 in
set_option maxRecDepth 100000 in
theorem c_X6_availableIn_n {l : Launch} {A : Nat → Prop} {G : GT} {ad : Nat → Nat} (gl : Gl l A G ad)  (B : StB) (M : StM) (O : StO) (x0 : Int32) (hok : ok_X6_availableIn_n B x0) : Met l yX6_availableIn (wof yX6_availableIn cX6_availableIn 2 (some .int)) (rmd 3 0 0) (va_Pc [.ref (ad 176), .int x0] (PW G A ad B M O)) (QI G A ad (f_X6_availableIn_n B x0) B M O) 0 0 A := by
  refine x_body (own := RX6) (by decide +kernel) rfl gl (Nat.le_of_ble_eq_true rfl) (ls := [(0, .ref (ad 176)), (1, .int x0)]) rfl ?_
  intro p0 e s m args below meth c C
  have hR : (f_X6_availableIn_n B x0) = (nm (f_X0_available 1 B x0) (fun (r3 : Int32) => r3)) := rfl
  have hok : ((ok_X6_requireAccount_n B x0) ∧ ((ok_X0_available 1 B x0))) := hok
  refine x_aload_n (pc := 0) (i := 0) C 0 dX6_availableIn_0 rfl rfl ?_
  refine x_iload_n (pc := 1) (i := 1) C 1 dX6_availableIn_1 rfl rfl ?_
  have h1 := hok.1
  have hok := hok.2
  refine x_cVV (pc := 2) (as := [.int x0]) (q := 176) C (c_X6_requireAccount_n C.2.2.2.2.2.2.2.1  B M O x0 h1) (fs := _) e_I rfl cv_X6_requireAccount cd_X6_requireAccount wd_4_148 ⟨Nat.le_of_ble_eq_true rfl, Nat.le_of_ble_eq_true rfl⟩ ⟨Nat.le_of_ble_eq_true rfl, Nat.le_of_ble_eq_true rfl⟩ rfl rfl (Nat.le_of_ble_eq_true rfl) dX6_availableIn_2 ?_
  refine x_aload_n (pc := 5) (i := 0) C 0 dX6_availableIn_5 rfl rfl ?_
  refine x_get (pc := 6) (q := 176) (i := 0) C e_I rfl ttX6 (by decide) wd_2_30 rfl dX6_availableIn_6 ?_
  refine x_get (pc := 9) (q := 0) (i := 0) C (e_L (by omega)) rfl ttX3 (by decide) wd_1_146 rfl dX6_availableIn_9 ?_
  refine x_iload_n (pc := 12) (i := 1) C 1 dX6_availableIn_12 rfl rfl ?_
  have h2 := hok
  refine x_cIV (pc := 13) (as := [.int x0]) (q := 1) C (c_X0_available C.2.2.2.2.2.2.2.1 1 (by omega) B M O x0 h2) (fs := _) (e_A (by omega)) rfl cv_X0_available cd_X0_available wd_5_10 ⟨Nat.le_of_ble_eq_true rfl, Nat.le_of_ble_eq_true rfl⟩ ⟨Nat.le_of_ble_eq_true rfl, Nat.le_of_ble_eq_true rfl⟩ rfl rfl (Nat.le_of_ble_eq_true rfl) dX6_availableIn_13 ?_
  refine x_nmI (fun r3 er3 => ?_)
  have hR := nmE hR er3
  exact x_iret (pc := 16) C rfl hR dX6_availableIn_16
set_option maxHeartbeats 4000000 in
set_option maxRecDepth 100000 in
theorem c_X6_interestOf_n {l : Launch} {A : Nat → Prop} {G : GT} {ad : Nat → Nat} (gl : Gl l A G ad)  (B : StB) (M : StM) (O : StO) (x0 : Int32) (hok : ok_X6_interestOf_n B x0) : Met l yX6_interestOf (wof yX6_interestOf cX6_interestOf 2 (some .int)) (rmd 4 0 0) (va_Pc [.ref (ad 176), .int x0] (PW G A ad B M O)) (QI G A ad (f_X6_interestOf_n B x0) B M O) 0 0 A := by
  refine x_body (own := RX6) (by decide +kernel) rfl gl (Nat.le_of_ble_eq_true rfl) (ls := [(0, .ref (ad 176)), (1, .int x0)]) rfl ?_
  intro p0 e s m args below meth c C
  have hR : (f_X6_interestOf_n B x0) = (nm (f_X0_interest 1 B x0) (fun (r3 : Int32) => r3)) := rfl
  have hok : ((ok_X6_requireAccount_n B x0) ∧ ((ok_X0_interest 1 B x0))) := hok
  refine x_aload_n (pc := 0) (i := 0) C 0 dX6_interestOf_0 rfl rfl ?_
  refine x_iload_n (pc := 1) (i := 1) C 1 dX6_interestOf_1 rfl rfl ?_
  have h1 := hok.1
  have hok := hok.2
  refine x_cVV (pc := 2) (as := [.int x0]) (q := 176) C (c_X6_requireAccount_n C.2.2.2.2.2.2.2.1  B M O x0 h1) (fs := _) e_I rfl cv_X6_requireAccount cd_X6_requireAccount wd_4_148 ⟨Nat.le_of_ble_eq_true rfl, Nat.le_of_ble_eq_true rfl⟩ ⟨Nat.le_of_ble_eq_true rfl, Nat.le_of_ble_eq_true rfl⟩ rfl rfl (Nat.le_of_ble_eq_true rfl) dX6_interestOf_2 ?_
  refine x_aload_n (pc := 5) (i := 0) C 0 dX6_interestOf_5 rfl rfl ?_
  refine x_get (pc := 6) (q := 176) (i := 0) C e_I rfl ttX6 (by decide) wd_2_30 rfl dX6_interestOf_6 ?_
  refine x_get (pc := 9) (q := 0) (i := 0) C (e_L (by omega)) rfl ttX3 (by decide) wd_1_146 rfl dX6_interestOf_9 ?_
  refine x_iload_n (pc := 12) (i := 1) C 1 dX6_interestOf_12 rfl rfl ?_
  have h2 := hok
  refine x_cIV (pc := 13) (as := [.int x0]) (q := 1) C (c_X0_interest C.2.2.2.2.2.2.2.1 1 (by omega) B M O x0 h2) (fs := _) (e_A (by omega)) rfl cv_X0_interest cd_X0_interest wd_5_15 ⟨Nat.le_of_ble_eq_true rfl, Nat.le_of_ble_eq_true rfl⟩ ⟨Nat.le_of_ble_eq_true rfl, Nat.le_of_ble_eq_true rfl⟩ rfl rfl (Nat.le_of_ble_eq_true rfl) dX6_interestOf_13 ?_
  refine x_nmI (fun r3 er3 => ?_)
  have hR := nmE hR er3
  exact x_iret (pc := 16) C rfl hR dX6_interestOf_16
set_option maxHeartbeats 4000000 in
set_option maxRecDepth 100000 in
theorem c_X6_wasTouched_n {l : Launch} {A : Nat → Prop} {G : GT} {ad : Nat → Nat} (gl : Gl l A G ad)  (B : StB) (M : StM) (O : StO) (x0 : Int32) (hok : ok_X6_wasTouched_n B x0) : Met l yX6_wasTouched (wof yX6_wasTouched cX6_wasTouched 2 (some .boolean)) (rmd 3 0 0) (va_Pc [.ref (ad 176), .int x0] (PW G A ad B M O)) (QI G A ad (f_X6_wasTouched_n B x0) B M O) 0 0 A := by
  refine x_body (own := RX6) (by decide +kernel) rfl gl (Nat.le_of_ble_eq_true rfl) (ls := [(0, .ref (ad 176)), (1, .int x0)]) rfl ?_
  intro p0 e s m args below meth c C
  have hR : (f_X6_wasTouched_n B x0) = (ba B 5 (ix x0)) := rfl
  have hok : ((ok_X6_requireAccount_n B x0) ∧ (vp_in x0 8 ∧ (narrow .boolean (.int (ba B 5 (ix x0))) = .int (ba B 5 (ix x0))))) := hok
  refine x_aload_n (pc := 0) (i := 0) C 0 dX6_wasTouched_0 rfl rfl ?_
  refine x_iload_n (pc := 1) (i := 1) C 1 dX6_wasTouched_1 rfl rfl ?_
  have h1 := hok.1
  have hok := hok.2
  refine x_cVV (pc := 2) (as := [.int x0]) (q := 176) C (c_X6_requireAccount_n C.2.2.2.2.2.2.2.1  B M O x0 h1) (fs := _) e_I rfl cv_X6_requireAccount cd_X6_requireAccount wd_4_148 ⟨Nat.le_of_ble_eq_true rfl, Nat.le_of_ble_eq_true rfl⟩ ⟨Nat.le_of_ble_eq_true rfl, Nat.le_of_ble_eq_true rfl⟩ rfl rfl (Nat.le_of_ble_eq_true rfl) dX6_wasTouched_2 ?_
  refine x_aload_n (pc := 5) (i := 0) C 0 dX6_wasTouched_5 rfl rfl ?_
  refine x_get (pc := 6) (q := 176) (i := 0) C e_I rfl ttX6 (by decide) wd_2_30 rfl dX6_wasTouched_6 ?_
  refine x_get (pc := 9) (q := 0) (i := 0) C (e_L (by omega)) rfl ttX3 (by decide) wd_1_146 rfl dX6_wasTouched_9 ?_
  refine x_get (pc := 12) (q := 1) (i := 4) C (e_A (by omega)) rfl ttX0 (by decide) wd_1_65 rfl dX6_wasTouched_12 ?_
  refine x_iload_n (pc := 15) (i := 1) C 1 dX6_wasTouched_15 rfl rfl ?_
  have h2 := hok.1
  have hok := hok.2
  refine x_zald (pc := 16) (q := 5) C (e_At (by omega)) h2 dX6_wasTouched_16 ?_
  have h3 := hok
  exact x_zret (pc := 17) C rfl h3 hR dX6_wasTouched_17
set_option maxHeartbeats 4000000 in
set_option maxRecDepth 100000 in
theorem c_X6_statementAt_n {l : Launch} {A : Nat → Prop} {G : GT} {ad : Nat → Nat} (gl : Gl l A G ad)  (B : StB) (M : StM) (O : StO) (x0 : Int32) (hok : ok_X6_statementAt_n B x0) : Met l yX6_statementAt (wof yX6_statementAt cX6_statementAt 2 (some .char)) (rmd 5 0 0) (va_Pc [.ref (ad 176), .int x0] (PW G A ad B M O)) (QI G A ad (f_X6_statementAt_n B x0) B M O) 0 0 A := by
  refine x_body (own := RX6) (by decide +kernel) rfl gl (Nat.le_of_ble_eq_true rfl) (ls := [(0, .ref (ad 176)), (1, .int x0)]) rfl ?_
  intro p0 e s m args below meth c C
  have hR : (f_X6_statementAt_n B x0) = (if x0 < 0 then 0 else (nm (f_J4_length_8abf5 B) (fun (r2 : Int32) => (if x0 < r2 then (nm (f_J4_charAt_5068e B x0) (fun (r5 : Int32) => r5)) else 0)))) := rfl
  have hok : ((x0 < 0 → False) ∧ (¬ x0 < 0 → (∀ r2 : Int32, r2 = (f_J4_length_8abf5 B) → ((x0 < r2 → ((ok_J4_charAt_5068e B x0) ∧ (∀ r5 : Int32, r5 = (f_J4_charAt_5068e B x0) → (narrow .char (.int r5) = .int r5)))) ∧ (¬ x0 < r2 → False))))) := hok
  refine x_iload_n (pc := 0) (i := 1) C 1 dX6_statementAt_0 rfl rfl ?_
  refine x_if_lt (pc := 1) (tgt := 15) C dX6_statementAt_1 (by decide) (fun c1 => ?_) (fun c1 => ?_)
  · have hR := hR.trans (if_pos c1)
    have hok := hok.1 c1
    exact False.elim hok
  · have hR := hR.trans (if_neg c1)
    have hok := hok.2 c1
    refine x_iload_n (pc := 4) (i := 1) C 1 dX6_statementAt_4 rfl rfl ?_
    refine x_aload_n (pc := 5) (i := 0) C 0 dX6_statementAt_5 rfl rfl ?_
    refine x_get (pc := 6) (q := 176) (i := 5) C e_I rfl ttX6 (by decide) wd_2_35 rfl dX6_statementAt_6 ?_
    refine x_cIV (pc := 9) (as := []) (q := 191) C (c_J4_length_8abf5 C.2.2.2.2.2.2.2.1  B M O ) (fs := _) e_B rfl cv_J4_length_8abf5 cd_J4_length_8abf5 wd_6_29 ⟨Nat.le_of_ble_eq_true rfl, Nat.le_of_ble_eq_true rfl⟩ ⟨Nat.le_of_ble_eq_true rfl, Nat.le_of_ble_eq_true rfl⟩ rfl rfl (Nat.le_of_ble_eq_true rfl) dX6_statementAt_9 ?_
    refine x_nmI (fun r2 er2 => ?_)
    have hR := nmE hR er2
    have hok := hok r2 er2
    refine x_icmp_lt (pc := 12) (tgt := 23) C dX6_statementAt_12 (by decide) (fun c3 => ?_) (fun c3 => ?_)
    · have hR := hR.trans (if_pos c3)
      have hok := hok.1 c3
      refine x_aload_n (pc := 23) (i := 0) C 0 dX6_statementAt_23 rfl rfl ?_
      refine x_get (pc := 24) (q := 176) (i := 5) C e_I rfl ttX6 (by decide) wd_2_35 rfl dX6_statementAt_24 ?_
      refine x_iload_n (pc := 27) (i := 1) C 1 dX6_statementAt_27 rfl rfl ?_
      have h4 := hok.1
      have hok := hok.2
      refine x_cIV (pc := 28) (as := [.int x0]) (q := 191) C (c_J4_charAt_5068e C.2.2.2.2.2.2.2.1  B M O x0 h4) (fs := _) e_B rfl cv_J4_charAt_5068e cd_J4_charAt_5068e wd_6_47 ⟨Nat.le_of_ble_eq_true rfl, Nat.le_of_ble_eq_true rfl⟩ ⟨Nat.le_of_ble_eq_true rfl, Nat.le_of_ble_eq_true rfl⟩ rfl rfl (Nat.le_of_ble_eq_true rfl) dX6_statementAt_28 ?_
      refine x_nmI (fun r5 er5 => ?_)
      have hR := nmE hR er5
      have hok := hok r5 er5
      have h6 := hok
      exact x_zret (pc := 31) C rfl h6 hR dX6_statementAt_31
    · have hR := hR.trans (if_neg c3)
      have hok := hok.2 c3
      exact False.elim hok
set_option maxHeartbeats 4000000 in
set_option maxRecDepth 100000 in
theorem c_X6_receiverOf_n {l : Launch} {A : Nat → Prop} {G : GT} {ad : Nat → Nat} (gl : Gl l A G ad)  (B : StB) (M : StM) (O : StO) (x0 : Int32) (hok : ok_X6_receiverOf_n B x0) : Met l yX6_receiverOf (wof yX6_receiverOf cX6_receiverOf 2 (some .int)) (rmd 3 0 0) (va_Pc [.ref (ad 176), .int x0] (PW G A ad B M O)) (QI G A ad (f_X6_receiverOf_n B x0) B M O) 0 0 A := by
  refine x_body (own := RX6) (by decide +kernel) rfl gl (Nat.le_of_ble_eq_true rfl) (ls := [(0, .ref (ad 176)), (1, .int x0)]) rfl ?_
  intro p0 e s m args below meth c C
  have hR : (f_X6_receiverOf_n B x0) = (nm (f_X6_requireTransfer_n B x0) (fun (r2 : Int32) => (ba B 9 (ix r2)))) := rfl
  have hok : ((ok_X6_requireTransfer_n B x0) ∧ (∀ r2 : Int32, r2 = (f_X6_requireTransfer_n B x0) → (vp_in r2 10))) := hok
  refine x_aload_n (pc := 0) (i := 0) C 0 dX6_receiverOf_0 rfl rfl ?_
  refine x_get (pc := 1) (q := 176) (i := 0) C e_I rfl ttX6 (by decide) wd_2_30 rfl dX6_receiverOf_1 ?_
  refine x_get (pc := 4) (q := 0) (i := 1) C (e_L (by omega)) rfl ttX3 (by decide) wd_1_148 rfl dX6_receiverOf_4 ?_
  refine x_get (pc := 7) (q := 6) (i := 4) C (e_T (by omega)) rfl ttX5 (by decide) wd_1_96 rfl dX6_receiverOf_7 ?_
  refine x_aload_n (pc := 10) (i := 0) C 0 dX6_receiverOf_10 rfl rfl ?_
  refine x_iload_n (pc := 11) (i := 1) C 1 dX6_receiverOf_11 rfl rfl ?_
  have h1 := hok.1
  have hok := hok.2
  refine x_cIV (pc := 12) (as := [.int x0]) (q := 176) C (c_X6_requireTransfer_n C.2.2.2.2.2.2.2.1  B M O x0 h1) (fs := _) e_I rfl cv_X6_requireTransfer cd_X6_requireTransfer wd_4_177 ⟨Nat.le_of_ble_eq_true rfl, Nat.le_of_ble_eq_true rfl⟩ ⟨Nat.le_of_ble_eq_true rfl, Nat.le_of_ble_eq_true rfl⟩ rfl rfl (Nat.le_of_ble_eq_true rfl) dX6_receiverOf_12 ?_
  refine x_nmI (fun r2 er2 => ?_)
  have hR := nmE hR er2
  have hok := hok r2 er2
  have h3 := hok
  refine x_iald (pc := 15) (q := 9) C (e_Tr (by omega)) h3 dX6_receiverOf_15 ?_
  exact x_iret (pc := 16) C rfl hR dX6_receiverOf_16
set_option maxHeartbeats 4000000 in
set_option maxRecDepth 100000 in
theorem c_X6_senderOf_n {l : Launch} {A : Nat → Prop} {G : GT} {ad : Nat → Nat} (gl : Gl l A G ad)  (B : StB) (M : StM) (O : StO) (x0 : Int32) (hok : ok_X6_senderOf_n B x0) : Met l yX6_senderOf (wof yX6_senderOf cX6_senderOf 2 (some .int)) (rmd 3 0 0) (va_Pc [.ref (ad 176), .int x0] (PW G A ad B M O)) (QI G A ad (f_X6_senderOf_n B x0) B M O) 0 0 A := by
  refine x_body (own := RX6) (by decide +kernel) rfl gl (Nat.le_of_ble_eq_true rfl) (ls := [(0, .ref (ad 176)), (1, .int x0)]) rfl ?_
  intro p0 e s m args below meth c C
  have hR : (f_X6_senderOf_n B x0) = (nm (f_X6_requireTransfer_n B x0) (fun (r2 : Int32) => (ba B 8 (ix r2)))) := rfl
  have hok : ((ok_X6_requireTransfer_n B x0) ∧ (∀ r2 : Int32, r2 = (f_X6_requireTransfer_n B x0) → (vp_in r2 10))) := hok
  refine x_aload_n (pc := 0) (i := 0) C 0 dX6_senderOf_0 rfl rfl ?_
  refine x_get (pc := 1) (q := 176) (i := 0) C e_I rfl ttX6 (by decide) wd_2_30 rfl dX6_senderOf_1 ?_
  refine x_get (pc := 4) (q := 0) (i := 1) C (e_L (by omega)) rfl ttX3 (by decide) wd_1_148 rfl dX6_senderOf_4 ?_
  refine x_get (pc := 7) (q := 6) (i := 3) C (e_T (by omega)) rfl ttX5 (by decide) wd_1_93 rfl dX6_senderOf_7 ?_
  refine x_aload_n (pc := 10) (i := 0) C 0 dX6_senderOf_10 rfl rfl ?_
  refine x_iload_n (pc := 11) (i := 1) C 1 dX6_senderOf_11 rfl rfl ?_
  have h1 := hok.1
  have hok := hok.2
  refine x_cIV (pc := 12) (as := [.int x0]) (q := 176) C (c_X6_requireTransfer_n C.2.2.2.2.2.2.2.1  B M O x0 h1) (fs := _) e_I rfl cv_X6_requireTransfer cd_X6_requireTransfer wd_4_177 ⟨Nat.le_of_ble_eq_true rfl, Nat.le_of_ble_eq_true rfl⟩ ⟨Nat.le_of_ble_eq_true rfl, Nat.le_of_ble_eq_true rfl⟩ rfl rfl (Nat.le_of_ble_eq_true rfl) dX6_senderOf_12 ?_
  refine x_nmI (fun r2 er2 => ?_)
  have hR := nmE hR er2
  have hok := hok r2 er2
  have h3 := hok
  refine x_iald (pc := 15) (q := 8) C (e_Ts (by omega)) h3 dX6_senderOf_15 ?_
  exact x_iret (pc := 16) C rfl hR dX6_senderOf_16
set_option maxHeartbeats 4000000 in
set_option maxRecDepth 100000 in
theorem t_X6_netByTable_n_L13 {p0 : Program} {l : Launch} {e : Env} {s : State} {m : MethodId} {args : Array Value} {below : List Frame} {meth : Method} {c : Code} {A : Nat → Prop} {G : GT} {ad : Nat → Nat} {Q : State → Prop} (C : CX p0 l s m args meth c A G ad cX6_netByTable RX6 4 (some .int))    (n : Nat) (B : StB) (a1 : Int32) (a2 : Int32) (a3 : Int32) (M : StM) (O : StO) : ∀ (R0 : Int32) (hR : R0 = f_X6_netByTable_n_L13 n B a1 a2 a3) (hok : ok_X6_netByTable_n_L13 n B a1 a2 a3) (k : X p0 l e (rmd 3 0 0) s m args below meth c A G ad 4 0 0 Q B M O [(2, .int R0)] 45 []), X p0 l e (rmd 3 0 0) s m args below meth c A G ad 4 0 0 Q B M O [(0, .ref (ad 176)), (1, .int a1), (2, .int a2), (3, .int a3)] 13 [] := by
  induction n generalizing B a1 a2 a3 with
  | zero => intro R0 hR hok k; exact False.elim hok
  | succ n ih =>
    intro R0 hR hok k
    have hR : R0 = (if 8 ≤ a3 then a2 else (nm (a2 + ((ba B (183 + ix a3) (ix a1)) - (ba B (183 + ix a1) (ix a3)))) (fun (v9 : Int32) => (f_X6_netByTable_n_L13 n B a1 v9 (a3 + 1))))) := hR
    have hok : ((8 ≤ a3 → True) ∧ (¬ 8 ≤ a3 → (vp_in a3 8 ∧ (vp_in a1 8 ∧ (vp_in a1 8 ∧ (vp_in a3 8 ∧ (∀ v9 : Int32, v9 = (a2 + ((ba B (183 + ix a3) (ix a1)) - (ba B (183 + ix a1) (ix a3)))) → (ok_X6_netByTable_n_L13 n B a1 v9 (a3 + 1))))))))) := hok
    refine x_iload_n (pc := 13) (i := 3) C 3 dX6_netByTable_13 rfl rfl ?_
    refine x_bipush (pc := 14) (v := 8) C dX6_netByTable_14 (by decide) ?_
    refine x_icmp_ge (pc := 16) (tgt := 45) C dX6_netByTable_16 (by decide) (fun c4 => ?_) (fun c4 => ?_)
    · have hR := hR.trans (if_pos c4)
      refine x_sub [2] (ls2 := [(2, .int a2)]) rfl ?_
      subst hR
      exact k
    · have hR := hR.trans (if_neg c4)
      have hok := hok.2 c4
      refine x_iload_n (pc := 19) (i := 2) C 2 dX6_netByTable_19 rfl rfl ?_
      refine x_aload_n (pc := 20) (i := 0) C 0 dX6_netByTable_20 rfl rfl ?_
      refine x_get (pc := 21) (q := 176) (i := 6) C e_I rfl ttX6 (by decide) wd_2_36 rfl dX6_netByTable_21 ?_
      refine x_iload_n (pc := 24) (i := 3) C 3 dX6_netByTable_24 rfl rfl ?_
      have h5 := hok.1
      have hok := hok.2
      have hxh5 : ix a3 < 8 := vp_ix h5
      refine x_aald2 (pc := 25) (q := 182) (t0 := 5) C rfl e_S rfl h5 (if_pos hxh5) dX6_netByTable_25 ?_
      refine x_iload_n (pc := 26) (i := 1) C 1 dX6_netByTable_26 rfl rfl ?_
      have h6 := hok.1
      have hok := hok.2
      refine x_iald (pc := 27) (q := 183 + ix a3) C (e_Si hxh5) h6 dX6_netByTable_27 ?_
      refine x_aload_n (pc := 28) (i := 0) C 0 dX6_netByTable_28 rfl rfl ?_
      refine x_get (pc := 29) (q := 176) (i := 6) C e_I rfl ttX6 (by decide) wd_2_36 rfl dX6_netByTable_29 ?_
      refine x_iload_n (pc := 32) (i := 1) C 1 dX6_netByTable_32 rfl rfl ?_
      have h7 := hok.1
      have hok := hok.2
      have hxh7 : ix a1 < 8 := vp_ix h7
      refine x_aald2 (pc := 33) (q := 182) (t0 := 5) C rfl e_S rfl h7 (if_pos hxh7) dX6_netByTable_33 ?_
      refine x_iload_n (pc := 34) (i := 3) C 3 dX6_netByTable_34 rfl rfl ?_
      have h8 := hok.1
      have hok := hok.2
      refine x_iald (pc := 35) (q := 183 + ix a1) C (e_Si hxh7) h8 dX6_netByTable_35 ?_
      refine x_isub (pc := 36) C dX6_netByTable_36 ?_
      refine x_iadd (pc := 37) C dX6_netByTable_37 ?_
      refine x_nmI (fun v9 ev9 => ?_)
      have hR := nmE hR ev9
      have hok := hok v9 ev9
      refine x_istore_n (pc := 38) (i := 2) (ls2 := [(2, .int v9), (0, .ref (ad 176)), (1, .int a1), (3, .int a3)]) C dX6_netByTable_38 rfl (by decide) rfl ?_
      refine x_iinc (pc := 39) (i := 3) (v := (a3 + 1)) (ls2 := [(3, .int (a3 + 1)), (2, .int v9), (0, .ref (ad 176)), (1, .int a1)]) C 3 dX6_netByTable_39 rfl rfl (by decide) rfl ?_
      refine x_goto (pc := 42) (tgt := 13) C dX6_netByTable_42 (by decide) ?_
      refine x_sub [2, 3, 1, 0] (ls2 := [(0, .ref (ad 176)), (1, .int a1), (2, .int v9), (3, .int (a3 + 1))]) rfl ?_
      exact ih B a1 v9 (a3 + 1) R0 hR hok k
set_option maxHeartbeats 4000000 in
set_option maxRecDepth 100000 in
theorem c_X6_netByTable_n {l : Launch} {A : Nat → Prop} {G : GT} {ad : Nat → Nat} (gl : Gl l A G ad)  (B : StB) (M : StM) (O : StO) (x0 : Int32) (hok : ok_X6_netByTable_n B x0) : Met l yX6_netByTable (wof yX6_netByTable cX6_netByTable 4 (some .int)) (rmd 3 0 0) (va_Pc [.ref (ad 176), .int x0] (PW G A ad B M O)) (QI G A ad (f_X6_netByTable_n B x0).1 (f_X6_netByTable_n B x0).2 M O) 0 0 A := by
  refine x_body (own := RX6) (by decide +kernel) rfl gl (Nat.le_of_ble_eq_true rfl) (ls := [(0, .ref (ad 176)), (1, .int x0)]) rfl ?_
  intro p0 e s m args below meth c C
  have hR : (f_X6_netByTable_n B x0) = (nm (f_X6_fillSums B) (fun (B3 : StB) => (nm (f_X6_netByTable_n_L13 fu B3 x0 0 0) (fun (z10 : Int32) => (z10, B3))))) := rfl
  have hok : ((ok_X6_requireAccount_n B x0) ∧ ((ok_X6_fillSums B) ∧ (∀ B3 : StB, B3 = (f_X6_fillSums B) → (ok_X6_netByTable_n_L13 fu B3 x0 0 0)))) := hok
  refine x_aload_n (pc := 0) (i := 0) C 0 dX6_netByTable_0 rfl rfl ?_
  refine x_iload_n (pc := 1) (i := 1) C 1 dX6_netByTable_1 rfl rfl ?_
  have h1 := hok.1
  have hok := hok.2
  refine x_cVV (pc := 2) (as := [.int x0]) (q := 176) C (c_X6_requireAccount_n C.2.2.2.2.2.2.2.1  B M O x0 h1) (fs := _) e_I rfl cv_X6_requireAccount cd_X6_requireAccount wd_4_148 ⟨Nat.le_of_ble_eq_true rfl, Nat.le_of_ble_eq_true rfl⟩ ⟨Nat.le_of_ble_eq_true rfl, Nat.le_of_ble_eq_true rfl⟩ rfl rfl (Nat.le_of_ble_eq_true rfl) dX6_netByTable_2 ?_
  refine x_aload_n (pc := 5) (i := 0) C 0 dX6_netByTable_5 rfl rfl ?_
  have h2 := hok.1
  have hok := hok.2
  refine x_cVV (pc := 6) (as := []) (q := 176) C (c_X6_fillSums C.2.2.2.2.2.2.2.1  B M O  h2) (fs := _) e_I rfl cv_X6_fillSums cd_X6_fillSums wd_6_116 ⟨Nat.le_of_ble_eq_true rfl, Nat.le_of_ble_eq_true rfl⟩ ⟨Nat.le_of_ble_eq_true rfl, Nat.le_of_ble_eq_true rfl⟩ rfl rfl (Nat.le_of_ble_eq_true rfl) dX6_netByTable_6 ?_
  refine x_nmB (fun B3 eB3 => ?_)
  have hR := nmE hR eB3
  have hok := hok B3 eB3
  refine x_iconst (pc := 9) (v := 0) C dX6_netByTable_9 (by decide) ?_
  refine x_istore_n (pc := 10) (i := 2) (ls2 := [(2, .int 0), (0, .ref (ad 176)), (1, .int x0)]) C dX6_netByTable_10 rfl (by decide) rfl ?_
  refine x_iconst (pc := 11) (v := 0) C dX6_netByTable_11 (by decide) ?_
  refine x_istore_n (pc := 12) (i := 3) (ls2 := [(3, .int 0), (2, .int 0), (0, .ref (ad 176)), (1, .int x0)]) C dX6_netByTable_12 rfl (by decide) rfl ?_
  refine x_sub [2, 3, 1, 0] (ls2 := [(0, .ref (ad 176)), (1, .int x0), (2, .int 0), (3, .int 0)]) rfl ?_
  obtain ⟨z10, ez10⟩ : ∃ z : Int32, z = f_X6_netByTable_n_L13 fu B3 x0 0 0 := ⟨_, rfl⟩
  refine t_X6_netByTable_n_L13 C fu B3 x0 0 0 M O z10 ez10 hok ?_
  have hR := nmE hR ez10
  refine x_iload_n (pc := 45) (i := 2) C 0 dX6_netByTable_45 rfl rfl ?_
  exact x_iretB (pc := 46) C rfl hR dX6_netByTable_46
set_option maxHeartbeats 4000000 in
set_option maxRecDepth 100000 in
theorem c_X6_movementAmount {l : Launch} {A : Nat → Prop} {G : GT} {ad : Nat → Nat} (gl : Gl l A G ad)  (B : StB) (M : StM) (O : StO) (x0 : Int32) (hok : ok_X6_movementAmount B x0) : TMet l yX6_movementAmount (wof yX6_movementAmount cX6_movementAmount 2 (some .int)) (rmd 14 4 24) [.ref (ad 176), .int x0] G A ad B M O (f_X6_movementAmount B x0) 4 24 := by
  refine xt_body (own := RX6) (by decide +kernel) rfl gl (Nat.le_of_ble_eq_true rfl) (ls := [(0, .ref (ad 176)), (1, .int x0)]) rfl ?_
  intro p0 e s m args below meth c hE C
  have hR : (f_X6_movementAmount B x0) = (nm (f_X6_requireMovement B x0) (fun (z2 : Nat × Int32 × StB) => (if z2.1 = 0 then (0, (ba z2.2.2 14 (ix z2.2.1)), z2.2.2) else (z2.1, 0, z2.2.2)))) := rfl
  have hok : ((ok_X6_requireMovement B x0) ∧ (∀ z2 : Nat × Int32 × StB, z2 = (f_X6_requireMovement B x0) → z2.1 = 0 → (vp_in z2.2.1 10))) := hok
  refine x_aload_n (pc := 0) (i := 0) C 0 dX6_movementAmount_0 rfl rfl ?_
  refine x_get (pc := 1) (q := 176) (i := 0) C e_I rfl ttX6 (by decide) wd_2_30 rfl dX6_movementAmount_1 ?_
  refine x_get (pc := 4) (q := 0) (i := 2) C (e_L (by omega)) rfl ttX3 (by decide) wd_1_150 rfl dX6_movementAmount_4 ?_
  refine x_get (pc := 7) (q := 12) (i := 3) C (e_J (by omega)) rfl ttX2 (by decide) wd_1_130 rfl dX6_movementAmount_7 ?_
  refine x_aload_n (pc := 10) (i := 0) C 0 dX6_movementAmount_10 rfl rfl ?_
  refine x_iload_n (pc := 11) (i := 1) C 1 dX6_movementAmount_11 rfl rfl ?_
  have h1 := hok.1
  have hok := hok.2
  refine xt_cIV (pc := 12) (as := [.int x0]) (q := 176) C hE (c_X6_requireMovement C.2.2.2.2.2.2.2.1  B M O x0 h1) (fs := _) e_I rfl cv_X6_requireMovement cd_X6_requireMovement wd_4_214 ⟨Nat.le_of_ble_eq_true rfl, Nat.le_of_ble_eq_true rfl⟩ ⟨Nat.le_of_ble_eq_true rfl, Nat.le_of_ble_eq_true rfl⟩ ⟨Nat.le_of_ble_eq_true rfl, Nat.le_of_ble_eq_true rfl⟩ rfl rfl (Nat.le_of_ble_eq_true rfl) dX6_movementAmount_12 (fun z2 ez2 hz => (nmE hR ez2).trans (if_neg hz)) (fun z2 ez2 hzz2 => ?_)
  have hR := (nmE hR ez2).trans (if_pos hzz2)
  have hok := hok z2 ez2 hzz2
  have h3 := hok
  refine x_iald (pc := 15) (q := 14) C (e_Ja (by omega)) h3 dX6_movementAmount_15 ?_
  exact xt_zret (pc := 16) C rfl rfl hR (Nat.le_of_ble_eq_true rfl) (Nat.le_of_ble_eq_true rfl) dX6_movementAmount_16
set_option maxHeartbeats 4000000 in
set_option maxRecDepth 100000 in
theorem c_X6_movementAmount_n {l : Launch} {A : Nat → Prop} {G : GT} {ad : Nat → Nat} (gl : Gl l A G ad)  (B : StB) (M : StM) (O : StO) (x0 : Int32) (hok : ok_X6_movementAmount_n B x0) : Met l yX6_movementAmount (wof yX6_movementAmount cX6_movementAmount 2 (some .int)) (rmd 4 0 0) (va_Pc [.ref (ad 176), .int x0] (PW G A ad B M O)) (QI G A ad (f_X6_movementAmount_n B x0) B M O) 0 0 A := by
  refine x_body (own := RX6) (by decide +kernel) rfl gl (Nat.le_of_ble_eq_true rfl) (ls := [(0, .ref (ad 176)), (1, .int x0)]) rfl ?_
  intro p0 e s m args below meth c C
  have hR : (f_X6_movementAmount_n B x0) = (nm (f_X6_requireMovement_n B x0) (fun (r2 : Int32) => (ba B 14 (ix r2)))) := rfl
  have hok : ((ok_X6_requireMovement_n B x0) ∧ (∀ r2 : Int32, r2 = (f_X6_requireMovement_n B x0) → (vp_in r2 10))) := hok
  refine x_aload_n (pc := 0) (i := 0) C 0 dX6_movementAmount_0 rfl rfl ?_
  refine x_get (pc := 1) (q := 176) (i := 0) C e_I rfl ttX6 (by decide) wd_2_30 rfl dX6_movementAmount_1 ?_
  refine x_get (pc := 4) (q := 0) (i := 2) C (e_L (by omega)) rfl ttX3 (by decide) wd_1_150 rfl dX6_movementAmount_4 ?_
  refine x_get (pc := 7) (q := 12) (i := 3) C (e_J (by omega)) rfl ttX2 (by decide) wd_1_130 rfl dX6_movementAmount_7 ?_
  refine x_aload_n (pc := 10) (i := 0) C 0 dX6_movementAmount_10 rfl rfl ?_
  refine x_iload_n (pc := 11) (i := 1) C 1 dX6_movementAmount_11 rfl rfl ?_
  have h1 := hok.1
  have hok := hok.2
  refine x_cIV (pc := 12) (as := [.int x0]) (q := 176) C (c_X6_requireMovement_n C.2.2.2.2.2.2.2.1  B M O x0 h1) (fs := _) e_I rfl cv_X6_requireMovement cd_X6_requireMovement wd_4_214 ⟨Nat.le_of_ble_eq_true rfl, Nat.le_of_ble_eq_true rfl⟩ ⟨Nat.le_of_ble_eq_true rfl, Nat.le_of_ble_eq_true rfl⟩ rfl rfl (Nat.le_of_ble_eq_true rfl) dX6_movementAmount_12 ?_
  refine x_nmI (fun r2 er2 => ?_)
  have hR := nmE hR er2
  have hok := hok r2 er2
  have h3 := hok
  refine x_iald (pc := 15) (q := 14) C (e_Ja (by omega)) h3 dX6_movementAmount_15 ?_
  exact x_iret (pc := 16) C rfl hR dX6_movementAmount_16
set_option maxHeartbeats 4000000 in
set_option maxRecDepth 100000 in
theorem c_X6_writeStatement_n {l : Launch} {A : Nat → Prop} {G : GT} {ad : Nat → Nat} (gl : Gl l A G ad)  (B : StB) (M : StM) (O : StO) (x0 : Int32) (hok : ok_X6_writeStatement_n B x0) : Met l yX6_writeStatement (wof yX6_writeStatement cX6_writeStatement 3 (some .int)) (rmd 5 0 0) (va_Pc [.ref (ad 176), .int x0] (PW G A ad B M O)) (QI G A ad (f_X6_writeStatement_n B x0).1 (f_X6_writeStatement_n B x0).2 M O) 0 0 A := by
  refine x_body (own := RX6) (by decide +kernel) rfl gl (Nat.le_of_ble_eq_true rfl) (ls := [(0, .ref (ad 176)), (1, .int x0)]) rfl ?_
  intro p0 e s m args below meth c C
  have hR : (f_X6_writeStatement_n B x0) = (nm (f_J4_setLength_d00df B 0) (fun (B3 : StB) => (nm (f_J0_charAt_5068e 0 (ba B3 2 (ix x0))) (fun (r6 : Int32) => (nm (f_J4_append_cf468 B3 r6) (fun (B8 : StB) => (nm (f_J4_append_bf812 B8 x0) (fun (B10 : StB) => (nm (f_J4_append_cf468 B10 58) (fun (B12 : StB) => (nm (f_J4_append_bf812 B12 (ba B12 3 (ix x0))) (fun (B15 : StB) => (nm (f_J4_append_cf468 B15 47) (fun (B17 : StB) => (nm (f_J4_append_bf812 B17 (ba B17 4 (ix x0))) (fun (B20 : StB) => (if (ba B20 5 (ix x0)) = 0 then (nm (f_J4_length_8abf5 B20) (fun (r23 : Int32) => (r23, B20))) else (nm (f_J4_append_cf468 B20 42) (fun (B25 : StB) => (nm (f_J4_length_8abf5 B25) (fun (r26 : Int32) => (r26, B25)))))))))))))))))))))) := rfl
  have hok : ((ok_X6_requireAccount_n B x0) ∧ ((ok_J4_setLength_d00df B 0) ∧ (∀ B3 : StB, B3 = (f_J4_setLength_d00df B 0) → (vp_in x0 8 ∧ ((ok_J0_charAt_5068e 0 (ba B3 2 (ix x0))) ∧ (∀ r6 : Int32, r6 = (f_J0_charAt_5068e 0 (ba B3 2 (ix x0))) → ((ok_J4_append_cf468 B3 r6) ∧ (∀ B8 : StB, B8 = (f_J4_append_cf468 B3 r6) → ((ok_J4_append_bf812 B8 x0) ∧ (∀ B10 : StB, B10 = (f_J4_append_bf812 B8 x0) → ((ok_J4_append_cf468 B10 58) ∧ (∀ B12 : StB, B12 = (f_J4_append_cf468 B10 58) → (vp_in x0 8 ∧ ((ok_J4_append_bf812 B12 (ba B12 3 (ix x0))) ∧ (∀ B15 : StB, B15 = (f_J4_append_bf812 B12 (ba B12 3 (ix x0))) → ((ok_J4_append_cf468 B15 47) ∧ (∀ B17 : StB, B17 = (f_J4_append_cf468 B15 47) → (vp_in x0 8 ∧ ((ok_J4_append_bf812 B17 (ba B17 4 (ix x0))) ∧ (∀ B20 : StB, B20 = (f_J4_append_bf812 B17 (ba B17 4 (ix x0))) → (vp_in x0 8 ∧ (((ba B20 5 (ix x0)) = 0 → True) ∧ (¬ (ba B20 5 (ix x0)) = 0 → ((ok_J4_append_cf468 B20 42))))))))))))))))))))))))) := hok
  refine x_aload_n (pc := 0) (i := 0) C 0 dX6_writeStatement_0 rfl rfl ?_
  refine x_iload_n (pc := 1) (i := 1) C 1 dX6_writeStatement_1 rfl rfl ?_
  have h1 := hok.1
  have hok := hok.2
  refine x_cVV (pc := 2) (as := [.int x0]) (q := 176) C (c_X6_requireAccount_n C.2.2.2.2.2.2.2.1  B M O x0 h1) (fs := _) e_I rfl cv_X6_requireAccount cd_X6_requireAccount wd_4_148 ⟨Nat.le_of_ble_eq_true rfl, Nat.le_of_ble_eq_true rfl⟩ ⟨Nat.le_of_ble_eq_true rfl, Nat.le_of_ble_eq_true rfl⟩ rfl rfl (Nat.le_of_ble_eq_true rfl) dX6_writeStatement_2 ?_
  refine x_aload_n (pc := 5) (i := 0) C 0 dX6_writeStatement_5 rfl rfl ?_
  refine x_get (pc := 6) (q := 176) (i := 0) C e_I rfl ttX6 (by decide) wd_2_30 rfl dX6_writeStatement_6 ?_
  refine x_get (pc := 9) (q := 0) (i := 0) C (e_L (by omega)) rfl ttX3 (by decide) wd_1_146 rfl dX6_writeStatement_9 ?_
  refine x_astore_n (pc := 12) (i := 2) (ls2 := [(2, .ref (ad 1)), (0, .ref (ad 176)), (1, .int x0)]) C dX6_writeStatement_12 rfl (by decide) rfl ?_
  refine x_aload_n (pc := 13) (i := 0) C 1 dX6_writeStatement_13 rfl rfl ?_
  refine x_get (pc := 14) (q := 176) (i := 5) C e_I rfl ttX6 (by decide) wd_2_35 rfl dX6_writeStatement_14 ?_
  refine x_iconst (pc := 17) (v := 0) C dX6_writeStatement_17 (by decide) ?_
  have h2 := hok.1
  have hok := hok.2
  refine x_cVV (pc := 18) (as := [.int 0]) (q := 191) C (c_J4_setLength_d00df C.2.2.2.2.2.2.2.1  B M O 0 h2) (fs := _) e_B rfl cv_J4_setLength_d00df cd_J4_setLength_d00df wd_5_28 ⟨Nat.le_of_ble_eq_true rfl, Nat.le_of_ble_eq_true rfl⟩ ⟨Nat.le_of_ble_eq_true rfl, Nat.le_of_ble_eq_true rfl⟩ rfl rfl (Nat.le_of_ble_eq_true rfl) dX6_writeStatement_18 ?_
  refine x_nmB (fun B3 eB3 => ?_)
  have hR := nmE hR eB3
  have hok := hok B3 eB3
  refine x_aload_n (pc := 21) (i := 0) C 1 dX6_writeStatement_21 rfl rfl ?_
  refine x_get (pc := 22) (q := 176) (i := 5) C e_I rfl ttX6 (by decide) wd_2_35 rfl dX6_writeStatement_22 ?_
  refine x_ldcKw (pc := 25) (i := 0) C (by decide) rfl rfl dX6_writeStatement_25 ?_
  refine x_aload_n (pc := 28) (i := 2) C 0 dX6_writeStatement_28 rfl rfl ?_
  refine x_get (pc := 29) (q := 1) (i := 1) C (e_A (by omega)) rfl ttX0 (by decide) wd_1_56 rfl dX6_writeStatement_29 ?_
  refine x_iload_n (pc := 32) (i := 1) C 2 dX6_writeStatement_32 rfl rfl ?_
  have h4 := hok.1
  have hok := hok.2
  refine x_iald (pc := 33) (q := 2) C (e_Ak (by omega)) h4 dX6_writeStatement_33 ?_
  have h5 := hok.1
  have hok := hok.2
  refine x_cIVK (pc := 34) (as := [.int (ba B3 2 (ix x0))]) C (c_J0_charAt_5068e C.2.2.2.2.2.2.2.1 0 (by decide) B3 M O (ba B3 2 (ix x0)) h5) (by decide) rfl cv_J0_charAt_5068e cd_J0_charAt_5068e wd_6_14 ⟨Nat.le_of_ble_eq_true rfl, Nat.le_of_ble_eq_true rfl⟩ ⟨Nat.le_of_ble_eq_true rfl, Nat.le_of_ble_eq_true rfl⟩ rfl rfl (Nat.le_of_ble_eq_true rfl) dX6_writeStatement_34 ?_
  refine x_nmI (fun r6 er6 => ?_)
  have hR := nmE hR er6
  have hok := hok r6 er6
  have h7 := hok.1
  have hok := hok.2
  refine x_cRV (pc := 37) (as := [.int r6]) (q := 191) C (c_J4_append_cf468 C.2.2.2.2.2.2.2.1  B3 M O r6 h7) (fs := _) e_B rfl cv_J4_append_cf468 rfl cd_J4_append_cf468 wd_6_15 ⟨Nat.le_of_ble_eq_true rfl, Nat.le_of_ble_eq_true rfl⟩ ⟨Nat.le_of_ble_eq_true rfl, Nat.le_of_ble_eq_true rfl⟩ rfl rfl (Nat.le_of_ble_eq_true rfl) dX6_writeStatement_37 ?_
  refine x_nmB (fun B8 eB8 => ?_)
  have hR := nmE hR eB8
  have hok := hok B8 eB8
  refine x_pop (pc := 40) C dX6_writeStatement_40 rfl ?_
  refine x_aload_n (pc := 41) (i := 0) C 1 dX6_writeStatement_41 rfl rfl ?_
  refine x_get (pc := 42) (q := 176) (i := 5) C e_I rfl ttX6 (by decide) wd_2_35 rfl dX6_writeStatement_42 ?_
  refine x_iload_n (pc := 45) (i := 1) C 2 dX6_writeStatement_45 rfl rfl ?_
  have h9 := hok.1
  have hok := hok.2
  refine x_cRV (pc := 46) (as := [.int x0]) (q := 191) C (c_J4_append_bf812 C.2.2.2.2.2.2.2.1  B8 M O x0 h9) (fs := _) e_B rfl cv_J4_append_bf812 rfl cd_J4_append_bf812 wd_6_28 ⟨Nat.le_of_ble_eq_true rfl, Nat.le_of_ble_eq_true rfl⟩ ⟨Nat.le_of_ble_eq_true rfl, Nat.le_of_ble_eq_true rfl⟩ rfl rfl (Nat.le_of_ble_eq_true rfl) dX6_writeStatement_46 ?_
  refine x_nmB (fun B10 eB10 => ?_)
  have hR := nmE hR eB10
  have hok := hok B10 eB10
  refine x_pop (pc := 49) C dX6_writeStatement_49 rfl ?_
  refine x_aload_n (pc := 50) (i := 0) C 1 dX6_writeStatement_50 rfl rfl ?_
  refine x_get (pc := 51) (q := 176) (i := 5) C e_I rfl ttX6 (by decide) wd_2_35 rfl dX6_writeStatement_51 ?_
  refine x_bipush (pc := 54) (v := 58) C dX6_writeStatement_54 (by decide) ?_
  have h11 := hok.1
  have hok := hok.2
  refine x_cRV (pc := 56) (as := [.int 58]) (q := 191) C (c_J4_append_cf468 C.2.2.2.2.2.2.2.1  B10 M O 58 h11) (fs := _) e_B rfl cv_J4_append_cf468 rfl cd_J4_append_cf468 wd_6_15 ⟨Nat.le_of_ble_eq_true rfl, Nat.le_of_ble_eq_true rfl⟩ ⟨Nat.le_of_ble_eq_true rfl, Nat.le_of_ble_eq_true rfl⟩ rfl rfl (Nat.le_of_ble_eq_true rfl) dX6_writeStatement_56 ?_
  refine x_nmB (fun B12 eB12 => ?_)
  have hR := nmE hR eB12
  have hok := hok B12 eB12
  refine x_pop (pc := 59) C dX6_writeStatement_59 rfl ?_
  refine x_aload_n (pc := 60) (i := 0) C 1 dX6_writeStatement_60 rfl rfl ?_
  refine x_get (pc := 61) (q := 176) (i := 5) C e_I rfl ttX6 (by decide) wd_2_35 rfl dX6_writeStatement_61 ?_
  refine x_aload_n (pc := 64) (i := 2) C 0 dX6_writeStatement_64 rfl rfl ?_
  refine x_get (pc := 65) (q := 1) (i := 2) C (e_A (by omega)) rfl ttX0 (by decide) wd_1_60 rfl dX6_writeStatement_65 ?_
  refine x_iload_n (pc := 68) (i := 1) C 2 dX6_writeStatement_68 rfl rfl ?_
  have h13 := hok.1
  have hok := hok.2
  refine x_iald (pc := 69) (q := 3) C (e_Ab (by omega)) h13 dX6_writeStatement_69 ?_
  have h14 := hok.1
  have hok := hok.2
  refine x_cRV (pc := 70) (as := [.int (ba B12 3 (ix x0))]) (q := 191) C (c_J4_append_bf812 C.2.2.2.2.2.2.2.1  B12 M O (ba B12 3 (ix x0)) h14) (fs := _) e_B rfl cv_J4_append_bf812 rfl cd_J4_append_bf812 wd_6_28 ⟨Nat.le_of_ble_eq_true rfl, Nat.le_of_ble_eq_true rfl⟩ ⟨Nat.le_of_ble_eq_true rfl, Nat.le_of_ble_eq_true rfl⟩ rfl rfl (Nat.le_of_ble_eq_true rfl) dX6_writeStatement_70 ?_
  refine x_nmB (fun B15 eB15 => ?_)
  have hR := nmE hR eB15
  have hok := hok B15 eB15
  refine x_pop (pc := 73) C dX6_writeStatement_73 rfl ?_
  refine x_aload_n (pc := 74) (i := 0) C 1 dX6_writeStatement_74 rfl rfl ?_
  refine x_get (pc := 75) (q := 176) (i := 5) C e_I rfl ttX6 (by decide) wd_2_35 rfl dX6_writeStatement_75 ?_
  refine x_bipush (pc := 78) (v := 47) C dX6_writeStatement_78 (by decide) ?_
  have h16 := hok.1
  have hok := hok.2
  refine x_cRV (pc := 80) (as := [.int 47]) (q := 191) C (c_J4_append_cf468 C.2.2.2.2.2.2.2.1  B15 M O 47 h16) (fs := _) e_B rfl cv_J4_append_cf468 rfl cd_J4_append_cf468 wd_6_15 ⟨Nat.le_of_ble_eq_true rfl, Nat.le_of_ble_eq_true rfl⟩ ⟨Nat.le_of_ble_eq_true rfl, Nat.le_of_ble_eq_true rfl⟩ rfl rfl (Nat.le_of_ble_eq_true rfl) dX6_writeStatement_80 ?_
  refine x_nmB (fun B17 eB17 => ?_)
  have hR := nmE hR eB17
  have hok := hok B17 eB17
  refine x_pop (pc := 83) C dX6_writeStatement_83 rfl ?_
  refine x_aload_n (pc := 84) (i := 0) C 1 dX6_writeStatement_84 rfl rfl ?_
  refine x_get (pc := 85) (q := 176) (i := 5) C e_I rfl ttX6 (by decide) wd_2_35 rfl dX6_writeStatement_85 ?_
  refine x_aload_n (pc := 88) (i := 2) C 0 dX6_writeStatement_88 rfl rfl ?_
  refine x_get (pc := 89) (q := 1) (i := 3) C (e_A (by omega)) rfl ttX0 (by decide) wd_1_62 rfl dX6_writeStatement_89 ?_
  refine x_iload_n (pc := 92) (i := 1) C 2 dX6_writeStatement_92 rfl rfl ?_
  have h18 := hok.1
  have hok := hok.2
  refine x_iald (pc := 93) (q := 4) C (e_Al (by omega)) h18 dX6_writeStatement_93 ?_
  have h19 := hok.1
  have hok := hok.2
  refine x_cRV (pc := 94) (as := [.int (ba B17 4 (ix x0))]) (q := 191) C (c_J4_append_bf812 C.2.2.2.2.2.2.2.1  B17 M O (ba B17 4 (ix x0)) h19) (fs := _) e_B rfl cv_J4_append_bf812 rfl cd_J4_append_bf812 wd_6_28 ⟨Nat.le_of_ble_eq_true rfl, Nat.le_of_ble_eq_true rfl⟩ ⟨Nat.le_of_ble_eq_true rfl, Nat.le_of_ble_eq_true rfl⟩ rfl rfl (Nat.le_of_ble_eq_true rfl) dX6_writeStatement_94 ?_
  refine x_nmB (fun B20 eB20 => ?_)
  have hR := nmE hR eB20
  have hok := hok B20 eB20
  refine x_pop (pc := 97) C dX6_writeStatement_97 rfl ?_
  refine x_aload_n (pc := 98) (i := 2) C 0 dX6_writeStatement_98 rfl rfl ?_
  refine x_get (pc := 99) (q := 1) (i := 4) C (e_A (by omega)) rfl ttX0 (by decide) wd_1_65 rfl dX6_writeStatement_99 ?_
  refine x_iload_n (pc := 102) (i := 1) C 2 dX6_writeStatement_102 rfl rfl ?_
  have h21 := hok.1
  have hok := hok.2
  refine x_zald (pc := 103) (q := 5) C (e_At (by omega)) h21 dX6_writeStatement_103 ?_
  refine x_if_eq (pc := 104) (tgt := 117) C dX6_writeStatement_104 (by decide) (fun c22 => ?_) (fun c22 => ?_)
  · have hR := hR.trans (if_pos c22)
    refine x_aload_n (pc := 117) (i := 0) C 1 dX6_writeStatement_117 rfl rfl ?_
    refine x_get (pc := 118) (q := 176) (i := 5) C e_I rfl ttX6 (by decide) wd_2_35 rfl dX6_writeStatement_118 ?_
    refine x_cIV (pc := 121) (as := []) (q := 191) C (c_J4_length_8abf5 C.2.2.2.2.2.2.2.1  B20 M O ) (fs := _) e_B rfl cv_J4_length_8abf5 cd_J4_length_8abf5 wd_6_29 ⟨Nat.le_of_ble_eq_true rfl, Nat.le_of_ble_eq_true rfl⟩ ⟨Nat.le_of_ble_eq_true rfl, Nat.le_of_ble_eq_true rfl⟩ rfl rfl (Nat.le_of_ble_eq_true rfl) dX6_writeStatement_121 ?_
    refine x_nmI (fun r23 er23 => ?_)
    have hR := nmE hR er23
    exact x_iretB (pc := 124) C rfl hR dX6_writeStatement_124
  · have hR := hR.trans (if_neg c22)
    have hok := hok.2 c22
    refine x_aload_n (pc := 107) (i := 0) C 1 dX6_writeStatement_107 rfl rfl ?_
    refine x_get (pc := 108) (q := 176) (i := 5) C e_I rfl ttX6 (by decide) wd_2_35 rfl dX6_writeStatement_108 ?_
    refine x_bipush (pc := 111) (v := 42) C dX6_writeStatement_111 (by decide) ?_
    have h24 := hok
    refine x_cRV (pc := 113) (as := [.int 42]) (q := 191) C (c_J4_append_cf468 C.2.2.2.2.2.2.2.1  B20 M O 42 h24) (fs := _) e_B rfl cv_J4_append_cf468 rfl cd_J4_append_cf468 wd_6_15 ⟨Nat.le_of_ble_eq_true rfl, Nat.le_of_ble_eq_true rfl⟩ ⟨Nat.le_of_ble_eq_true rfl, Nat.le_of_ble_eq_true rfl⟩ rfl rfl (Nat.le_of_ble_eq_true rfl) dX6_writeStatement_113 ?_
    refine x_nmB (fun B25 eB25 => ?_)
    have hR := nmE hR eB25
    refine x_pop (pc := 116) C dX6_writeStatement_116 rfl ?_
    refine x_aload_n (pc := 117) (i := 0) C 1 dX6_writeStatement_117 rfl rfl ?_
    refine x_get (pc := 118) (q := 176) (i := 5) C e_I rfl ttX6 (by decide) wd_2_35 rfl dX6_writeStatement_118 ?_
    refine x_cIV (pc := 121) (as := []) (q := 191) C (c_J4_length_8abf5 C.2.2.2.2.2.2.2.1  B25 M O ) (fs := _) e_B rfl cv_J4_length_8abf5 cd_J4_length_8abf5 wd_6_29 ⟨Nat.le_of_ble_eq_true rfl, Nat.le_of_ble_eq_true rfl⟩ ⟨Nat.le_of_ble_eq_true rfl, Nat.le_of_ble_eq_true rfl⟩ rfl rfl (Nat.le_of_ble_eq_true rfl) dX6_writeStatement_121 ?_
    refine x_nmI (fun r26 er26 => ?_)
    have hR := nmE hR er26
    exact x_iretB (pc := 124) C rfl hR dX6_writeStatement_124
set_option maxHeartbeats 4000000 in
set_option maxRecDepth 100000 in
theorem c_X6_save {l : Launch} {A : Nat → Prop} {G : GT} {ad : Nat → Nat} (gl : Gl l A G ad)  (B : StB) (M : StM) (O : StO)  (hok : ok_X6_save B) : Met l yX6_save (wof yX6_save cX6_save 1 (some .int)) (rmd 4 0 0) (va_Pc [.ref (ad 176)] (PW G A ad B M O)) (QI G A ad (f_X6_save B).1 (f_X6_save B).2 M O) 0 0 A := by
  refine x_body (own := RX6) (by decide +kernel) rfl gl (Nat.le_of_ble_eq_true rfl) (ls := [(0, .ref (ad 176))]) rfl ?_
  intro p0 e s m args below meth c C
  have hR : (f_X6_save B) = (nm (f_X3_copyFrom 32 0 B) (fun (B2 : StB) => (nm (sbi B2 176 7 1) (fun (B3 : StB) => ((bi B3 0 3), B3))))) := rfl
  have hok : ((ok_X3_copyFrom 32 0 B)) := hok
  refine x_aload_n (pc := 0) (i := 0) C 0 dX6_save_0 rfl rfl ?_
  refine x_get (pc := 1) (q := 176) (i := 2) C e_I rfl ttX6 (by decide) wd_2_32 rfl dX6_save_1 ?_
  refine x_aload_n (pc := 4) (i := 0) C 0 dX6_save_4 rfl rfl ?_
  refine x_get (pc := 5) (q := 176) (i := 0) C e_I rfl ttX6 (by decide) wd_2_30 rfl dX6_save_5 ?_
  have h1 := hok
  refine x_cVV (pc := 8) (as := [.ref (ad 0)]) (q := 32) C (c_X3_copyFrom C.2.2.2.2.2.2.2.1 32 (by omega) 0 (by omega) B M O  h1) (fs := _) (e_L (by omega)) rfl cv_X3_copyFrom cd_X3_copyFrom wd_4_90 ⟨Nat.le_of_ble_eq_true rfl, Nat.le_of_ble_eq_true rfl⟩ ⟨Nat.le_of_ble_eq_true rfl, Nat.le_of_ble_eq_true rfl⟩ rfl rfl (Nat.le_of_ble_eq_true rfl) dX6_save_8 ?_
  refine x_nmB (fun B2 eB2 => ?_)
  have hR := nmE hR eB2
  refine x_aload_n (pc := 11) (i := 0) C 0 dX6_save_11 rfl rfl ?_
  refine x_iconst (pc := 12) (v := 1) C dX6_save_12 (by decide) ?_
  refine x_put (pc := 13) (B2 := (sbi B2 176 7 1)) (M2 := M) (O2 := O) (q := 176) (i := 7) C tyX6 tyX6_ok nmX6 e_I rfl ttX6 (by decide) wd_2_37 rfl (by decide) (by decide) (Nat.le_of_ble_eq_true rfl) dX6_save_13 (put_I_7 ) (o_sbi 176 7 1) ?_
  refine x_nmB (fun B3 eB3 => ?_)
  have hR := nmE hR eB3
  refine x_aload_n (pc := 16) (i := 0) C 0 dX6_save_16 rfl rfl ?_
  refine x_get (pc := 17) (q := 176) (i := 0) C e_I rfl ttX6 (by decide) wd_2_30 rfl dX6_save_17 ?_
  refine x_get (pc := 20) (q := 0) (i := 3) C (e_L (by omega)) rfl ttX3 (by decide) wd_1_152 rfl dX6_save_20 ?_
  exact x_iretB (pc := 23) C rfl hR dX6_save_23
set_option maxHeartbeats 4000000 in
set_option maxRecDepth 100000 in
theorem c_X6_restore_n {l : Launch} {A : Nat → Prop} {G : GT} {ad : Nat → Nat} (gl : Gl l A G ad)  (B : StB) (M : StM) (O : StO)  (hok : ok_X6_restore_n B) : Met l yX6_restore (wof yX6_restore cX6_restore 1 (some .int)) (rmd 4 0 0) (va_Pc [.ref (ad 176)] (PW G A ad B M O)) (QI G A ad (f_X6_restore_n B).1 (f_X6_restore_n B).2 M O) 0 0 A := by
  refine x_body (own := RX6) (by decide +kernel) rfl gl (Nat.le_of_ble_eq_true rfl) (ls := [(0, .ref (ad 176))]) rfl ?_
  intro p0 e s m args below meth c C
  have hR : (f_X6_restore_n B) = (if (bi B 176 7) = 0 then (0, B) else (nm (f_X3_copyFrom 0 32 B) (fun (B3 : StB) => (nm (sbi B3 177 0 0) (fun (B4 : StB) => ((bi B4 0 3), B4)))))) := rfl
  have hok : (((bi B 176 7) = 0 → False) ∧ (¬ (bi B 176 7) = 0 → ((ok_X3_copyFrom 0 32 B)))) := hok
  refine x_aload_n (pc := 0) (i := 0) C 0 dX6_restore_0 rfl rfl ?_
  refine x_get (pc := 1) (q := 176) (i := 7) C e_I rfl ttX6 (by decide) wd_2_37 rfl dX6_restore_1 ?_
  refine x_if_ne (pc := 4) (tgt := 15) C dX6_restore_4 (by decide) (fun c1 => ?_) (fun c1 => ?_)
  · have hR := hR.trans (if_neg c1)
    have hok := hok.2 c1
    refine x_aload_n (pc := 15) (i := 0) C 0 dX6_restore_15 rfl rfl ?_
    refine x_get (pc := 16) (q := 176) (i := 0) C e_I rfl ttX6 (by decide) wd_2_30 rfl dX6_restore_16 ?_
    refine x_aload_n (pc := 19) (i := 0) C 0 dX6_restore_19 rfl rfl ?_
    refine x_get (pc := 20) (q := 176) (i := 2) C e_I rfl ttX6 (by decide) wd_2_32 rfl dX6_restore_20 ?_
    have h2 := hok
    refine x_cVV (pc := 23) (as := [.ref (ad 32)]) (q := 0) C (c_X3_copyFrom C.2.2.2.2.2.2.2.1 0 (by omega) 32 (by omega) B M O  h2) (fs := _) (e_L (by omega)) rfl cv_X3_copyFrom cd_X3_copyFrom wd_4_90 ⟨Nat.le_of_ble_eq_true rfl, Nat.le_of_ble_eq_true rfl⟩ ⟨Nat.le_of_ble_eq_true rfl, Nat.le_of_ble_eq_true rfl⟩ rfl rfl (Nat.le_of_ble_eq_true rfl) dX6_restore_23 ?_
    refine x_nmB (fun B3 eB3 => ?_)
    have hR := nmE hR eB3
    refine x_aload_n (pc := 26) (i := 0) C 0 dX6_restore_26 rfl rfl ?_
    refine x_get (pc := 27) (q := 176) (i := 3) C e_I rfl ttX6 (by decide) wd_2_33 rfl dX6_restore_27 ?_
    refine x_iconst (pc := 30) (v := 0) C dX6_restore_30 (by decide) ?_
    refine x_put (pc := 31) (B2 := (sbi B3 177 0 0)) (M2 := M) (O2 := O) (q := 177) (i := 0) C tyX1 tyX1_ok nmX1 e_H rfl ttX1 (by decide) wd_1_199 rfl rfl rfl (Nat.le_of_ble_eq_true rfl) dX6_restore_31 (put_H_0 ) (o_sbi 177 0 0) ?_
    refine x_nmB (fun B4 eB4 => ?_)
    have hR := nmE hR eB4
    refine x_aload_n (pc := 34) (i := 0) C 0 dX6_restore_34 rfl rfl ?_
    refine x_get (pc := 35) (q := 176) (i := 0) C e_I rfl ttX6 (by decide) wd_2_30 rfl dX6_restore_35 ?_
    refine x_get (pc := 38) (q := 0) (i := 3) C (e_L (by omega)) rfl ttX3 (by decide) wd_1_152 rfl dX6_restore_38 ?_
    exact x_iretB (pc := 41) C rfl hR dX6_restore_41
  · have hR := hR.trans (if_pos c1)
    have hok := hok.1 c1
    exact False.elim hok
set_option maxHeartbeats 4000000 in
set_option maxRecDepth 100000 in
theorem c_X6_movementKind_n {l : Launch} {A : Nat → Prop} {G : GT} {ad : Nat → Nat} (gl : Gl l A G ad)  (B : StB) (M : StM) (O : StO) (x0 : Int32) (hok : ok_X6_movementKind_n B x0) : Met l yX6_movementKind (wof yX6_movementKind cX6_movementKind 2 (some .char)) (rmd 4 0 0) (va_Pc [.ref (ad 176), .int x0] (PW G A ad B M O)) (QI G A ad (f_X6_movementKind_n B x0) B M O) 0 0 A := by
  refine x_body (own := RX6) (by decide +kernel) rfl gl (Nat.le_of_ble_eq_true rfl) (ls := [(0, .ref (ad 176)), (1, .int x0)]) rfl ?_
  intro p0 e s m args below meth c C
  have hR : (f_X6_movementKind_n B x0) = (nm (f_X6_requireMovement_n B x0) (fun (r2 : Int32) => (ba B 13 (ix r2)))) := rfl
  have hok : ((ok_X6_requireMovement_n B x0) ∧ (∀ r2 : Int32, r2 = (f_X6_requireMovement_n B x0) → (vp_in r2 10 ∧ (narrow .char (.int (ba B 13 (ix r2))) = .int (ba B 13 (ix r2)))))) := hok
  refine x_aload_n (pc := 0) (i := 0) C 0 dX6_movementKind_0 rfl rfl ?_
  refine x_get (pc := 1) (q := 176) (i := 0) C e_I rfl ttX6 (by decide) wd_2_30 rfl dX6_movementKind_1 ?_
  refine x_get (pc := 4) (q := 0) (i := 2) C (e_L (by omega)) rfl ttX3 (by decide) wd_1_150 rfl dX6_movementKind_4 ?_
  refine x_get (pc := 7) (q := 12) (i := 2) C (e_J (by omega)) rfl ttX2 (by decide) wd_1_128 rfl dX6_movementKind_7 ?_
  refine x_aload_n (pc := 10) (i := 0) C 0 dX6_movementKind_10 rfl rfl ?_
  refine x_iload_n (pc := 11) (i := 1) C 1 dX6_movementKind_11 rfl rfl ?_
  have h1 := hok.1
  have hok := hok.2
  refine x_cIV (pc := 12) (as := [.int x0]) (q := 176) C (c_X6_requireMovement_n C.2.2.2.2.2.2.2.1  B M O x0 h1) (fs := _) e_I rfl cv_X6_requireMovement cd_X6_requireMovement wd_4_214 ⟨Nat.le_of_ble_eq_true rfl, Nat.le_of_ble_eq_true rfl⟩ ⟨Nat.le_of_ble_eq_true rfl, Nat.le_of_ble_eq_true rfl⟩ rfl rfl (Nat.le_of_ble_eq_true rfl) dX6_movementKind_12 ?_
  refine x_nmI (fun r2 er2 => ?_)
  have hR := nmE hR er2
  have hok := hok r2 er2
  have h3 := hok.1
  have hok := hok.2
  refine x_cald (pc := 15) (q := 13) C (e_Jk (by omega)) h3 dX6_movementKind_15 ?_
  have h4 := hok
  exact x_zret (pc := 16) C rfl h4 hR dX6_movementKind_16
set_option maxHeartbeats 4000000 in
set_option maxRecDepth 100000 in
theorem c_X6_movementAccount_n {l : Launch} {A : Nat → Prop} {G : GT} {ad : Nat → Nat} (gl : Gl l A G ad)  (B : StB) (M : StM) (O : StO) (x0 : Int32) (hok : ok_X6_movementAccount_n B x0) : Met l yX6_movementAccount (wof yX6_movementAccount cX6_movementAccount 2 (some .int)) (rmd 4 0 0) (va_Pc [.ref (ad 176), .int x0] (PW G A ad B M O)) (QI G A ad (f_X6_movementAccount_n B x0) B M O) 0 0 A := by
  refine x_body (own := RX6) (by decide +kernel) rfl gl (Nat.le_of_ble_eq_true rfl) (ls := [(0, .ref (ad 176)), (1, .int x0)]) rfl ?_
  intro p0 e s m args below meth c C
  have hR : (f_X6_movementAccount_n B x0) = (nm (f_X6_requireMovement_n B x0) (fun (r2 : Int32) => (ba B 15 (ix r2)))) := rfl
  have hok : ((ok_X6_requireMovement_n B x0) ∧ (∀ r2 : Int32, r2 = (f_X6_requireMovement_n B x0) → (vp_in r2 10))) := hok
  refine x_aload_n (pc := 0) (i := 0) C 0 dX6_movementAccount_0 rfl rfl ?_
  refine x_get (pc := 1) (q := 176) (i := 0) C e_I rfl ttX6 (by decide) wd_2_30 rfl dX6_movementAccount_1 ?_
  refine x_get (pc := 4) (q := 0) (i := 2) C (e_L (by omega)) rfl ttX3 (by decide) wd_1_150 rfl dX6_movementAccount_4 ?_
  refine x_get (pc := 7) (q := 12) (i := 4) C (e_J (by omega)) rfl ttX2 (by decide) wd_1_132 rfl dX6_movementAccount_7 ?_
  refine x_aload_n (pc := 10) (i := 0) C 0 dX6_movementAccount_10 rfl rfl ?_
  refine x_iload_n (pc := 11) (i := 1) C 1 dX6_movementAccount_11 rfl rfl ?_
  have h1 := hok.1
  have hok := hok.2
  refine x_cIV (pc := 12) (as := [.int x0]) (q := 176) C (c_X6_requireMovement_n C.2.2.2.2.2.2.2.1  B M O x0 h1) (fs := _) e_I rfl cv_X6_requireMovement cd_X6_requireMovement wd_4_214 ⟨Nat.le_of_ble_eq_true rfl, Nat.le_of_ble_eq_true rfl⟩ ⟨Nat.le_of_ble_eq_true rfl, Nat.le_of_ble_eq_true rfl⟩ rfl rfl (Nat.le_of_ble_eq_true rfl) dX6_movementAccount_12 ?_
  refine x_nmI (fun r2 er2 => ?_)
  have hR := nmE hR er2
  have hok := hok r2 er2
  have h3 := hok
  refine x_iald (pc := 15) (q := 15) C (e_Jc (by omega)) h3 dX6_movementAccount_15 ?_
  exact x_iret (pc := 16) C rfl hR dX6_movementAccount_16
set_option maxHeartbeats 4000000 in
set_option maxRecDepth 100000 in
theorem c_X6_open {l : Launch} {A : Nat → Prop} {G : GT} {ad : Nat → Nat} (gl : Gl l A G ad)  (B : StB) (M : StM) (O : StO) (x0 : Int32) (hok : ok_X6_open B x0) : TMet l yX6_open (wof yX6_open cX6_open 2 (some .int)) (rmd 12 4 24) [.ref (ad 176), .int x0] G A ad B M O (f_X6_open B x0) 4 24 := by
  refine xt_body (own := RX6) (by decide +kernel) rfl gl (Nat.le_of_ble_eq_true rfl) (ls := [(0, .ref (ad 176)), (1, .int x0)]) rfl ?_
  intro p0 e s m args below meth c hE C
  have hR : (f_X6_open B x0) = (nm (f_X3_openFault 0 B x0) (fun (r1 : Int32) => (nm (f_X6_raise B r1) (fun (z2 : Nat × Int32 × StB) => (if z2.1 = 0 then (nm (f_X1_remember 0 z2.2.2) (fun (B4 : StB) => (nm (f_X0_add 1 B4 x0) (fun (z6 : Int32 × StB) => (0, z6.1, z6.2))))) else (z2.1, 0, z2.2.2)))))) := rfl
  have hok : (∀ r1 : Int32, r1 = (f_X3_openFault 0 B x0) → (∀ z2 : Nat × Int32 × StB, z2 = (f_X6_raise B r1) → z2.1 = 0 → ((ok_X1_remember 0 z2.2.2) ∧ (∀ B4 : StB, B4 = (f_X1_remember 0 z2.2.2) → ((ok_X0_add 1 B4 x0)))))) := hok
  refine x_aload_n (pc := 0) (i := 0) C 0 dX6_open_0 rfl rfl ?_
  refine x_get (pc := 1) (q := 176) (i := 0) C e_I rfl ttX6 (by decide) wd_2_30 rfl dX6_open_1 ?_
  refine x_iload_n (pc := 4) (i := 1) C 1 dX6_open_4 rfl rfl ?_
  refine x_cIV (pc := 5) (as := [.int x0]) (q := 0) C (c_X3_openFault C.2.2.2.2.2.2.2.1 0 (by omega) B M O x0) (fs := _) (e_L (by omega)) rfl cv_X3_openFault cd_X3_openFault wd_2_170 ⟨Nat.le_of_ble_eq_true rfl, Nat.le_of_ble_eq_true rfl⟩ ⟨Nat.le_of_ble_eq_true rfl, Nat.le_of_ble_eq_true rfl⟩ rfl rfl (Nat.le_of_ble_eq_true rfl) dX6_open_5 ?_
  refine x_nmI (fun r1 er1 => ?_)
  have hR := nmE hR er1
  have hok := hok r1 er1
  refine xt_cVS (pc := 8) (as := [.int r1]) C hE (c_X6_raise C.2.2.2.2.2.2.2.1  B M O r1) wd_2_178 cd_X6_raise wd_2_177 ⟨Nat.le_of_ble_eq_true rfl, Nat.le_of_ble_eq_true rfl⟩ ⟨Nat.le_of_ble_eq_true rfl, Nat.le_of_ble_eq_true rfl⟩ ⟨Nat.le_of_ble_eq_true rfl, Nat.le_of_ble_eq_true rfl⟩ rfl rfl (Nat.le_of_ble_eq_true rfl) dX6_open_8 (fun z2 ez2 hz => (nmE hR ez2).trans (if_neg hz)) (fun z2 ez2 hzz2 => ?_)
  have hR := (nmE hR ez2).trans (if_pos hzz2)
  have hok := hok z2 ez2 hzz2
  refine x_aload_n (pc := 11) (i := 0) C 0 dX6_open_11 rfl rfl ?_
  refine x_get (pc := 12) (q := 176) (i := 3) C e_I rfl ttX6 (by decide) wd_2_33 rfl dX6_open_12 ?_
  refine x_aload_n (pc := 15) (i := 0) C 0 dX6_open_15 rfl rfl ?_
  refine x_get (pc := 16) (q := 176) (i := 0) C e_I rfl ttX6 (by decide) wd_2_30 rfl dX6_open_16 ?_
  have h3 := hok.1
  have hok := hok.2
  refine x_cVV (pc := 19) (as := [.ref (ad 0)]) (q := 177) C (c_X1_remember C.2.2.2.2.2.2.2.1 0 (by omega) z2.2.2 M O  h3) (fs := _) e_H rfl cv_X1_remember cd_X1_remember wd_3_21 ⟨Nat.le_of_ble_eq_true rfl, Nat.le_of_ble_eq_true rfl⟩ ⟨Nat.le_of_ble_eq_true rfl, Nat.le_of_ble_eq_true rfl⟩ rfl rfl (Nat.le_of_ble_eq_true rfl) dX6_open_19 ?_
  refine x_nmB (fun B4 eB4 => ?_)
  have hR := nmE hR eB4
  have hok := hok B4 eB4
  refine x_aload_n (pc := 22) (i := 0) C 0 dX6_open_22 rfl rfl ?_
  refine x_get (pc := 23) (q := 176) (i := 0) C e_I rfl ttX6 (by decide) wd_2_30 rfl dX6_open_23 ?_
  refine x_get (pc := 26) (q := 0) (i := 0) C (e_L (by omega)) rfl ttX3 (by decide) wd_1_146 rfl dX6_open_26 ?_
  refine x_iload_n (pc := 29) (i := 1) C 1 dX6_open_29 rfl rfl ?_
  have h5 := hok
  refine x_cIV (pc := 30) (as := [.int x0]) (q := 1) C (c_X0_add C.2.2.2.2.2.2.2.1 1 (by omega) B4 M O x0 h5) (fs := _) (e_A (by omega)) rfl cv_X0_add cd_X0_add wd_3_51 ⟨Nat.le_of_ble_eq_true rfl, Nat.le_of_ble_eq_true rfl⟩ ⟨Nat.le_of_ble_eq_true rfl, Nat.le_of_ble_eq_true rfl⟩ rfl rfl (Nat.le_of_ble_eq_true rfl) dX6_open_30 ?_
  refine x_nmIB (fun z6 ez6 => ?_)
  have hR := nmE hR ez6
  exact xt_zret (pc := 33) C rfl rfl hR (Nat.le_of_ble_eq_true rfl) (Nat.le_of_ble_eq_true rfl) dX6_open_33
set_option maxHeartbeats 4000000 in
set_option maxRecDepth 100000 in
theorem c_X6_deposit {l : Launch} {A : Nat → Prop} {G : GT} {ad : Nat → Nat} (gl : Gl l A G ad)  (B : StB) (M : StM) (O : StO) (x0 : Int32) (x1 : Int32) (hok : ok_X6_deposit B x0 x1) : TMet l yX6_deposit (wof yX6_deposit cX6_deposit 3 (some .int)) (rmd 12 4 24) [.ref (ad 176), .int x0, .int x1] G A ad B M O (f_X6_deposit B x0 x1) 4 24 := by
  refine xt_body (own := RX6) (by decide +kernel) rfl gl (Nat.le_of_ble_eq_true rfl) (ls := [(0, .ref (ad 176)), (1, .int x0), (2, .int x1)]) rfl ?_
  intro p0 e s m args below meth c hE C
  have hR : (f_X6_deposit B x0 x1) = (nm (f_X3_payInFault 0 B x0 x1) (fun (r2 : Int32) => (nm (f_X6_raise B r2) (fun (z3 : Nat × Int32 × StB) => (if z3.1 = 0 then (nm (f_X1_remember 0 z3.2.2) (fun (B5 : StB) => (nm (f_X3_payIn 0 B5 x0 x1) (fun (z7 : Int32 × StB) => (0, z7.1, z7.2))))) else (z3.1, 0, z3.2.2)))))) := rfl
  have hok : ((ok_X3_payInFault 0 B x0 x1) ∧ (∀ r2 : Int32, r2 = (f_X3_payInFault 0 B x0 x1) → (∀ z3 : Nat × Int32 × StB, z3 = (f_X6_raise B r2) → z3.1 = 0 → ((ok_X1_remember 0 z3.2.2) ∧ (∀ B5 : StB, B5 = (f_X1_remember 0 z3.2.2) → ((ok_X3_payIn 0 B5 x0 x1))))))) := hok
  refine x_aload_n (pc := 0) (i := 0) C 0 dX6_deposit_0 rfl rfl ?_
  refine x_get (pc := 1) (q := 176) (i := 0) C e_I rfl ttX6 (by decide) wd_2_30 rfl dX6_deposit_1 ?_
  refine x_iload_n (pc := 4) (i := 1) C 1 dX6_deposit_4 rfl rfl ?_
  refine x_iload_n (pc := 5) (i := 2) C 2 dX6_deposit_5 rfl rfl ?_
  have h1 := hok.1
  have hok := hok.2
  refine x_cIV (pc := 6) (as := [.int x0, .int x1]) (q := 0) C (c_X3_payInFault C.2.2.2.2.2.2.2.1 0 (by omega) B M O x0 x1 h1) (fs := _) (e_L (by omega)) rfl cv_X3_payInFault cd_X3_payInFault wd_3_59 ⟨Nat.le_of_ble_eq_true rfl, Nat.le_of_ble_eq_true rfl⟩ ⟨Nat.le_of_ble_eq_true rfl, Nat.le_of_ble_eq_true rfl⟩ rfl rfl (Nat.le_of_ble_eq_true rfl) dX6_deposit_6 ?_
  refine x_nmI (fun r2 er2 => ?_)
  have hR := nmE hR er2
  have hok := hok r2 er2
  refine xt_cVS (pc := 9) (as := [.int r2]) C hE (c_X6_raise C.2.2.2.2.2.2.2.1  B M O r2) wd_2_178 cd_X6_raise wd_2_177 ⟨Nat.le_of_ble_eq_true rfl, Nat.le_of_ble_eq_true rfl⟩ ⟨Nat.le_of_ble_eq_true rfl, Nat.le_of_ble_eq_true rfl⟩ ⟨Nat.le_of_ble_eq_true rfl, Nat.le_of_ble_eq_true rfl⟩ rfl rfl (Nat.le_of_ble_eq_true rfl) dX6_deposit_9 (fun z3 ez3 hz => (nmE hR ez3).trans (if_neg hz)) (fun z3 ez3 hzz3 => ?_)
  have hR := (nmE hR ez3).trans (if_pos hzz3)
  have hok := hok z3 ez3 hzz3
  refine x_aload_n (pc := 12) (i := 0) C 0 dX6_deposit_12 rfl rfl ?_
  refine x_get (pc := 13) (q := 176) (i := 3) C e_I rfl ttX6 (by decide) wd_2_33 rfl dX6_deposit_13 ?_
  refine x_aload_n (pc := 16) (i := 0) C 0 dX6_deposit_16 rfl rfl ?_
  refine x_get (pc := 17) (q := 176) (i := 0) C e_I rfl ttX6 (by decide) wd_2_30 rfl dX6_deposit_17 ?_
  have h4 := hok.1
  have hok := hok.2
  refine x_cVV (pc := 20) (as := [.ref (ad 0)]) (q := 177) C (c_X1_remember C.2.2.2.2.2.2.2.1 0 (by omega) z3.2.2 M O  h4) (fs := _) e_H rfl cv_X1_remember cd_X1_remember wd_3_21 ⟨Nat.le_of_ble_eq_true rfl, Nat.le_of_ble_eq_true rfl⟩ ⟨Nat.le_of_ble_eq_true rfl, Nat.le_of_ble_eq_true rfl⟩ rfl rfl (Nat.le_of_ble_eq_true rfl) dX6_deposit_20 ?_
  refine x_nmB (fun B5 eB5 => ?_)
  have hR := nmE hR eB5
  have hok := hok B5 eB5
  refine x_aload_n (pc := 23) (i := 0) C 0 dX6_deposit_23 rfl rfl ?_
  refine x_get (pc := 24) (q := 176) (i := 0) C e_I rfl ttX6 (by decide) wd_2_30 rfl dX6_deposit_24 ?_
  refine x_iload_n (pc := 27) (i := 1) C 1 dX6_deposit_27 rfl rfl ?_
  refine x_iload_n (pc := 28) (i := 2) C 2 dX6_deposit_28 rfl rfl ?_
  have h6 := hok
  refine x_cIV (pc := 29) (as := [.int x0, .int x1]) (q := 0) C (c_X3_payIn C.2.2.2.2.2.2.2.1 0 (by omega) B5 M O x0 x1 h6) (fs := _) (e_L (by omega)) rfl cv_X3_payIn cd_X3_payIn wd_3_71 ⟨Nat.le_of_ble_eq_true rfl, Nat.le_of_ble_eq_true rfl⟩ ⟨Nat.le_of_ble_eq_true rfl, Nat.le_of_ble_eq_true rfl⟩ rfl rfl (Nat.le_of_ble_eq_true rfl) dX6_deposit_29 ?_
  refine x_nmIB (fun z7 ez7 => ?_)
  have hR := nmE hR ez7
  exact xt_zret (pc := 32) C rfl rfl hR (Nat.le_of_ble_eq_true rfl) (Nat.le_of_ble_eq_true rfl) dX6_deposit_32
set_option maxHeartbeats 4000000 in
set_option maxRecDepth 100000 in
theorem c_X6_withdraw {l : Launch} {A : Nat → Prop} {G : GT} {ad : Nat → Nat} (gl : Gl l A G ad)  (B : StB) (M : StM) (O : StO) (x0 : Int32) (x1 : Int32) (hok : ok_X6_withdraw B x0 x1) : TMet l yX6_withdraw (wof yX6_withdraw cX6_withdraw 3 (some .int)) (rmd 12 4 24) [.ref (ad 176), .int x0, .int x1] G A ad B M O (f_X6_withdraw B x0 x1) 4 24 := by
  refine xt_body (own := RX6) (by decide +kernel) rfl gl (Nat.le_of_ble_eq_true rfl) (ls := [(0, .ref (ad 176)), (1, .int x0), (2, .int x1)]) rfl ?_
  intro p0 e s m args below meth c hE C
  have hR : (f_X6_withdraw B x0 x1) = (nm (f_X3_payOutFault 0 B x0 x1) (fun (r2 : Int32) => (nm (f_X6_raise B r2) (fun (z3 : Nat × Int32 × StB) => (if z3.1 = 0 then (nm (f_X1_remember 0 z3.2.2) (fun (B5 : StB) => (nm (f_X3_payOut 0 B5 x0 x1) (fun (z7 : Int32 × StB) => (0, z7.1, z7.2))))) else (z3.1, 0, z3.2.2)))))) := rfl
  have hok : ((ok_X3_payOutFault 0 B x0 x1) ∧ (∀ r2 : Int32, r2 = (f_X3_payOutFault 0 B x0 x1) → (∀ z3 : Nat × Int32 × StB, z3 = (f_X6_raise B r2) → z3.1 = 0 → ((ok_X1_remember 0 z3.2.2) ∧ (∀ B5 : StB, B5 = (f_X1_remember 0 z3.2.2) → ((ok_X3_payOut 0 B5 x0 x1))))))) := hok
  refine x_aload_n (pc := 0) (i := 0) C 0 dX6_withdraw_0 rfl rfl ?_
  refine x_get (pc := 1) (q := 176) (i := 0) C e_I rfl ttX6 (by decide) wd_2_30 rfl dX6_withdraw_1 ?_
  refine x_iload_n (pc := 4) (i := 1) C 1 dX6_withdraw_4 rfl rfl ?_
  refine x_iload_n (pc := 5) (i := 2) C 2 dX6_withdraw_5 rfl rfl ?_
  have h1 := hok.1
  have hok := hok.2
  refine x_cIV (pc := 6) (as := [.int x0, .int x1]) (q := 0) C (c_X3_payOutFault C.2.2.2.2.2.2.2.1 0 (by omega) B M O x0 x1 h1) (fs := _) (e_L (by omega)) rfl cv_X3_payOutFault cd_X3_payOutFault wd_3_85 ⟨Nat.le_of_ble_eq_true rfl, Nat.le_of_ble_eq_true rfl⟩ ⟨Nat.le_of_ble_eq_true rfl, Nat.le_of_ble_eq_true rfl⟩ rfl rfl (Nat.le_of_ble_eq_true rfl) dX6_withdraw_6 ?_
  refine x_nmI (fun r2 er2 => ?_)
  have hR := nmE hR er2
  have hok := hok r2 er2
  refine xt_cVS (pc := 9) (as := [.int r2]) C hE (c_X6_raise C.2.2.2.2.2.2.2.1  B M O r2) wd_2_178 cd_X6_raise wd_2_177 ⟨Nat.le_of_ble_eq_true rfl, Nat.le_of_ble_eq_true rfl⟩ ⟨Nat.le_of_ble_eq_true rfl, Nat.le_of_ble_eq_true rfl⟩ ⟨Nat.le_of_ble_eq_true rfl, Nat.le_of_ble_eq_true rfl⟩ rfl rfl (Nat.le_of_ble_eq_true rfl) dX6_withdraw_9 (fun z3 ez3 hz => (nmE hR ez3).trans (if_neg hz)) (fun z3 ez3 hzz3 => ?_)
  have hR := (nmE hR ez3).trans (if_pos hzz3)
  have hok := hok z3 ez3 hzz3
  refine x_aload_n (pc := 12) (i := 0) C 0 dX6_withdraw_12 rfl rfl ?_
  refine x_get (pc := 13) (q := 176) (i := 3) C e_I rfl ttX6 (by decide) wd_2_33 rfl dX6_withdraw_13 ?_
  refine x_aload_n (pc := 16) (i := 0) C 0 dX6_withdraw_16 rfl rfl ?_
  refine x_get (pc := 17) (q := 176) (i := 0) C e_I rfl ttX6 (by decide) wd_2_30 rfl dX6_withdraw_17 ?_
  have h4 := hok.1
  have hok := hok.2
  refine x_cVV (pc := 20) (as := [.ref (ad 0)]) (q := 177) C (c_X1_remember C.2.2.2.2.2.2.2.1 0 (by omega) z3.2.2 M O  h4) (fs := _) e_H rfl cv_X1_remember cd_X1_remember wd_3_21 ⟨Nat.le_of_ble_eq_true rfl, Nat.le_of_ble_eq_true rfl⟩ ⟨Nat.le_of_ble_eq_true rfl, Nat.le_of_ble_eq_true rfl⟩ rfl rfl (Nat.le_of_ble_eq_true rfl) dX6_withdraw_20 ?_
  refine x_nmB (fun B5 eB5 => ?_)
  have hR := nmE hR eB5
  have hok := hok B5 eB5
  refine x_aload_n (pc := 23) (i := 0) C 0 dX6_withdraw_23 rfl rfl ?_
  refine x_get (pc := 24) (q := 176) (i := 0) C e_I rfl ttX6 (by decide) wd_2_30 rfl dX6_withdraw_24 ?_
  refine x_iload_n (pc := 27) (i := 1) C 1 dX6_withdraw_27 rfl rfl ?_
  refine x_iload_n (pc := 28) (i := 2) C 2 dX6_withdraw_28 rfl rfl ?_
  have h6 := hok
  refine x_cIV (pc := 29) (as := [.int x0, .int x1]) (q := 0) C (c_X3_payOut C.2.2.2.2.2.2.2.1 0 (by omega) B5 M O x0 x1 h6) (fs := _) (e_L (by omega)) rfl cv_X3_payOut cd_X3_payOut wd_3_93 ⟨Nat.le_of_ble_eq_true rfl, Nat.le_of_ble_eq_true rfl⟩ ⟨Nat.le_of_ble_eq_true rfl, Nat.le_of_ble_eq_true rfl⟩ rfl rfl (Nat.le_of_ble_eq_true rfl) dX6_withdraw_29 ?_
  refine x_nmIB (fun z7 ez7 => ?_)
  have hR := nmE hR ez7
  exact xt_zret (pc := 32) C rfl rfl hR (Nat.le_of_ble_eq_true rfl) (Nat.le_of_ble_eq_true rfl) dX6_withdraw_32
set_option maxHeartbeats 4000000 in
set_option maxRecDepth 100000 in
theorem c_X6_setLimit {l : Launch} {A : Nat → Prop} {G : GT} {ad : Nat → Nat} (gl : Gl l A G ad)  (B : StB) (M : StM) (O : StO) (x0 : Int32) (x1 : Int32) (hok : ok_X6_setLimit B x0 x1) : TMet l yX6_setLimit (wof yX6_setLimit cX6_setLimit 3 (some .int)) (rmd 12 4 24) [.ref (ad 176), .int x0, .int x1] G A ad B M O (f_X6_setLimit B x0 x1) 4 24 := by
  refine xt_body (own := RX6) (by decide +kernel) rfl gl (Nat.le_of_ble_eq_true rfl) (ls := [(0, .ref (ad 176)), (1, .int x0), (2, .int x1)]) rfl ?_
  intro p0 e s m args below meth c hE C
  have hR : (f_X6_setLimit B x0 x1) = (nm (f_X3_limitFault 0 B x0 x1) (fun (r2 : Int32) => (nm (f_X6_raise B r2) (fun (z3 : Nat × Int32 × StB) => (if z3.1 = 0 then (nm (f_X1_remember 0 z3.2.2) (fun (B5 : StB) => (nm (f_X0_changeLimit 1 B5 x0 x1) (fun (z7 : Int32 × StB) => (0, z7.1, z7.2))))) else (z3.1, 0, z3.2.2)))))) := rfl
  have hok : ((ok_X3_limitFault 0 B x0 x1) ∧ (∀ r2 : Int32, r2 = (f_X3_limitFault 0 B x0 x1) → (∀ z3 : Nat × Int32 × StB, z3 = (f_X6_raise B r2) → z3.1 = 0 → ((ok_X1_remember 0 z3.2.2) ∧ (∀ B5 : StB, B5 = (f_X1_remember 0 z3.2.2) → ((ok_X0_changeLimit 1 B5 x0 x1))))))) := hok
  refine x_aload_n (pc := 0) (i := 0) C 0 dX6_setLimit_0 rfl rfl ?_
  refine x_get (pc := 1) (q := 176) (i := 0) C e_I rfl ttX6 (by decide) wd_2_30 rfl dX6_setLimit_1 ?_
  refine x_iload_n (pc := 4) (i := 1) C 1 dX6_setLimit_4 rfl rfl ?_
  refine x_iload_n (pc := 5) (i := 2) C 2 dX6_setLimit_5 rfl rfl ?_
  have h1 := hok.1
  have hok := hok.2
  refine x_cIV (pc := 6) (as := [.int x0, .int x1]) (q := 0) C (c_X3_limitFault C.2.2.2.2.2.2.2.1 0 (by omega) B M O x0 x1 h1) (fs := _) (e_L (by omega)) rfl cv_X3_limitFault cd_X3_limitFault wd_3_101 ⟨Nat.le_of_ble_eq_true rfl, Nat.le_of_ble_eq_true rfl⟩ ⟨Nat.le_of_ble_eq_true rfl, Nat.le_of_ble_eq_true rfl⟩ rfl rfl (Nat.le_of_ble_eq_true rfl) dX6_setLimit_6 ?_
  refine x_nmI (fun r2 er2 => ?_)
  have hR := nmE hR er2
  have hok := hok r2 er2
  refine xt_cVS (pc := 9) (as := [.int r2]) C hE (c_X6_raise C.2.2.2.2.2.2.2.1  B M O r2) wd_2_178 cd_X6_raise wd_2_177 ⟨Nat.le_of_ble_eq_true rfl, Nat.le_of_ble_eq_true rfl⟩ ⟨Nat.le_of_ble_eq_true rfl, Nat.le_of_ble_eq_true rfl⟩ ⟨Nat.le_of_ble_eq_true rfl, Nat.le_of_ble_eq_true rfl⟩ rfl rfl (Nat.le_of_ble_eq_true rfl) dX6_setLimit_9 (fun z3 ez3 hz => (nmE hR ez3).trans (if_neg hz)) (fun z3 ez3 hzz3 => ?_)
  have hR := (nmE hR ez3).trans (if_pos hzz3)
  have hok := hok z3 ez3 hzz3
  refine x_aload_n (pc := 12) (i := 0) C 0 dX6_setLimit_12 rfl rfl ?_
  refine x_get (pc := 13) (q := 176) (i := 3) C e_I rfl ttX6 (by decide) wd_2_33 rfl dX6_setLimit_13 ?_
  refine x_aload_n (pc := 16) (i := 0) C 0 dX6_setLimit_16 rfl rfl ?_
  refine x_get (pc := 17) (q := 176) (i := 0) C e_I rfl ttX6 (by decide) wd_2_30 rfl dX6_setLimit_17 ?_
  have h4 := hok.1
  have hok := hok.2
  refine x_cVV (pc := 20) (as := [.ref (ad 0)]) (q := 177) C (c_X1_remember C.2.2.2.2.2.2.2.1 0 (by omega) z3.2.2 M O  h4) (fs := _) e_H rfl cv_X1_remember cd_X1_remember wd_3_21 ⟨Nat.le_of_ble_eq_true rfl, Nat.le_of_ble_eq_true rfl⟩ ⟨Nat.le_of_ble_eq_true rfl, Nat.le_of_ble_eq_true rfl⟩ rfl rfl (Nat.le_of_ble_eq_true rfl) dX6_setLimit_20 ?_
  refine x_nmB (fun B5 eB5 => ?_)
  have hR := nmE hR eB5
  have hok := hok B5 eB5
  refine x_aload_n (pc := 23) (i := 0) C 0 dX6_setLimit_23 rfl rfl ?_
  refine x_get (pc := 24) (q := 176) (i := 0) C e_I rfl ttX6 (by decide) wd_2_30 rfl dX6_setLimit_24 ?_
  refine x_get (pc := 27) (q := 0) (i := 0) C (e_L (by omega)) rfl ttX3 (by decide) wd_1_146 rfl dX6_setLimit_27 ?_
  refine x_iload_n (pc := 30) (i := 1) C 1 dX6_setLimit_30 rfl rfl ?_
  refine x_iload_n (pc := 31) (i := 2) C 2 dX6_setLimit_31 rfl rfl ?_
  have h6 := hok
  refine x_cIV (pc := 32) (as := [.int x0, .int x1]) (q := 1) C (c_X0_changeLimit C.2.2.2.2.2.2.2.1 1 (by omega) B5 M O x0 x1 h6) (fs := _) (e_A (by omega)) rfl cv_X0_changeLimit cd_X0_changeLimit wd_3_105 ⟨Nat.le_of_ble_eq_true rfl, Nat.le_of_ble_eq_true rfl⟩ ⟨Nat.le_of_ble_eq_true rfl, Nat.le_of_ble_eq_true rfl⟩ rfl rfl (Nat.le_of_ble_eq_true rfl) dX6_setLimit_32 ?_
  refine x_nmIB (fun z7 ez7 => ?_)
  have hR := nmE hR ez7
  exact xt_zret (pc := 35) C rfl rfl hR (Nat.le_of_ble_eq_true rfl) (Nat.le_of_ble_eq_true rfl) dX6_setLimit_35
set_option maxHeartbeats 4000000 in
set_option maxRecDepth 100000 in
theorem c_X6_seal {l : Launch} {A : Nat → Prop} {G : GT} {ad : Nat → Nat} (gl : Gl l A G ad)  (B : StB) (M : StM) (O : StO) (x0 : Int32) (x1 : Int32) (x2 : Int32) (x3 : Int32) (hok : ok_X6_seal B x0 x1 x2 x3) : TMet l yX6_seal (wof yX6_seal cX6_seal 5 (some .int)) (rmd 12 4 24) [.ref (ad 176), .int x0, .int x1, .int x2, .int x3] G A ad B M O (f_X6_seal B x0 x1 x2 x3) 4 24 := by
  refine xt_body (own := RX6) (by decide +kernel) rfl gl (Nat.le_of_ble_eq_true rfl) (ls := [(0, .ref (ad 176)), (1, .int x0), (2, .int x1), (3, .int x2), (4, .int x3)]) rfl ?_
  intro p0 e s m args below meth c hE C
  have hR : (f_X6_seal B x0 x1 x2 x3) = (nm (f_X3_sealFault 0 B x0 x1 x2 x3) (fun (r1 : Int32) => (nm (f_X6_raise B r1) (fun (z2 : Nat × Int32 × StB) => (if z2.1 = 0 then (nm (f_X1_remember 0 z2.2.2) (fun (B4 : StB) => (nm (f_X5_add 6 B4 x0 x1 x2 ((bi B4 0 3) + x3)) (fun (z6 : Int32 × StB) => (0, z6.1, z6.2))))) else (z2.1, 0, z2.2.2)))))) := rfl
  have hok : (∀ r1 : Int32, r1 = (f_X3_sealFault 0 B x0 x1 x2 x3) → (∀ z2 : Nat × Int32 × StB, z2 = (f_X6_raise B r1) → z2.1 = 0 → ((ok_X1_remember 0 z2.2.2) ∧ (∀ B4 : StB, B4 = (f_X1_remember 0 z2.2.2) → ((ok_X5_add 6 B4 x0 x1 x2 ((bi B4 0 3) + x3))))))) := hok
  refine x_aload_n (pc := 0) (i := 0) C 0 dX6_seal_0 rfl rfl ?_
  refine x_get (pc := 1) (q := 176) (i := 0) C e_I rfl ttX6 (by decide) wd_2_30 rfl dX6_seal_1 ?_
  refine x_iload_n (pc := 4) (i := 1) C 1 dX6_seal_4 rfl rfl ?_
  refine x_iload_n (pc := 5) (i := 2) C 2 dX6_seal_5 rfl rfl ?_
  refine x_iload_n (pc := 6) (i := 3) C 3 dX6_seal_6 rfl rfl ?_
  refine x_iload (pc := 7) (i := 4) C 4 dX6_seal_7 rfl ?_
  refine x_cIV (pc := 9) (as := [.int x0, .int x1, .int x2, .int x3]) (q := 0) C (c_X3_sealFault C.2.2.2.2.2.2.2.1 0 (by omega) B M O x0 x1 x2 x3) (fs := _) (e_L (by omega)) rfl cv_X3_sealFault cd_X3_sealFault wd_3_113 ⟨Nat.le_of_ble_eq_true rfl, Nat.le_of_ble_eq_true rfl⟩ ⟨Nat.le_of_ble_eq_true rfl, Nat.le_of_ble_eq_true rfl⟩ rfl rfl (Nat.le_of_ble_eq_true rfl) dX6_seal_9 ?_
  refine x_nmI (fun r1 er1 => ?_)
  have hR := nmE hR er1
  have hok := hok r1 er1
  refine xt_cVS (pc := 12) (as := [.int r1]) C hE (c_X6_raise C.2.2.2.2.2.2.2.1  B M O r1) wd_2_178 cd_X6_raise wd_2_177 ⟨Nat.le_of_ble_eq_true rfl, Nat.le_of_ble_eq_true rfl⟩ ⟨Nat.le_of_ble_eq_true rfl, Nat.le_of_ble_eq_true rfl⟩ ⟨Nat.le_of_ble_eq_true rfl, Nat.le_of_ble_eq_true rfl⟩ rfl rfl (Nat.le_of_ble_eq_true rfl) dX6_seal_12 (fun z2 ez2 hz => (nmE hR ez2).trans (if_neg hz)) (fun z2 ez2 hzz2 => ?_)
  have hR := (nmE hR ez2).trans (if_pos hzz2)
  have hok := hok z2 ez2 hzz2
  refine x_aload_n (pc := 15) (i := 0) C 0 dX6_seal_15 rfl rfl ?_
  refine x_get (pc := 16) (q := 176) (i := 3) C e_I rfl ttX6 (by decide) wd_2_33 rfl dX6_seal_16 ?_
  refine x_aload_n (pc := 19) (i := 0) C 0 dX6_seal_19 rfl rfl ?_
  refine x_get (pc := 20) (q := 176) (i := 0) C e_I rfl ttX6 (by decide) wd_2_30 rfl dX6_seal_20 ?_
  have h3 := hok.1
  have hok := hok.2
  refine x_cVV (pc := 23) (as := [.ref (ad 0)]) (q := 177) C (c_X1_remember C.2.2.2.2.2.2.2.1 0 (by omega) z2.2.2 M O  h3) (fs := _) e_H rfl cv_X1_remember cd_X1_remember wd_3_21 ⟨Nat.le_of_ble_eq_true rfl, Nat.le_of_ble_eq_true rfl⟩ ⟨Nat.le_of_ble_eq_true rfl, Nat.le_of_ble_eq_true rfl⟩ rfl rfl (Nat.le_of_ble_eq_true rfl) dX6_seal_23 ?_
  refine x_nmB (fun B4 eB4 => ?_)
  have hR := nmE hR eB4
  have hok := hok B4 eB4
  refine x_aload_n (pc := 26) (i := 0) C 0 dX6_seal_26 rfl rfl ?_
  refine x_get (pc := 27) (q := 176) (i := 0) C e_I rfl ttX6 (by decide) wd_2_30 rfl dX6_seal_27 ?_
  refine x_get (pc := 30) (q := 0) (i := 1) C (e_L (by omega)) rfl ttX3 (by decide) wd_1_148 rfl dX6_seal_30 ?_
  refine x_iload_n (pc := 33) (i := 1) C 1 dX6_seal_33 rfl rfl ?_
  refine x_iload_n (pc := 34) (i := 2) C 2 dX6_seal_34 rfl rfl ?_
  refine x_iload_n (pc := 35) (i := 3) C 3 dX6_seal_35 rfl rfl ?_
  refine x_aload_n (pc := 36) (i := 0) C 0 dX6_seal_36 rfl rfl ?_
  refine x_get (pc := 37) (q := 176) (i := 0) C e_I rfl ttX6 (by decide) wd_2_30 rfl dX6_seal_37 ?_
  refine x_get (pc := 40) (q := 0) (i := 3) C (e_L (by omega)) rfl ttX3 (by decide) wd_1_152 rfl dX6_seal_40 ?_
  refine x_iload (pc := 43) (i := 4) C 4 dX6_seal_43 rfl ?_
  refine x_iadd (pc := 45) C dX6_seal_45 ?_
  have h5 := hok
  refine x_cIV (pc := 46) (as := [.int x0, .int x1, .int x2, .int ((bi B4 0 3) + x3)]) (q := 6) C (c_X5_add C.2.2.2.2.2.2.2.1 6 (by omega) B4 M O x0 x1 x2 ((bi B4 0 3) + x3) h5) (fs := _) (e_T (by omega)) rfl cv_X5_add cd_X5_add wd_3_117 ⟨Nat.le_of_ble_eq_true rfl, Nat.le_of_ble_eq_true rfl⟩ ⟨Nat.le_of_ble_eq_true rfl, Nat.le_of_ble_eq_true rfl⟩ rfl rfl (Nat.le_of_ble_eq_true rfl) dX6_seal_46 ?_
  refine x_nmIB (fun z6 ez6 => ?_)
  have hR := nmE hR ez6
  exact xt_zret (pc := 49) C rfl rfl hR (Nat.le_of_ble_eq_true rfl) (Nat.le_of_ble_eq_true rfl) dX6_seal_49
set_option maxHeartbeats 4000000 in
set_option maxRecDepth 100000 in
theorem c_X6_cancel {l : Launch} {A : Nat → Prop} {G : GT} {ad : Nat → Nat} (gl : Gl l A G ad)  (B : StB) (M : StM) (O : StO) (x0 : Int32) (hok : ok_X6_cancel B x0) : TMet l yX6_cancel (wof yX6_cancel cX6_cancel 2 (some .int)) (rmd 12 4 24) [.ref (ad 176), .int x0] G A ad B M O (f_X6_cancel B x0) 4 24 := by
  refine xt_body (own := RX6) (by decide +kernel) rfl gl (Nat.le_of_ble_eq_true rfl) (ls := [(0, .ref (ad 176)), (1, .int x0)]) rfl ?_
  intro p0 e s m args below meth c hE C
  have hR : (f_X6_cancel B x0) = (nm (f_X3_cancelFault 0 B x0) (fun (r2 : Int32) => (nm (f_X6_raise B r2) (fun (z3 : Nat × Int32 × StB) => (if z3.1 = 0 then (nm (f_X1_remember 0 z3.2.2) (fun (B5 : StB) => (nm (f_X5_remove 6 B5 x0) (fun (z7 : Int32 × StB) => (0, z7.1, z7.2))))) else (z3.1, 0, z3.2.2)))))) := rfl
  have hok : ((ok_X3_cancelFault 0 B x0) ∧ (∀ r2 : Int32, r2 = (f_X3_cancelFault 0 B x0) → (∀ z3 : Nat × Int32 × StB, z3 = (f_X6_raise B r2) → z3.1 = 0 → ((ok_X1_remember 0 z3.2.2) ∧ (∀ B5 : StB, B5 = (f_X1_remember 0 z3.2.2) → ((ok_X5_remove 6 B5 x0))))))) := hok
  refine x_aload_n (pc := 0) (i := 0) C 0 dX6_cancel_0 rfl rfl ?_
  refine x_get (pc := 1) (q := 176) (i := 0) C e_I rfl ttX6 (by decide) wd_2_30 rfl dX6_cancel_1 ?_
  refine x_iload_n (pc := 4) (i := 1) C 1 dX6_cancel_4 rfl rfl ?_
  have h1 := hok.1
  have hok := hok.2
  refine x_cIV (pc := 5) (as := [.int x0]) (q := 0) C (c_X3_cancelFault C.2.2.2.2.2.2.2.1 0 (by omega) B M O x0 h1) (fs := _) (e_L (by omega)) rfl cv_X3_cancelFault cd_X3_cancelFault wd_3_125 ⟨Nat.le_of_ble_eq_true rfl, Nat.le_of_ble_eq_true rfl⟩ ⟨Nat.le_of_ble_eq_true rfl, Nat.le_of_ble_eq_true rfl⟩ rfl rfl (Nat.le_of_ble_eq_true rfl) dX6_cancel_5 ?_
  refine x_nmI (fun r2 er2 => ?_)
  have hR := nmE hR er2
  have hok := hok r2 er2
  refine xt_cVS (pc := 8) (as := [.int r2]) C hE (c_X6_raise C.2.2.2.2.2.2.2.1  B M O r2) wd_2_178 cd_X6_raise wd_2_177 ⟨Nat.le_of_ble_eq_true rfl, Nat.le_of_ble_eq_true rfl⟩ ⟨Nat.le_of_ble_eq_true rfl, Nat.le_of_ble_eq_true rfl⟩ ⟨Nat.le_of_ble_eq_true rfl, Nat.le_of_ble_eq_true rfl⟩ rfl rfl (Nat.le_of_ble_eq_true rfl) dX6_cancel_8 (fun z3 ez3 hz => (nmE hR ez3).trans (if_neg hz)) (fun z3 ez3 hzz3 => ?_)
  have hR := (nmE hR ez3).trans (if_pos hzz3)
  have hok := hok z3 ez3 hzz3
  refine x_aload_n (pc := 11) (i := 0) C 0 dX6_cancel_11 rfl rfl ?_
  refine x_get (pc := 12) (q := 176) (i := 3) C e_I rfl ttX6 (by decide) wd_2_33 rfl dX6_cancel_12 ?_
  refine x_aload_n (pc := 15) (i := 0) C 0 dX6_cancel_15 rfl rfl ?_
  refine x_get (pc := 16) (q := 176) (i := 0) C e_I rfl ttX6 (by decide) wd_2_30 rfl dX6_cancel_16 ?_
  have h4 := hok.1
  have hok := hok.2
  refine x_cVV (pc := 19) (as := [.ref (ad 0)]) (q := 177) C (c_X1_remember C.2.2.2.2.2.2.2.1 0 (by omega) z3.2.2 M O  h4) (fs := _) e_H rfl cv_X1_remember cd_X1_remember wd_3_21 ⟨Nat.le_of_ble_eq_true rfl, Nat.le_of_ble_eq_true rfl⟩ ⟨Nat.le_of_ble_eq_true rfl, Nat.le_of_ble_eq_true rfl⟩ rfl rfl (Nat.le_of_ble_eq_true rfl) dX6_cancel_19 ?_
  refine x_nmB (fun B5 eB5 => ?_)
  have hR := nmE hR eB5
  have hok := hok B5 eB5
  refine x_aload_n (pc := 22) (i := 0) C 0 dX6_cancel_22 rfl rfl ?_
  refine x_get (pc := 23) (q := 176) (i := 0) C e_I rfl ttX6 (by decide) wd_2_30 rfl dX6_cancel_23 ?_
  refine x_get (pc := 26) (q := 0) (i := 1) C (e_L (by omega)) rfl ttX3 (by decide) wd_1_148 rfl dX6_cancel_26 ?_
  refine x_iload_n (pc := 29) (i := 1) C 1 dX6_cancel_29 rfl rfl ?_
  have h6 := hok
  refine x_cIV (pc := 30) (as := [.int x0]) (q := 6) C (c_X5_remove C.2.2.2.2.2.2.2.1 6 (by omega) B5 M O x0 h6) (fs := _) (e_T (by omega)) rfl cv_X5_remove cd_X5_remove wd_3_133 ⟨Nat.le_of_ble_eq_true rfl, Nat.le_of_ble_eq_true rfl⟩ ⟨Nat.le_of_ble_eq_true rfl, Nat.le_of_ble_eq_true rfl⟩ rfl rfl (Nat.le_of_ble_eq_true rfl) dX6_cancel_30 ?_
  refine x_nmIB (fun z7 ez7 => ?_)
  have hR := nmE hR ez7
  exact xt_zret (pc := 33) C rfl rfl hR (Nat.le_of_ble_eq_true rfl) (Nat.le_of_ble_eq_true rfl) dX6_cancel_33
set_option maxHeartbeats 4000000 in
set_option maxRecDepth 100000 in
theorem c_X6_endDays {l : Launch} {A : Nat → Prop} {G : GT} {ad : Nat → Nat} (gl : Gl l A G ad)  (B : StB) (M : StM) (O : StO) (x0 : Int32) (hok : ok_X6_endDays B x0) : TMet l yX6_endDays (wof yX6_endDays cX6_endDays 2 (some .int)) (rmd 12 4 24) [.ref (ad 176), .int x0] G A ad B M O (f_X6_endDays B x0) 4 24 := by
  refine xt_body (own := RX6) (by decide +kernel) rfl gl (Nat.le_of_ble_eq_true rfl) (ls := [(0, .ref (ad 176)), (1, .int x0)]) rfl ?_
  intro p0 e s m args below meth c hE C
  have hR : (f_X6_endDays B x0) = (nm (f_X3_endDaysFault 0 B x0) (fun (r1 : Int32) => (nm (f_X6_raise B r1) (fun (z2 : Nat × Int32 × StB) => (if z2.1 = 0 then (nm (f_X1_remember 0 z2.2.2) (fun (B4 : StB) => (nm (f_X3_passDays 0 B4 x0) (fun (z6 : Int32 × StB) => (0, z6.1, z6.2))))) else (z2.1, 0, z2.2.2)))))) := rfl
  have hok : (∀ r1 : Int32, r1 = (f_X3_endDaysFault 0 B x0) → (∀ z2 : Nat × Int32 × StB, z2 = (f_X6_raise B r1) → z2.1 = 0 → ((ok_X1_remember 0 z2.2.2) ∧ (∀ B4 : StB, B4 = (f_X1_remember 0 z2.2.2) → ((ok_X3_passDays 0 B4 x0)))))) := hok
  refine x_aload_n (pc := 0) (i := 0) C 0 dX6_endDays_0 rfl rfl ?_
  refine x_get (pc := 1) (q := 176) (i := 0) C e_I rfl ttX6 (by decide) wd_2_30 rfl dX6_endDays_1 ?_
  refine x_iload_n (pc := 4) (i := 1) C 1 dX6_endDays_4 rfl rfl ?_
  refine x_cIV (pc := 5) (as := [.int x0]) (q := 0) C (c_X3_endDaysFault C.2.2.2.2.2.2.2.1 0 (by omega) B M O x0) (fs := _) (e_L (by omega)) rfl cv_X3_endDaysFault cd_X3_endDaysFault wd_3_141 ⟨Nat.le_of_ble_eq_true rfl, Nat.le_of_ble_eq_true rfl⟩ ⟨Nat.le_of_ble_eq_true rfl, Nat.le_of_ble_eq_true rfl⟩ rfl rfl (Nat.le_of_ble_eq_true rfl) dX6_endDays_5 ?_
  refine x_nmI (fun r1 er1 => ?_)
  have hR := nmE hR er1
  have hok := hok r1 er1
  refine xt_cVS (pc := 8) (as := [.int r1]) C hE (c_X6_raise C.2.2.2.2.2.2.2.1  B M O r1) wd_2_178 cd_X6_raise wd_2_177 ⟨Nat.le_of_ble_eq_true rfl, Nat.le_of_ble_eq_true rfl⟩ ⟨Nat.le_of_ble_eq_true rfl, Nat.le_of_ble_eq_true rfl⟩ ⟨Nat.le_of_ble_eq_true rfl, Nat.le_of_ble_eq_true rfl⟩ rfl rfl (Nat.le_of_ble_eq_true rfl) dX6_endDays_8 (fun z2 ez2 hz => (nmE hR ez2).trans (if_neg hz)) (fun z2 ez2 hzz2 => ?_)
  have hR := (nmE hR ez2).trans (if_pos hzz2)
  have hok := hok z2 ez2 hzz2
  refine x_aload_n (pc := 11) (i := 0) C 0 dX6_endDays_11 rfl rfl ?_
  refine x_get (pc := 12) (q := 176) (i := 3) C e_I rfl ttX6 (by decide) wd_2_33 rfl dX6_endDays_12 ?_
  refine x_aload_n (pc := 15) (i := 0) C 0 dX6_endDays_15 rfl rfl ?_
  refine x_get (pc := 16) (q := 176) (i := 0) C e_I rfl ttX6 (by decide) wd_2_30 rfl dX6_endDays_16 ?_
  have h3 := hok.1
  have hok := hok.2
  refine x_cVV (pc := 19) (as := [.ref (ad 0)]) (q := 177) C (c_X1_remember C.2.2.2.2.2.2.2.1 0 (by omega) z2.2.2 M O  h3) (fs := _) e_H rfl cv_X1_remember cd_X1_remember wd_3_21 ⟨Nat.le_of_ble_eq_true rfl, Nat.le_of_ble_eq_true rfl⟩ ⟨Nat.le_of_ble_eq_true rfl, Nat.le_of_ble_eq_true rfl⟩ rfl rfl (Nat.le_of_ble_eq_true rfl) dX6_endDays_19 ?_
  refine x_nmB (fun B4 eB4 => ?_)
  have hR := nmE hR eB4
  have hok := hok B4 eB4
  refine x_aload_n (pc := 22) (i := 0) C 0 dX6_endDays_22 rfl rfl ?_
  refine x_get (pc := 23) (q := 176) (i := 0) C e_I rfl ttX6 (by decide) wd_2_30 rfl dX6_endDays_23 ?_
  refine x_iload_n (pc := 26) (i := 1) C 1 dX6_endDays_26 rfl rfl ?_
  have h5 := hok
  refine x_cIV (pc := 27) (as := [.int x0]) (q := 0) C (c_X3_passDays C.2.2.2.2.2.2.2.1 0 (by omega) B4 M O x0 h5) (fs := _) (e_L (by omega)) rfl cv_X3_passDays cd_X3_passDays wd_3_145 ⟨Nat.le_of_ble_eq_true rfl, Nat.le_of_ble_eq_true rfl⟩ ⟨Nat.le_of_ble_eq_true rfl, Nat.le_of_ble_eq_true rfl⟩ rfl rfl (Nat.le_of_ble_eq_true rfl) dX6_endDays_27 ?_
  refine x_nmIB (fun z6 ez6 => ?_)
  have hR := nmE hR ez6
  exact xt_zret (pc := 30) C rfl rfl hR (Nat.le_of_ble_eq_true rfl) (Nat.le_of_ble_eq_true rfl) dX6_endDays_30
set_option maxHeartbeats 4000000 in
set_option maxRecDepth 100000 in
theorem c_X6_endDays_n {l : Launch} {A : Nat → Prop} {G : GT} {ad : Nat → Nat} (gl : Gl l A G ad)  (B : StB) (M : StM) (O : StO) (x0 : Int32) (hok : ok_X6_endDays_n B x0) : Met l yX6_endDays (wof yX6_endDays cX6_endDays 2 (some .int)) (rmd 7 0 0) (va_Pc [.ref (ad 176), .int x0] (PW G A ad B M O)) (QI G A ad (f_X6_endDays_n B x0).1 (f_X6_endDays_n B x0).2 M O) 0 0 A := by
  refine x_body (own := RX6) (by decide +kernel) rfl gl (Nat.le_of_ble_eq_true rfl) (ls := [(0, .ref (ad 176)), (1, .int x0)]) rfl ?_
  intro p0 e s m args below meth c C
  have hR : (f_X6_endDays_n B x0) = (nm (f_X3_endDaysFault 0 B x0) (fun (r1 : Int32) => (nm (f_X1_remember 0 B) (fun (B4 : StB) => (nm (f_X3_passDays 0 B4 x0) (fun (z6 : Int32 × StB) => (z6.1, z6.2))))))) := rfl
  have hok : (∀ r1 : Int32, r1 = (f_X3_endDaysFault 0 B x0) → ((ok_X6_raise_n r1) ∧ ((ok_X1_remember 0 B) ∧ (∀ B4 : StB, B4 = (f_X1_remember 0 B) → ((ok_X3_passDays 0 B4 x0)))))) := hok
  refine x_aload_n (pc := 0) (i := 0) C 0 dX6_endDays_0 rfl rfl ?_
  refine x_get (pc := 1) (q := 176) (i := 0) C e_I rfl ttX6 (by decide) wd_2_30 rfl dX6_endDays_1 ?_
  refine x_iload_n (pc := 4) (i := 1) C 1 dX6_endDays_4 rfl rfl ?_
  refine x_cIV (pc := 5) (as := [.int x0]) (q := 0) C (c_X3_endDaysFault C.2.2.2.2.2.2.2.1 0 (by omega) B M O x0) (fs := _) (e_L (by omega)) rfl cv_X3_endDaysFault cd_X3_endDaysFault wd_3_141 ⟨Nat.le_of_ble_eq_true rfl, Nat.le_of_ble_eq_true rfl⟩ ⟨Nat.le_of_ble_eq_true rfl, Nat.le_of_ble_eq_true rfl⟩ rfl rfl (Nat.le_of_ble_eq_true rfl) dX6_endDays_5 ?_
  refine x_nmI (fun r1 er1 => ?_)
  have hR := nmE hR er1
  have hok := hok r1 er1
  have h2 := hok.1
  have hok := hok.2
  refine x_cVS (pc := 8) (as := [.int r1]) C (c_X6_raise_n C.2.2.2.2.2.2.2.1  B M O r1 h2) wd_2_178 cd_X6_raise wd_2_177 ⟨Nat.le_of_ble_eq_true rfl, Nat.le_of_ble_eq_true rfl⟩ ⟨Nat.le_of_ble_eq_true rfl, Nat.le_of_ble_eq_true rfl⟩ rfl rfl (Nat.le_of_ble_eq_true rfl) dX6_endDays_8 ?_
  refine x_aload_n (pc := 11) (i := 0) C 0 dX6_endDays_11 rfl rfl ?_
  refine x_get (pc := 12) (q := 176) (i := 3) C e_I rfl ttX6 (by decide) wd_2_33 rfl dX6_endDays_12 ?_
  refine x_aload_n (pc := 15) (i := 0) C 0 dX6_endDays_15 rfl rfl ?_
  refine x_get (pc := 16) (q := 176) (i := 0) C e_I rfl ttX6 (by decide) wd_2_30 rfl dX6_endDays_16 ?_
  have h3 := hok.1
  have hok := hok.2
  refine x_cVV (pc := 19) (as := [.ref (ad 0)]) (q := 177) C (c_X1_remember C.2.2.2.2.2.2.2.1 0 (by omega) B M O  h3) (fs := _) e_H rfl cv_X1_remember cd_X1_remember wd_3_21 ⟨Nat.le_of_ble_eq_true rfl, Nat.le_of_ble_eq_true rfl⟩ ⟨Nat.le_of_ble_eq_true rfl, Nat.le_of_ble_eq_true rfl⟩ rfl rfl (Nat.le_of_ble_eq_true rfl) dX6_endDays_19 ?_
  refine x_nmB (fun B4 eB4 => ?_)
  have hR := nmE hR eB4
  have hok := hok B4 eB4
  refine x_aload_n (pc := 22) (i := 0) C 0 dX6_endDays_22 rfl rfl ?_
  refine x_get (pc := 23) (q := 176) (i := 0) C e_I rfl ttX6 (by decide) wd_2_30 rfl dX6_endDays_23 ?_
  refine x_iload_n (pc := 26) (i := 1) C 1 dX6_endDays_26 rfl rfl ?_
  have h5 := hok
  refine x_cIV (pc := 27) (as := [.int x0]) (q := 0) C (c_X3_passDays C.2.2.2.2.2.2.2.1 0 (by omega) B4 M O x0 h5) (fs := _) (e_L (by omega)) rfl cv_X3_passDays cd_X3_passDays wd_3_145 ⟨Nat.le_of_ble_eq_true rfl, Nat.le_of_ble_eq_true rfl⟩ ⟨Nat.le_of_ble_eq_true rfl, Nat.le_of_ble_eq_true rfl⟩ rfl rfl (Nat.le_of_ble_eq_true rfl) dX6_endDays_27 ?_
  refine x_nmIB (fun z6 ez6 => ?_)
  have hR := nmE hR ez6
  exact x_iretB (pc := 30) C rfl hR dX6_endDays_30
set_option maxHeartbeats 4000000 in
set_option maxRecDepth 100000 in
theorem c_X6_balanceAfter {l : Launch} {A : Nat → Prop} {G : GT} {ad : Nat → Nat} (gl : Gl l A G ad)  (B : StB) (M : StM) (O : StO) (x0 : Int32) (x1 : Int32) (hok : ok_X6_balanceAfter B x0 x1) : TMet l yX6_balanceAfter (wof yX6_balanceAfter cX6_balanceAfter 3 (some .int)) (rmd 12 4 24) [.ref (ad 176), .int x0, .int x1] G A ad B M O (f_X6_balanceAfter B x0 x1) 4 24 := by
  refine xt_body (own := RX6) (by decide +kernel) rfl gl (Nat.le_of_ble_eq_true rfl) (ls := [(0, .ref (ad 176)), (1, .int x0), (2, .int x1)]) rfl ?_
  intro p0 e s m args below meth c hE C
  have hR : (f_X6_balanceAfter B x0 x1) = (nm (f_X3_balanceAfterFault 0 B x0 x1) (fun (r1 : Int32) => (nm (f_X6_raise B r1) (fun (z2 : Nat × Int32 × StB) => (if z2.1 = 0 then (nm (f_X3_copyFrom 16 0 z2.2.2) (fun (B4 : StB) => (nm (f_X3_passDays 16 B4 x1) (fun (z6 : Int32 × StB) => (0, (ba z6.2 19 (ix x0)), z6.2))))) else (z2.1, 0, z2.2.2)))))) := rfl
  have hok : (∀ r1 : Int32, r1 = (f_X3_balanceAfterFault 0 B x0 x1) → (∀ z2 : Nat × Int32 × StB, z2 = (f_X6_raise B r1) → z2.1 = 0 → ((ok_X3_copyFrom 16 0 z2.2.2) ∧ (∀ B4 : StB, B4 = (f_X3_copyFrom 16 0 z2.2.2) → ((ok_X3_passDays 16 B4 x1) ∧ (∀ z6 : Int32 × StB, z6 = (f_X3_passDays 16 B4 x1) → (vp_in x0 8))))))) := hok
  refine x_aload_n (pc := 0) (i := 0) C 0 dX6_balanceAfter_0 rfl rfl ?_
  refine x_get (pc := 1) (q := 176) (i := 0) C e_I rfl ttX6 (by decide) wd_2_30 rfl dX6_balanceAfter_1 ?_
  refine x_iload_n (pc := 4) (i := 1) C 1 dX6_balanceAfter_4 rfl rfl ?_
  refine x_iload_n (pc := 5) (i := 2) C 2 dX6_balanceAfter_5 rfl rfl ?_
  refine x_cIV (pc := 6) (as := [.int x0, .int x1]) (q := 0) C (c_X3_balanceAfterFault C.2.2.2.2.2.2.2.1 0 (by omega) B M O x0 x1) (fs := _) (e_L (by omega)) rfl cv_X3_balanceAfterFault cd_X3_balanceAfterFault wd_4_169 ⟨Nat.le_of_ble_eq_true rfl, Nat.le_of_ble_eq_true rfl⟩ ⟨Nat.le_of_ble_eq_true rfl, Nat.le_of_ble_eq_true rfl⟩ rfl rfl (Nat.le_of_ble_eq_true rfl) dX6_balanceAfter_6 ?_
  refine x_nmI (fun r1 er1 => ?_)
  have hR := nmE hR er1
  have hok := hok r1 er1
  refine xt_cVS (pc := 9) (as := [.int r1]) C hE (c_X6_raise C.2.2.2.2.2.2.2.1  B M O r1) wd_2_178 cd_X6_raise wd_2_177 ⟨Nat.le_of_ble_eq_true rfl, Nat.le_of_ble_eq_true rfl⟩ ⟨Nat.le_of_ble_eq_true rfl, Nat.le_of_ble_eq_true rfl⟩ ⟨Nat.le_of_ble_eq_true rfl, Nat.le_of_ble_eq_true rfl⟩ rfl rfl (Nat.le_of_ble_eq_true rfl) dX6_balanceAfter_9 (fun z2 ez2 hz => (nmE hR ez2).trans (if_neg hz)) (fun z2 ez2 hzz2 => ?_)
  have hR := (nmE hR ez2).trans (if_pos hzz2)
  have hok := hok z2 ez2 hzz2
  refine x_aload_n (pc := 12) (i := 0) C 0 dX6_balanceAfter_12 rfl rfl ?_
  refine x_get (pc := 13) (q := 176) (i := 1) C e_I rfl ttX6 (by decide) wd_2_31 rfl dX6_balanceAfter_13 ?_
  refine x_aload_n (pc := 16) (i := 0) C 0 dX6_balanceAfter_16 rfl rfl ?_
  refine x_get (pc := 17) (q := 176) (i := 0) C e_I rfl ttX6 (by decide) wd_2_30 rfl dX6_balanceAfter_17 ?_
  have h3 := hok.1
  have hok := hok.2
  refine x_cVV (pc := 20) (as := [.ref (ad 0)]) (q := 16) C (c_X3_copyFrom C.2.2.2.2.2.2.2.1 16 (by omega) 0 (by omega) z2.2.2 M O  h3) (fs := _) (e_L (by omega)) rfl cv_X3_copyFrom cd_X3_copyFrom wd_4_90 ⟨Nat.le_of_ble_eq_true rfl, Nat.le_of_ble_eq_true rfl⟩ ⟨Nat.le_of_ble_eq_true rfl, Nat.le_of_ble_eq_true rfl⟩ rfl rfl (Nat.le_of_ble_eq_true rfl) dX6_balanceAfter_20 ?_
  refine x_nmB (fun B4 eB4 => ?_)
  have hR := nmE hR eB4
  have hok := hok B4 eB4
  refine x_aload_n (pc := 23) (i := 0) C 0 dX6_balanceAfter_23 rfl rfl ?_
  refine x_get (pc := 24) (q := 176) (i := 1) C e_I rfl ttX6 (by decide) wd_2_31 rfl dX6_balanceAfter_24 ?_
  refine x_iload_n (pc := 27) (i := 2) C 2 dX6_balanceAfter_27 rfl rfl ?_
  have h5 := hok.1
  have hok := hok.2
  refine x_cIV (pc := 28) (as := [.int x1]) (q := 16) C (c_X3_passDays C.2.2.2.2.2.2.2.1 16 (by omega) B4 M O x1 h5) (fs := _) (e_L (by omega)) rfl cv_X3_passDays cd_X3_passDays wd_3_145 ⟨Nat.le_of_ble_eq_true rfl, Nat.le_of_ble_eq_true rfl⟩ ⟨Nat.le_of_ble_eq_true rfl, Nat.le_of_ble_eq_true rfl⟩ rfl rfl (Nat.le_of_ble_eq_true rfl) dX6_balanceAfter_28 ?_
  refine x_nmIB (fun z6 ez6 => ?_)
  have hR := nmE hR ez6
  have hok := hok z6 ez6
  refine x_pop (pc := 31) C dX6_balanceAfter_31 rfl ?_
  refine x_aload_n (pc := 32) (i := 0) C 0 dX6_balanceAfter_32 rfl rfl ?_
  refine x_get (pc := 33) (q := 176) (i := 1) C e_I rfl ttX6 (by decide) wd_2_31 rfl dX6_balanceAfter_33 ?_
  refine x_get (pc := 36) (q := 16) (i := 0) C (e_L (by omega)) rfl ttX3 (by decide) wd_1_146 rfl dX6_balanceAfter_36 ?_
  refine x_get (pc := 39) (q := 17) (i := 2) C (e_A (by omega)) rfl ttX0 (by decide) wd_1_60 rfl dX6_balanceAfter_39 ?_
  refine x_iload_n (pc := 42) (i := 1) C 1 dX6_balanceAfter_42 rfl rfl ?_
  have h7 := hok
  refine x_iald (pc := 43) (q := 19) C (e_Ab (by omega)) h7 dX6_balanceAfter_43 ?_
  exact xt_zret (pc := 44) C rfl rfl hR (Nat.le_of_ble_eq_true rfl) (Nat.le_of_ble_eq_true rfl) dX6_balanceAfter_44
set_option maxHeartbeats 4000000 in
set_option maxRecDepth 100000 in
theorem c_X6_balanceAfter_n {l : Launch} {A : Nat → Prop} {G : GT} {ad : Nat → Nat} (gl : Gl l A G ad)  (B : StB) (M : StM) (O : StO) (x0 : Int32) (x1 : Int32) (hok : ok_X6_balanceAfter_n B x0 x1) : Met l yX6_balanceAfter (wof yX6_balanceAfter cX6_balanceAfter 3 (some .int)) (rmd 7 0 0) (va_Pc [.ref (ad 176), .int x0, .int x1] (PW G A ad B M O)) (QI G A ad (f_X6_balanceAfter_n B x0 x1).1 (f_X6_balanceAfter_n B x0 x1).2 M O) 0 0 A := by
  refine x_body (own := RX6) (by decide +kernel) rfl gl (Nat.le_of_ble_eq_true rfl) (ls := [(0, .ref (ad 176)), (1, .int x0), (2, .int x1)]) rfl ?_
  intro p0 e s m args below meth c C
  have hR : (f_X6_balanceAfter_n B x0 x1) = (nm (f_X3_balanceAfterFault 0 B x0 x1) (fun (r1 : Int32) => (nm (f_X3_copyFrom 16 0 B) (fun (B4 : StB) => (nm (f_X3_passDays 16 B4 x1) (fun (z6 : Int32 × StB) => ((ba z6.2 19 (ix x0)), z6.2))))))) := rfl
  have hok : (∀ r1 : Int32, r1 = (f_X3_balanceAfterFault 0 B x0 x1) → ((ok_X6_raise_n r1) ∧ ((ok_X3_copyFrom 16 0 B) ∧ (∀ B4 : StB, B4 = (f_X3_copyFrom 16 0 B) → ((ok_X3_passDays 16 B4 x1) ∧ (∀ z6 : Int32 × StB, z6 = (f_X3_passDays 16 B4 x1) → (vp_in x0 8))))))) := hok
  refine x_aload_n (pc := 0) (i := 0) C 0 dX6_balanceAfter_0 rfl rfl ?_
  refine x_get (pc := 1) (q := 176) (i := 0) C e_I rfl ttX6 (by decide) wd_2_30 rfl dX6_balanceAfter_1 ?_
  refine x_iload_n (pc := 4) (i := 1) C 1 dX6_balanceAfter_4 rfl rfl ?_
  refine x_iload_n (pc := 5) (i := 2) C 2 dX6_balanceAfter_5 rfl rfl ?_
  refine x_cIV (pc := 6) (as := [.int x0, .int x1]) (q := 0) C (c_X3_balanceAfterFault C.2.2.2.2.2.2.2.1 0 (by omega) B M O x0 x1) (fs := _) (e_L (by omega)) rfl cv_X3_balanceAfterFault cd_X3_balanceAfterFault wd_4_169 ⟨Nat.le_of_ble_eq_true rfl, Nat.le_of_ble_eq_true rfl⟩ ⟨Nat.le_of_ble_eq_true rfl, Nat.le_of_ble_eq_true rfl⟩ rfl rfl (Nat.le_of_ble_eq_true rfl) dX6_balanceAfter_6 ?_
  refine x_nmI (fun r1 er1 => ?_)
  have hR := nmE hR er1
  have hok := hok r1 er1
  have h2 := hok.1
  have hok := hok.2
  refine x_cVS (pc := 9) (as := [.int r1]) C (c_X6_raise_n C.2.2.2.2.2.2.2.1  B M O r1 h2) wd_2_178 cd_X6_raise wd_2_177 ⟨Nat.le_of_ble_eq_true rfl, Nat.le_of_ble_eq_true rfl⟩ ⟨Nat.le_of_ble_eq_true rfl, Nat.le_of_ble_eq_true rfl⟩ rfl rfl (Nat.le_of_ble_eq_true rfl) dX6_balanceAfter_9 ?_
  refine x_aload_n (pc := 12) (i := 0) C 0 dX6_balanceAfter_12 rfl rfl ?_
  refine x_get (pc := 13) (q := 176) (i := 1) C e_I rfl ttX6 (by decide) wd_2_31 rfl dX6_balanceAfter_13 ?_
  refine x_aload_n (pc := 16) (i := 0) C 0 dX6_balanceAfter_16 rfl rfl ?_
  refine x_get (pc := 17) (q := 176) (i := 0) C e_I rfl ttX6 (by decide) wd_2_30 rfl dX6_balanceAfter_17 ?_
  have h3 := hok.1
  have hok := hok.2
  refine x_cVV (pc := 20) (as := [.ref (ad 0)]) (q := 16) C (c_X3_copyFrom C.2.2.2.2.2.2.2.1 16 (by omega) 0 (by omega) B M O  h3) (fs := _) (e_L (by omega)) rfl cv_X3_copyFrom cd_X3_copyFrom wd_4_90 ⟨Nat.le_of_ble_eq_true rfl, Nat.le_of_ble_eq_true rfl⟩ ⟨Nat.le_of_ble_eq_true rfl, Nat.le_of_ble_eq_true rfl⟩ rfl rfl (Nat.le_of_ble_eq_true rfl) dX6_balanceAfter_20 ?_
  refine x_nmB (fun B4 eB4 => ?_)
  have hR := nmE hR eB4
  have hok := hok B4 eB4
  refine x_aload_n (pc := 23) (i := 0) C 0 dX6_balanceAfter_23 rfl rfl ?_
  refine x_get (pc := 24) (q := 176) (i := 1) C e_I rfl ttX6 (by decide) wd_2_31 rfl dX6_balanceAfter_24 ?_
  refine x_iload_n (pc := 27) (i := 2) C 2 dX6_balanceAfter_27 rfl rfl ?_
  have h5 := hok.1
  have hok := hok.2
  refine x_cIV (pc := 28) (as := [.int x1]) (q := 16) C (c_X3_passDays C.2.2.2.2.2.2.2.1 16 (by omega) B4 M O x1 h5) (fs := _) (e_L (by omega)) rfl cv_X3_passDays cd_X3_passDays wd_3_145 ⟨Nat.le_of_ble_eq_true rfl, Nat.le_of_ble_eq_true rfl⟩ ⟨Nat.le_of_ble_eq_true rfl, Nat.le_of_ble_eq_true rfl⟩ rfl rfl (Nat.le_of_ble_eq_true rfl) dX6_balanceAfter_28 ?_
  refine x_nmIB (fun z6 ez6 => ?_)
  have hR := nmE hR ez6
  have hok := hok z6 ez6
  refine x_pop (pc := 31) C dX6_balanceAfter_31 rfl ?_
  refine x_aload_n (pc := 32) (i := 0) C 0 dX6_balanceAfter_32 rfl rfl ?_
  refine x_get (pc := 33) (q := 176) (i := 1) C e_I rfl ttX6 (by decide) wd_2_31 rfl dX6_balanceAfter_33 ?_
  refine x_get (pc := 36) (q := 16) (i := 0) C (e_L (by omega)) rfl ttX3 (by decide) wd_1_146 rfl dX6_balanceAfter_36 ?_
  refine x_get (pc := 39) (q := 17) (i := 2) C (e_A (by omega)) rfl ttX0 (by decide) wd_1_60 rfl dX6_balanceAfter_39 ?_
  refine x_iload_n (pc := 42) (i := 1) C 1 dX6_balanceAfter_42 rfl rfl ?_
  have h7 := hok
  refine x_iald (pc := 43) (q := 19) C (e_Ab (by omega)) h7 dX6_balanceAfter_43 ?_
  exact x_iretB (pc := 44) C rfl hR dX6_balanceAfter_44
set_option maxHeartbeats 4000000 in
set_option maxRecDepth 100000 in
theorem c_X6_wouldBounce {l : Launch} {A : Nat → Prop} {G : GT} {ad : Nat → Nat} (gl : Gl l A G ad)  (B : StB) (M : StM) (O : StO) (x0 : Int32) (hok : ok_X6_wouldBounce B x0) : TMet l yX6_wouldBounce (wof yX6_wouldBounce cX6_wouldBounce 3 (some .boolean)) (rmd 13 4 24) [.ref (ad 176), .int x0] G A ad B M O (f_X6_wouldBounce B x0) 4 24 := by
  refine xt_body (own := RX6) (by decide +kernel) rfl gl (Nat.le_of_ble_eq_true rfl) (ls := [(0, .ref (ad 176)), (1, .int x0)]) rfl ?_
  intro p0 e s m args below meth c hE C
  have hR : (f_X6_wouldBounce B x0) = (nm (f_X6_requireTransfer B x0) (fun (z2 : Nat × Int32 × StB) => (if z2.1 = 0 then (nm (f_X3_copyFrom 16 0 z2.2.2) (fun (B4 : StB) => (nm (f_X3_passDays 16 B4 ((ba B4 11 (ix z2.2.1)) - (bi B4 0 3))) (fun (z7 : Int32 × StB) => (nm (f_X3_settleDueBefore 16 z7.2 x0) (fun (B9 : StB) => (nm (f_X5_find 22 B9 x0) (fun (r11 : Int32) => (nm (f_X3_covers 16 B9 r11) (fun (r13 : Int32) => (if r13 = 0 then (0, 1, B9) else (0, 0, B9)))))))))))) else (z2.1, 0, z2.2.2)))) := rfl
  have hok : ((ok_X6_requireTransfer B x0) ∧ (∀ z2 : Nat × Int32 × StB, z2 = (f_X6_requireTransfer B x0) → z2.1 = 0 → ((ok_X3_copyFrom 16 0 z2.2.2) ∧ (∀ B4 : StB, B4 = (f_X3_copyFrom 16 0 z2.2.2) → (vp_in z2.2.1 10 ∧ ((ok_X3_passDays 16 B4 ((ba B4 11 (ix z2.2.1)) - (bi B4 0 3))) ∧ (∀ z7 : Int32 × StB, z7 = (f_X3_passDays 16 B4 ((ba B4 11 (ix z2.2.1)) - (bi B4 0 3))) → ((ok_X3_settleDueBefore 16 z7.2 x0) ∧ (∀ B9 : StB, B9 = (f_X3_settleDueBefore 16 z7.2 x0) → ((ok_X5_find 22 B9 x0) ∧ (∀ r11 : Int32, r11 = (f_X5_find 22 B9 x0) → ((ok_X3_covers 16 B9 r11))))))))))))) := hok
  refine x_aload_n (pc := 0) (i := 0) C 0 dX6_wouldBounce_0 rfl rfl ?_
  refine x_iload_n (pc := 1) (i := 1) C 1 dX6_wouldBounce_1 rfl rfl ?_
  have h1 := hok.1
  have hok := hok.2
  refine xt_cIV (pc := 2) (as := [.int x0]) (q := 176) C hE (c_X6_requireTransfer C.2.2.2.2.2.2.2.1  B M O x0 h1) (fs := _) e_I rfl cv_X6_requireTransfer cd_X6_requireTransfer wd_4_177 ⟨Nat.le_of_ble_eq_true rfl, Nat.le_of_ble_eq_true rfl⟩ ⟨Nat.le_of_ble_eq_true rfl, Nat.le_of_ble_eq_true rfl⟩ ⟨Nat.le_of_ble_eq_true rfl, Nat.le_of_ble_eq_true rfl⟩ rfl rfl (Nat.le_of_ble_eq_true rfl) dX6_wouldBounce_2 (fun z2 ez2 hz => (nmE hR ez2).trans (if_neg hz)) (fun z2 ez2 hzz2 => ?_)
  have hR := (nmE hR ez2).trans (if_pos hzz2)
  have hok := hok z2 ez2 hzz2
  refine x_istore_n (pc := 5) (i := 2) (ls2 := [(2, .int z2.2.1), (0, .ref (ad 176)), (1, .int x0)]) C dX6_wouldBounce_5 rfl (by decide) rfl ?_
  refine x_aload_n (pc := 6) (i := 0) C 1 dX6_wouldBounce_6 rfl rfl ?_
  refine x_get (pc := 7) (q := 176) (i := 1) C e_I rfl ttX6 (by decide) wd_2_31 rfl dX6_wouldBounce_7 ?_
  refine x_aload_n (pc := 10) (i := 0) C 1 dX6_wouldBounce_10 rfl rfl ?_
  refine x_get (pc := 11) (q := 176) (i := 0) C e_I rfl ttX6 (by decide) wd_2_30 rfl dX6_wouldBounce_11 ?_
  have h3 := hok.1
  have hok := hok.2
  refine x_cVV (pc := 14) (as := [.ref (ad 0)]) (q := 16) C (c_X3_copyFrom C.2.2.2.2.2.2.2.1 16 (by omega) 0 (by omega) z2.2.2 M O  h3) (fs := _) (e_L (by omega)) rfl cv_X3_copyFrom cd_X3_copyFrom wd_4_90 ⟨Nat.le_of_ble_eq_true rfl, Nat.le_of_ble_eq_true rfl⟩ ⟨Nat.le_of_ble_eq_true rfl, Nat.le_of_ble_eq_true rfl⟩ rfl rfl (Nat.le_of_ble_eq_true rfl) dX6_wouldBounce_14 ?_
  refine x_nmB (fun B4 eB4 => ?_)
  have hR := nmE hR eB4
  have hok := hok B4 eB4
  refine x_aload_n (pc := 17) (i := 0) C 1 dX6_wouldBounce_17 rfl rfl ?_
  refine x_get (pc := 18) (q := 176) (i := 1) C e_I rfl ttX6 (by decide) wd_2_31 rfl dX6_wouldBounce_18 ?_
  refine x_aload_n (pc := 21) (i := 0) C 1 dX6_wouldBounce_21 rfl rfl ?_
  refine x_get (pc := 22) (q := 176) (i := 0) C e_I rfl ttX6 (by decide) wd_2_30 rfl dX6_wouldBounce_22 ?_
  refine x_get (pc := 25) (q := 0) (i := 1) C (e_L (by omega)) rfl ttX3 (by decide) wd_1_148 rfl dX6_wouldBounce_25 ?_
  refine x_get (pc := 28) (q := 6) (i := 6) C (e_T (by omega)) rfl ttX5 (by decide) wd_1_102 rfl dX6_wouldBounce_28 ?_
  refine x_iload_n (pc := 31) (i := 2) C 0 dX6_wouldBounce_31 rfl rfl ?_
  have h5 := hok.1
  have hok := hok.2
  refine x_iald (pc := 32) (q := 11) C (e_Td (by omega)) h5 dX6_wouldBounce_32 ?_
  refine x_aload_n (pc := 33) (i := 0) C 1 dX6_wouldBounce_33 rfl rfl ?_
  refine x_get (pc := 34) (q := 176) (i := 0) C e_I rfl ttX6 (by decide) wd_2_30 rfl dX6_wouldBounce_34 ?_
  refine x_get (pc := 37) (q := 0) (i := 3) C (e_L (by omega)) rfl ttX3 (by decide) wd_1_152 rfl dX6_wouldBounce_37 ?_
  refine x_isub (pc := 40) C dX6_wouldBounce_40 ?_
  have h6 := hok.1
  have hok := hok.2
  refine x_cIV (pc := 41) (as := [.int ((ba B4 11 (ix z2.2.1)) - (bi B4 0 3))]) (q := 16) C (c_X3_passDays C.2.2.2.2.2.2.2.1 16 (by omega) B4 M O ((ba B4 11 (ix z2.2.1)) - (bi B4 0 3)) h6) (fs := _) (e_L (by omega)) rfl cv_X3_passDays cd_X3_passDays wd_3_145 ⟨Nat.le_of_ble_eq_true rfl, Nat.le_of_ble_eq_true rfl⟩ ⟨Nat.le_of_ble_eq_true rfl, Nat.le_of_ble_eq_true rfl⟩ rfl rfl (Nat.le_of_ble_eq_true rfl) dX6_wouldBounce_41 ?_
  refine x_nmIB (fun z7 ez7 => ?_)
  have hR := nmE hR ez7
  have hok := hok z7 ez7
  refine x_pop (pc := 44) C dX6_wouldBounce_44 rfl ?_
  refine x_aload_n (pc := 45) (i := 0) C 1 dX6_wouldBounce_45 rfl rfl ?_
  refine x_get (pc := 46) (q := 176) (i := 1) C e_I rfl ttX6 (by decide) wd_2_31 rfl dX6_wouldBounce_46 ?_
  refine x_iload_n (pc := 49) (i := 1) C 2 dX6_wouldBounce_49 rfl rfl ?_
  have h8 := hok.1
  have hok := hok.2
  refine x_cVV (pc := 50) (as := [.int x0]) (q := 16) C (c_X3_settleDueBefore C.2.2.2.2.2.2.2.1 16 (by omega) z7.2 M O x0 h8) (fs := _) (e_L (by omega)) rfl cv_X3_settleDueBefore cd_X3_settleDueBefore wd_4_186 ⟨Nat.le_of_ble_eq_true rfl, Nat.le_of_ble_eq_true rfl⟩ ⟨Nat.le_of_ble_eq_true rfl, Nat.le_of_ble_eq_true rfl⟩ rfl rfl (Nat.le_of_ble_eq_true rfl) dX6_wouldBounce_50 ?_
  refine x_nmB (fun B9 eB9 => ?_)
  have hR := nmE hR eB9
  have hok := hok B9 eB9
  refine x_aload_n (pc := 53) (i := 0) C 1 dX6_wouldBounce_53 rfl rfl ?_
  refine x_get (pc := 54) (q := 176) (i := 1) C e_I rfl ttX6 (by decide) wd_2_31 rfl dX6_wouldBounce_54 ?_
  refine x_aload_n (pc := 57) (i := 0) C 1 dX6_wouldBounce_57 rfl rfl ?_
  refine x_get (pc := 58) (q := 176) (i := 1) C e_I rfl ttX6 (by decide) wd_2_31 rfl dX6_wouldBounce_58 ?_
  refine x_get (pc := 61) (q := 16) (i := 1) C (e_L (by omega)) rfl ttX3 (by decide) wd_1_148 rfl dX6_wouldBounce_61 ?_
  refine x_iload_n (pc := 64) (i := 1) C 2 dX6_wouldBounce_64 rfl rfl ?_
  have h10 := hok.1
  have hok := hok.2
  refine x_cIV (pc := 65) (as := [.int x0]) (q := 22) C (c_X5_find C.2.2.2.2.2.2.2.1 22 (by omega) B9 M O x0 h10) (fs := _) (e_T (by omega)) rfl cv_X5_find cd_X5_find wd_4_181 ⟨Nat.le_of_ble_eq_true rfl, Nat.le_of_ble_eq_true rfl⟩ ⟨Nat.le_of_ble_eq_true rfl, Nat.le_of_ble_eq_true rfl⟩ rfl rfl (Nat.le_of_ble_eq_true rfl) dX6_wouldBounce_65 ?_
  refine x_nmI (fun r11 er11 => ?_)
  have hR := nmE hR er11
  have hok := hok r11 er11
  have h12 := hok
  refine x_cIV (pc := 68) (as := [.int r11]) (q := 16) C (c_X3_covers C.2.2.2.2.2.2.2.1 16 (by omega) B9 M O r11 h12) (fs := _) (e_L (by omega)) rfl cv_X3_covers cd_X3_covers wd_4_190 ⟨Nat.le_of_ble_eq_true rfl, Nat.le_of_ble_eq_true rfl⟩ ⟨Nat.le_of_ble_eq_true rfl, Nat.le_of_ble_eq_true rfl⟩ rfl rfl (Nat.le_of_ble_eq_true rfl) dX6_wouldBounce_68 ?_
  refine x_nmI (fun r13 er13 => ?_)
  have hR := nmE hR er13
  refine x_if_ne (pc := 71) (tgt := 78) C dX6_wouldBounce_71 (by decide) (fun c14 => ?_) (fun c14 => ?_)
  · have hR := hR.trans (if_neg c14)
    refine x_iconst (pc := 78) (v := 0) C dX6_wouldBounce_78 (by decide) ?_
    exact xt_zret (pc := 79) C rfl (by decide) hR (Nat.le_of_ble_eq_true rfl) (Nat.le_of_ble_eq_true rfl) dX6_wouldBounce_79
  · have hR := hR.trans (if_pos c14)
    refine x_iconst (pc := 74) (v := 1) C dX6_wouldBounce_74 (by decide) ?_
    refine x_goto (pc := 75) (tgt := 79) C dX6_wouldBounce_75 (by decide) ?_
    exact xt_zret (pc := 79) C rfl (by decide) hR (Nat.le_of_ble_eq_true rfl) (Nat.le_of_ble_eq_true rfl) dX6_wouldBounce_79
set_option maxHeartbeats 4000000 in
set_option maxRecDepth 100000 in
theorem c_X6_wouldBounce_n {l : Launch} {A : Nat → Prop} {G : GT} {ad : Nat → Nat} (gl : Gl l A G ad)  (B : StB) (M : StM) (O : StO) (x0 : Int32) (hok : ok_X6_wouldBounce_n B x0) : Met l yX6_wouldBounce (wof yX6_wouldBounce cX6_wouldBounce 3 (some .boolean)) (rmd 7 0 0) (va_Pc [.ref (ad 176), .int x0] (PW G A ad B M O)) (QI G A ad (f_X6_wouldBounce_n B x0).1 (f_X6_wouldBounce_n B x0).2 M O) 0 0 A := by
  refine x_body (own := RX6) (by decide +kernel) rfl gl (Nat.le_of_ble_eq_true rfl) (ls := [(0, .ref (ad 176)), (1, .int x0)]) rfl ?_
  intro p0 e s m args below meth c C
  have hR : (f_X6_wouldBounce_n B x0) = (nm (f_X6_requireTransfer_n B x0) (fun (r2 : Int32) => (nm (f_X3_copyFrom 16 0 B) (fun (B4 : StB) => (nm (f_X3_passDays 16 B4 ((ba B4 11 (ix r2)) - (bi B4 0 3))) (fun (z7 : Int32 × StB) => (nm (f_X3_settleDueBefore 16 z7.2 x0) (fun (B9 : StB) => (nm (f_X5_find 22 B9 x0) (fun (r11 : Int32) => (nm (f_X3_covers 16 B9 r11) (fun (r13 : Int32) => (if r13 = 0 then (1, B9) else (0, B9)))))))))))))) := rfl
  have hok : ((ok_X6_requireTransfer_n B x0) ∧ (∀ r2 : Int32, r2 = (f_X6_requireTransfer_n B x0) → ((ok_X3_copyFrom 16 0 B) ∧ (∀ B4 : StB, B4 = (f_X3_copyFrom 16 0 B) → (vp_in r2 10 ∧ ((ok_X3_passDays 16 B4 ((ba B4 11 (ix r2)) - (bi B4 0 3))) ∧ (∀ z7 : Int32 × StB, z7 = (f_X3_passDays 16 B4 ((ba B4 11 (ix r2)) - (bi B4 0 3))) → ((ok_X3_settleDueBefore 16 z7.2 x0) ∧ (∀ B9 : StB, B9 = (f_X3_settleDueBefore 16 z7.2 x0) → ((ok_X5_find 22 B9 x0) ∧ (∀ r11 : Int32, r11 = (f_X5_find 22 B9 x0) → ((ok_X3_covers 16 B9 r11))))))))))))) := hok
  refine x_aload_n (pc := 0) (i := 0) C 0 dX6_wouldBounce_0 rfl rfl ?_
  refine x_iload_n (pc := 1) (i := 1) C 1 dX6_wouldBounce_1 rfl rfl ?_
  have h1 := hok.1
  have hok := hok.2
  refine x_cIV (pc := 2) (as := [.int x0]) (q := 176) C (c_X6_requireTransfer_n C.2.2.2.2.2.2.2.1  B M O x0 h1) (fs := _) e_I rfl cv_X6_requireTransfer cd_X6_requireTransfer wd_4_177 ⟨Nat.le_of_ble_eq_true rfl, Nat.le_of_ble_eq_true rfl⟩ ⟨Nat.le_of_ble_eq_true rfl, Nat.le_of_ble_eq_true rfl⟩ rfl rfl (Nat.le_of_ble_eq_true rfl) dX6_wouldBounce_2 ?_
  refine x_nmI (fun r2 er2 => ?_)
  have hR := nmE hR er2
  have hok := hok r2 er2
  refine x_istore_n (pc := 5) (i := 2) (ls2 := [(2, .int r2), (0, .ref (ad 176)), (1, .int x0)]) C dX6_wouldBounce_5 rfl (by decide) rfl ?_
  refine x_aload_n (pc := 6) (i := 0) C 1 dX6_wouldBounce_6 rfl rfl ?_
  refine x_get (pc := 7) (q := 176) (i := 1) C e_I rfl ttX6 (by decide) wd_2_31 rfl dX6_wouldBounce_7 ?_
  refine x_aload_n (pc := 10) (i := 0) C 1 dX6_wouldBounce_10 rfl rfl ?_
  refine x_get (pc := 11) (q := 176) (i := 0) C e_I rfl ttX6 (by decide) wd_2_30 rfl dX6_wouldBounce_11 ?_
  have h3 := hok.1
  have hok := hok.2
  refine x_cVV (pc := 14) (as := [.ref (ad 0)]) (q := 16) C (c_X3_copyFrom C.2.2.2.2.2.2.2.1 16 (by omega) 0 (by omega) B M O  h3) (fs := _) (e_L (by omega)) rfl cv_X3_copyFrom cd_X3_copyFrom wd_4_90 ⟨Nat.le_of_ble_eq_true rfl, Nat.le_of_ble_eq_true rfl⟩ ⟨Nat.le_of_ble_eq_true rfl, Nat.le_of_ble_eq_true rfl⟩ rfl rfl (Nat.le_of_ble_eq_true rfl) dX6_wouldBounce_14 ?_
  refine x_nmB (fun B4 eB4 => ?_)
  have hR := nmE hR eB4
  have hok := hok B4 eB4
  refine x_aload_n (pc := 17) (i := 0) C 1 dX6_wouldBounce_17 rfl rfl ?_
  refine x_get (pc := 18) (q := 176) (i := 1) C e_I rfl ttX6 (by decide) wd_2_31 rfl dX6_wouldBounce_18 ?_
  refine x_aload_n (pc := 21) (i := 0) C 1 dX6_wouldBounce_21 rfl rfl ?_
  refine x_get (pc := 22) (q := 176) (i := 0) C e_I rfl ttX6 (by decide) wd_2_30 rfl dX6_wouldBounce_22 ?_
  refine x_get (pc := 25) (q := 0) (i := 1) C (e_L (by omega)) rfl ttX3 (by decide) wd_1_148 rfl dX6_wouldBounce_25 ?_
  refine x_get (pc := 28) (q := 6) (i := 6) C (e_T (by omega)) rfl ttX5 (by decide) wd_1_102 rfl dX6_wouldBounce_28 ?_
  refine x_iload_n (pc := 31) (i := 2) C 0 dX6_wouldBounce_31 rfl rfl ?_
  have h5 := hok.1
  have hok := hok.2
  refine x_iald (pc := 32) (q := 11) C (e_Td (by omega)) h5 dX6_wouldBounce_32 ?_
  refine x_aload_n (pc := 33) (i := 0) C 1 dX6_wouldBounce_33 rfl rfl ?_
  refine x_get (pc := 34) (q := 176) (i := 0) C e_I rfl ttX6 (by decide) wd_2_30 rfl dX6_wouldBounce_34 ?_
  refine x_get (pc := 37) (q := 0) (i := 3) C (e_L (by omega)) rfl ttX3 (by decide) wd_1_152 rfl dX6_wouldBounce_37 ?_
  refine x_isub (pc := 40) C dX6_wouldBounce_40 ?_
  have h6 := hok.1
  have hok := hok.2
  refine x_cIV (pc := 41) (as := [.int ((ba B4 11 (ix r2)) - (bi B4 0 3))]) (q := 16) C (c_X3_passDays C.2.2.2.2.2.2.2.1 16 (by omega) B4 M O ((ba B4 11 (ix r2)) - (bi B4 0 3)) h6) (fs := _) (e_L (by omega)) rfl cv_X3_passDays cd_X3_passDays wd_3_145 ⟨Nat.le_of_ble_eq_true rfl, Nat.le_of_ble_eq_true rfl⟩ ⟨Nat.le_of_ble_eq_true rfl, Nat.le_of_ble_eq_true rfl⟩ rfl rfl (Nat.le_of_ble_eq_true rfl) dX6_wouldBounce_41 ?_
  refine x_nmIB (fun z7 ez7 => ?_)
  have hR := nmE hR ez7
  have hok := hok z7 ez7
  refine x_pop (pc := 44) C dX6_wouldBounce_44 rfl ?_
  refine x_aload_n (pc := 45) (i := 0) C 1 dX6_wouldBounce_45 rfl rfl ?_
  refine x_get (pc := 46) (q := 176) (i := 1) C e_I rfl ttX6 (by decide) wd_2_31 rfl dX6_wouldBounce_46 ?_
  refine x_iload_n (pc := 49) (i := 1) C 2 dX6_wouldBounce_49 rfl rfl ?_
  have h8 := hok.1
  have hok := hok.2
  refine x_cVV (pc := 50) (as := [.int x0]) (q := 16) C (c_X3_settleDueBefore C.2.2.2.2.2.2.2.1 16 (by omega) z7.2 M O x0 h8) (fs := _) (e_L (by omega)) rfl cv_X3_settleDueBefore cd_X3_settleDueBefore wd_4_186 ⟨Nat.le_of_ble_eq_true rfl, Nat.le_of_ble_eq_true rfl⟩ ⟨Nat.le_of_ble_eq_true rfl, Nat.le_of_ble_eq_true rfl⟩ rfl rfl (Nat.le_of_ble_eq_true rfl) dX6_wouldBounce_50 ?_
  refine x_nmB (fun B9 eB9 => ?_)
  have hR := nmE hR eB9
  have hok := hok B9 eB9
  refine x_aload_n (pc := 53) (i := 0) C 1 dX6_wouldBounce_53 rfl rfl ?_
  refine x_get (pc := 54) (q := 176) (i := 1) C e_I rfl ttX6 (by decide) wd_2_31 rfl dX6_wouldBounce_54 ?_
  refine x_aload_n (pc := 57) (i := 0) C 1 dX6_wouldBounce_57 rfl rfl ?_
  refine x_get (pc := 58) (q := 176) (i := 1) C e_I rfl ttX6 (by decide) wd_2_31 rfl dX6_wouldBounce_58 ?_
  refine x_get (pc := 61) (q := 16) (i := 1) C (e_L (by omega)) rfl ttX3 (by decide) wd_1_148 rfl dX6_wouldBounce_61 ?_
  refine x_iload_n (pc := 64) (i := 1) C 2 dX6_wouldBounce_64 rfl rfl ?_
  have h10 := hok.1
  have hok := hok.2
  refine x_cIV (pc := 65) (as := [.int x0]) (q := 22) C (c_X5_find C.2.2.2.2.2.2.2.1 22 (by omega) B9 M O x0 h10) (fs := _) (e_T (by omega)) rfl cv_X5_find cd_X5_find wd_4_181 ⟨Nat.le_of_ble_eq_true rfl, Nat.le_of_ble_eq_true rfl⟩ ⟨Nat.le_of_ble_eq_true rfl, Nat.le_of_ble_eq_true rfl⟩ rfl rfl (Nat.le_of_ble_eq_true rfl) dX6_wouldBounce_65 ?_
  refine x_nmI (fun r11 er11 => ?_)
  have hR := nmE hR er11
  have hok := hok r11 er11
  have h12 := hok
  refine x_cIV (pc := 68) (as := [.int r11]) (q := 16) C (c_X3_covers C.2.2.2.2.2.2.2.1 16 (by omega) B9 M O r11 h12) (fs := _) (e_L (by omega)) rfl cv_X3_covers cd_X3_covers wd_4_190 ⟨Nat.le_of_ble_eq_true rfl, Nat.le_of_ble_eq_true rfl⟩ ⟨Nat.le_of_ble_eq_true rfl, Nat.le_of_ble_eq_true rfl⟩ rfl rfl (Nat.le_of_ble_eq_true rfl) dX6_wouldBounce_68 ?_
  refine x_nmI (fun r13 er13 => ?_)
  have hR := nmE hR er13
  refine x_if_ne (pc := 71) (tgt := 78) C dX6_wouldBounce_71 (by decide) (fun c14 => ?_) (fun c14 => ?_)
  · have hR := hR.trans (if_neg c14)
    refine x_iconst (pc := 78) (v := 0) C dX6_wouldBounce_78 (by decide) ?_
    exact x_zretB (pc := 79) C rfl (by decide) hR dX6_wouldBounce_79
  · have hR := hR.trans (if_pos c14)
    refine x_iconst (pc := 74) (v := 1) C dX6_wouldBounce_74 (by decide) ?_
    refine x_goto (pc := 75) (tgt := 79) C dX6_wouldBounce_75 (by decide) ?_
    exact x_zretB (pc := 79) C rfl (by decide) hR dX6_wouldBounce_79
