set_option maxHeartbeats 4000000 in
set_option maxRecDepth 100000 in
theorem c_X7_isIn {l : Launch} {A : Nat → Prop} {G : GT} {ad : Nat → Nat} (gl : Gl l A ad)  (B : StB) (M : StM) (O : StO) (x0 : Int32) (x1 : Int32) (x2 : Int32) : Met l yX7_isIn (wof yX7_isIn cX7_isIn 3 (some .boolean)) (rmd 1 0 0) (va_Pc [.int x0, .int x1, .int x2] (PW G A ad B M O)) (QI G A ad (f_X7_isIn x0 x1 x2) B M O) 0 0 A := by
  refine x_body (own := RX7) (by decide +kernel) rfl gl (Nat.le_of_ble_eq_true rfl) (ls := [(0, .int x0), (1, .int x1), (2, .int x2)]) rfl ?_
  intro p0 e s m args below meth c C
  have hR : (f_X7_isIn x0 x1 x2) = (if x0 < x1 then 0 else (if x2 < x0 then 0 else 1)) := rfl
  refine x_iload_n (pc := 0) (i := 0) C 0 dX7_isIn_0 rfl rfl ?_
  refine x_iload_n (pc := 1) (i := 1) C 1 dX7_isIn_1 rfl rfl ?_
  refine x_icmp_lt (pc := 2) (tgt := 14) C dX7_isIn_2 (by decide) (fun c1 => ?_) (fun c1 => ?_)
  · have hR := hR.trans (if_pos c1)
    refine x_iconst (pc := 14) (v := 0) C dX7_isIn_14 (by decide) ?_
    exact x_zret (pc := 15) C rfl (by decide) hR dX7_isIn_15
  · have hR := hR.trans (if_neg c1)
    refine x_iload_n (pc := 5) (i := 0) C 0 dX7_isIn_5 rfl rfl ?_
    refine x_iload_n (pc := 6) (i := 2) C 2 dX7_isIn_6 rfl rfl ?_
    refine x_icmp_gt (pc := 7) (tgt := 14) C dX7_isIn_7 (by decide) (fun c2 => ?_) (fun c2 => ?_)
    · have hR := hR.trans (if_pos c2)
      refine x_iconst (pc := 14) (v := 0) C dX7_isIn_14 (by decide) ?_
      exact x_zret (pc := 15) C rfl (by decide) hR dX7_isIn_15
    · have hR := hR.trans (if_neg c2)
      refine x_iconst (pc := 10) (v := 1) C dX7_isIn_10 (by decide) ?_
      refine x_goto (pc := 11) (tgt := 15) C dX7_isIn_11 (by decide) ?_
      exact x_zret (pc := 15) C rfl (by decide) hR dX7_isIn_15
set_option maxHeartbeats 4000000 in
set_option maxRecDepth 100000 in
theorem c_X7_accountAt {l : Launch} {A : Nat → Prop} {G : GT} {ad : Nat → Nat} (gl : Gl l A ad)  (B : StB) (M : StM) (O : StO) (x0 : Int32) : Met l yX7_accountAt (wof yX7_accountAt cX7_accountAt 1 (some .int)) (rmd 1 0 0) (va_Pc [.int x0] (PW G A ad B M O)) (QI G A ad (f_X7_accountAt x0) B M O) 0 0 A := by
  refine x_body (own := RX7) (by decide +kernel) rfl gl (Nat.le_of_ble_eq_true rfl) (ls := [(0, .int x0)]) rfl ?_
  intro p0 e s m args below meth c C
  have hR : (f_X7_accountAt x0) = (12 + (4 * x0)) := rfl
  refine x_bipush (pc := 0) (v := 12) C dX7_accountAt_0 (by decide) ?_
  refine x_iconst (pc := 2) (v := 4) C dX7_accountAt_2 (by decide) ?_
  refine x_iload_n (pc := 3) (i := 0) C 0 dX7_accountAt_3 rfl rfl ?_
  refine x_imul (pc := 4) C dX7_accountAt_4 ?_
  refine x_iadd (pc := 5) C dX7_accountAt_5 ?_
  exact x_iret (pc := 6) C rfl hR dX7_accountAt_6
set_option maxHeartbeats 4000000 in
set_option maxRecDepth 100000 in
theorem c_X7_letterFor {l : Launch} {A : Nat → Prop} {G : GT} {ad : Nat → Nat} (gl : Gl l A ad)  (B : StB) (M : StM) (O : StO) (x0 : Int32) : Met l yX7_letterFor (wof yX7_letterFor cX7_letterFor 1 (some .int)) (rmd 1 0 0) (va_Pc [.int x0] (PW G A ad B M O)) (QI G A ad (f_X7_letterFor x0) B M O) 0 0 A := by
  refine x_body (own := RX7) (by decide +kernel) rfl gl (Nat.le_of_ble_eq_true rfl) (ls := [(0, .int x0)]) rfl ?_
  intro p0 e s m args below meth c C
  have hR : (f_X7_letterFor x0) = (if x0 = 0 then 67 else (if x0 = 1 then 83 else (if x0 = 2 then 81 else 86))) := rfl
  refine x_iload_n (pc := 0) (i := 0) C 0 dX7_letterFor_0 rfl rfl ?_
  refine x_if_ne (pc := 1) (tgt := 9) C dX7_letterFor_1 (by decide) (fun c1 => ?_) (fun c1 => ?_)
  · have hR := hR.trans (if_neg c1)
    refine x_iload_n (pc := 9) (i := 0) C 0 dX7_letterFor_9 rfl rfl ?_
    refine x_iconst (pc := 10) (v := 1) C dX7_letterFor_10 (by decide) ?_
    refine x_icmp_ne (pc := 11) (tgt := 19) C dX7_letterFor_11 (by decide) (fun c2 => ?_) (fun c2 => ?_)
    · have hR := hR.trans (if_neg c2)
      refine x_iload_n (pc := 19) (i := 0) C 0 dX7_letterFor_19 rfl rfl ?_
      refine x_iconst (pc := 20) (v := 2) C dX7_letterFor_20 (by decide) ?_
      refine x_icmp_ne (pc := 21) (tgt := 29) C dX7_letterFor_21 (by decide) (fun c3 => ?_) (fun c3 => ?_)
      · have hR := hR.trans (if_neg c3)
        refine x_bipush (pc := 29) (v := 86) C dX7_letterFor_29 (by decide) ?_
        exact x_iret (pc := 31) C rfl hR dX7_letterFor_31
      · have hR := hR.trans (if_pos c3)
        refine x_bipush (pc := 24) (v := 81) C dX7_letterFor_24 (by decide) ?_
        refine x_goto (pc := 26) (tgt := 31) C dX7_letterFor_26 (by decide) ?_
        exact x_iret (pc := 31) C rfl hR dX7_letterFor_31
    · have hR := hR.trans (if_pos c2)
      refine x_bipush (pc := 14) (v := 83) C dX7_letterFor_14 (by decide) ?_
      refine x_goto (pc := 16) (tgt := 31) C dX7_letterFor_16 (by decide) ?_
      exact x_iret (pc := 31) C rfl hR dX7_letterFor_31
  · have hR := hR.trans (if_pos c1)
    refine x_bipush (pc := 4) (v := 67) C dX7_letterFor_4 (by decide) ?_
    refine x_goto (pc := 6) (tgt := 31) C dX7_letterFor_6 (by decide) ?_
    exact x_iret (pc := 31) C rfl hR dX7_letterFor_31
set_option maxHeartbeats 4000000 in
set_option maxRecDepth 100000 in
theorem c_X7_startOf {l : Launch} {A : Nat → Prop} {G : GT} {ad : Nat → Nat} (gl : Gl l A ad)  (B : StB) (M : StM) (O : StO) (x0 : Int32) : Met l yX7_startOf (wof yX7_startOf cX7_startOf 1 (some .int)) (rmd 1 0 0) (va_Pc [.int x0] (PW G A ad B M O)) (QI G A ad (f_X7_startOf x0) B M O) 0 0 A := by
  refine x_body (own := RX7) (by decide +kernel) rfl gl (Nat.le_of_ble_eq_true rfl) (ls := [(0, .int x0)]) rfl ?_
  intro p0 e s m args below meth c C
  have hR : (f_X7_startOf x0) = (if x0 = 0 then 0 else (if x0 = 1 then 4 else (if x0 = 2 then 9 else (5 * x0)))) := rfl
  refine x_iload_n (pc := 0) (i := 0) C 0 dX7_startOf_0 rfl rfl ?_
  refine x_if_ne (pc := 1) (tgt := 8) C dX7_startOf_1 (by decide) (fun c1 => ?_) (fun c1 => ?_)
  · have hR := hR.trans (if_neg c1)
    refine x_iload_n (pc := 8) (i := 0) C 0 dX7_startOf_8 rfl rfl ?_
    refine x_iconst (pc := 9) (v := 1) C dX7_startOf_9 (by decide) ?_
    refine x_icmp_ne (pc := 10) (tgt := 17) C dX7_startOf_10 (by decide) (fun c2 => ?_) (fun c2 => ?_)
    · have hR := hR.trans (if_neg c2)
      refine x_iload_n (pc := 17) (i := 0) C 0 dX7_startOf_17 rfl rfl ?_
      refine x_iconst (pc := 18) (v := 2) C dX7_startOf_18 (by decide) ?_
      refine x_icmp_ne (pc := 19) (tgt := 27) C dX7_startOf_19 (by decide) (fun c3 => ?_) (fun c3 => ?_)
      · have hR := hR.trans (if_neg c3)
        refine x_iconst (pc := 27) (v := 5) C dX7_startOf_27 (by decide) ?_
        refine x_iload_n (pc := 28) (i := 0) C 0 dX7_startOf_28 rfl rfl ?_
        refine x_imul (pc := 29) C dX7_startOf_29 ?_
        exact x_iret (pc := 30) C rfl hR dX7_startOf_30
      · have hR := hR.trans (if_pos c3)
        refine x_bipush (pc := 22) (v := 9) C dX7_startOf_22 (by decide) ?_
        refine x_goto (pc := 24) (tgt := 30) C dX7_startOf_24 (by decide) ?_
        exact x_iret (pc := 30) C rfl hR dX7_startOf_30
    · have hR := hR.trans (if_pos c2)
      refine x_iconst (pc := 13) (v := 4) C dX7_startOf_13 (by decide) ?_
      refine x_goto (pc := 14) (tgt := 30) C dX7_startOf_14 (by decide) ?_
      exact x_iret (pc := 30) C rfl hR dX7_startOf_30
  · have hR := hR.trans (if_pos c1)
    refine x_iconst (pc := 4) (v := 0) C dX7_startOf_4 (by decide) ?_
    refine x_goto (pc := 5) (tgt := 30) C dX7_startOf_5 (by decide) ?_
    exact x_iret (pc := 30) C rfl hR dX7_startOf_30
set_option maxHeartbeats 4000000 in
set_option maxRecDepth 100000 in
theorem c_X7_isAmount {l : Launch} {A : Nat → Prop} {G : GT} {ad : Nat → Nat} (gl : Gl l A ad)  (B : StB) (M : StM) (O : StO) (x0 : Int32) (hok : ok_X7_isAmount x0) : Met l yX7_isAmount (wof yX7_isAmount cX7_isAmount 1 (some .boolean)) (rmd 2 0 0) (va_Pc [.int x0] (PW G A ad B M O)) (QI G A ad (f_X7_isAmount x0) B M O) 0 0 A := by
  refine x_body (own := RX7) (by decide +kernel) rfl gl (Nat.le_of_ble_eq_true rfl) (ls := [(0, .int x0)]) rfl ?_
  intro p0 e s m args below meth c C
  have hR : (f_X7_isAmount x0) = (nm (f_X7_isIn x0 1 999) (fun (r1 : Int32) => r1)) := rfl
  have hok : (∀ r1 : Int32, r1 = (f_X7_isIn x0 1 999) → (narrow .boolean (.int r1) = .int r1)) := hok
  refine x_iload_n (pc := 0) (i := 0) C 0 dX7_isAmount_0 rfl rfl ?_
  refine x_iconst (pc := 1) (v := 1) C dX7_isAmount_1 (by decide) ?_
  refine x_sipush (pc := 2) (v := 999) C dX7_isAmount_2 (by decide) ?_
  refine x_cIS (pc := 5) (as := [.int x0, .int 1, .int 999]) C (c_X7_isIn C.2.2.2.2.2.2.2.1  B M O x0 1 999) wd_7_91 cd_X7_isIn wd_7_90 ⟨Nat.le_of_ble_eq_true rfl, Nat.le_of_ble_eq_true rfl⟩ ⟨Nat.le_of_ble_eq_true rfl, Nat.le_of_ble_eq_true rfl⟩ rfl rfl (Nat.le_of_ble_eq_true rfl) dX7_isAmount_5 ?_
  refine x_nmI (fun r1 er1 => ?_)
  have hR := nmE hR er1
  have hok := hok r1 er1
  have h2 := hok
  exact x_zret (pc := 8) C rfl h2 hR dX7_isAmount_8
