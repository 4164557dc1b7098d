set_option maxHeartbeats 4000000 in
set_option maxRecDepth 100000 in
theorem c_X3_openFault {l : Launch} {A : Nat → Prop} {G : GT} {ad : Nat → Nat} (gl : Gl l A G ad) (p : Nat) (hp : p < 176 ∧ p % 16 = 0) (B : StB) (M : StM) (O : StO) (x0 : Int32) : Met l yX3_openFault (wof yX3_openFault cX3_openFault 2 (some .int)) (rmd 2 0 0) (va_Pc [.ref (ad p), .int x0] (PW G A ad B M O)) (QI G A ad (f_X3_openFault p B x0) B M O) 0 0 A := by
  refine x_body (own := RX3) (by decide +kernel) rfl gl (Nat.le_of_ble_eq_true rfl) (ls := [(0, .ref (ad p)), (1, .int x0)]) rfl ?_
  intro p0 e s m args below meth c C
  have hR : (f_X3_openFault p B x0) = (nm (f_X6_isIn x0 0 3) (fun (r1 : Int32) => (if r1 = 0 then 2 else (if (bi B (p + 1) 0) < 8 then 0 else 4)))) := rfl
  refine x_iload_n (pc := 0) (i := 1) C 1 dX3_openFault_0 rfl rfl ?_
  refine x_iconst (pc := 1) (v := 0) C dX3_openFault_1 (by decide) ?_
  refine x_iconst (pc := 2) (v := 3) C dX3_openFault_2 (by decide) ?_
  refine x_cISn (pc := 3) (as := [.int x0, .int 0, .int 3]) C (c_X6_isIn C.2.2.2.2.2.2.2.1  B M O x0 0 3) wd_2_175 cd_X6_isIn (List.mem_of_getElem? (i := 6) rfl) ⟨Nat.le_of_ble_eq_true rfl, Nat.le_of_ble_eq_true rfl⟩ ⟨Nat.le_of_ble_eq_true rfl, Nat.le_of_ble_eq_true rfl⟩ rfl rfl (Nat.le_of_ble_eq_true rfl) dX3_openFault_3 ?_
  refine x_nmI (fun r1 er1 => ?_)
  have hR := nmE hR er1
  refine x_if_ne (pc := 6) (tgt := 11) C dX3_openFault_6 (by decide) (fun c2 => ?_) (fun c2 => ?_)
  · have hR := hR.trans (if_neg c2)
    refine x_aload_n (pc := 11) (i := 0) C 0 dX3_openFault_11 rfl rfl ?_
    refine x_get (pc := 12) (q := p) (i := 0) C (e_L (by omega)) rfl ttX3 (by decide) wd_1_145 rfl dX3_openFault_12 ?_
    refine x_get (pc := 15) (q := p + 1) (i := 0) C (e_A (by omega)) rfl ttX0 (by decide) wd_1_53 rfl dX3_openFault_15 ?_
    refine x_bipush (pc := 18) (v := 8) C dX3_openFault_18 (by decide) ?_
    refine x_icmp_lt (pc := 20) (tgt := 27) C dX3_openFault_20 (by decide) (fun c3 => ?_) (fun c3 => ?_)
    · have hR := hR.trans (if_pos c3)
      refine x_iconst (pc := 27) (v := 0) C dX3_openFault_27 (by decide) ?_
      exact x_iret (pc := 28) C rfl hR dX3_openFault_28
    · have hR := hR.trans (if_neg c3)
      refine x_iconst (pc := 23) (v := 4) C dX3_openFault_23 (by decide) ?_
      refine x_goto (pc := 24) (tgt := 28) C dX3_openFault_24 (by decide) ?_
      exact x_iret (pc := 28) C rfl hR dX3_openFault_28
  · have hR := hR.trans (if_pos c2)
    refine x_iconst (pc := 9) (v := 2) C dX3_openFault_9 (by decide) ?_
    exact x_iret (pc := 10) C rfl hR dX3_openFault_10
set_option maxHeartbeats 4000000 in
set_option maxRecDepth 100000 in
theorem c_X3_argumentFault {l : Launch} {A : Nat → Prop} {G : GT} {ad : Nat → Nat} (gl : Gl l A G ad) (p : Nat) (hp : p < 176 ∧ p % 16 = 0) (B : StB) (M : StM) (O : StO) (x0 : Int32) (x1 : Int32) (x2 : Int32) (x3 : Int32) : Met l yX3_argumentFault (wof yX3_argumentFault cX3_argumentFault 5 (some .int)) (rmd 2 0 0) (va_Pc [.ref (ad p), .int x0, .int x1, .int x2, .int x3] (PW G A ad B M O)) (QI G A ad (f_X3_argumentFault p B x0 x1 x2 x3) B M O) 0 0 A := by
  refine x_body (own := RX3) (by decide +kernel) rfl gl (Nat.le_of_ble_eq_true rfl) (ls := [(0, .ref (ad p)), (1, .int x0), (2, .int x1), (3, .int x2), (4, .int x3)]) rfl ?_
  intro p0 e s m args below meth c C
  have hR : (f_X3_argumentFault p B x0 x1 x2 x3) = (nm (f_X0_has (p + 1) B x0) (fun (r1 : Int32) => (if r1 = 0 then 1 else (nm (f_X6_isIn x1 x2 x3) (fun (r3 : Int32) => (if r3 = 0 then 2 else 0)))))) := rfl
  refine x_aload_n (pc := 0) (i := 0) C 0 dX3_argumentFault_0 rfl rfl ?_
  refine x_get (pc := 1) (q := p) (i := 0) C (e_L (by omega)) rfl ttX3 (by decide) wd_1_145 rfl dX3_argumentFault_1 ?_
  refine x_iload_n (pc := 4) (i := 1) C 1 dX3_argumentFault_4 rfl rfl ?_
  refine x_cIV (pc := 5) (as := [.int x0]) (q := p + 1) C (c_X0_has C.2.2.2.2.2.2.2.1 (p + 1) (by omega) B M O x0) (fs := _) (e_A (by omega)) rfl cv_X0_has cd_X0_has wd_3_67 ⟨Nat.le_of_ble_eq_true rfl, Nat.le_of_ble_eq_true rfl⟩ ⟨Nat.le_of_ble_eq_true rfl, Nat.le_of_ble_eq_true rfl⟩ rfl rfl (Nat.le_of_ble_eq_true rfl) dX3_argumentFault_5 ?_
  refine x_nmI (fun r1 er1 => ?_)
  have hR := nmE hR er1
  refine x_if_ne (pc := 8) (tgt := 13) C dX3_argumentFault_8 (by decide) (fun c2 => ?_) (fun c2 => ?_)
  · have hR := hR.trans (if_neg c2)
    refine x_iload_n (pc := 13) (i := 2) C 2 dX3_argumentFault_13 rfl rfl ?_
    refine x_iload_n (pc := 14) (i := 3) C 3 dX3_argumentFault_14 rfl rfl ?_
    refine x_iload (pc := 15) (i := 4) C 4 dX3_argumentFault_15 rfl ?_
    refine x_cISn (pc := 17) (as := [.int x1, .int x2, .int x3]) C (c_X6_isIn C.2.2.2.2.2.2.2.1  B M O x1 x2 x3) wd_2_175 cd_X6_isIn (List.mem_of_getElem? (i := 6) rfl) ⟨Nat.le_of_ble_eq_true rfl, Nat.le_of_ble_eq_true rfl⟩ ⟨Nat.le_of_ble_eq_true rfl, Nat.le_of_ble_eq_true rfl⟩ rfl rfl (Nat.le_of_ble_eq_true rfl) dX3_argumentFault_17 ?_
    refine x_nmI (fun r3 er3 => ?_)
    have hR := nmE hR er3
    refine x_if_eq (pc := 20) (tgt := 27) C dX3_argumentFault_20 (by decide) (fun c4 => ?_) (fun c4 => ?_)
    · have hR := hR.trans (if_pos c4)
      refine x_iconst (pc := 27) (v := 2) C dX3_argumentFault_27 (by decide) ?_
      exact x_iret (pc := 28) C rfl hR dX3_argumentFault_28
    · have hR := hR.trans (if_neg c4)
      refine x_iconst (pc := 23) (v := 0) C dX3_argumentFault_23 (by decide) ?_
      refine x_goto (pc := 24) (tgt := 28) C dX3_argumentFault_24 (by decide) ?_
      exact x_iret (pc := 28) C rfl hR dX3_argumentFault_28
  · have hR := hR.trans (if_pos c2)
    refine x_iconst (pc := 11) (v := 1) C dX3_argumentFault_11 (by decide) ?_
    exact x_iret (pc := 12) C rfl hR dX3_argumentFault_12
set_option maxHeartbeats 4000000 in
set_option maxRecDepth 100000 in
theorem c_X3_sealFault {l : Launch} {A : Nat → Prop} {G : GT} {ad : Nat → Nat} (gl : Gl l A G ad) (p : Nat) (hp : p < 176 ∧ p % 16 = 0) (B : StB) (M : StM) (O : StO) (x0 : Int32) (x1 : Int32) (x2 : Int32) (x3 : Int32) : Met l yX3_sealFault (wof yX3_sealFault cX3_sealFault 5 (some .int)) (rmd 2 0 0) (va_Pc [.ref (ad p), .int x0, .int x1, .int x2, .int x3] (PW G A ad B M O)) (QI G A ad (f_X3_sealFault p B x0 x1 x2 x3) B M O) 0 0 A := by
  refine x_body (own := RX3) (by decide +kernel) rfl gl (Nat.le_of_ble_eq_true rfl) (ls := [(0, .ref (ad p)), (1, .int x0), (2, .int x1), (3, .int x2), (4, .int x3)]) rfl ?_
  intro p0 e s m args below meth c C
  have hR : (f_X3_sealFault p B x0 x1 x2 x3) = (nm (f_X0_has (p + 1) B x0) (fun (r1 : Int32) => (if r1 = 0 then 1 else (nm (f_X0_has (p + 1) B x1) (fun (r3 : Int32) => (if r3 = 0 then 1 else (if x0 = x1 then 2 else (nm (f_X6_isIn x2 1 999) (fun (r6 : Int32) => (if r6 = 0 then 2 else (nm (f_X6_isIn x3 0 60) (fun (r8 : Int32) => (if r8 = 0 then 2 else (if (bi B (p + 6) 0) < 10 then 0 else 4)))))))))))))) := rfl
  refine x_aload_n (pc := 0) (i := 0) C 0 dX3_sealFault_0 rfl rfl ?_
  refine x_get (pc := 1) (q := p) (i := 0) C (e_L (by omega)) rfl ttX3 (by decide) wd_1_145 rfl dX3_sealFault_1 ?_
  refine x_iload_n (pc := 4) (i := 1) C 1 dX3_sealFault_4 rfl rfl ?_
  refine x_cIV (pc := 5) (as := [.int x0]) (q := p + 1) C (c_X0_has C.2.2.2.2.2.2.2.1 (p + 1) (by omega) B M O x0) (fs := _) (e_A (by omega)) rfl cv_X0_has cd_X0_has wd_3_67 ⟨Nat.le_of_ble_eq_true rfl, Nat.le_of_ble_eq_true rfl⟩ ⟨Nat.le_of_ble_eq_true rfl, Nat.le_of_ble_eq_true rfl⟩ rfl rfl (Nat.le_of_ble_eq_true rfl) dX3_sealFault_5 ?_
  refine x_nmI (fun r1 er1 => ?_)
  have hR := nmE hR er1
  refine x_if_eq (pc := 8) (tgt := 22) C dX3_sealFault_8 (by decide) (fun c2 => ?_) (fun c2 => ?_)
  · have hR := hR.trans (if_pos c2)
    refine x_iconst (pc := 22) (v := 1) C dX3_sealFault_22 (by decide) ?_
    exact x_iret (pc := 23) C rfl hR dX3_sealFault_23
  · have hR := hR.trans (if_neg c2)
    refine x_aload_n (pc := 11) (i := 0) C 0 dX3_sealFault_11 rfl rfl ?_
    refine x_get (pc := 12) (q := p) (i := 0) C (e_L (by omega)) rfl ttX3 (by decide) wd_1_145 rfl dX3_sealFault_12 ?_
    refine x_iload_n (pc := 15) (i := 2) C 2 dX3_sealFault_15 rfl rfl ?_
    refine x_cIV (pc := 16) (as := [.int x1]) (q := p + 1) C (c_X0_has C.2.2.2.2.2.2.2.1 (p + 1) (by omega) B M O x1) (fs := _) (e_A (by omega)) rfl cv_X0_has cd_X0_has wd_3_67 ⟨Nat.le_of_ble_eq_true rfl, Nat.le_of_ble_eq_true rfl⟩ ⟨Nat.le_of_ble_eq_true rfl, Nat.le_of_ble_eq_true rfl⟩ rfl rfl (Nat.le_of_ble_eq_true rfl) dX3_sealFault_16 ?_
    refine x_nmI (fun r3 er3 => ?_)
    have hR := nmE hR er3
    refine x_if_ne (pc := 19) (tgt := 24) C dX3_sealFault_19 (by decide) (fun c4 => ?_) (fun c4 => ?_)
    · have hR := hR.trans (if_neg c4)
      refine x_iload_n (pc := 24) (i := 1) C 1 dX3_sealFault_24 rfl rfl ?_
      refine x_iload_n (pc := 25) (i := 2) C 2 dX3_sealFault_25 rfl rfl ?_
      refine x_icmp_eq (pc := 26) (tgt := 51) C dX3_sealFault_26 (by decide) (fun c5 => ?_) (fun c5 => ?_)
      · have hR := hR.trans (if_pos c5)
        refine x_iconst (pc := 51) (v := 2) C dX3_sealFault_51 (by decide) ?_
        exact x_iret (pc := 52) C rfl hR dX3_sealFault_52
      · have hR := hR.trans (if_neg c5)
        refine x_iload_n (pc := 29) (i := 3) C 3 dX3_sealFault_29 rfl rfl ?_
        refine x_iconst (pc := 30) (v := 1) C dX3_sealFault_30 (by decide) ?_
        refine x_sipush (pc := 31) (v := 999) C dX3_sealFault_31 (by decide) ?_
        refine x_cISn (pc := 34) (as := [.int x2, .int 1, .int 999]) C (c_X6_isIn C.2.2.2.2.2.2.2.1  B M O x2 1 999) wd_2_175 cd_X6_isIn (List.mem_of_getElem? (i := 6) rfl) ⟨Nat.le_of_ble_eq_true rfl, Nat.le_of_ble_eq_true rfl⟩ ⟨Nat.le_of_ble_eq_true rfl, Nat.le_of_ble_eq_true rfl⟩ rfl rfl (Nat.le_of_ble_eq_true rfl) dX3_sealFault_34 ?_
        refine x_nmI (fun r6 er6 => ?_)
        have hR := nmE hR er6
        refine x_if_eq (pc := 37) (tgt := 51) C dX3_sealFault_37 (by decide) (fun c7 => ?_) (fun c7 => ?_)
        · have hR := hR.trans (if_pos c7)
          refine x_iconst (pc := 51) (v := 2) C dX3_sealFault_51 (by decide) ?_
          exact x_iret (pc := 52) C rfl hR dX3_sealFault_52
        · have hR := hR.trans (if_neg c7)
          refine x_iload (pc := 40) (i := 4) C 4 dX3_sealFault_40 rfl ?_
          refine x_iconst (pc := 42) (v := 0) C dX3_sealFault_42 (by decide) ?_
          refine x_bipush (pc := 43) (v := 60) C dX3_sealFault_43 (by decide) ?_
          refine x_cISn (pc := 45) (as := [.int x3, .int 0, .int 60]) C (c_X6_isIn C.2.2.2.2.2.2.2.1  B M O x3 0 60) wd_2_175 cd_X6_isIn (List.mem_of_getElem? (i := 6) rfl) ⟨Nat.le_of_ble_eq_true rfl, Nat.le_of_ble_eq_true rfl⟩ ⟨Nat.le_of_ble_eq_true rfl, Nat.le_of_ble_eq_true rfl⟩ rfl rfl (Nat.le_of_ble_eq_true rfl) dX3_sealFault_45 ?_
          refine x_nmI (fun r8 er8 => ?_)
          have hR := nmE hR er8
          refine x_if_ne (pc := 48) (tgt := 53) C dX3_sealFault_48 (by decide) (fun c9 => ?_) (fun c9 => ?_)
          · have hR := hR.trans (if_neg c9)
            refine x_aload_n (pc := 53) (i := 0) C 0 dX3_sealFault_53 rfl rfl ?_
            refine x_get (pc := 54) (q := p) (i := 1) C (e_L (by omega)) rfl ttX3 (by decide) wd_1_147 rfl dX3_sealFault_54 ?_
            refine x_get (pc := 57) (q := p + 6) (i := 0) C (e_T (by omega)) rfl ttX5 (by decide) wd_1_86 rfl dX3_sealFault_57 ?_
            refine x_bipush (pc := 60) (v := 10) C dX3_sealFault_60 (by decide) ?_
            refine x_icmp_lt (pc := 62) (tgt := 69) C dX3_sealFault_62 (by decide) (fun c10 => ?_) (fun c10 => ?_)
            · have hR := hR.trans (if_pos c10)
              refine x_iconst (pc := 69) (v := 0) C dX3_sealFault_69 (by decide) ?_
              exact x_iret (pc := 70) C rfl hR dX3_sealFault_70
            · have hR := hR.trans (if_neg c10)
              refine x_iconst (pc := 65) (v := 4) C dX3_sealFault_65 (by decide) ?_
              refine x_goto (pc := 66) (tgt := 70) C dX3_sealFault_66 (by decide) ?_
              exact x_iret (pc := 70) C rfl hR dX3_sealFault_70
          · have hR := hR.trans (if_pos c9)
            refine x_iconst (pc := 51) (v := 2) C dX3_sealFault_51 (by decide) ?_
            exact x_iret (pc := 52) C rfl hR dX3_sealFault_52
    · have hR := hR.trans (if_pos c4)
      refine x_iconst (pc := 22) (v := 1) C dX3_sealFault_22 (by decide) ?_
      exact x_iret (pc := 23) C rfl hR dX3_sealFault_23
set_option maxHeartbeats 4000000 in
set_option maxRecDepth 100000 in
theorem c_X3_cancelFault {l : Launch} {A : Nat → Prop} {G : GT} {ad : Nat → Nat} (gl : Gl l A G ad) (p : Nat) (hp : p < 176 ∧ p % 16 = 0) (B : StB) (M : StM) (O : StO) (x0 : Int32) (hok : ok_X3_cancelFault p B x0) : Met l yX3_cancelFault (wof yX3_cancelFault cX3_cancelFault 2 (some .int)) (rmd 2 0 0) (va_Pc [.ref (ad p), .int x0] (PW G A ad B M O)) (QI G A ad (f_X3_cancelFault p B x0) B M O) 0 0 A := by
  refine x_body (own := RX3) (by decide +kernel) rfl gl (Nat.le_of_ble_eq_true rfl) (ls := [(0, .ref (ad p)), (1, .int x0)]) rfl ?_
  intro p0 e s m args below meth c C
  have hR : (f_X3_cancelFault p B x0) = (nm (f_X5_find (p + 6) B x0) (fun (r2 : Int32) => (if 0 ≤ r2 then 0 else 5))) := rfl
  have hok : ((ok_X5_find (p + 6) B x0)) := hok
  refine x_aload_n (pc := 0) (i := 0) C 0 dX3_cancelFault_0 rfl rfl ?_
  refine x_get (pc := 1) (q := p) (i := 1) C (e_L (by omega)) rfl ttX3 (by decide) wd_1_147 rfl dX3_cancelFault_1 ?_
  refine x_iload_n (pc := 4) (i := 1) C 1 dX3_cancelFault_4 rfl rfl ?_
  have h1 := hok
  refine x_cIV (pc := 5) (as := [.int x0]) (q := p + 6) C (c_X5_find C.2.2.2.2.2.2.2.1 (p + 6) (by omega) B M O x0 h1) (fs := _) (e_T (by omega)) rfl cv_X5_find cd_X5_find wd_3_129 ⟨Nat.le_of_ble_eq_true rfl, Nat.le_of_ble_eq_true rfl⟩ ⟨Nat.le_of_ble_eq_true rfl, Nat.le_of_ble_eq_true rfl⟩ rfl rfl (Nat.le_of_ble_eq_true rfl) dX3_cancelFault_5 ?_
  refine x_nmI (fun r2 er2 => ?_)
  have hR := nmE hR er2
  refine x_if_ge (pc := 8) (tgt := 15) C dX3_cancelFault_8 (by decide) (fun c3 => ?_) (fun c3 => ?_)
  · have hR := hR.trans (if_pos c3)
    refine x_iconst (pc := 15) (v := 0) C dX3_cancelFault_15 (by decide) ?_
    exact x_iret (pc := 16) C rfl hR dX3_cancelFault_16
  · have hR := hR.trans (if_neg c3)
    refine x_iconst (pc := 11) (v := 5) C dX3_cancelFault_11 (by decide) ?_
    refine x_goto (pc := 12) (tgt := 16) C dX3_cancelFault_12 (by decide) ?_
    exact x_iret (pc := 16) C rfl hR dX3_cancelFault_16
set_option maxHeartbeats 4000000 in
set_option maxRecDepth 100000 in
theorem c_X3_endDaysFault {l : Launch} {A : Nat → Prop} {G : GT} {ad : Nat → Nat} (gl : Gl l A G ad) (p : Nat) (hp : p < 176 ∧ p % 16 = 0) (B : StB) (M : StM) (O : StO) (x0 : Int32) : Met l yX3_endDaysFault (wof yX3_endDaysFault cX3_endDaysFault 2 (some .int)) (rmd 2 0 0) (va_Pc [.ref (ad p), .int x0] (PW G A ad B M O)) (QI G A ad (f_X3_endDaysFault p B x0) B M O) 0 0 A := by
  refine x_body (own := RX3) (by decide +kernel) rfl gl (Nat.le_of_ble_eq_true rfl) (ls := [(0, .ref (ad p)), (1, .int x0)]) rfl ?_
  intro p0 e s m args below meth c C
  have hR : (f_X3_endDaysFault p B x0) = (nm (f_X6_isIn x0 1 60) (fun (r1 : Int32) => (if r1 = 0 then 2 else 0))) := rfl
  refine x_iload_n (pc := 0) (i := 1) C 1 dX3_endDaysFault_0 rfl rfl ?_
  refine x_iconst (pc := 1) (v := 1) C dX3_endDaysFault_1 (by decide) ?_
  refine x_bipush (pc := 2) (v := 60) C dX3_endDaysFault_2 (by decide) ?_
  refine x_cISn (pc := 4) (as := [.int x0, .int 1, .int 60]) C (c_X6_isIn C.2.2.2.2.2.2.2.1  B M O x0 1 60) wd_2_175 cd_X6_isIn (List.mem_of_getElem? (i := 6) rfl) ⟨Nat.le_of_ble_eq_true rfl, Nat.le_of_ble_eq_true rfl⟩ ⟨Nat.le_of_ble_eq_true rfl, Nat.le_of_ble_eq_true rfl⟩ rfl rfl (Nat.le_of_ble_eq_true rfl) dX3_endDaysFault_4 ?_
  refine x_nmI (fun r1 er1 => ?_)
  have hR := nmE hR er1
  refine x_if_eq (pc := 7) (tgt := 14) C dX3_endDaysFault_7 (by decide) (fun c2 => ?_) (fun c2 => ?_)
  · have hR := hR.trans (if_pos c2)
    refine x_iconst (pc := 14) (v := 2) C dX3_endDaysFault_14 (by decide) ?_
    exact x_iret (pc := 15) C rfl hR dX3_endDaysFault_15
  · have hR := hR.trans (if_neg c2)
    refine x_iconst (pc := 10) (v := 0) C dX3_endDaysFault_10 (by decide) ?_
    refine x_goto (pc := 11) (tgt := 15) C dX3_endDaysFault_11 (by decide) ?_
    exact x_iret (pc := 15) C rfl hR dX3_endDaysFault_15
set_option maxHeartbeats 4000000 in
set_option maxRecDepth 100000 in
theorem c_X3_covers {l : Launch} {A : Nat → Prop} {G : GT} {ad : Nat → Nat} (gl : Gl l A G ad) (p : Nat) (hp : p < 176 ∧ p % 16 = 0) (B : StB) (M : StM) (O : StO) (x0 : Int32) (hok : ok_X3_covers p B x0) : Met l yX3_covers (wof yX3_covers cX3_covers 2 (some .boolean)) (rmd 2 0 0) (va_Pc [.ref (ad p), .int x0] (PW G A ad B M O)) (QI G A ad (f_X3_covers p B x0) B M O) 0 0 A := by
  refine x_body (own := RX3) (by decide +kernel) rfl gl (Nat.le_of_ble_eq_true rfl) (ls := [(0, .ref (ad p)), (1, .int x0)]) rfl ?_
  intro p0 e s m args below meth c C
  have hR : (f_X3_covers p B x0) = (if x0 < 0 then 0 else (nm (f_X0_available (p + 1) B (ba B (p + 8) (ix x0))) (fun (r4 : Int32) => (if r4 < (ba B (p + 10) (ix x0)) then 0 else 1)))) := rfl
  have hok : ((x0 < 0 → True) ∧ (¬ x0 < 0 → (vp_in x0 10 ∧ ((ok_X0_available (p + 1) B (ba B (p + 8) (ix x0))) ∧ (∀ r4 : Int32, r4 = (f_X0_available (p + 1) B (ba B (p + 8) (ix x0))) → (vp_in x0 10)))))) := hok
  refine x_iload_n (pc := 0) (i := 1) C 1 dX3_covers_0 rfl rfl ?_
  refine x_if_lt (pc := 1) (tgt := 36) C dX3_covers_1 (by decide) (fun c1 => ?_) (fun c1 => ?_)
  · have hR := hR.trans (if_pos c1)
    refine x_iconst (pc := 36) (v := 0) C dX3_covers_36 (by decide) ?_
    exact x_zret (pc := 37) C rfl (by decide) hR dX3_covers_37
  · have hR := hR.trans (if_neg c1)
    have hok := hok.2 c1
    refine x_aload_n (pc := 4) (i := 0) C 0 dX3_covers_4 rfl rfl ?_
    refine x_get (pc := 5) (q := p) (i := 0) C (e_L (by omega)) rfl ttX3 (by decide) wd_1_145 rfl dX3_covers_5 ?_
    refine x_aload_n (pc := 8) (i := 0) C 0 dX3_covers_8 rfl rfl ?_
    refine x_get (pc := 9) (q := p) (i := 1) C (e_L (by omega)) rfl ttX3 (by decide) wd_1_147 rfl dX3_covers_9 ?_
    refine x_get (pc := 12) (q := p + 6) (i := 3) C (e_T (by omega)) rfl ttX5 (by decide) wd_1_92 rfl dX3_covers_12 ?_
    refine x_iload_n (pc := 15) (i := 1) C 1 dX3_covers_15 rfl rfl ?_
    have h2 := hok.1
    have hok := hok.2
    refine x_iald (pc := 16) (q := p + 8) C (e_Ts (by omega)) h2 dX3_covers_16 ?_
    have h3 := hok.1
    have hok := hok.2
    refine x_cIV (pc := 17) (as := [.int (ba B (p + 8) (ix x0))]) (q := p + 1) C (c_X0_available C.2.2.2.2.2.2.2.1 (p + 1) (by omega) B M O (ba B (p + 8) (ix x0)) h3) (fs := _) (e_A (by omega)) rfl cv_X0_available cd_X0_available wd_3_89 ⟨Nat.le_of_ble_eq_true rfl, Nat.le_of_ble_eq_true rfl⟩ ⟨Nat.le_of_ble_eq_true rfl, Nat.le_of_ble_eq_true rfl⟩ rfl rfl (Nat.le_of_ble_eq_true rfl) dX3_covers_17 ?_
    refine x_nmI (fun r4 er4 => ?_)
    have hR := nmE hR er4
    have hok := hok r4 er4
    refine x_aload_n (pc := 20) (i := 0) C 0 dX3_covers_20 rfl rfl ?_
    refine x_get (pc := 21) (q := p) (i := 1) C (e_L (by omega)) rfl ttX3 (by decide) wd_1_147 rfl dX3_covers_21 ?_
    refine x_get (pc := 24) (q := p + 6) (i := 5) C (e_T (by omega)) rfl ttX5 (by decide) wd_1_98 rfl dX3_covers_24 ?_
    refine x_iload_n (pc := 27) (i := 1) C 1 dX3_covers_27 rfl rfl ?_
    have h5 := hok
    refine x_iald (pc := 28) (q := p + 10) C (e_Ta (by omega)) h5 dX3_covers_28 ?_
    refine x_icmp_lt (pc := 29) (tgt := 36) C dX3_covers_29 (by decide) (fun c6 => ?_) (fun c6 => ?_)
    · have hR := hR.trans (if_pos c6)
      refine x_iconst (pc := 36) (v := 0) C dX3_covers_36 (by decide) ?_
      exact x_zret (pc := 37) C rfl (by decide) hR dX3_covers_37
    · have hR := hR.trans (if_neg c6)
      refine x_iconst (pc := 32) (v := 1) C dX3_covers_32 (by decide) ?_
      refine x_goto (pc := 33) (tgt := 37) C dX3_covers_33 (by decide) ?_
      exact x_zret (pc := 37) C rfl (by decide) hR dX3_covers_37
set_option maxHeartbeats 4000000 in
set_option maxRecDepth 100000 in
theorem c_X3_copyFrom {l : Launch} {A : Nat → Prop} {G : GT} {ad : Nat → Nat} (gl : Gl l A G ad) (p : Nat) (hp : p < 176 ∧ p % 16 = 0) (q0 : Nat) (hq0 : q0 < 176 ∧ q0 % 16 = 0) (B : StB) (M : StM) (O : StO)  (hok : ok_X3_copyFrom p q0 B) : Met l yX3_copyFrom (wof yX3_copyFrom cX3_copyFrom 2 none) (rmd 3 0 0) (va_Pc [.ref (ad p), .ref (ad q0)] (PW G A ad B M O)) (QV G A ad (f_X3_copyFrom p q0 B) M O) 0 0 A := by
  refine x_body (own := RX3) (by decide +kernel) rfl gl (Nat.le_of_ble_eq_true rfl) (ls := [(0, .ref (ad p)), (1, .ref (ad q0))]) rfl ?_
  intro p0 e s m args below meth c C
  have hR : (f_X3_copyFrom p q0 B) = (nm (f_X0_copyFrom (p + 1) (q0 + 1) B) (fun (B2 : StB) => (nm (f_X5_copyFrom (p + 6) (q0 + 6) B2) (fun (B4 : StB) => (nm (f_X2_copyFrom (p + 12) (q0 + 12) B4) (fun (B6 : StB) => (nm (sbi B6 p 3 (bi B6 q0 3)) (fun (B7 : StB) => (nm (sbi B7 p 4 (bi B7 q0 4)) (fun (B8 : StB) => (nm (sbi B8 p 5 (bi B8 q0 5)) (fun (B9 : StB) => (nm (sbl B9 p 6 (bl B9 q0 6)) (fun (B10 : StB) => (nm (sbl B10 p 7 (bl B10 q0 7)) (fun (B11 : StB) => (nm (sbl B11 p 8 (bl B11 q0 8)) (fun (B12 : StB) => (nm (sbl B12 p 9 (bl B12 q0 9)) (fun (B13 : StB) => (nm (sbl B13 p 10 (bl B13 q0 10)) (fun (B14 : StB) => B14)))))))))))))))))))))) := rfl
  have hok : ((ok_X0_copyFrom (p + 1) (q0 + 1) B) ∧ (∀ B2 : StB, B2 = (f_X0_copyFrom (p + 1) (q0 + 1) B) → ((ok_X5_copyFrom (p + 6) (q0 + 6) B2) ∧ (∀ B4 : StB, B4 = (f_X5_copyFrom (p + 6) (q0 + 6) B2) → ((ok_X2_copyFrom (p + 12) (q0 + 12) B4)))))) := hok
  refine x_aload_n (pc := 0) (i := 0) C 0 dX3_copyFrom_0 rfl rfl ?_
  refine x_get (pc := 1) (q := p) (i := 0) C (e_L (by omega)) rfl ttX3 (by decide) wd_1_145 rfl dX3_copyFrom_1 ?_
  refine x_aload_n (pc := 4) (i := 1) C 1 dX3_copyFrom_4 rfl rfl ?_
  refine x_get (pc := 5) (q := q0) (i := 0) C (e_L (by omega)) rfl ttX3 (by decide) wd_1_145 rfl dX3_copyFrom_5 ?_
  have h1 := hok.1
  have hok := hok.2
  refine x_cVV (pc := 8) (as := [.ref (ad (q0 + 1))]) (q := p + 1) C (c_X0_copyFrom C.2.2.2.2.2.2.2.1 (p + 1) (by omega) (q0 + 1) (by omega) B M O  h1) (fs := _) (e_A (by omega)) rfl cv_X0_copyFrom cd_X0_copyFrom wd_3_32 ⟨Nat.le_of_ble_eq_true rfl, Nat.le_of_ble_eq_true rfl⟩ ⟨Nat.le_of_ble_eq_true rfl, Nat.le_of_ble_eq_true rfl⟩ rfl rfl (Nat.le_of_ble_eq_true rfl) dX3_copyFrom_8 ?_
  refine x_nmB (fun B2 eB2 => ?_)
  have hR := nmE hR eB2
  have hok := hok B2 eB2
  refine x_aload_n (pc := 11) (i := 0) C 0 dX3_copyFrom_11 rfl rfl ?_
  refine x_get (pc := 12) (q := p) (i := 1) C (e_L (by omega)) rfl ttX3 (by decide) wd_1_147 rfl dX3_copyFrom_12 ?_
  refine x_aload_n (pc := 15) (i := 1) C 1 dX3_copyFrom_15 rfl rfl ?_
  refine x_get (pc := 16) (q := q0) (i := 1) C (e_L (by omega)) rfl ttX3 (by decide) wd_1_147 rfl dX3_copyFrom_16 ?_
  have h3 := hok.1
  have hok := hok.2
  refine x_cVV (pc := 19) (as := [.ref (ad (q0 + 6))]) (q := p + 6) C (c_X5_copyFrom C.2.2.2.2.2.2.2.1 (p + 6) (by omega) (q0 + 6) (by omega) B2 M O  h3) (fs := _) (e_T (by omega)) rfl cv_X5_copyFrom cd_X5_copyFrom wd_3_36 ⟨Nat.le_of_ble_eq_true rfl, Nat.le_of_ble_eq_true rfl⟩ ⟨Nat.le_of_ble_eq_true rfl, Nat.le_of_ble_eq_true rfl⟩ rfl rfl (Nat.le_of_ble_eq_true rfl) dX3_copyFrom_19 ?_
  refine x_nmB (fun B4 eB4 => ?_)
  have hR := nmE hR eB4
  have hok := hok B4 eB4
  refine x_aload_n (pc := 22) (i := 0) C 0 dX3_copyFrom_22 rfl rfl ?_
  refine x_get (pc := 23) (q := p) (i := 2) C (e_L (by omega)) rfl ttX3 (by decide) wd_1_149 rfl dX3_copyFrom_23 ?_
  refine x_aload_n (pc := 26) (i := 1) C 1 dX3_copyFrom_26 rfl rfl ?_
  refine x_get (pc := 27) (q := q0) (i := 2) C (e_L (by omega)) rfl ttX3 (by decide) wd_1_149 rfl dX3_copyFrom_27 ?_
  have h5 := hok
  refine x_cVV (pc := 30) (as := [.ref (ad (q0 + 12))]) (q := p + 12) C (c_X2_copyFrom C.2.2.2.2.2.2.2.1 (p + 12) (by omega) (q0 + 12) (by omega) B4 M O  h5) (fs := _) (e_J (by omega)) rfl cv_X2_copyFrom cd_X2_copyFrom wd_3_44 ⟨Nat.le_of_ble_eq_true rfl, Nat.le_of_ble_eq_true rfl⟩ ⟨Nat.le_of_ble_eq_true rfl, Nat.le_of_ble_eq_true rfl⟩ rfl rfl (Nat.le_of_ble_eq_true rfl) dX3_copyFrom_30 ?_
  refine x_nmB (fun B6 eB6 => ?_)
  have hR := nmE hR eB6
  refine x_aload_n (pc := 33) (i := 0) C 0 dX3_copyFrom_33 rfl rfl ?_
  refine x_aload_n (pc := 34) (i := 1) C 1 dX3_copyFrom_34 rfl rfl ?_
  refine x_get (pc := 35) (q := q0) (i := 3) C (e_L (by omega)) rfl ttX3 (by decide) wd_1_151 rfl dX3_copyFrom_35 ?_
  refine x_put (pc := 38) (B2 := (sbi B6 p 3 (bi B6 q0 3))) (M2 := M) (O2 := O) (q := p) (i := 3) C tyX3 tyX3_ok nmX3 (e_L (by omega)) rfl ttX3 (by decide) wd_1_151 rfl rfl rfl (Nat.le_of_ble_eq_true rfl) dX3_copyFrom_38 (put_L_3 (by omega)) (o_sbi p 3 (bi B6 q0 3)) ?_
  refine x_nmB (fun B7 eB7 => ?_)
  have hR := nmE hR eB7
  refine x_aload_n (pc := 41) (i := 0) C 0 dX3_copyFrom_41 rfl rfl ?_
  refine x_aload_n (pc := 42) (i := 1) C 1 dX3_copyFrom_42 rfl rfl ?_
  refine x_get (pc := 43) (q := q0) (i := 4) C (e_L (by omega)) rfl ttX3 (by decide) wd_1_153 rfl dX3_copyFrom_43 ?_
  refine x_put (pc := 46) (B2 := (sbi B7 p 4 (bi B7 q0 4))) (M2 := M) (O2 := O) (q := p) (i := 4) C tyX3 tyX3_ok nmX3 (e_L (by omega)) rfl ttX3 (by decide) wd_1_153 rfl rfl rfl (Nat.le_of_ble_eq_true rfl) dX3_copyFrom_46 (put_L_4 (by omega)) (o_sbi p 4 (bi B7 q0 4)) ?_
  refine x_nmB (fun B8 eB8 => ?_)
  have hR := nmE hR eB8
  refine x_aload_n (pc := 49) (i := 0) C 0 dX3_copyFrom_49 rfl rfl ?_
  refine x_aload_n (pc := 50) (i := 1) C 1 dX3_copyFrom_50 rfl rfl ?_
  refine x_get (pc := 51) (q := q0) (i := 5) C (e_L (by omega)) rfl ttX3 (by decide) wd_1_155 rfl dX3_copyFrom_51 ?_
  refine x_put (pc := 54) (B2 := (sbi B8 p 5 (bi B8 q0 5))) (M2 := M) (O2 := O) (q := p) (i := 5) C tyX3 tyX3_ok nmX3 (e_L (by omega)) rfl ttX3 (by decide) wd_1_155 rfl rfl rfl (Nat.le_of_ble_eq_true rfl) dX3_copyFrom_54 (put_L_5 (by omega)) (o_sbi p 5 (bi B8 q0 5)) ?_
  refine x_nmB (fun B9 eB9 => ?_)
  have hR := nmE hR eB9
  refine x_aload_n (pc := 57) (i := 0) C 0 dX3_copyFrom_57 rfl rfl ?_
  refine x_aload_n (pc := 58) (i := 1) C 1 dX3_copyFrom_58 rfl rfl ?_
  refine x_get (pc := 59) (q := q0) (i := 6) C (e_L (by omega)) rfl ttX3 (by decide) wd_1_157 rfl dX3_copyFrom_59 ?_
  refine x_put (pc := 62) (B2 := (sbl B9 p 6 (bl B9 q0 6))) (M2 := M) (O2 := O) (q := p) (i := 6) C tyX3 tyX3_ok nmX3 (e_L (by omega)) rfl ttX3 (by decide) wd_1_157 rfl rfl rfl (Nat.le_of_ble_eq_true rfl) dX3_copyFrom_62 (put_L_6 (by omega)) (o_sbl p 6 (bl B9 q0 6)) ?_
  refine x_nmB (fun B10 eB10 => ?_)
  have hR := nmE hR eB10
  refine x_aload_n (pc := 65) (i := 0) C 0 dX3_copyFrom_65 rfl rfl ?_
  refine x_aload_n (pc := 66) (i := 1) C 1 dX3_copyFrom_66 rfl rfl ?_
  refine x_get (pc := 67) (q := q0) (i := 7) C (e_L (by omega)) rfl ttX3 (by decide) wd_1_159 rfl dX3_copyFrom_67 ?_
  refine x_put (pc := 70) (B2 := (sbl B10 p 7 (bl B10 q0 7))) (M2 := M) (O2 := O) (q := p) (i := 7) C tyX3 tyX3_ok nmX3 (e_L (by omega)) rfl ttX3 (by decide) wd_1_159 rfl rfl rfl (Nat.le_of_ble_eq_true rfl) dX3_copyFrom_70 (put_L_7 (by omega)) (o_sbl p 7 (bl B10 q0 7)) ?_
  refine x_nmB (fun B11 eB11 => ?_)
  have hR := nmE hR eB11
  refine x_aload_n (pc := 73) (i := 0) C 0 dX3_copyFrom_73 rfl rfl ?_
  refine x_aload_n (pc := 74) (i := 1) C 1 dX3_copyFrom_74 rfl rfl ?_
  refine x_get (pc := 75) (q := q0) (i := 8) C (e_L (by omega)) rfl ttX3 (by decide) wd_1_161 rfl dX3_copyFrom_75 ?_
  refine x_put (pc := 78) (B2 := (sbl B11 p 8 (bl B11 q0 8))) (M2 := M) (O2 := O) (q := p) (i := 8) C tyX3 tyX3_ok nmX3 (e_L (by omega)) rfl ttX3 (by decide) wd_1_161 rfl rfl rfl (Nat.le_of_ble_eq_true rfl) dX3_copyFrom_78 (put_L_8 (by omega)) (o_sbl p 8 (bl B11 q0 8)) ?_
  refine x_nmB (fun B12 eB12 => ?_)
  have hR := nmE hR eB12
  refine x_aload_n (pc := 81) (i := 0) C 0 dX3_copyFrom_81 rfl rfl ?_
  refine x_aload_n (pc := 82) (i := 1) C 1 dX3_copyFrom_82 rfl rfl ?_
  refine x_get (pc := 83) (q := q0) (i := 9) C (e_L (by omega)) rfl ttX3 (by decide) wd_1_162 rfl dX3_copyFrom_83 ?_
  refine x_put (pc := 86) (B2 := (sbl B12 p 9 (bl B12 q0 9))) (M2 := M) (O2 := O) (q := p) (i := 9) C tyX3 tyX3_ok nmX3 (e_L (by omega)) rfl ttX3 (by decide) wd_1_162 rfl rfl rfl (Nat.le_of_ble_eq_true rfl) dX3_copyFrom_86 (put_L_9 (by omega)) (o_sbl p 9 (bl B12 q0 9)) ?_
  refine x_nmB (fun B13 eB13 => ?_)
  have hR := nmE hR eB13
  refine x_aload_n (pc := 89) (i := 0) C 0 dX3_copyFrom_89 rfl rfl ?_
  refine x_aload_n (pc := 90) (i := 1) C 1 dX3_copyFrom_90 rfl rfl ?_
  refine x_get (pc := 91) (q := q0) (i := 10) C (e_L (by omega)) rfl ttX3 (by decide) wd_1_164 rfl dX3_copyFrom_91 ?_
  refine x_put (pc := 94) (B2 := (sbl B13 p 10 (bl B13 q0 10))) (M2 := M) (O2 := O) (q := p) (i := 10) C tyX3 tyX3_ok nmX3 (e_L (by omega)) rfl ttX3 (by decide) wd_1_164 rfl rfl rfl (Nat.le_of_ble_eq_true rfl) dX3_copyFrom_94 (put_L_10 (by omega)) (o_sbl p 10 (bl B13 q0 10)) ?_
  refine x_nmB (fun B14 eB14 => ?_)
  have hR := nmE hR eB14
  exact x_vretB (pc := 97) C rfl hR dX3_copyFrom_97
set_option maxHeartbeats 4000000 in
set_option maxRecDepth 100000 in
theorem c_X3_payInFault {l : Launch} {A : Nat → Prop} {G : GT} {ad : Nat → Nat} (gl : Gl l A G ad) (p : Nat) (hp : p < 176 ∧ p % 16 = 0) (B : StB) (M : StM) (O : StO) (x0 : Int32) (x1 : Int32) (hok : ok_X3_payInFault p B x0 x1) : Met l yX3_payInFault (wof yX3_payInFault cX3_payInFault 4 (some .int)) (rmd 3 0 0) (va_Pc [.ref (ad p), .int x0, .int x1] (PW G A ad B M O)) (QI G A ad (f_X3_payInFault p B x0 x1) B M O) 0 0 A := by
  refine x_body (own := RX3) (by decide +kernel) rfl gl (Nat.le_of_ble_eq_true rfl) (ls := [(0, .ref (ad p)), (1, .int x0), (2, .int x1)]) rfl ?_
  intro p0 e s m args below meth c C
  have hR : (f_X3_payInFault p B x0 x1) = (nm (f_X3_argumentFault p B x0 x1 1 999) (fun (r1 : Int32) => (if r1 = 0 then (if ((ba B (p + 3) (ix x0)) + x1) ≤ 9999 then r1 else 4) else r1))) := rfl
  have hok : (∀ r1 : Int32, r1 = (f_X3_argumentFault p B x0 x1 1 999) → ((r1 = 0 → (vp_in x0 8)) ∧ (¬ r1 = 0 → True))) := hok
  refine x_aload_n (pc := 0) (i := 0) C 0 dX3_payInFault_0 rfl rfl ?_
  refine x_iload_n (pc := 1) (i := 1) C 1 dX3_payInFault_1 rfl rfl ?_
  refine x_iload_n (pc := 2) (i := 2) C 2 dX3_payInFault_2 rfl rfl ?_
  refine x_iconst (pc := 3) (v := 1) C dX3_payInFault_3 (by decide) ?_
  refine x_sipush (pc := 4) (v := 999) C dX3_payInFault_4 (by decide) ?_
  refine x_cIV (pc := 7) (as := [.int x0, .int x1, .int 1, .int 999]) (q := p) C (c_X3_argumentFault C.2.2.2.2.2.2.2.1 p (by omega) B M O x0 x1 1 999) (fs := _) (e_L (by omega)) rfl cv_X3_argumentFault cd_X3_argumentFault wd_3_63 ⟨Nat.le_of_ble_eq_true rfl, Nat.le_of_ble_eq_true rfl⟩ ⟨Nat.le_of_ble_eq_true rfl, Nat.le_of_ble_eq_true rfl⟩ rfl rfl (Nat.le_of_ble_eq_true rfl) dX3_payInFault_7 ?_
  refine x_nmI (fun r1 er1 => ?_)
  have hR := nmE hR er1
  have hok := hok r1 er1
  refine x_istore_n (pc := 10) (i := 3) (ls2 := [(3, .int r1), (0, .ref (ad p)), (1, .int x0), (2, .int x1)]) C dX3_payInFault_10 rfl (by decide) rfl ?_
  refine x_iload_n (pc := 11) (i := 3) C 0 dX3_payInFault_11 rfl rfl ?_
  refine x_if_ne (pc := 12) (tgt := 34) C dX3_payInFault_12 (by decide) (fun c2 => ?_) (fun c2 => ?_)
  · have hR := hR.trans (if_neg c2)
    refine x_iload_n (pc := 34) (i := 3) C 0 dX3_payInFault_34 rfl rfl ?_
    exact x_iret (pc := 35) C rfl hR dX3_payInFault_35
  · have hR := hR.trans (if_pos c2)
    have hok := hok.1 c2
    refine x_aload_n (pc := 15) (i := 0) C 1 dX3_payInFault_15 rfl rfl ?_
    refine x_get (pc := 16) (q := p) (i := 0) C (e_L (by omega)) rfl ttX3 (by decide) wd_1_145 rfl dX3_payInFault_16 ?_
    refine x_get (pc := 19) (q := p + 1) (i := 2) C (e_A (by omega)) rfl ttX0 (by decide) wd_1_59 rfl dX3_payInFault_19 ?_
    refine x_iload_n (pc := 22) (i := 1) C 2 dX3_payInFault_22 rfl rfl ?_
    have h3 := hok
    refine x_iald (pc := 23) (q := p + 3) C (e_Ab (by omega)) h3 dX3_payInFault_23 ?_
    refine x_iload_n (pc := 24) (i := 2) C 3 dX3_payInFault_24 rfl rfl ?_
    refine x_iadd (pc := 25) C dX3_payInFault_25 ?_
    refine x_sipush (pc := 26) (v := 9999) C dX3_payInFault_26 (by decide) ?_
    refine x_icmp_le (pc := 29) (tgt := 34) C dX3_payInFault_29 (by decide) (fun c4 => ?_) (fun c4 => ?_)
    · have hR := hR.trans (if_pos c4)
      refine x_iload_n (pc := 34) (i := 3) C 0 dX3_payInFault_34 rfl rfl ?_
      exact x_iret (pc := 35) C rfl hR dX3_payInFault_35
    · have hR := hR.trans (if_neg c4)
      refine x_iconst (pc := 32) (v := 4) C dX3_payInFault_32 (by decide) ?_
      exact x_iret (pc := 33) C rfl hR dX3_payInFault_33
set_option maxHeartbeats 4000000 in
set_option maxRecDepth 100000 in
theorem c_X3_payIn {l : Launch} {A : Nat → Prop} {G : GT} {ad : Nat → Nat} (gl : Gl l A G ad) (p : Nat) (hp : p < 176 ∧ p % 16 = 0) (B : StB) (M : StM) (O : StO) (x0 : Int32) (x1 : Int32) (hok : ok_X3_payIn p B x0 x1) : Met l yX3_payIn (wof yX3_payIn cX3_payIn 3 (some .int)) (rmd 3 0 0) (va_Pc [.ref (ad p), .int x0, .int x1] (PW G A ad B M O)) (QI G A ad (f_X3_payIn p B x0 x1).1 (f_X3_payIn p B x0 x1).2 M O) 0 0 A := by
  refine x_body (own := RX3) (by decide +kernel) rfl gl (Nat.le_of_ble_eq_true rfl) (ls := [(0, .ref (ad p)), (1, .int x0), (2, .int x1)]) rfl ?_
  intro p0 e s m args below meth c C
  have hR : (f_X3_payIn p B x0 x1) = (nm (sba B (p + 3) (ix x0) ((ba B (p + 3) (ix x0)) + x1)) (fun (B3 : StB) => (nm (sbl B3 p 6 ((bl B3 p 6) + (Int32.toInt64 x1))) (fun (B4 : StB) => (nm (f_X2_add (p + 12) B4 100 x1 x0) (fun (B6 : StB) => ((ba B6 (p + 3) (ix x0)), B6))))))) := rfl
  have hok : (vp_in x0 8 ∧ (vp_in x0 8 ∧ (∀ B3 : StB, B3 = (sba B (p + 3) (ix x0) ((ba B (p + 3) (ix x0)) + x1)) → (∀ B4 : StB, B4 = (sbl B3 p 6 ((bl B3 p 6) + (Int32.toInt64 x1))) → ((ok_X2_add (p + 12) B4 100 x1 x0) ∧ (∀ B6 : StB, B6 = (f_X2_add (p + 12) B4 100 x1 x0) → (vp_in x0 8))))))) := hok
  refine x_aload_n (pc := 0) (i := 0) C 0 dX3_payIn_0 rfl rfl ?_
  refine x_get (pc := 1) (q := p) (i := 0) C (e_L (by omega)) rfl ttX3 (by decide) wd_1_145 rfl dX3_payIn_1 ?_
  refine x_get (pc := 4) (q := p + 1) (i := 2) C (e_A (by omega)) rfl ttX0 (by decide) wd_1_59 rfl dX3_payIn_4 ?_
  refine x_iload_n (pc := 7) (i := 1) C 1 dX3_payIn_7 rfl rfl ?_
  refine x_dup2 (pc := 8) C dX3_payIn_8 rfl rfl ?_
  have h1 := hok.1
  have hok := hok.2
  refine x_iald (pc := 9) (q := p + 3) C (e_Ab (by omega)) h1 dX3_payIn_9 ?_
  refine x_iload_n (pc := 10) (i := 2) C 2 dX3_payIn_10 rfl rfl ?_
  refine x_iadd (pc := 11) C dX3_payIn_11 ?_
  have h2 := hok.1
  have hok := hok.2
  refine x_iastB (pc := 12) (q := p + 3) C (e_Ab (by omega)) (e_Ab (by omega)).2 h2 dX3_payIn_12 ?_
  refine x_nmB (fun B3 eB3 => ?_)
  have hR := nmE hR eB3
  have hok := hok B3 eB3
  refine x_aload_n (pc := 13) (i := 0) C 0 dX3_payIn_13 rfl rfl ?_
  refine x_dup (pc := 14) C dX3_payIn_14 rfl ?_
  refine x_get (pc := 15) (q := p) (i := 6) C (e_L (by omega)) rfl ttX3 (by decide) wd_1_157 rfl dX3_payIn_15 ?_
  refine x_iload_n (pc := 18) (i := 2) C 2 dX3_payIn_18 rfl rfl ?_
  refine x_i2l (pc := 19) C dX3_payIn_19 ?_
  refine x_ladd (pc := 20) C dX3_payIn_20 ?_
  refine x_put (pc := 21) (B2 := (sbl B3 p 6 ((bl B3 p 6) + (Int32.toInt64 x1)))) (M2 := M) (O2 := O) (q := p) (i := 6) C tyX3 tyX3_ok nmX3 (e_L (by omega)) rfl ttX3 (by decide) wd_1_157 rfl rfl rfl (Nat.le_of_ble_eq_true rfl) dX3_payIn_21 (put_L_6 (by omega)) (o_sbl p 6 ((bl B3 p 6) + (Int32.toInt64 x1))) ?_
  refine x_nmB (fun B4 eB4 => ?_)
  have hR := nmE hR eB4
  have hok := hok B4 eB4
  refine x_aload_n (pc := 24) (i := 0) C 0 dX3_payIn_24 rfl rfl ?_
  refine x_get (pc := 25) (q := p) (i := 2) C (e_L (by omega)) rfl ttX3 (by decide) wd_1_149 rfl dX3_payIn_25 ?_
  refine x_bipush (pc := 28) (v := 100) C dX3_payIn_28 (by decide) ?_
  refine x_iload_n (pc := 30) (i := 2) C 2 dX3_payIn_30 rfl rfl ?_
  refine x_iload_n (pc := 31) (i := 1) C 1 dX3_payIn_31 rfl rfl ?_
  have h5 := hok.1
  have hok := hok.2
  refine x_cVV (pc := 32) (as := [.int 100, .int x1, .int x0]) (q := p + 12) C (c_X2_add C.2.2.2.2.2.2.2.1 (p + 12) (by omega) B4 M O 100 x1 x0 h5) (fs := _) (e_J (by omega)) rfl cv_X2_add cd_X2_add wd_3_75 ⟨Nat.le_of_ble_eq_true rfl, Nat.le_of_ble_eq_true rfl⟩ ⟨Nat.le_of_ble_eq_true rfl, Nat.le_of_ble_eq_true rfl⟩ rfl rfl (Nat.le_of_ble_eq_true rfl) dX3_payIn_32 ?_
  refine x_nmB (fun B6 eB6 => ?_)
  have hR := nmE hR eB6
  have hok := hok B6 eB6
  refine x_aload_n (pc := 35) (i := 0) C 0 dX3_payIn_35 rfl rfl ?_
  refine x_get (pc := 36) (q := p) (i := 0) C (e_L (by omega)) rfl ttX3 (by decide) wd_1_145 rfl dX3_payIn_36 ?_
  refine x_get (pc := 39) (q := p + 1) (i := 2) C (e_A (by omega)) rfl ttX0 (by decide) wd_1_59 rfl dX3_payIn_39 ?_
  refine x_iload_n (pc := 42) (i := 1) C 1 dX3_payIn_42 rfl rfl ?_
  have h7 := hok
  refine x_iald (pc := 43) (q := p + 3) C (e_Ab (by omega)) h7 dX3_payIn_43 ?_
  exact x_iretB (pc := 44) C rfl hR dX3_payIn_44
set_option maxHeartbeats 4000000 in
set_option maxRecDepth 100000 in
theorem c_X3_payOutFault {l : Launch} {A : Nat → Prop} {G : GT} {ad : Nat → Nat} (gl : Gl l A G ad) (p : Nat) (hp : p < 176 ∧ p % 16 = 0) (B : StB) (M : StM) (O : StO) (x0 : Int32) (x1 : Int32) (hok : ok_X3_payOutFault p B x0 x1) : Met l yX3_payOutFault (wof yX3_payOutFault cX3_payOutFault 4 (some .int)) (rmd 3 0 0) (va_Pc [.ref (ad p), .int x0, .int x1] (PW G A ad B M O)) (QI G A ad (f_X3_payOutFault p B x0 x1) B M O) 0 0 A := by
  refine x_body (own := RX3) (by decide +kernel) rfl gl (Nat.le_of_ble_eq_true rfl) (ls := [(0, .ref (ad p)), (1, .int x0), (2, .int x1)]) rfl ?_
  intro p0 e s m args below meth c C
  have hR : (f_X3_payOutFault p B x0 x1) = (nm (f_X3_argumentFault p B x0 x1 1 999) (fun (r1 : Int32) => (if r1 = 0 then (nm (f_X0_available (p + 1) B x0) (fun (r4 : Int32) => (if x1 ≤ r4 then r1 else 4))) else r1))) := rfl
  have hok : (∀ r1 : Int32, r1 = (f_X3_argumentFault p B x0 x1 1 999) → ((r1 = 0 → ((ok_X0_available (p + 1) B x0))) ∧ (¬ r1 = 0 → True))) := hok
  refine x_aload_n (pc := 0) (i := 0) C 0 dX3_payOutFault_0 rfl rfl ?_
  refine x_iload_n (pc := 1) (i := 1) C 1 dX3_payOutFault_1 rfl rfl ?_
  refine x_iload_n (pc := 2) (i := 2) C 2 dX3_payOutFault_2 rfl rfl ?_
  refine x_iconst (pc := 3) (v := 1) C dX3_payOutFault_3 (by decide) ?_
  refine x_sipush (pc := 4) (v := 999) C dX3_payOutFault_4 (by decide) ?_
  refine x_cIV (pc := 7) (as := [.int x0, .int x1, .int 1, .int 999]) (q := p) C (c_X3_argumentFault C.2.2.2.2.2.2.2.1 p (by omega) B M O x0 x1 1 999) (fs := _) (e_L (by omega)) rfl cv_X3_argumentFault cd_X3_argumentFault wd_3_63 ⟨Nat.le_of_ble_eq_true rfl, Nat.le_of_ble_eq_true rfl⟩ ⟨Nat.le_of_ble_eq_true rfl, Nat.le_of_ble_eq_true rfl⟩ rfl rfl (Nat.le_of_ble_eq_true rfl) dX3_payOutFault_7 ?_
  refine x_nmI (fun r1 er1 => ?_)
  have hR := nmE hR er1
  have hok := hok r1 er1
  refine x_istore_n (pc := 10) (i := 3) (ls2 := [(3, .int r1), (0, .ref (ad p)), (1, .int x0), (2, .int x1)]) C dX3_payOutFault_10 rfl (by decide) rfl ?_
  refine x_iload_n (pc := 11) (i := 3) C 0 dX3_payOutFault_11 rfl rfl ?_
  refine x_if_ne (pc := 12) (tgt := 29) C dX3_payOutFault_12 (by decide) (fun c2 => ?_) (fun c2 => ?_)
  · have hR := hR.trans (if_neg c2)
    refine x_iload_n (pc := 29) (i := 3) C 0 dX3_payOutFault_29 rfl rfl ?_
    exact x_iret (pc := 30) C rfl hR dX3_payOutFault_30
  · have hR := hR.trans (if_pos c2)
    have hok := hok.1 c2
    refine x_aload_n (pc := 15) (i := 0) C 1 dX3_payOutFault_15 rfl rfl ?_
    refine x_get (pc := 16) (q := p) (i := 0) C (e_L (by omega)) rfl ttX3 (by decide) wd_1_145 rfl dX3_payOutFault_16 ?_
    refine x_iload_n (pc := 19) (i := 1) C 2 dX3_payOutFault_19 rfl rfl ?_
    have h3 := hok
    refine x_cIV (pc := 20) (as := [.int x0]) (q := p + 1) C (c_X0_available C.2.2.2.2.2.2.2.1 (p + 1) (by omega) B M O x0 h3) (fs := _) (e_A (by omega)) rfl cv_X0_available cd_X0_available wd_3_89 ⟨Nat.le_of_ble_eq_true rfl, Nat.le_of_ble_eq_true rfl⟩ ⟨Nat.le_of_ble_eq_true rfl, Nat.le_of_ble_eq_true rfl⟩ rfl rfl (Nat.le_of_ble_eq_true rfl) dX3_payOutFault_20 ?_
    refine x_nmI (fun r4 er4 => ?_)
    have hR := nmE hR er4
    refine x_iload_n (pc := 23) (i := 2) C 3 dX3_payOutFault_23 rfl rfl ?_
    refine x_icmp_ge (pc := 24) (tgt := 29) C dX3_payOutFault_24 (by decide) (fun c5 => ?_) (fun c5 => ?_)
    · have hR := hR.trans (if_pos c5)
      refine x_iload_n (pc := 29) (i := 3) C 0 dX3_payOutFault_29 rfl rfl ?_
      exact x_iret (pc := 30) C rfl hR dX3_payOutFault_30
    · have hR := hR.trans (if_neg c5)
      refine x_iconst (pc := 27) (v := 4) C dX3_payOutFault_27 (by decide) ?_
      exact x_iret (pc := 28) C rfl hR dX3_payOutFault_28
set_option maxHeartbeats 4000000 in
set_option maxRecDepth 100000 in
theorem c_X3_payOut {l : Launch} {A : Nat → Prop} {G : GT} {ad : Nat → Nat} (gl : Gl l A G ad) (p : Nat) (hp : p < 176 ∧ p % 16 = 0) (B : StB) (M : StM) (O : StO) (x0 : Int32) (x1 : Int32) (hok : ok_X3_payOut p B x0 x1) : Met l yX3_payOut (wof yX3_payOut cX3_payOut 3 (some .int)) (rmd 3 0 0) (va_Pc [.ref (ad p), .int x0, .int x1] (PW G A ad B M O)) (QI G A ad (f_X3_payOut p B x0 x1).1 (f_X3_payOut p B x0 x1).2 M O) 0 0 A := by
  refine x_body (own := RX3) (by decide +kernel) rfl gl (Nat.le_of_ble_eq_true rfl) (ls := [(0, .ref (ad p)), (1, .int x0), (2, .int x1)]) rfl ?_
  intro p0 e s m args below meth c C
  have hR : (f_X3_payOut p B x0 x1) = (nm (sba B (p + 3) (ix x0) ((ba B (p + 3) (ix x0)) - x1)) (fun (B3 : StB) => (nm (sba B3 (p + 5) (ix x0) (vp_nar .boolean 1)) (fun (B5 : StB) => (nm (sbl B5 p 7 ((bl B5 p 7) + (Int32.toInt64 x1))) (fun (B6 : StB) => (nm (f_X2_add (p + 12) B6 119 x1 x0) (fun (B8 : StB) => ((ba B8 (p + 3) (ix x0)), B8))))))))) := rfl
  have hok : (vp_in x0 8 ∧ (vp_in x0 8 ∧ (∀ B3 : StB, B3 = (sba B (p + 3) (ix x0) ((ba B (p + 3) (ix x0)) - x1)) → (vp_in x0 8 ∧ (∀ B5 : StB, B5 = (sba B3 (p + 5) (ix x0) (vp_nar .boolean 1)) → (∀ B6 : StB, B6 = (sbl B5 p 7 ((bl B5 p 7) + (Int32.toInt64 x1))) → ((ok_X2_add (p + 12) B6 119 x1 x0) ∧ (∀ B8 : StB, B8 = (f_X2_add (p + 12) B6 119 x1 x0) → (vp_in x0 8))))))))) := hok
  refine x_aload_n (pc := 0) (i := 0) C 0 dX3_payOut_0 rfl rfl ?_
  refine x_get (pc := 1) (q := p) (i := 0) C (e_L (by omega)) rfl ttX3 (by decide) wd_1_145 rfl dX3_payOut_1 ?_
  refine x_get (pc := 4) (q := p + 1) (i := 2) C (e_A (by omega)) rfl ttX0 (by decide) wd_1_59 rfl dX3_payOut_4 ?_
  refine x_iload_n (pc := 7) (i := 1) C 1 dX3_payOut_7 rfl rfl ?_
  refine x_dup2 (pc := 8) C dX3_payOut_8 rfl rfl ?_
  have h1 := hok.1
  have hok := hok.2
  refine x_iald (pc := 9) (q := p + 3) C (e_Ab (by omega)) h1 dX3_payOut_9 ?_
  refine x_iload_n (pc := 10) (i := 2) C 2 dX3_payOut_10 rfl rfl ?_
  refine x_isub (pc := 11) C dX3_payOut_11 ?_
  have h2 := hok.1
  have hok := hok.2
  refine x_iastB (pc := 12) (q := p + 3) C (e_Ab (by omega)) (e_Ab (by omega)).2 h2 dX3_payOut_12 ?_
  refine x_nmB (fun B3 eB3 => ?_)
  have hR := nmE hR eB3
  have hok := hok B3 eB3
  refine x_aload_n (pc := 13) (i := 0) C 0 dX3_payOut_13 rfl rfl ?_
  refine x_get (pc := 14) (q := p) (i := 0) C (e_L (by omega)) rfl ttX3 (by decide) wd_1_145 rfl dX3_payOut_14 ?_
  refine x_get (pc := 17) (q := p + 1) (i := 4) C (e_A (by omega)) rfl ttX0 (by decide) wd_1_64 rfl dX3_payOut_17 ?_
  refine x_iload_n (pc := 20) (i := 1) C 1 dX3_payOut_20 rfl rfl ?_
  refine x_iconst (pc := 21) (v := 1) C dX3_payOut_21 (by decide) ?_
  have h4 := hok.1
  have hok := hok.2
  refine x_zastB (pc := 22) (q := p + 5) C (e_At (by omega)) (e_At (by omega)).2 h4 dX3_payOut_22 ?_
  refine x_nmB (fun B5 eB5 => ?_)
  have hR := nmE hR eB5
  have hok := hok B5 eB5
  refine x_aload_n (pc := 23) (i := 0) C 0 dX3_payOut_23 rfl rfl ?_
  refine x_dup (pc := 24) C dX3_payOut_24 rfl ?_
  refine x_get (pc := 25) (q := p) (i := 7) C (e_L (by omega)) rfl ttX3 (by decide) wd_1_159 rfl dX3_payOut_25 ?_
  refine x_iload_n (pc := 28) (i := 2) C 2 dX3_payOut_28 rfl rfl ?_
  refine x_i2l (pc := 29) C dX3_payOut_29 ?_
  refine x_ladd (pc := 30) C dX3_payOut_30 ?_
  refine x_put (pc := 31) (B2 := (sbl B5 p 7 ((bl B5 p 7) + (Int32.toInt64 x1)))) (M2 := M) (O2 := O) (q := p) (i := 7) C tyX3 tyX3_ok nmX3 (e_L (by omega)) rfl ttX3 (by decide) wd_1_159 rfl rfl rfl (Nat.le_of_ble_eq_true rfl) dX3_payOut_31 (put_L_7 (by omega)) (o_sbl p 7 ((bl B5 p 7) + (Int32.toInt64 x1))) ?_
  refine x_nmB (fun B6 eB6 => ?_)
  have hR := nmE hR eB6
  have hok := hok B6 eB6
  refine x_aload_n (pc := 34) (i := 0) C 0 dX3_payOut_34 rfl rfl ?_
  refine x_get (pc := 35) (q := p) (i := 2) C (e_L (by omega)) rfl ttX3 (by decide) wd_1_149 rfl dX3_payOut_35 ?_
  refine x_bipush (pc := 38) (v := 119) C dX3_payOut_38 (by decide) ?_
  refine x_iload_n (pc := 40) (i := 2) C 2 dX3_payOut_40 rfl rfl ?_
  refine x_iload_n (pc := 41) (i := 1) C 1 dX3_payOut_41 rfl rfl ?_
  have h7 := hok.1
  have hok := hok.2
  refine x_cVV (pc := 42) (as := [.int 119, .int x1, .int x0]) (q := p + 12) C (c_X2_add C.2.2.2.2.2.2.2.1 (p + 12) (by omega) B6 M O 119 x1 x0 h7) (fs := _) (e_J (by omega)) rfl cv_X2_add cd_X2_add wd_3_75 ⟨Nat.le_of_ble_eq_true rfl, Nat.le_of_ble_eq_true rfl⟩ ⟨Nat.le_of_ble_eq_true rfl, Nat.le_of_ble_eq_true rfl⟩ rfl rfl (Nat.le_of_ble_eq_true rfl) dX3_payOut_42 ?_
  refine x_nmB (fun B8 eB8 => ?_)
  have hR := nmE hR eB8
  have hok := hok B8 eB8
  refine x_aload_n (pc := 45) (i := 0) C 0 dX3_payOut_45 rfl rfl ?_
  refine x_get (pc := 46) (q := p) (i := 0) C (e_L (by omega)) rfl ttX3 (by decide) wd_1_145 rfl dX3_payOut_46 ?_
  refine x_get (pc := 49) (q := p + 1) (i := 2) C (e_A (by omega)) rfl ttX0 (by decide) wd_1_59 rfl dX3_payOut_49 ?_
  refine x_iload_n (pc := 52) (i := 1) C 1 dX3_payOut_52 rfl rfl ?_
  have h9 := hok
  refine x_iald (pc := 53) (q := p + 3) C (e_Ab (by omega)) h9 dX3_payOut_53 ?_
  exact x_iretB (pc := 54) C rfl hR dX3_payOut_54
set_option maxHeartbeats 4000000 in
set_option maxRecDepth 100000 in
theorem c_X3_limitFault {l : Launch} {A : Nat → Prop} {G : GT} {ad : Nat → Nat} (gl : Gl l A G ad) (p : Nat) (hp : p < 176 ∧ p % 16 = 0) (B : StB) (M : StM) (O : StO) (x0 : Int32) (x1 : Int32) (hok : ok_X3_limitFault p B x0 x1) : Met l yX3_limitFault (wof yX3_limitFault cX3_limitFault 5 (some .int)) (rmd 3 0 0) (va_Pc [.ref (ad p), .int x0, .int x1] (PW G A ad B M O)) (QI G A ad (f_X3_limitFault p B x0 x1) B M O) 0 0 A := by
  refine x_body (own := RX3) (by decide +kernel) rfl gl (Nat.le_of_ble_eq_true rfl) (ls := [(0, .ref (ad p)), (1, .int x0), (2, .int x1)]) rfl ?_
  intro p0 e s m args below meth c C
  have hR : (f_X3_limitFault p B x0 x1) = (nm (f_X3_argumentFault p B x0 x1 0 500) (fun (r1 : Int32) => (if r1 = 0 then (nm (ba B (p + 2) (ix x0)) (fun (v4 : Int32) => (if v4 = 1 then 3 else (if v4 = 3 then 3 else (if (-x1) ≤ (ba B (p + 3) (ix x0)) then 0 else 4))))) else r1))) := rfl
  have hok : (∀ r1 : Int32, r1 = (f_X3_argumentFault p B x0 x1 0 500) → ((r1 = 0 → (vp_in x0 8 ∧ (∀ v4 : Int32, v4 = (ba B (p + 2) (ix x0)) → ((v4 = 1 → True) ∧ (¬ v4 = 1 → ((v4 = 3 → True) ∧ (¬ v4 = 3 → (vp_in x0 8)))))))) ∧ (¬ r1 = 0 → True))) := hok
  refine x_aload_n (pc := 0) (i := 0) C 0 dX3_limitFault_0 rfl rfl ?_
  refine x_iload_n (pc := 1) (i := 1) C 1 dX3_limitFault_1 rfl rfl ?_
  refine x_iload_n (pc := 2) (i := 2) C 2 dX3_limitFault_2 rfl rfl ?_
  refine x_iconst (pc := 3) (v := 0) C dX3_limitFault_3 (by decide) ?_
  refine x_sipush (pc := 4) (v := 500) C dX3_limitFault_4 (by decide) ?_
  refine x_cIV (pc := 7) (as := [.int x0, .int x1, .int 0, .int 500]) (q := p) C (c_X3_argumentFault C.2.2.2.2.2.2.2.1 p (by omega) B M O x0 x1 0 500) (fs := _) (e_L (by omega)) rfl cv_X3_argumentFault cd_X3_argumentFault wd_3_63 ⟨Nat.le_of_ble_eq_true rfl, Nat.le_of_ble_eq_true rfl⟩ ⟨Nat.le_of_ble_eq_true rfl, Nat.le_of_ble_eq_true rfl⟩ rfl rfl (Nat.le_of_ble_eq_true rfl) dX3_limitFault_7 ?_
  refine x_nmI (fun r1 er1 => ?_)
  have hR := nmE hR er1
  have hok := hok r1 er1
  refine x_istore_n (pc := 10) (i := 3) (ls2 := [(3, .int r1), (0, .ref (ad p)), (1, .int x0), (2, .int x1)]) C dX3_limitFault_10 rfl (by decide) rfl ?_
  refine x_iload_n (pc := 11) (i := 3) C 0 dX3_limitFault_11 rfl rfl ?_
  refine x_if_eq (pc := 12) (tgt := 17) C dX3_limitFault_12 (by decide) (fun c2 => ?_) (fun c2 => ?_)
  · have hR := hR.trans (if_pos c2)
    have hok := hok.1 c2
    refine x_aload_n (pc := 17) (i := 0) C 1 dX3_limitFault_17 rfl rfl ?_
    refine x_get (pc := 18) (q := p) (i := 0) C (e_L (by omega)) rfl ttX3 (by decide) wd_1_145 rfl dX3_limitFault_18 ?_
    refine x_get (pc := 21) (q := p + 1) (i := 1) C (e_A (by omega)) rfl ttX0 (by decide) wd_1_57 rfl dX3_limitFault_21 ?_
    refine x_iload_n (pc := 24) (i := 1) C 2 dX3_limitFault_24 rfl rfl ?_
    have h3 := hok.1
    have hok := hok.2
    refine x_iald (pc := 25) (q := p + 2) C (e_Ak (by omega)) h3 dX3_limitFault_25 ?_
    refine x_nmI (fun v4 ev4 => ?_)
    have hR := nmE hR ev4
    have hok := hok v4 ev4
    refine x_istore (pc := 26) (i := 4) (ls2 := [(4, .int v4), (3, .int r1), (0, .ref (ad p)), (1, .int x0), (2, .int x1)]) C dX3_limitFault_26 (by decide) rfl ?_
    refine x_iload (pc := 28) (i := 4) C 0 dX3_limitFault_28 rfl ?_
    refine x_iconst (pc := 30) (v := 1) C dX3_limitFault_30 (by decide) ?_
    refine x_icmp_eq (pc := 31) (tgt := 40) C dX3_limitFault_31 (by decide) (fun c5 => ?_) (fun c5 => ?_)
    · have hR := hR.trans (if_pos c5)
      refine x_iconst (pc := 40) (v := 3) C dX3_limitFault_40 (by decide) ?_
      exact x_iret (pc := 41) C rfl hR dX3_limitFault_41
    · have hR := hR.trans (if_neg c5)
      have hok := hok.2 c5
      refine x_iload (pc := 34) (i := 4) C 0 dX3_limitFault_34 rfl ?_
      refine x_iconst (pc := 36) (v := 3) C dX3_limitFault_36 (by decide) ?_
      refine x_icmp_ne (pc := 37) (tgt := 42) C dX3_limitFault_37 (by decide) (fun c6 => ?_) (fun c6 => ?_)
      · have hR := hR.trans (if_neg c6)
        have hok := hok.2 c6
        refine x_aload_n (pc := 42) (i := 0) C 2 dX3_limitFault_42 rfl rfl ?_
        refine x_get (pc := 43) (q := p) (i := 0) C (e_L (by omega)) rfl ttX3 (by decide) wd_1_145 rfl dX3_limitFault_43 ?_
        refine x_get (pc := 46) (q := p + 1) (i := 2) C (e_A (by omega)) rfl ttX0 (by decide) wd_1_59 rfl dX3_limitFault_46 ?_
        refine x_iload_n (pc := 49) (i := 1) C 3 dX3_limitFault_49 rfl rfl ?_
        have h7 := hok
        refine x_iald (pc := 50) (q := p + 3) C (e_Ab (by omega)) h7 dX3_limitFault_50 ?_
        refine x_iload_n (pc := 51) (i := 2) C 4 dX3_limitFault_51 rfl rfl ?_
        refine x_ineg (pc := 52) C dX3_limitFault_52 ?_
        refine x_icmp_ge (pc := 53) (tgt := 60) C dX3_limitFault_53 (by decide) (fun c8 => ?_) (fun c8 => ?_)
        · have hR := hR.trans (if_pos c8)
          refine x_iconst (pc := 60) (v := 0) C dX3_limitFault_60 (by decide) ?_
          exact x_iret (pc := 61) C rfl hR dX3_limitFault_61
        · have hR := hR.trans (if_neg c8)
          refine x_iconst (pc := 56) (v := 4) C dX3_limitFault_56 (by decide) ?_
          refine x_goto (pc := 57) (tgt := 61) C dX3_limitFault_57 (by decide) ?_
          exact x_iret (pc := 61) C rfl hR dX3_limitFault_61
      · have hR := hR.trans (if_pos c6)
        refine x_iconst (pc := 40) (v := 3) C dX3_limitFault_40 (by decide) ?_
        exact x_iret (pc := 41) C rfl hR dX3_limitFault_41
  · have hR := hR.trans (if_neg c2)
    refine x_iload_n (pc := 15) (i := 3) C 0 dX3_limitFault_15 rfl rfl ?_
    exact x_iret (pc := 16) C rfl hR dX3_limitFault_16
set_option maxHeartbeats 4000000 in
set_option maxRecDepth 100000 in
theorem c_X3_collect {l : Launch} {A : Nat → Prop} {G : GT} {ad : Nat → Nat} (gl : Gl l A G ad) (p : Nat) (hp : p < 176 ∧ p % 16 = 0) (B : StB) (M : StM) (O : StO) (x0 : Int32) (x1 : Int32) (x2 : Int32) (hok : ok_X3_collect p B x0 x1 x2) : Met l yX3_collect (wof yX3_collect cX3_collect 5 none) (rmd 3 0 0) (va_Pc [.ref (ad p), .int x0, .int x1, .int x2] (PW G A ad B M O)) (QV G A ad (f_X3_collect p B x0 x1 x2) M O) 0 0 A := by
  refine x_body (own := RX3) (by decide +kernel) rfl gl (Nat.le_of_ble_eq_true rfl) (ls := [(0, .ref (ad p)), (1, .int x0), (2, .int x1), (3, .int x2)]) rfl ?_
  intro p0 e s m args below meth c C
  have hR : (f_X3_collect p B x0 x1 x2) = (nm (f_X0_available (p + 1) B x2) (fun (r2 : Int32) => (nm (mn x1 r2) (fun (v3 : Int32) => (nm (sba B (p + 3) (ix x2) ((ba B (p + 3) (ix x2)) - v3)) (fun (B6 : StB) => (nm (sbi B6 p 4 ((bi B6 p 4) + v3)) (fun (B7 : StB) => (nm (sbl B7 p 10 ((bl B7 p 10) + (Int32.toInt64 v3))) (fun (B8 : StB) => (nm (f_X2_add (p + 12) B8 x0 v3 x2) (fun (B10 : StB) => B10)))))))))))) := rfl
  have hok : ((ok_X0_available (p + 1) B x2) ∧ (∀ r2 : Int32, r2 = (f_X0_available (p + 1) B x2) → (∀ v3 : Int32, v3 = (mn x1 r2) → (vp_in x2 8 ∧ (vp_in x2 8 ∧ (∀ B6 : StB, B6 = (sba B (p + 3) (ix x2) ((ba B (p + 3) (ix x2)) - v3)) → (∀ B7 : StB, B7 = (sbi B6 p 4 ((bi B6 p 4) + v3)) → (∀ B8 : StB, B8 = (sbl B7 p 10 ((bl B7 p 10) + (Int32.toInt64 v3))) → ((ok_X2_add (p + 12) B8 x0 v3 x2)))))))))) := hok
  refine x_iload_n (pc := 0) (i := 2) C 2 dX3_collect_0 rfl rfl ?_
  refine x_aload_n (pc := 1) (i := 0) C 0 dX3_collect_1 rfl rfl ?_
  refine x_get (pc := 2) (q := p) (i := 0) C (e_L (by omega)) rfl ttX3 (by decide) wd_1_145 rfl dX3_collect_2 ?_
  refine x_iload_n (pc := 5) (i := 3) C 3 dX3_collect_5 rfl rfl ?_
  have h1 := hok.1
  have hok := hok.2
  refine x_cIV (pc := 6) (as := [.int x2]) (q := p + 1) C (c_X0_available C.2.2.2.2.2.2.2.1 (p + 1) (by omega) B M O x2 h1) (fs := _) (e_A (by omega)) rfl cv_X0_available cd_X0_available wd_3_89 ⟨Nat.le_of_ble_eq_true rfl, Nat.le_of_ble_eq_true rfl⟩ ⟨Nat.le_of_ble_eq_true rfl, Nat.le_of_ble_eq_true rfl⟩ rfl rfl (Nat.le_of_ble_eq_true rfl) dX3_collect_6 ?_
  refine x_nmI (fun r2 er2 => ?_)
  have hR := nmE hR er2
  have hok := hok r2 er2
  refine x_mmin (pc := 9) C wd_3_166 wd_3_49 wd_1_21 wd_3_50 ⟨Nat.le_of_ble_eq_true rfl, Nat.le_of_ble_eq_true rfl⟩ ⟨Nat.le_of_ble_eq_true rfl, Nat.le_of_ble_eq_true rfl⟩ dX3_collect_9 ?_
  refine x_nmI (fun v3 ev3 => ?_)
  have hR := nmE hR ev3
  have hok := hok v3 ev3
  refine x_istore (pc := 12) (i := 4) (ls2 := [(4, .int v3), (0, .ref (ad p)), (1, .int x0), (2, .int x1), (3, .int x2)]) C dX3_collect_12 (by decide) rfl ?_
  refine x_aload_n (pc := 14) (i := 0) C 1 dX3_collect_14 rfl rfl ?_
  refine x_get (pc := 15) (q := p) (i := 0) C (e_L (by omega)) rfl ttX3 (by decide) wd_1_145 rfl dX3_collect_15 ?_
  refine x_get (pc := 18) (q := p + 1) (i := 2) C (e_A (by omega)) rfl ttX0 (by decide) wd_1_59 rfl dX3_collect_18 ?_
  refine x_iload_n (pc := 21) (i := 3) C 4 dX3_collect_21 rfl rfl ?_
  refine x_dup2 (pc := 22) C dX3_collect_22 rfl rfl ?_
  have h4 := hok.1
  have hok := hok.2
  refine x_iald (pc := 23) (q := p + 3) C (e_Ab (by omega)) h4 dX3_collect_23 ?_
  refine x_iload (pc := 24) (i := 4) C 0 dX3_collect_24 rfl ?_
  refine x_isub (pc := 26) C dX3_collect_26 ?_
  have h5 := hok.1
  have hok := hok.2
  refine x_iastB (pc := 27) (q := p + 3) C (e_Ab (by omega)) (e_Ab (by omega)).2 h5 dX3_collect_27 ?_
  refine x_nmB (fun B6 eB6 => ?_)
  have hR := nmE hR eB6
  have hok := hok B6 eB6
  refine x_aload_n (pc := 28) (i := 0) C 1 dX3_collect_28 rfl rfl ?_
  refine x_dup (pc := 29) C dX3_collect_29 rfl ?_
  refine x_get (pc := 30) (q := p) (i := 4) C (e_L (by omega)) rfl ttX3 (by decide) wd_1_153 rfl dX3_collect_30 ?_
  refine x_iload (pc := 33) (i := 4) C 0 dX3_collect_33 rfl ?_
  refine x_iadd (pc := 35) C dX3_collect_35 ?_
  refine x_put (pc := 36) (B2 := (sbi B6 p 4 ((bi B6 p 4) + v3))) (M2 := M) (O2 := O) (q := p) (i := 4) C tyX3 tyX3_ok nmX3 (e_L (by omega)) rfl ttX3 (by decide) wd_1_153 rfl rfl rfl (Nat.le_of_ble_eq_true rfl) dX3_collect_36 (put_L_4 (by omega)) (o_sbi p 4 ((bi B6 p 4) + v3)) ?_
  refine x_nmB (fun B7 eB7 => ?_)
  have hR := nmE hR eB7
  have hok := hok B7 eB7
  refine x_aload_n (pc := 39) (i := 0) C 1 dX3_collect_39 rfl rfl ?_
  refine x_dup (pc := 40) C dX3_collect_40 rfl ?_
  refine x_get (pc := 41) (q := p) (i := 10) C (e_L (by omega)) rfl ttX3 (by decide) wd_1_164 rfl dX3_collect_41 ?_
  refine x_iload (pc := 44) (i := 4) C 0 dX3_collect_44 rfl ?_
  refine x_i2l (pc := 46) C dX3_collect_46 ?_
  refine x_ladd (pc := 47) C dX3_collect_47 ?_
  refine x_put (pc := 48) (B2 := (sbl B7 p 10 ((bl B7 p 10) + (Int32.toInt64 v3)))) (M2 := M) (O2 := O) (q := p) (i := 10) C tyX3 tyX3_ok nmX3 (e_L (by omega)) rfl ttX3 (by decide) wd_1_164 rfl rfl rfl (Nat.le_of_ble_eq_true rfl) dX3_collect_48 (put_L_10 (by omega)) (o_sbl p 10 ((bl B7 p 10) + (Int32.toInt64 v3))) ?_
  refine x_nmB (fun B8 eB8 => ?_)
  have hR := nmE hR eB8
  have hok := hok B8 eB8
  refine x_aload_n (pc := 51) (i := 0) C 1 dX3_collect_51 rfl rfl ?_
  refine x_get (pc := 52) (q := p) (i := 2) C (e_L (by omega)) rfl ttX3 (by decide) wd_1_149 rfl dX3_collect_52 ?_
  refine x_iload_n (pc := 55) (i := 1) C 2 dX3_collect_55 rfl rfl ?_
  refine x_iload (pc := 56) (i := 4) C 0 dX3_collect_56 rfl ?_
  refine x_iload_n (pc := 58) (i := 3) C 4 dX3_collect_58 rfl rfl ?_
  have h9 := hok
  refine x_cVV (pc := 59) (as := [.int x0, .int v3, .int x2]) (q := p + 12) C (c_X2_add C.2.2.2.2.2.2.2.1 (p + 12) (by omega) B8 M O x0 v3 x2 h9) (fs := _) (e_J (by omega)) rfl cv_X2_add cd_X2_add wd_3_75 ⟨Nat.le_of_ble_eq_true rfl, Nat.le_of_ble_eq_true rfl⟩ ⟨Nat.le_of_ble_eq_true rfl, Nat.le_of_ble_eq_true rfl⟩ rfl rfl (Nat.le_of_ble_eq_true rfl) dX3_collect_59 ?_
  refine x_nmB (fun B10 eB10 => ?_)
  have hR := nmE hR eB10
  exact x_vretB (pc := 62) C rfl hR dX3_collect_62
set_option maxHeartbeats 4000000 in
set_option maxRecDepth 100000 in
theorem c_X3_balanceAfterFault {l : Launch} {A : Nat → Prop} {G : GT} {ad : Nat → Nat} (gl : Gl l A G ad) (p : Nat) (hp : p < 176 ∧ p % 16 = 0) (B : StB) (M : StM) (O : StO) (x0 : Int32) (x1 : Int32) : Met l yX3_balanceAfterFault (wof yX3_balanceAfterFault cX3_balanceAfterFault 3 (some .int)) (rmd 3 0 0) (va_Pc [.ref (ad p), .int x0, .int x1] (PW G A ad B M O)) (QI G A ad (f_X3_balanceAfterFault p B x0 x1) B M O) 0 0 A := by
  refine x_body (own := RX3) (by decide +kernel) rfl gl (Nat.le_of_ble_eq_true rfl) (ls := [(0, .ref (ad p)), (1, .int x0), (2, .int x1)]) rfl ?_
  intro p0 e s m args below meth c C
  have hR : (f_X3_balanceAfterFault p B x0 x1) = (nm (f_X3_argumentFault p B x0 x1 0 60) (fun (r1 : Int32) => r1)) := rfl
  refine x_aload_n (pc := 0) (i := 0) C 0 dX3_balanceAfterFault_0 rfl rfl ?_
  refine x_iload_n (pc := 1) (i := 1) C 1 dX3_balanceAfterFault_1 rfl rfl ?_
  refine x_iload_n (pc := 2) (i := 2) C 2 dX3_balanceAfterFault_2 rfl rfl ?_
  refine x_iconst (pc := 3) (v := 0) C dX3_balanceAfterFault_3 (by decide) ?_
  refine x_bipush (pc := 4) (v := 60) C dX3_balanceAfterFault_4 (by decide) ?_
  refine x_cIV (pc := 6) (as := [.int x0, .int x1, .int 0, .int 60]) (q := p) C (c_X3_argumentFault C.2.2.2.2.2.2.2.1 p (by omega) B M O x0 x1 0 60) (fs := _) (e_L (by omega)) rfl cv_X3_argumentFault cd_X3_argumentFault wd_3_63 ⟨Nat.le_of_ble_eq_true rfl, Nat.le_of_ble_eq_true rfl⟩ ⟨Nat.le_of_ble_eq_true rfl, Nat.le_of_ble_eq_true rfl⟩ rfl rfl (Nat.le_of_ble_eq_true rfl) dX3_balanceAfterFault_6 ?_
  refine x_nmI (fun r1 er1 => ?_)
  have hR := nmE hR er1
  exact x_iret (pc := 9) C rfl hR dX3_balanceAfterFault_9
set_option maxHeartbeats 4000000 in
set_option maxRecDepth 100000 in
theorem c_X3_settle {l : Launch} {A : Nat → Prop} {G : GT} {ad : Nat → Nat} (gl : Gl l A G ad) (p : Nat) (hp : p < 176 ∧ p % 16 = 0) (B : StB) (M : StM) (O : StO) (x0 : Int32) (hok : ok_X3_settle p B x0) : Met l yX3_settle (wof yX3_settle cX3_settle 4 (some .boolean)) (rmd 4 0 0) (va_Pc [.ref (ad p), .int x0] (PW G A ad B M O)) (QI G A ad (f_X3_settle p B x0).1 (f_X3_settle p B x0).2 M O) 0 0 A := by
  refine x_body (own := RX3) (by decide +kernel) rfl gl (Nat.le_of_ble_eq_true rfl) (ls := [(0, .ref (ad p)), (1, .int x0)]) rfl ?_
  intro p0 e s m args below meth c C
  have hR : (f_X3_settle p B x0) = (nm (ba B (p + 8) (ix x0)) (fun (v2 : Int32) => (nm (f_X3_covers p B x0) (fun (r4 : Int32) => (if r4 = 0 then (nm (sbi B p 5 ((bi B p 5) + 1)) (fun (B20 : StB) => (nm (f_X3_collect p B20 102 3 v2) (fun (B22 : StB) => (0, B22))))) else (nm (ba B (p + 10) (ix x0)) (fun (v7 : Int32) => (nm (sba B (p + 3) (ix v2) ((ba B (p + 3) (ix v2)) - v7)) (fun (B10 : StB) => (nm (sba B10 (p + 3) (ix (ba B10 (p + 9) (ix x0))) ((ba B10 (p + 3) (ix (ba B10 (p + 9) (ix x0)))) + v7)) (fun (B14 : StB) => (nm (sba B14 (p + 5) (ix v2) (vp_nar .boolean 1)) (fun (B16 : StB) => (nm (sbl B16 p 8 ((bl B16 p 8) + (Int32.toInt64 v7))) (fun (B17 : StB) => (nm (f_X2_add (p + 12) B17 116 v7 v2) (fun (B19 : StB) => (1, B19)))))))))))))))))) := rfl
  have hok : (vp_in x0 10 ∧ (∀ v2 : Int32, v2 = (ba B (p + 8) (ix x0)) → ((ok_X3_covers p B x0) ∧ (∀ r4 : Int32, r4 = (f_X3_covers p B x0) → ((r4 = 0 → (∀ B20 : StB, B20 = (sbi B p 5 ((bi B p 5) + 1)) → ((ok_X3_collect p B20 102 3 v2)))) ∧ (¬ r4 = 0 → (vp_in x0 10 ∧ (∀ v7 : Int32, v7 = (ba B (p + 10) (ix x0)) → (vp_in v2 8 ∧ (vp_in v2 8 ∧ (∀ B10 : StB, B10 = (sba B (p + 3) (ix v2) ((ba B (p + 3) (ix v2)) - v7)) → (vp_in x0 10 ∧ (vp_in (ba B10 (p + 9) (ix x0)) 8 ∧ (vp_in (ba B10 (p + 9) (ix x0)) 8 ∧ (∀ B14 : StB, B14 = (sba B10 (p + 3) (ix (ba B10 (p + 9) (ix x0))) ((ba B10 (p + 3) (ix (ba B10 (p + 9) (ix x0)))) + v7)) → (vp_in v2 8 ∧ (∀ B16 : StB, B16 = (sba B14 (p + 5) (ix v2) (vp_nar .boolean 1)) → (∀ B17 : StB, B17 = (sbl B16 p 8 ((bl B16 p 8) + (Int32.toInt64 v7))) → ((ok_X2_add (p + 12) B17 116 v7 v2)))))))))))))))))))) := hok
  refine x_aload_n (pc := 0) (i := 0) C 0 dX3_settle_0 rfl rfl ?_
  refine x_get (pc := 1) (q := p) (i := 1) C (e_L (by omega)) rfl ttX3 (by decide) wd_1_147 rfl dX3_settle_1 ?_
  refine x_get (pc := 4) (q := p + 6) (i := 3) C (e_T (by omega)) rfl ttX5 (by decide) wd_1_92 rfl dX3_settle_4 ?_
  refine x_iload_n (pc := 7) (i := 1) C 1 dX3_settle_7 rfl rfl ?_
  have h1 := hok.1
  have hok := hok.2
  refine x_iald (pc := 8) (q := p + 8) C (e_Ts (by omega)) h1 dX3_settle_8 ?_
  refine x_nmI (fun v2 ev2 => ?_)
  have hR := nmE hR ev2
  have hok := hok v2 ev2
  refine x_istore_n (pc := 9) (i := 2) (ls2 := [(2, .int v2), (0, .ref (ad p)), (1, .int x0)]) C dX3_settle_9 rfl (by decide) rfl ?_
  refine x_aload_n (pc := 10) (i := 0) C 1 dX3_settle_10 rfl rfl ?_
  refine x_iload_n (pc := 11) (i := 1) C 2 dX3_settle_11 rfl rfl ?_
  have h3 := hok.1
  have hok := hok.2
  refine x_cIV (pc := 12) (as := [.int x0]) (q := p) C (c_X3_covers C.2.2.2.2.2.2.2.1 p (by omega) B M O x0 h3) (fs := _) (e_L (by omega)) rfl cv_X3_covers cd_X3_covers wd_3_158 ⟨Nat.le_of_ble_eq_true rfl, Nat.le_of_ble_eq_true rfl⟩ ⟨Nat.le_of_ble_eq_true rfl, Nat.le_of_ble_eq_true rfl⟩ rfl rfl (Nat.le_of_ble_eq_true rfl) dX3_settle_12 ?_
  refine x_nmI (fun r4 er4 => ?_)
  have hR := nmE hR er4
  have hok := hok r4 er4
  refine x_if_ne (pc := 15) (tgt := 38) C dX3_settle_15 (by decide) (fun c5 => ?_) (fun c5 => ?_)
  · have hR := hR.trans (if_neg c5)
    have hok := hok.2 c5
    refine x_aload_n (pc := 38) (i := 0) C 1 dX3_settle_38 rfl rfl ?_
    refine x_get (pc := 39) (q := p) (i := 1) C (e_L (by omega)) rfl ttX3 (by decide) wd_1_147 rfl dX3_settle_39 ?_
    refine x_get (pc := 42) (q := p + 6) (i := 5) C (e_T (by omega)) rfl ttX5 (by decide) wd_1_98 rfl dX3_settle_42 ?_
    refine x_iload_n (pc := 45) (i := 1) C 2 dX3_settle_45 rfl rfl ?_
    have h6 := hok.1
    have hok := hok.2
    refine x_iald (pc := 46) (q := p + 10) C (e_Ta (by omega)) h6 dX3_settle_46 ?_
    refine x_nmI (fun v7 ev7 => ?_)
    have hR := nmE hR ev7
    have hok := hok v7 ev7
    refine x_istore_n (pc := 47) (i := 3) (ls2 := [(3, .int v7), (2, .int v2), (0, .ref (ad p)), (1, .int x0)]) C dX3_settle_47 rfl (by decide) rfl ?_
    refine x_aload_n (pc := 48) (i := 0) C 2 dX3_settle_48 rfl rfl ?_
    refine x_get (pc := 49) (q := p) (i := 0) C (e_L (by omega)) rfl ttX3 (by decide) wd_1_145 rfl dX3_settle_49 ?_
    refine x_get (pc := 52) (q := p + 1) (i := 2) C (e_A (by omega)) rfl ttX0 (by decide) wd_1_59 rfl dX3_settle_52 ?_
    refine x_iload_n (pc := 55) (i := 2) C 1 dX3_settle_55 rfl rfl ?_
    refine x_dup2 (pc := 56) C dX3_settle_56 rfl rfl ?_
    have h8 := hok.1
    have hok := hok.2
    refine x_iald (pc := 57) (q := p + 3) C (e_Ab (by omega)) h8 dX3_settle_57 ?_
    refine x_iload_n (pc := 58) (i := 3) C 0 dX3_settle_58 rfl rfl ?_
    refine x_isub (pc := 59) C dX3_settle_59 ?_
    have h9 := hok.1
    have hok := hok.2
    refine x_iastB (pc := 60) (q := p + 3) C (e_Ab (by omega)) (e_Ab (by omega)).2 h9 dX3_settle_60 ?_
    refine x_nmB (fun B10 eB10 => ?_)
    have hR := nmE hR eB10
    have hok := hok B10 eB10
    refine x_aload_n (pc := 61) (i := 0) C 2 dX3_settle_61 rfl rfl ?_
    refine x_get (pc := 62) (q := p) (i := 0) C (e_L (by omega)) rfl ttX3 (by decide) wd_1_145 rfl dX3_settle_62 ?_
    refine x_get (pc := 65) (q := p + 1) (i := 2) C (e_A (by omega)) rfl ttX0 (by decide) wd_1_59 rfl dX3_settle_65 ?_
    refine x_aload_n (pc := 68) (i := 0) C 2 dX3_settle_68 rfl rfl ?_
    refine x_get (pc := 69) (q := p) (i := 1) C (e_L (by omega)) rfl ttX3 (by decide) wd_1_147 rfl dX3_settle_69 ?_
    refine x_get (pc := 72) (q := p + 6) (i := 4) C (e_T (by omega)) rfl ttX5 (by decide) wd_1_95 rfl dX3_settle_72 ?_
    refine x_iload_n (pc := 75) (i := 1) C 3 dX3_settle_75 rfl rfl ?_
    have h11 := hok.1
    have hok := hok.2
    refine x_iald (pc := 76) (q := p + 9) C (e_Tr (by omega)) h11 dX3_settle_76 ?_
    refine x_dup2 (pc := 77) C dX3_settle_77 rfl rfl ?_
    have h12 := hok.1
    have hok := hok.2
    refine x_iald (pc := 78) (q := p + 3) C (e_Ab (by omega)) h12 dX3_settle_78 ?_
    refine x_iload_n (pc := 79) (i := 3) C 0 dX3_settle_79 rfl rfl ?_
    refine x_iadd (pc := 80) C dX3_settle_80 ?_
    have h13 := hok.1
    have hok := hok.2
    refine x_iastB (pc := 81) (q := p + 3) C (e_Ab (by omega)) (e_Ab (by omega)).2 h13 dX3_settle_81 ?_
    refine x_nmB (fun B14 eB14 => ?_)
    have hR := nmE hR eB14
    have hok := hok B14 eB14
    refine x_aload_n (pc := 82) (i := 0) C 2 dX3_settle_82 rfl rfl ?_
    refine x_get (pc := 83) (q := p) (i := 0) C (e_L (by omega)) rfl ttX3 (by decide) wd_1_145 rfl dX3_settle_83 ?_
    refine x_get (pc := 86) (q := p + 1) (i := 4) C (e_A (by omega)) rfl ttX0 (by decide) wd_1_64 rfl dX3_settle_86 ?_
    refine x_iload_n (pc := 89) (i := 2) C 1 dX3_settle_89 rfl rfl ?_
    refine x_iconst (pc := 90) (v := 1) C dX3_settle_90 (by decide) ?_
    have h15 := hok.1
    have hok := hok.2
    refine x_zastB (pc := 91) (q := p + 5) C (e_At (by omega)) (e_At (by omega)).2 h15 dX3_settle_91 ?_
    refine x_nmB (fun B16 eB16 => ?_)
    have hR := nmE hR eB16
    have hok := hok B16 eB16
    refine x_aload_n (pc := 92) (i := 0) C 2 dX3_settle_92 rfl rfl ?_
    refine x_dup (pc := 93) C dX3_settle_93 rfl ?_
    refine x_get (pc := 94) (q := p) (i := 8) C (e_L (by omega)) rfl ttX3 (by decide) wd_1_161 rfl dX3_settle_94 ?_
    refine x_iload_n (pc := 97) (i := 3) C 0 dX3_settle_97 rfl rfl ?_
    refine x_i2l (pc := 98) C dX3_settle_98 ?_
    refine x_ladd (pc := 99) C dX3_settle_99 ?_
    refine x_put (pc := 100) (B2 := (sbl B16 p 8 ((bl B16 p 8) + (Int32.toInt64 v7)))) (M2 := M) (O2 := O) (q := p) (i := 8) C tyX3 tyX3_ok nmX3 (e_L (by omega)) rfl ttX3 (by decide) wd_1_161 rfl rfl rfl (Nat.le_of_ble_eq_true rfl) dX3_settle_100 (put_L_8 (by omega)) (o_sbl p 8 ((bl B16 p 8) + (Int32.toInt64 v7))) ?_
    refine x_nmB (fun B17 eB17 => ?_)
    have hR := nmE hR eB17
    have hok := hok B17 eB17
    refine x_aload_n (pc := 103) (i := 0) C 2 dX3_settle_103 rfl rfl ?_
    refine x_get (pc := 104) (q := p) (i := 2) C (e_L (by omega)) rfl ttX3 (by decide) wd_1_149 rfl dX3_settle_104 ?_
    refine x_bipush (pc := 107) (v := 116) C dX3_settle_107 (by decide) ?_
    refine x_iload_n (pc := 109) (i := 3) C 0 dX3_settle_109 rfl rfl ?_
    refine x_iload_n (pc := 110) (i := 2) C 1 dX3_settle_110 rfl rfl ?_
    have h18 := hok
    refine x_cVV (pc := 111) (as := [.int 116, .int v7, .int v2]) (q := p + 12) C (c_X2_add C.2.2.2.2.2.2.2.1 (p + 12) (by omega) B17 M O 116 v7 v2 h18) (fs := _) (e_J (by omega)) rfl cv_X2_add cd_X2_add wd_3_75 ⟨Nat.le_of_ble_eq_true rfl, Nat.le_of_ble_eq_true rfl⟩ ⟨Nat.le_of_ble_eq_true rfl, Nat.le_of_ble_eq_true rfl⟩ rfl rfl (Nat.le_of_ble_eq_true rfl) dX3_settle_111 ?_
    refine x_nmB (fun B19 eB19 => ?_)
    have hR := nmE hR eB19
    refine x_iconst (pc := 114) (v := 1) C dX3_settle_114 (by decide) ?_
    exact x_zretB (pc := 115) C rfl (by decide) hR dX3_settle_115
  · have hR := hR.trans (if_pos c5)
    have hok := hok.1 c5
    refine x_aload_n (pc := 18) (i := 0) C 1 dX3_settle_18 rfl rfl ?_
    refine x_dup (pc := 19) C dX3_settle_19 rfl ?_
    refine x_get (pc := 20) (q := p) (i := 5) C (e_L (by omega)) rfl ttX3 (by decide) wd_1_155 rfl dX3_settle_20 ?_
    refine x_iconst (pc := 23) (v := 1) C dX3_settle_23 (by decide) ?_
    refine x_iadd (pc := 24) C dX3_settle_24 ?_
    refine x_put (pc := 25) (B2 := (sbi B p 5 ((bi B p 5) + 1))) (M2 := M) (O2 := O) (q := p) (i := 5) C tyX3 tyX3_ok nmX3 (e_L (by omega)) rfl ttX3 (by decide) wd_1_155 rfl rfl rfl (Nat.le_of_ble_eq_true rfl) dX3_settle_25 (put_L_5 (by omega)) (o_sbi p 5 ((bi B p 5) + 1)) ?_
    refine x_nmB (fun B20 eB20 => ?_)
    have hR := nmE hR eB20
    have hok := hok B20 eB20
    refine x_aload_n (pc := 28) (i := 0) C 1 dX3_settle_28 rfl rfl ?_
    refine x_bipush (pc := 29) (v := 102) C dX3_settle_29 (by decide) ?_
    refine x_iconst (pc := 31) (v := 3) C dX3_settle_31 (by decide) ?_
    refine x_iload_n (pc := 32) (i := 2) C 0 dX3_settle_32 rfl rfl ?_
    have h21 := hok
    refine x_cVV (pc := 33) (as := [.int 102, .int 3, .int v2]) (q := p) C (c_X3_collect C.2.2.2.2.2.2.2.1 p (by omega) B20 M O 102 3 v2 h21) (fs := _) (e_L (by omega)) rfl cv_X3_collect cd_X3_collect wd_3_162 ⟨Nat.le_of_ble_eq_true rfl, Nat.le_of_ble_eq_true rfl⟩ ⟨Nat.le_of_ble_eq_true rfl, Nat.le_of_ble_eq_true rfl⟩ rfl rfl (Nat.le_of_ble_eq_true rfl) dX3_settle_33 ?_
    refine x_nmB (fun B22 eB22 => ?_)
    have hR := nmE hR eB22
    refine x_iconst (pc := 36) (v := 0) C dX3_settle_36 (by decide) ?_
    exact x_zretB (pc := 37) C rfl (by decide) hR dX3_settle_37
set_option maxHeartbeats 4000000 in
set_option maxRecDepth 100000 in
theorem t_X3_payInterest_L2 {p0 : Program} {l : Launch} {e : Env} {s : State} {m : MethodId} {args : Array Value} {below : List Frame} {meth : Method} {c : Code} {A : Nat → Prop} {G : GT} {ad : Nat → Nat} {Q : State → Prop} (C : CX p0 l s m args meth c A G ad cX3_payInterest RX3 3 none) {p : Nat} (hp : p < 176 ∧ p % 16 = 0)   (n : Nat) (B : StB) (a1 : Int32) (M : StM) (O : StO) : ∀ (R0 : StB) (hR : R0 = f_X3_payInterest_L2 n p B a1) (hok : ok_X3_payInterest_L2 n p B a1) (k : X p0 l e (rmd 4 0 0) s m args below meth c A G ad 3 0 0 Q R0 M O [] 89 []), X p0 l e (rmd 4 0 0) s m args below meth c A G ad 3 0 0 Q B M O [(0, .ref (ad p)), (1, .int a1)] 2 [] := by
  induction n generalizing B a1 with
  | zero => intro R0 hR hok k; exact False.elim hok
  | succ n ih =>
    intro R0 hR hok k
    have hR : R0 = (if (bi B (p + 1) 0) ≤ a1 then B else (nm (f_X0_interest (p + 1) B a1) (fun (r3 : Int32) => (if 0 ≤ r3 then (nm (sba B (p + 3) (ix a1) ((ba B (p + 3) (ix a1)) + r3)) (fun (B7 : StB) => (nm (sbi B7 p 4 ((bi B7 p 4) - r3)) (fun (B8 : StB) => (nm (sbl B8 p 9 ((bl B8 p 9) + (Int32.toInt64 r3))) (fun (B9 : StB) => (nm (f_X2_add (p + 12) B9 105 r3 a1) (fun (B11 : StB) => (f_X3_payInterest_L2 n p B11 (a1 + 1)))))))))) else (nm (f_X3_collect p B 99 (-r3) a1) (fun (B13 : StB) => (f_X3_payInterest_L2 n p B13 (a1 + 1)))))))) := hR
    have hok : (((bi B (p + 1) 0) ≤ a1 → True) ∧ (¬ (bi B (p + 1) 0) ≤ a1 → ((ok_X0_interest (p + 1) B a1) ∧ (∀ r3 : Int32, r3 = (f_X0_interest (p + 1) B a1) → ((0 ≤ r3 → (vp_in a1 8 ∧ (vp_in a1 8 ∧ (∀ B7 : StB, B7 = (sba B (p + 3) (ix a1) ((ba B (p + 3) (ix a1)) + r3)) → (∀ B8 : StB, B8 = (sbi B7 p 4 ((bi B7 p 4) - r3)) → (∀ B9 : StB, B9 = (sbl B8 p 9 ((bl B8 p 9) + (Int32.toInt64 r3))) → ((ok_X2_add (p + 12) B9 105 r3 a1) ∧ (∀ B11 : StB, B11 = (f_X2_add (p + 12) B9 105 r3 a1) → (ok_X3_payInterest_L2 n p B11 (a1 + 1)))))))))) ∧ (¬ 0 ≤ r3 → ((ok_X3_collect p B 99 (-r3) a1) ∧ (∀ B13 : StB, B13 = (f_X3_collect p B 99 (-r3) a1) → (ok_X3_payInterest_L2 n p B13 (a1 + 1)))))))))) := hok
    refine x_iload_n (pc := 2) (i := 1) C 1 dX3_payInterest_2 rfl rfl ?_
    refine x_aload_n (pc := 3) (i := 0) C 0 dX3_payInterest_3 rfl rfl ?_
    refine x_get (pc := 4) (q := p) (i := 0) C (e_L (by omega)) rfl ttX3 (by decide) wd_1_145 rfl dX3_payInterest_4 ?_
    refine x_get (pc := 7) (q := p + 1) (i := 0) C (e_A (by omega)) rfl ttX0 (by decide) wd_1_53 rfl dX3_payInterest_7 ?_
    refine x_icmp_ge (pc := 10) (tgt := 89) C dX3_payInterest_10 (by decide) (fun c1 => ?_) (fun c1 => ?_)
    · have hR := hR.trans (if_pos c1)
      refine x_sub [] (ls2 := []) rfl ?_
      subst hR
      exact k
    · have hR := hR.trans (if_neg c1)
      have hok := hok.2 c1
      refine x_aload_n (pc := 13) (i := 0) C 0 dX3_payInterest_13 rfl rfl ?_
      refine x_get (pc := 14) (q := p) (i := 0) C (e_L (by omega)) rfl ttX3 (by decide) wd_1_145 rfl dX3_payInterest_14 ?_
      refine x_iload_n (pc := 17) (i := 1) C 1 dX3_payInterest_17 rfl rfl ?_
      have h2 := hok.1
      have hok := hok.2
      refine x_cIV (pc := 18) (as := [.int a1]) (q := p + 1) C (c_X0_interest C.2.2.2.2.2.2.2.1 (p + 1) (by omega) B M O a1 h2) (fs := _) (e_A (by omega)) rfl cv_X0_interest cd_X0_interest wd_3_171 ⟨Nat.le_of_ble_eq_true rfl, Nat.le_of_ble_eq_true rfl⟩ ⟨Nat.le_of_ble_eq_true rfl, Nat.le_of_ble_eq_true rfl⟩ rfl rfl (Nat.le_of_ble_eq_true rfl) dX3_payInterest_18 ?_
      refine x_nmI (fun r3 er3 => ?_)
      have hR := nmE hR er3
      have hok := hok r3 er3
      refine x_istore_n (pc := 21) (i := 2) (ls2 := [(2, .int r3), (0, .ref (ad p)), (1, .int a1)]) C dX3_payInterest_21 rfl (by decide) rfl ?_
      refine x_iload_n (pc := 22) (i := 2) C 0 dX3_payInterest_22 rfl rfl ?_
      refine x_if_ge (pc := 23) (tgt := 38) C dX3_payInterest_23 (by decide) (fun c4 => ?_) (fun c4 => ?_)
      · have hR := hR.trans (if_pos c4)
        have hok := hok.1 c4
        refine x_aload_n (pc := 38) (i := 0) C 1 dX3_payInterest_38 rfl rfl ?_
        refine x_get (pc := 39) (q := p) (i := 0) C (e_L (by omega)) rfl ttX3 (by decide) wd_1_145 rfl dX3_payInterest_39 ?_
        refine x_get (pc := 42) (q := p + 1) (i := 2) C (e_A (by omega)) rfl ttX0 (by decide) wd_1_59 rfl dX3_payInterest_42 ?_
        refine x_iload_n (pc := 45) (i := 1) C 2 dX3_payInterest_45 rfl rfl ?_
        refine x_dup2 (pc := 46) C dX3_payInterest_46 rfl rfl ?_
        have h5 := hok.1
        have hok := hok.2
        refine x_iald (pc := 47) (q := p + 3) C (e_Ab (by omega)) h5 dX3_payInterest_47 ?_
        refine x_iload_n (pc := 48) (i := 2) C 0 dX3_payInterest_48 rfl rfl ?_
        refine x_iadd (pc := 49) C dX3_payInterest_49 ?_
        have h6 := hok.1
        have hok := hok.2
        refine x_iastB (pc := 50) (q := p + 3) C (e_Ab (by omega)) (e_Ab (by omega)).2 h6 dX3_payInterest_50 ?_
        refine x_nmB (fun B7 eB7 => ?_)
        have hR := nmE hR eB7
        have hok := hok B7 eB7
        refine x_aload_n (pc := 51) (i := 0) C 1 dX3_payInterest_51 rfl rfl ?_
        refine x_dup (pc := 52) C dX3_payInterest_52 rfl ?_
        refine x_get (pc := 53) (q := p) (i := 4) C (e_L (by omega)) rfl ttX3 (by decide) wd_1_153 rfl dX3_payInterest_53 ?_
        refine x_iload_n (pc := 56) (i := 2) C 0 dX3_payInterest_56 rfl rfl ?_
        refine x_isub (pc := 57) C dX3_payInterest_57 ?_
        refine x_put (pc := 58) (B2 := (sbi B7 p 4 ((bi B7 p 4) - r3))) (M2 := M) (O2 := O) (q := p) (i := 4) C tyX3 tyX3_ok nmX3 (e_L (by omega)) rfl ttX3 (by decide) wd_1_153 rfl rfl rfl (Nat.le_of_ble_eq_true rfl) dX3_payInterest_58 (put_L_4 (by omega)) (o_sbi p 4 ((bi B7 p 4) - r3)) ?_
        refine x_nmB (fun B8 eB8 => ?_)
        have hR := nmE hR eB8
        have hok := hok B8 eB8
        refine x_aload_n (pc := 61) (i := 0) C 1 dX3_payInterest_61 rfl rfl ?_
        refine x_dup (pc := 62) C dX3_payInterest_62 rfl ?_
        refine x_get (pc := 63) (q := p) (i := 9) C (e_L (by omega)) rfl ttX3 (by decide) wd_1_162 rfl dX3_payInterest_63 ?_
        refine x_iload_n (pc := 66) (i := 2) C 0 dX3_payInterest_66 rfl rfl ?_
        refine x_i2l (pc := 67) C dX3_payInterest_67 ?_
        refine x_ladd (pc := 68) C dX3_payInterest_68 ?_
        refine x_put (pc := 69) (B2 := (sbl B8 p 9 ((bl B8 p 9) + (Int32.toInt64 r3)))) (M2 := M) (O2 := O) (q := p) (i := 9) C tyX3 tyX3_ok nmX3 (e_L (by omega)) rfl ttX3 (by decide) wd_1_162 rfl rfl rfl (Nat.le_of_ble_eq_true rfl) dX3_payInterest_69 (put_L_9 (by omega)) (o_sbl p 9 ((bl B8 p 9) + (Int32.toInt64 r3))) ?_
        refine x_nmB (fun B9 eB9 => ?_)
        have hR := nmE hR eB9
        have hok := hok B9 eB9
        refine x_aload_n (pc := 72) (i := 0) C 1 dX3_payInterest_72 rfl rfl ?_
        refine x_get (pc := 73) (q := p) (i := 2) C (e_L (by omega)) rfl ttX3 (by decide) wd_1_149 rfl dX3_payInterest_73 ?_
        refine x_bipush (pc := 76) (v := 105) C dX3_payInterest_76 (by decide) ?_
        refine x_iload_n (pc := 78) (i := 2) C 0 dX3_payInterest_78 rfl rfl ?_
        refine x_iload_n (pc := 79) (i := 1) C 2 dX3_payInterest_79 rfl rfl ?_
        have h10 := hok.1
        have hok := hok.2
        refine x_cVV (pc := 80) (as := [.int 105, .int r3, .int a1]) (q := p + 12) C (c_X2_add C.2.2.2.2.2.2.2.1 (p + 12) (by omega) B9 M O 105 r3 a1 h10) (fs := _) (e_J (by omega)) rfl cv_X2_add cd_X2_add wd_3_75 ⟨Nat.le_of_ble_eq_true rfl, Nat.le_of_ble_eq_true rfl⟩ ⟨Nat.le_of_ble_eq_true rfl, Nat.le_of_ble_eq_true rfl⟩ rfl rfl (Nat.le_of_ble_eq_true rfl) dX3_payInterest_80 ?_
        refine x_nmB (fun B11 eB11 => ?_)
        have hR := nmE hR eB11
        have hok := hok B11 eB11
        refine x_iinc (pc := 83) (i := 1) (v := (a1 + 1)) (ls2 := [(1, .int (a1 + 1)), (2, .int r3), (0, .ref (ad p))]) C 2 dX3_payInterest_83 rfl rfl (by decide) rfl ?_
        refine x_goto (pc := 86) (tgt := 2) C dX3_payInterest_86 (by decide) ?_
        refine x_sub [2, 0] (ls2 := [(0, .ref (ad p)), (1, .int (a1 + 1))]) rfl ?_
        exact ih B11 (a1 + 1) R0 hR hok k
      · have hR := hR.trans (if_neg c4)
        have hok := hok.2 c4
        refine x_aload_n (pc := 26) (i := 0) C 1 dX3_payInterest_26 rfl rfl ?_
        refine x_bipush (pc := 27) (v := 99) C dX3_payInterest_27 (by decide) ?_
        refine x_iload_n (pc := 29) (i := 2) C 0 dX3_payInterest_29 rfl rfl ?_
        refine x_ineg (pc := 30) C dX3_payInterest_30 ?_
        refine x_iload_n (pc := 31) (i := 1) C 2 dX3_payInterest_31 rfl rfl ?_
        have h12 := hok.1
        have hok := hok.2
        refine x_cVV (pc := 32) (as := [.int 99, .int (-r3), .int a1]) (q := p) C (c_X3_collect C.2.2.2.2.2.2.2.1 p (by omega) B M O 99 (-r3) a1 h12) (fs := _) (e_L (by omega)) rfl cv_X3_collect cd_X3_collect wd_3_162 ⟨Nat.le_of_ble_eq_true rfl, Nat.le_of_ble_eq_true rfl⟩ ⟨Nat.le_of_ble_eq_true rfl, Nat.le_of_ble_eq_true rfl⟩ rfl rfl (Nat.le_of_ble_eq_true rfl) dX3_payInterest_32 ?_
        refine x_nmB (fun B13 eB13 => ?_)
        have hR := nmE hR eB13
        have hok := hok B13 eB13
        refine x_goto (pc := 35) (tgt := 83) C dX3_payInterest_35 (by decide) ?_
        refine x_iinc (pc := 83) (i := 1) (v := (a1 + 1)) (ls2 := [(1, .int (a1 + 1)), (2, .int r3), (0, .ref (ad p))]) C 2 dX3_payInterest_83 rfl rfl (by decide) rfl ?_
        refine x_goto (pc := 86) (tgt := 2) C dX3_payInterest_86 (by decide) ?_
        refine x_sub [2, 0] (ls2 := [(0, .ref (ad p)), (1, .int (a1 + 1))]) rfl ?_
        exact ih B13 (a1 + 1) R0 hR hok k
set_option maxHeartbeats 4000000 in
set_option maxRecDepth 100000 in
theorem c_X3_payInterest {l : Launch} {A : Nat → Prop} {G : GT} {ad : Nat → Nat} (gl : Gl l A G ad) (p : Nat) (hp : p < 176 ∧ p % 16 = 0) (B : StB) (M : StM) (O : StO)  (hok : ok_X3_payInterest p B) : Met l yX3_payInterest (wof yX3_payInterest cX3_payInterest 3 none) (rmd 4 0 0) (va_Pc [.ref (ad p)] (PW G A ad B M O)) (QV G A ad (f_X3_payInterest p B) M O) 0 0 A := by
  refine x_body (own := RX3) (by decide +kernel) rfl gl (Nat.le_of_ble_eq_true rfl) (ls := [(0, .ref (ad p))]) rfl ?_
  intro p0 e s m args below meth c C
  have hR : (f_X3_payInterest p B) = (nm (f_X3_payInterest_L2 fu p B 0) (fun (z14 : StB) => z14)) := rfl
  have hok : (ok_X3_payInterest_L2 fu p B 0) := hok
  refine x_iconst (pc := 0) (v := 0) C dX3_payInterest_0 (by decide) ?_
  refine x_istore_n (pc := 1) (i := 1) (ls2 := [(1, .int 0), (0, .ref (ad p))]) C dX3_payInterest_1 rfl (by decide) rfl ?_
  refine x_sub [1, 0] (ls2 := [(0, .ref (ad p)), (1, .int 0)]) rfl ?_
  obtain ⟨z14, ez14⟩ : ∃ z : StB, z = f_X3_payInterest_L2 fu p B 0 := ⟨_, rfl⟩
  refine t_X3_payInterest_L2 C hp fu B 0 M O z14 ez14 hok ?_
  have hR := nmE hR ez14
  exact x_vretB (pc := 89) C rfl hR dX3_payInterest_89
set_option maxHeartbeats 4000000 in
set_option maxRecDepth 100000 in
theorem t_X3_settleDue_L6 {p0 : Program} {l : Launch} {e : Env} {s : State} {m : MethodId} {args : Array Value} {below : List Frame} {meth : Method} {c : Code} {A : Nat → Prop} {G : GT} {ad : Nat → Nat} {Q : State → Prop} (C : CX p0 l s m args meth c A G ad cX3_settleDue RX3 4 (some .int)) {p : Nat} (hp : p < 176 ∧ p % 16 = 0)   (n : Nat) (B : StB) (a1 : Int32) (a2 : Int32) (a3 : Int32) (M : StM) (O : StO) : ∀ (R0 : Int32 × Int32 × StB) (hR : R0 = f_X3_settleDue_L6 n p B a1 a2 a3) (hok : ok_X3_settleDue_L6 n p B a1 a2 a3) (k : X p0 l e (rmd 5 0 0) s m args below meth c A G ad 4 0 0 Q R0.2.2 M O [(0, .ref (ad p)), (1, .int R0.1), (2, .int R0.2.1)] 69 []), X p0 l e (rmd 5 0 0) s m args below meth c A G ad 4 0 0 Q B M O [(0, .ref (ad p)), (1, .int a1), (2, .int a2), (3, .int a3)] 6 [] := by
  induction n generalizing B a1 a2 a3 with
  | zero => intro R0 hR hok k; exact False.elim hok
  | succ n ih =>
    intro R0 hR hok k
    have hR : R0 = (if (bi B (p + 6) 0) ≤ a3 then (a1, a2, B) else (if (ba B (p + 11) (ix a3)) = (bi B p 3) then (nm (f_X3_settle p B a3) (fun (z5 : Int32 × StB) => (if z5.1 = 0 then (f_X3_settleDue_L6 n p z5.2 a1 a2 (a3 + 1)) else (f_X3_settleDue_L6 n p z5.2 (a1 + 1) a2 (a3 + 1))))) else (nm (f_X5_copySlot (p + 6) (p + 6) B a3 a2) (fun (B8 : StB) => (f_X3_settleDue_L6 n p B8 a1 (a2 + 1) (a3 + 1)))))) := hR
    have hok : (((bi B (p + 6) 0) ≤ a3 → True) ∧ (¬ (bi B (p + 6) 0) ≤ a3 → (vp_in a3 10 ∧ (((ba B (p + 11) (ix a3)) = (bi B p 3) → ((ok_X3_settle p B a3) ∧ (∀ z5 : Int32 × StB, z5 = (f_X3_settle p B a3) → ((z5.1 = 0 → (ok_X3_settleDue_L6 n p z5.2 a1 a2 (a3 + 1))) ∧ (¬ z5.1 = 0 → (ok_X3_settleDue_L6 n p z5.2 (a1 + 1) a2 (a3 + 1))))))) ∧ (¬ (ba B (p + 11) (ix a3)) = (bi B p 3) → ((ok_X5_copySlot (p + 6) (p + 6) B a3 a2) ∧ (∀ B8 : StB, B8 = (f_X5_copySlot (p + 6) (p + 6) B a3 a2) → (ok_X3_settleDue_L6 n p B8 a1 (a2 + 1) (a3 + 1))))))))) := hok
    refine x_iload_n (pc := 6) (i := 3) C 3 dX3_settleDue_6 rfl rfl ?_
    refine x_aload_n (pc := 7) (i := 0) C 0 dX3_settleDue_7 rfl rfl ?_
    refine x_get (pc := 8) (q := p) (i := 1) C (e_L (by omega)) rfl ttX3 (by decide) wd_1_147 rfl dX3_settleDue_8 ?_
    refine x_get (pc := 11) (q := p + 6) (i := 0) C (e_T (by omega)) rfl ttX5 (by decide) wd_1_86 rfl dX3_settleDue_11 ?_
    refine x_icmp_ge (pc := 14) (tgt := 69) C dX3_settleDue_14 (by decide) (fun c1 => ?_) (fun c1 => ?_)
    · have hR := hR.trans (if_pos c1)
      refine x_sub [0, 1, 2] (ls2 := [(0, .ref (ad p)), (1, .int a1), (2, .int a2)]) rfl ?_
      subst hR
      exact k
    · have hR := hR.trans (if_neg c1)
      have hok := hok.2 c1
      refine x_aload_n (pc := 17) (i := 0) C 0 dX3_settleDue_17 rfl rfl ?_
      refine x_get (pc := 18) (q := p) (i := 1) C (e_L (by omega)) rfl ttX3 (by decide) wd_1_147 rfl dX3_settleDue_18 ?_
      refine x_get (pc := 21) (q := p + 6) (i := 6) C (e_T (by omega)) rfl ttX5 (by decide) wd_1_101 rfl dX3_settleDue_21 ?_
      refine x_iload_n (pc := 24) (i := 3) C 3 dX3_settleDue_24 rfl rfl ?_
      have h2 := hok.1
      have hok := hok.2
      refine x_iald (pc := 25) (q := p + 11) C (e_Td (by omega)) h2 dX3_settleDue_25 ?_
      refine x_aload_n (pc := 26) (i := 0) C 0 dX3_settleDue_26 rfl rfl ?_
      refine x_get (pc := 27) (q := p) (i := 3) C (e_L (by omega)) rfl ttX3 (by decide) wd_1_151 rfl dX3_settleDue_27 ?_
      refine x_icmp_eq (pc := 30) (tgt := 52) C dX3_settleDue_30 (by decide) (fun c3 => ?_) (fun c3 => ?_)
      · have hR := hR.trans (if_pos c3)
        have hok := hok.1 c3
        refine x_aload_n (pc := 52) (i := 0) C 0 dX3_settleDue_52 rfl rfl ?_
        refine x_iload_n (pc := 53) (i := 3) C 3 dX3_settleDue_53 rfl rfl ?_
        have h4 := hok.1
        have hok := hok.2
        refine x_cIV (pc := 54) (as := [.int a3]) (q := p) C (c_X3_settle C.2.2.2.2.2.2.2.1 p (by omega) B M O a3 h4) (fs := _) (e_L (by omega)) rfl cv_X3_settle cd_X3_settle wd_3_154 ⟨Nat.le_of_ble_eq_true rfl, Nat.le_of_ble_eq_true rfl⟩ ⟨Nat.le_of_ble_eq_true rfl, Nat.le_of_ble_eq_true rfl⟩ rfl rfl (Nat.le_of_ble_eq_true rfl) dX3_settleDue_54 ?_
        refine x_nmIB (fun z5 ez5 => ?_)
        have hR := nmE hR ez5
        have hok := hok z5 ez5
        refine x_if_eq (pc := 57) (tgt := 63) C dX3_settleDue_57 (by decide) (fun c6 => ?_) (fun c6 => ?_)
        · have hR := hR.trans (if_pos c6)
          have hok := hok.1 c6
          refine x_iinc (pc := 63) (i := 3) (v := (a3 + 1)) (ls2 := [(3, .int (a3 + 1)), (0, .ref (ad p)), (1, .int a1), (2, .int a2)]) C 3 dX3_settleDue_63 rfl rfl (by decide) rfl ?_
          refine x_goto (pc := 66) (tgt := 6) C dX3_settleDue_66 (by decide) ?_
          refine x_sub [1, 2, 3, 0] (ls2 := [(0, .ref (ad p)), (1, .int a1), (2, .int a2), (3, .int (a3 + 1))]) rfl ?_
          exact ih z5.2 a1 a2 (a3 + 1) R0 hR hok k
        · have hR := hR.trans (if_neg c6)
          have hok := hok.2 c6
          refine x_iinc (pc := 60) (i := 1) (v := (a1 + 1)) (ls2 := [(1, .int (a1 + 1)), (0, .ref (ad p)), (2, .int a2), (3, .int a3)]) C 1 dX3_settleDue_60 rfl rfl (by decide) rfl ?_
          refine x_iinc (pc := 63) (i := 3) (v := (a3 + 1)) (ls2 := [(3, .int (a3 + 1)), (1, .int (a1 + 1)), (0, .ref (ad p)), (2, .int a2)]) C 3 dX3_settleDue_63 rfl rfl (by decide) rfl ?_
          refine x_goto (pc := 66) (tgt := 6) C dX3_settleDue_66 (by decide) ?_
          refine x_sub [2, 1, 3, 0] (ls2 := [(0, .ref (ad p)), (1, .int (a1 + 1)), (2, .int a2), (3, .int (a3 + 1))]) rfl ?_
          exact ih z5.2 (a1 + 1) a2 (a3 + 1) R0 hR hok k
      · have hR := hR.trans (if_neg c3)
        have hok := hok.2 c3
        refine x_aload_n (pc := 33) (i := 0) C 0 dX3_settleDue_33 rfl rfl ?_
        refine x_get (pc := 34) (q := p) (i := 1) C (e_L (by omega)) rfl ttX3 (by decide) wd_1_147 rfl dX3_settleDue_34 ?_
        refine x_aload_n (pc := 37) (i := 0) C 0 dX3_settleDue_37 rfl rfl ?_
        refine x_get (pc := 38) (q := p) (i := 1) C (e_L (by omega)) rfl ttX3 (by decide) wd_1_147 rfl dX3_settleDue_38 ?_
        refine x_iload_n (pc := 41) (i := 3) C 3 dX3_settleDue_41 rfl rfl ?_
        refine x_iload_n (pc := 42) (i := 2) C 2 dX3_settleDue_42 rfl rfl ?_
        have h7 := hok.1
        have hok := hok.2
        refine x_cVV (pc := 43) (as := [.ref (ad (p + 6)), .int a3, .int a2]) (q := p + 6) C (c_X5_copySlot C.2.2.2.2.2.2.2.1 (p + 6) (by omega) (p + 6) (by omega) B M O a3 a2 h7) (fs := _) (e_T (by omega)) rfl cv_X5_copySlot cd_X5_copySlot wd_3_153 ⟨Nat.le_of_ble_eq_true rfl, Nat.le_of_ble_eq_true rfl⟩ ⟨Nat.le_of_ble_eq_true rfl, Nat.le_of_ble_eq_true rfl⟩ rfl rfl (Nat.le_of_ble_eq_true rfl) dX3_settleDue_43 ?_
        refine x_nmB (fun B8 eB8 => ?_)
        have hR := nmE hR eB8
        have hok := hok B8 eB8
        refine x_iinc (pc := 46) (i := 2) (v := (a2 + 1)) (ls2 := [(2, .int (a2 + 1)), (0, .ref (ad p)), (1, .int a1), (3, .int a3)]) C 2 dX3_settleDue_46 rfl rfl (by decide) rfl ?_
        refine x_goto (pc := 49) (tgt := 63) C dX3_settleDue_49 (by decide) ?_
        refine x_iinc (pc := 63) (i := 3) (v := (a3 + 1)) (ls2 := [(3, .int (a3 + 1)), (2, .int (a2 + 1)), (0, .ref (ad p)), (1, .int a1)]) C 3 dX3_settleDue_63 rfl rfl (by decide) rfl ?_
        refine x_goto (pc := 66) (tgt := 6) C dX3_settleDue_66 (by decide) ?_
        refine x_sub [2, 3, 1, 0] (ls2 := [(0, .ref (ad p)), (1, .int a1), (2, .int (a2 + 1)), (3, .int (a3 + 1))]) rfl ?_
        exact ih B8 a1 (a2 + 1) (a3 + 1) R0 hR hok k
set_option maxHeartbeats 4000000 in
set_option maxRecDepth 100000 in
theorem c_X3_settleDue {l : Launch} {A : Nat → Prop} {G : GT} {ad : Nat → Nat} (gl : Gl l A G ad) (p : Nat) (hp : p < 176 ∧ p % 16 = 0) (B : StB) (M : StM) (O : StO)  (hok : ok_X3_settleDue p B) : Met l yX3_settleDue (wof yX3_settleDue cX3_settleDue 4 (some .int)) (rmd 5 0 0) (va_Pc [.ref (ad p)] (PW G A ad B M O)) (QI G A ad (f_X3_settleDue p B).1 (f_X3_settleDue p B).2 M O) 0 0 A := by
  refine x_body (own := RX3) (by decide +kernel) rfl gl (Nat.le_of_ble_eq_true rfl) (ls := [(0, .ref (ad p))]) rfl ?_
  intro p0 e s m args below meth c C
  have hR : (f_X3_settleDue p B) = (nm (f_X3_settleDue_L6 fu p B 0 0 0) (fun (z9 : Int32 × Int32 × StB) => (nm (sbi z9.2.2 (p + 6) 0 z9.2.1) (fun (B10 : StB) => (z9.1, B10))))) := rfl
  have hok : (ok_X3_settleDue_L6 fu p B 0 0 0) := hok
  refine x_iconst (pc := 0) (v := 0) C dX3_settleDue_0 (by decide) ?_
  refine x_istore_n (pc := 1) (i := 1) (ls2 := [(1, .int 0), (0, .ref (ad p))]) C dX3_settleDue_1 rfl (by decide) rfl ?_
  refine x_iconst (pc := 2) (v := 0) C dX3_settleDue_2 (by decide) ?_
  refine x_istore_n (pc := 3) (i := 2) (ls2 := [(2, .int 0), (1, .int 0), (0, .ref (ad p))]) C dX3_settleDue_3 rfl (by decide) rfl ?_
  refine x_iconst (pc := 4) (v := 0) C dX3_settleDue_4 (by decide) ?_
  refine x_istore_n (pc := 5) (i := 3) (ls2 := [(3, .int 0), (2, .int 0), (1, .int 0), (0, .ref (ad p))]) C dX3_settleDue_5 rfl (by decide) rfl ?_
  refine x_sub [3, 2, 1, 0] (ls2 := [(0, .ref (ad p)), (1, .int 0), (2, .int 0), (3, .int 0)]) rfl ?_
  obtain ⟨z9, ez9⟩ : ∃ z : Int32 × Int32 × StB, z = f_X3_settleDue_L6 fu p B 0 0 0 := ⟨_, rfl⟩
  refine t_X3_settleDue_L6 C hp fu B 0 0 0 M O z9 ez9 hok ?_
  have hR := nmE hR ez9
  refine x_aload_n (pc := 69) (i := 0) C 0 dX3_settleDue_69 rfl rfl ?_
  refine x_get (pc := 70) (q := p) (i := 1) C (e_L (by omega)) rfl ttX3 (by decide) wd_1_147 rfl dX3_settleDue_70 ?_
  refine x_iload_n (pc := 73) (i := 2) C 2 dX3_settleDue_73 rfl rfl ?_
  refine x_put (pc := 74) (B2 := (sbi z9.2.2 (p + 6) 0 z9.2.1)) (M2 := M) (O2 := O) (q := p + 6) (i := 0) C tyX5 tyX5_ok nmX5 (e_T (by omega)) rfl ttX5 (by decide) wd_1_86 rfl rfl rfl (Nat.le_of_ble_eq_true rfl) dX3_settleDue_74 (put_T_0 (by omega)) (o_sbi (p + 6) 0 z9.2.1) ?_
  refine x_nmB (fun B10 eB10 => ?_)
  have hR := nmE hR eB10
  refine x_iload_n (pc := 77) (i := 1) C 1 dX3_settleDue_77 rfl rfl ?_
  exact x_iretB (pc := 78) C rfl hR dX3_settleDue_78
set_option maxHeartbeats 4000000 in
set_option maxRecDepth 100000 in
theorem t_X3_settleDueBefore_L2 {p0 : Program} {l : Launch} {e : Env} {s : State} {m : MethodId} {args : Array Value} {below : List Frame} {meth : Method} {c : Code} {A : Nat → Prop} {G : GT} {ad : Nat → Nat} {Q : State → Prop} (C : CX p0 l s m args meth c A G ad cX3_settleDueBefore RX3 3 none) {p : Nat} (hp : p < 176 ∧ p % 16 = 0)   (n : Nat) (B : StB) (a1 : Int32) (a2 : Int32) (M : StM) (O : StO) : ∀ (R0 : StB) (hR : R0 = f_X3_settleDueBefore_L2 n p B a1 a2) (hok : ok_X3_settleDueBefore_L2 n p B a1 a2) (k : X p0 l e (rmd 5 0 0) s m args below meth c A G ad 3 0 0 Q R0 M O [] 54 []), X p0 l e (rmd 5 0 0) s m args below meth c A G ad 3 0 0 Q B M O [(0, .ref (ad p)), (1, .int a1), (2, .int a2)] 2 [] := by
  induction n generalizing B a1 a2 with
  | zero => intro R0 hR hok k; exact False.elim hok
  | succ n ih =>
    intro R0 hR hok k
    have hR : R0 = (if (bi B (p + 6) 0) ≤ a2 then B else (if a1 ≤ (ba B (p + 7) (ix a2)) then B else (if (ba B (p + 11) (ix a2)) = (bi B p 3) then (nm (f_X3_settle p B a2) (fun (z7 : Int32 × StB) => (f_X3_settleDueBefore_L2 n p z7.2 a1 (a2 + 1)))) else (f_X3_settleDueBefore_L2 n p B a1 (a2 + 1))))) := hR
    have hok : (((bi B (p + 6) 0) ≤ a2 → True) ∧ (¬ (bi B (p + 6) 0) ≤ a2 → (vp_in a2 10 ∧ ((a1 ≤ (ba B (p + 7) (ix a2)) → True) ∧ (¬ a1 ≤ (ba B (p + 7) (ix a2)) → (vp_in a2 10 ∧ (((ba B (p + 11) (ix a2)) = (bi B p 3) → ((ok_X3_settle p B a2) ∧ (∀ z7 : Int32 × StB, z7 = (f_X3_settle p B a2) → (ok_X3_settleDueBefore_L2 n p z7.2 a1 (a2 + 1))))) ∧ (¬ (ba B (p + 11) (ix a2)) = (bi B p 3) → (ok_X3_settleDueBefore_L2 n p B a1 (a2 + 1)))))))))) := hok
    refine x_iload_n (pc := 2) (i := 2) C 2 dX3_settleDueBefore_2 rfl rfl ?_
    refine x_aload_n (pc := 3) (i := 0) C 0 dX3_settleDueBefore_3 rfl rfl ?_
    refine x_get (pc := 4) (q := p) (i := 1) C (e_L (by omega)) rfl ttX3 (by decide) wd_1_147 rfl dX3_settleDueBefore_4 ?_
    refine x_get (pc := 7) (q := p + 6) (i := 0) C (e_T (by omega)) rfl ttX5 (by decide) wd_1_86 rfl dX3_settleDueBefore_7 ?_
    refine x_icmp_ge (pc := 10) (tgt := 54) C dX3_settleDueBefore_10 (by decide) (fun c1 => ?_) (fun c1 => ?_)
    · have hR := hR.trans (if_pos c1)
      refine x_sub [] (ls2 := []) rfl ?_
      subst hR
      exact k
    · have hR := hR.trans (if_neg c1)
      have hok := hok.2 c1
      refine x_aload_n (pc := 13) (i := 0) C 0 dX3_settleDueBefore_13 rfl rfl ?_
      refine x_get (pc := 14) (q := p) (i := 1) C (e_L (by omega)) rfl ttX3 (by decide) wd_1_147 rfl dX3_settleDueBefore_14 ?_
      refine x_get (pc := 17) (q := p + 6) (i := 2) C (e_T (by omega)) rfl ttX5 (by decide) wd_1_90 rfl dX3_settleDueBefore_17 ?_
      refine x_iload_n (pc := 20) (i := 2) C 2 dX3_settleDueBefore_20 rfl rfl ?_
      have h2 := hok.1
      have hok := hok.2
      refine x_iald (pc := 21) (q := p + 7) C (e_Ti (by omega)) h2 dX3_settleDueBefore_21 ?_
      refine x_iload_n (pc := 22) (i := 1) C 1 dX3_settleDueBefore_22 rfl rfl ?_
      refine x_icmp_ge (pc := 23) (tgt := 54) C dX3_settleDueBefore_23 (by decide) (fun c3 => ?_) (fun c3 => ?_)
      · have hR := hR.trans (if_pos c3)
        refine x_sub [] (ls2 := []) rfl ?_
        subst hR
        exact k
      · have hR := hR.trans (if_neg c3)
        have hok := hok.2 c3
        refine x_aload_n (pc := 26) (i := 0) C 0 dX3_settleDueBefore_26 rfl rfl ?_
        refine x_get (pc := 27) (q := p) (i := 1) C (e_L (by omega)) rfl ttX3 (by decide) wd_1_147 rfl dX3_settleDueBefore_27 ?_
        refine x_get (pc := 30) (q := p + 6) (i := 6) C (e_T (by omega)) rfl ttX5 (by decide) wd_1_101 rfl dX3_settleDueBefore_30 ?_
        refine x_iload_n (pc := 33) (i := 2) C 2 dX3_settleDueBefore_33 rfl rfl ?_
        have h4 := hok.1
        have hok := hok.2
        refine x_iald (pc := 34) (q := p + 11) C (e_Td (by omega)) h4 dX3_settleDueBefore_34 ?_
        refine x_aload_n (pc := 35) (i := 0) C 0 dX3_settleDueBefore_35 rfl rfl ?_
        refine x_get (pc := 36) (q := p) (i := 3) C (e_L (by omega)) rfl ttX3 (by decide) wd_1_151 rfl dX3_settleDueBefore_36 ?_
        refine x_icmp_ne (pc := 39) (tgt := 48) C dX3_settleDueBefore_39 (by decide) (fun c5 => ?_) (fun c5 => ?_)
        · have hR := hR.trans (if_neg c5)
          have hok := hok.2 c5
          refine x_iinc (pc := 48) (i := 2) (v := (a2 + 1)) (ls2 := [(2, .int (a2 + 1)), (0, .ref (ad p)), (1, .int a1)]) C 2 dX3_settleDueBefore_48 rfl rfl (by decide) rfl ?_
          refine x_goto (pc := 51) (tgt := 2) C dX3_settleDueBefore_51 (by decide) ?_
          refine x_sub [1, 2, 0] (ls2 := [(0, .ref (ad p)), (1, .int a1), (2, .int (a2 + 1))]) rfl ?_
          exact ih B a1 (a2 + 1) R0 hR hok k
        · have hR := hR.trans (if_pos c5)
          have hok := hok.1 c5
          refine x_aload_n (pc := 42) (i := 0) C 0 dX3_settleDueBefore_42 rfl rfl ?_
          refine x_iload_n (pc := 43) (i := 2) C 2 dX3_settleDueBefore_43 rfl rfl ?_
          have h6 := hok.1
          have hok := hok.2
          refine x_cIV (pc := 44) (as := [.int a2]) (q := p) C (c_X3_settle C.2.2.2.2.2.2.2.1 p (by omega) B M O a2 h6) (fs := _) (e_L (by omega)) rfl cv_X3_settle cd_X3_settle wd_3_154 ⟨Nat.le_of_ble_eq_true rfl, Nat.le_of_ble_eq_true rfl⟩ ⟨Nat.le_of_ble_eq_true rfl, Nat.le_of_ble_eq_true rfl⟩ rfl rfl (Nat.le_of_ble_eq_true rfl) dX3_settleDueBefore_44 ?_
          refine x_nmIB (fun z7 ez7 => ?_)
          have hR := nmE hR ez7
          have hok := hok z7 ez7
          refine x_pop (pc := 47) C dX3_settleDueBefore_47 rfl ?_
          refine x_iinc (pc := 48) (i := 2) (v := (a2 + 1)) (ls2 := [(2, .int (a2 + 1)), (0, .ref (ad p)), (1, .int a1)]) C 2 dX3_settleDueBefore_48 rfl rfl (by decide) rfl ?_
          refine x_goto (pc := 51) (tgt := 2) C dX3_settleDueBefore_51 (by decide) ?_
          refine x_sub [1, 2, 0] (ls2 := [(0, .ref (ad p)), (1, .int a1), (2, .int (a2 + 1))]) rfl ?_
          exact ih z7.2 a1 (a2 + 1) R0 hR hok k
set_option maxHeartbeats 4000000 in
set_option maxRecDepth 100000 in
theorem c_X3_settleDueBefore {l : Launch} {A : Nat → Prop} {G : GT} {ad : Nat → Nat} (gl : Gl l A G ad) (p : Nat) (hp : p < 176 ∧ p % 16 = 0) (B : StB) (M : StM) (O : StO) (x0 : Int32) (hok : ok_X3_settleDueBefore p B x0) : Met l yX3_settleDueBefore (wof yX3_settleDueBefore cX3_settleDueBefore 3 none) (rmd 5 0 0) (va_Pc [.ref (ad p), .int x0] (PW G A ad B M O)) (QV G A ad (f_X3_settleDueBefore p B x0) M O) 0 0 A := by
  refine x_body (own := RX3) (by decide +kernel) rfl gl (Nat.le_of_ble_eq_true rfl) (ls := [(0, .ref (ad p)), (1, .int x0)]) rfl ?_
  intro p0 e s m args below meth c C
  have hR : (f_X3_settleDueBefore p B x0) = (nm (f_X3_settleDueBefore_L2 fu p B x0 0) (fun (z8 : StB) => z8)) := rfl
  have hok : (ok_X3_settleDueBefore_L2 fu p B x0 0) := hok
  refine x_iconst (pc := 0) (v := 0) C dX3_settleDueBefore_0 (by decide) ?_
  refine x_istore_n (pc := 1) (i := 2) (ls2 := [(2, .int 0), (0, .ref (ad p)), (1, .int x0)]) C dX3_settleDueBefore_1 rfl (by decide) rfl ?_
  refine x_sub [1, 2, 0] (ls2 := [(0, .ref (ad p)), (1, .int x0), (2, .int 0)]) rfl ?_
  obtain ⟨z8, ez8⟩ : ∃ z : StB, z = f_X3_settleDueBefore_L2 fu p B x0 0 := ⟨_, rfl⟩
  refine t_X3_settleDueBefore_L2 C hp fu B x0 0 M O z8 ez8 hok ?_
  have hR := nmE hR ez8
  exact x_vretB (pc := 54) C rfl hR dX3_settleDueBefore_54
set_option maxHeartbeats 4000000 in
set_option maxRecDepth 100000 in
theorem t_X3_passDays_L4 {p0 : Program} {l : Launch} {e : Env} {s : State} {m : MethodId} {args : Array Value} {below : List Frame} {meth : Method} {c : Code} {A : Nat → Prop} {G : GT} {ad : Nat → Nat} {Q : State → Prop} (C : CX p0 l s m args meth c A G ad cX3_passDays RX3 4 (some .int)) {p : Nat} (hp : p < 176 ∧ p % 16 = 0)   (n : Nat) (B : StB) (a1 : Int32) (a2 : Int32) (a3 : Int32) (M : StM) (O : StO) : ∀ (R0 : Int32 × StB) (hR : R0 = f_X3_passDays_L4 n p B a1 a2 a3) (hok : ok_X3_passDays_L4 n p B a1 a2 a3) (k : X p0 l e (rmd 6 0 0) s m args below meth c A G ad 4 0 0 Q R0.2 M O [(2, .int R0.1)] 43 []), X p0 l e (rmd 6 0 0) s m args below meth c A G ad 4 0 0 Q B M O [(0, .ref (ad p)), (1, .int a1), (2, .int a2), (3, .int a3)] 4 [] := by
  induction n generalizing B a1 a2 a3 with
  | zero => intro R0 hR hok k; exact False.elim hok
  | succ n ih =>
    intro R0 hR hok k
    have hR : R0 = (if a1 ≤ a3 then (a2, B) else (nm (f_X3_settleDue p B) (fun (z3 : Int32 × StB) => (nm (a2 + z3.1) (fun (v4 : Int32) => (nm (f_X3_payInterest p z3.2) (fun (B6 : StB) => (nm (f_X0_forgetTouches (p + 1) B6) (fun (B8 : StB) => (nm (sbi B8 p 3 ((bi B8 p 3) + 1)) (fun (B9 : StB) => (f_X3_passDays_L4 n p B9 a1 v4 (a3 + 1))))))))))))) := hR
    have hok : ((a1 ≤ a3 → True) ∧ (¬ a1 ≤ a3 → ((ok_X3_settleDue p B) ∧ (∀ z3 : Int32 × StB, z3 = (f_X3_settleDue p B) → (∀ v4 : Int32, v4 = (a2 + z3.1) → ((ok_X3_payInterest p z3.2) ∧ (∀ B6 : StB, B6 = (f_X3_payInterest p z3.2) → ((ok_X0_forgetTouches (p + 1) B6) ∧ (∀ B8 : StB, B8 = (f_X0_forgetTouches (p + 1) B6) → (∀ B9 : StB, B9 = (sbi B8 p 3 ((bi B8 p 3) + 1)) → (ok_X3_passDays_L4 n p B9 a1 v4 (a3 + 1)))))))))))) := hok
    refine x_iload_n (pc := 4) (i := 3) C 3 dX3_passDays_4 rfl rfl ?_
    refine x_iload_n (pc := 5) (i := 1) C 1 dX3_passDays_5 rfl rfl ?_
    refine x_icmp_ge (pc := 6) (tgt := 43) C dX3_passDays_6 (by decide) (fun c1 => ?_) (fun c1 => ?_)
    · have hR := hR.trans (if_pos c1)
      refine x_sub [2] (ls2 := [(2, .int a2)]) rfl ?_
      subst hR
      exact k
    · have hR := hR.trans (if_neg c1)
      have hok := hok.2 c1
      refine x_iload_n (pc := 9) (i := 2) C 2 dX3_passDays_9 rfl rfl ?_
      refine x_aload_n (pc := 10) (i := 0) C 0 dX3_passDays_10 rfl rfl ?_
      have h2 := hok.1
      have hok := hok.2
      refine x_cIV (pc := 11) (as := []) (q := p) C (c_X3_settleDue C.2.2.2.2.2.2.2.1 p (by omega) B M O  h2) (fs := _) (e_L (by omega)) rfl cv_X3_settleDue cd_X3_settleDue wd_3_149 ⟨Nat.le_of_ble_eq_true rfl, Nat.le_of_ble_eq_true rfl⟩ ⟨Nat.le_of_ble_eq_true rfl, Nat.le_of_ble_eq_true rfl⟩ rfl rfl (Nat.le_of_ble_eq_true rfl) dX3_passDays_11 ?_
      refine x_nmIB (fun z3 ez3 => ?_)
      have hR := nmE hR ez3
      have hok := hok z3 ez3
      refine x_iadd (pc := 14) C dX3_passDays_14 ?_
      refine x_nmI (fun v4 ev4 => ?_)
      have hR := nmE hR ev4
      have hok := hok v4 ev4
      refine x_istore_n (pc := 15) (i := 2) (ls2 := [(2, .int v4), (0, .ref (ad p)), (1, .int a1), (3, .int a3)]) C dX3_passDays_15 rfl (by decide) rfl ?_
      refine x_aload_n (pc := 16) (i := 0) C 1 dX3_passDays_16 rfl rfl ?_
      have h5 := hok.1
      have hok := hok.2
      refine x_cVV (pc := 17) (as := []) (q := p) C (c_X3_payInterest C.2.2.2.2.2.2.2.1 p (by omega) z3.2 M O  h5) (fs := _) (e_L (by omega)) rfl cv_X3_payInterest cd_X3_payInterest wd_3_167 ⟨Nat.le_of_ble_eq_true rfl, Nat.le_of_ble_eq_true rfl⟩ ⟨Nat.le_of_ble_eq_true rfl, Nat.le_of_ble_eq_true rfl⟩ rfl rfl (Nat.le_of_ble_eq_true rfl) dX3_passDays_17 ?_
      refine x_nmB (fun B6 eB6 => ?_)
      have hR := nmE hR eB6
      have hok := hok B6 eB6
      refine x_aload_n (pc := 20) (i := 0) C 1 dX3_passDays_20 rfl rfl ?_
      refine x_get (pc := 21) (q := p) (i := 0) C (e_L (by omega)) rfl ttX3 (by decide) wd_1_145 rfl dX3_passDays_21 ?_
      have h7 := hok.1
      have hok := hok.2
      refine x_cVV (pc := 24) (as := []) (q := p + 1) C (c_X0_forgetTouches C.2.2.2.2.2.2.2.1 (p + 1) (by omega) B6 M O  h7) (fs := _) (e_A (by omega)) rfl cv_X0_forgetTouches cd_X0_forgetTouches wd_3_184 ⟨Nat.le_of_ble_eq_true rfl, Nat.le_of_ble_eq_true rfl⟩ ⟨Nat.le_of_ble_eq_true rfl, Nat.le_of_ble_eq_true rfl⟩ rfl rfl (Nat.le_of_ble_eq_true rfl) dX3_passDays_24 ?_
      refine x_nmB (fun B8 eB8 => ?_)
      have hR := nmE hR eB8
      have hok := hok B8 eB8
      refine x_aload_n (pc := 27) (i := 0) C 1 dX3_passDays_27 rfl rfl ?_
      refine x_dup (pc := 28) C dX3_passDays_28 rfl ?_
      refine x_get (pc := 29) (q := p) (i := 3) C (e_L (by omega)) rfl ttX3 (by decide) wd_1_151 rfl dX3_passDays_29 ?_
      refine x_iconst (pc := 32) (v := 1) C dX3_passDays_32 (by decide) ?_
      refine x_iadd (pc := 33) C dX3_passDays_33 ?_
      refine x_put (pc := 34) (B2 := (sbi B8 p 3 ((bi B8 p 3) + 1))) (M2 := M) (O2 := O) (q := p) (i := 3) C tyX3 tyX3_ok nmX3 (e_L (by omega)) rfl ttX3 (by decide) wd_1_151 rfl rfl rfl (Nat.le_of_ble_eq_true rfl) dX3_passDays_34 (put_L_3 (by omega)) (o_sbi p 3 ((bi B8 p 3) + 1)) ?_
      refine x_nmB (fun B9 eB9 => ?_)
      have hR := nmE hR eB9
      have hok := hok B9 eB9
      refine x_iinc (pc := 37) (i := 3) (v := (a3 + 1)) (ls2 := [(3, .int (a3 + 1)), (2, .int v4), (0, .ref (ad p)), (1, .int a1)]) C 3 dX3_passDays_37 rfl rfl (by decide) rfl ?_
      refine x_goto (pc := 40) (tgt := 4) C dX3_passDays_40 (by decide) ?_
      refine x_sub [2, 3, 1, 0] (ls2 := [(0, .ref (ad p)), (1, .int a1), (2, .int v4), (3, .int (a3 + 1))]) rfl ?_
      exact ih B9 a1 v4 (a3 + 1) R0 hR hok k
set_option maxHeartbeats 4000000 in
set_option maxRecDepth 100000 in
theorem c_X3_passDays {l : Launch} {A : Nat → Prop} {G : GT} {ad : Nat → Nat} (gl : Gl l A G ad) (p : Nat) (hp : p < 176 ∧ p % 16 = 0) (B : StB) (M : StM) (O : StO) (x0 : Int32) (hok : ok_X3_passDays p B x0) : Met l yX3_passDays (wof yX3_passDays cX3_passDays 4 (some .int)) (rmd 6 0 0) (va_Pc [.ref (ad p), .int x0] (PW G A ad B M O)) (QI G A ad (f_X3_passDays p B x0).1 (f_X3_passDays p B x0).2 M O) 0 0 A := by
  refine x_body (own := RX3) (by decide +kernel) rfl gl (Nat.le_of_ble_eq_true rfl) (ls := [(0, .ref (ad p)), (1, .int x0)]) rfl ?_
  intro p0 e s m args below meth c C
  have hR : (f_X3_passDays p B x0) = (nm (f_X3_passDays_L4 fu p B x0 0 0) (fun (z10 : Int32 × StB) => (z10.1, z10.2))) := rfl
  have hok : (ok_X3_passDays_L4 fu p B x0 0 0) := hok
  refine x_iconst (pc := 0) (v := 0) C dX3_passDays_0 (by decide) ?_
  refine x_istore_n (pc := 1) (i := 2) (ls2 := [(2, .int 0), (0, .ref (ad p)), (1, .int x0)]) C dX3_passDays_1 rfl (by decide) rfl ?_
  refine x_iconst (pc := 2) (v := 0) C dX3_passDays_2 (by decide) ?_
  refine x_istore_n (pc := 3) (i := 3) (ls2 := [(3, .int 0), (2, .int 0), (0, .ref (ad p)), (1, .int x0)]) C dX3_passDays_3 rfl (by decide) rfl ?_
  refine x_sub [2, 3, 1, 0] (ls2 := [(0, .ref (ad p)), (1, .int x0), (2, .int 0), (3, .int 0)]) rfl ?_
  obtain ⟨z10, ez10⟩ : ∃ z : Int32 × StB, z = f_X3_passDays_L4 fu p B x0 0 0 := ⟨_, rfl⟩
  refine t_X3_passDays_L4 C hp fu B x0 0 0 M O z10 ez10 hok ?_
  have hR := nmE hR ez10
  refine x_iload_n (pc := 43) (i := 2) C 0 dX3_passDays_43 rfl rfl ?_
  exact x_iretB (pc := 44) C rfl hR dX3_passDays_44
