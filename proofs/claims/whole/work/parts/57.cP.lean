set_option maxHeartbeats 4000000 in
set_option maxRecDepth 100000 in
theorem c_X4_formOf {l : Launch} {A : Nat → Prop} {G : GT} {ad : Nat → Nat} (gl : Gl l A ad)  (B : StB) (M : StM) (O : StO) (x0 : Int32) : Met l yX4_formOf (wof yX4_formOf cX4_formOf 1 (some (.object "java/lang/String"))) (rmd 1 0 0) (va_Pc [.int x0] (PW G A ad B M O)) (QK G A ad (f_X4_formOf x0) B M O) 0 0 A := by
  refine x_body (own := RX4) (by decide +kernel) rfl gl (Nat.le_of_ble_eq_true rfl) (ls := [(0, .int x0)]) rfl ?_
  intro p0 e s m args below meth c C
  have hR : (f_X4_formOf x0) = (if x0 = 0 then 2 else (if x0 = 1 then 3 else (if x0 = 2 then 4 else (if x0 = 3 then 5 else (if x0 = 4 then 6 else (if x0 = 5 then 7 else 8)))))) := rfl
  refine x_iload_n (pc := 0) (i := 0) C 0 dX4_formOf_0 rfl rfl ?_
  by_cases c1_0 : x0 = 0
  · have hR := hR.trans (if_pos c1_0)
    refine x_tabIn (pc := 1) (tgt := 40) (off := 39) C dX4_formOf_1 c1_0 (by decide) (by decide) (by decide) (by decide) ?_
    refine x_ldcK (pc := 40) (i := 2) C (by decide) rfl rfl dX4_formOf_40 ?_
    exact x_kret (pc := 42) C rfl hR dX4_formOf_42
  have hR := hR.trans (if_neg c1_0)
  by_cases c1_1 : x0 = 1
  · have hR := hR.trans (if_pos c1_1)
    refine x_tabIn (pc := 1) (tgt := 43) (off := 42) C dX4_formOf_1 c1_1 (by decide) (by decide) (by decide) (by decide) ?_
    refine x_ldcK (pc := 43) (i := 3) C (by decide) rfl rfl dX4_formOf_43 ?_
    exact x_kret (pc := 45) C rfl hR dX4_formOf_45
  have hR := hR.trans (if_neg c1_1)
  by_cases c1_2 : x0 = 2
  · have hR := hR.trans (if_pos c1_2)
    refine x_tabIn (pc := 1) (tgt := 46) (off := 45) C dX4_formOf_1 c1_2 (by decide) (by decide) (by decide) (by decide) ?_
    refine x_ldcK (pc := 46) (i := 4) C (by decide) rfl rfl dX4_formOf_46 ?_
    exact x_kret (pc := 48) C rfl hR dX4_formOf_48
  have hR := hR.trans (if_neg c1_2)
  by_cases c1_3 : x0 = 3
  · have hR := hR.trans (if_pos c1_3)
    refine x_tabIn (pc := 1) (tgt := 49) (off := 48) C dX4_formOf_1 c1_3 (by decide) (by decide) (by decide) (by decide) ?_
    refine x_ldcK (pc := 49) (i := 5) C (by decide) rfl rfl dX4_formOf_49 ?_
    exact x_kret (pc := 51) C rfl hR dX4_formOf_51
  have hR := hR.trans (if_neg c1_3)
  by_cases c1_4 : x0 = 4
  · have hR := hR.trans (if_pos c1_4)
    refine x_tabIn (pc := 1) (tgt := 52) (off := 51) C dX4_formOf_1 c1_4 (by decide) (by decide) (by decide) (by decide) ?_
    refine x_ldcK (pc := 52) (i := 6) C (by decide) rfl rfl dX4_formOf_52 ?_
    exact x_kret (pc := 54) C rfl hR dX4_formOf_54
  have hR := hR.trans (if_neg c1_4)
  by_cases c1_5 : x0 = 5
  · have hR := hR.trans (if_pos c1_5)
    refine x_tabIn (pc := 1) (tgt := 55) (off := 54) C dX4_formOf_1 c1_5 (by decide) (by decide) (by decide) (by decide) ?_
    refine x_ldcK (pc := 55) (i := 7) C (by decide) rfl rfl dX4_formOf_55 ?_
    exact x_kret (pc := 57) C rfl hR dX4_formOf_57
  have hR := hR.trans (if_neg c1_5)
  refine x_tabOut (pc := 1) (tgt := 58) C dX4_formOf_1 (by
    have c1_0 : ¬ Int32.toInt x0 = 0 := sw_no c1_0
    have c1_1 : ¬ Int32.toInt x0 = 1 := sw_no c1_1
    have c1_2 : ¬ Int32.toInt x0 = 2 := sw_no c1_2
    have c1_3 : ¬ Int32.toInt x0 = 3 := sw_no c1_3
    have c1_4 : ¬ Int32.toInt x0 = 4 := sw_no c1_4
    have c1_5 : ¬ Int32.toInt x0 = 5 := sw_no c1_5
    omega) (by decide) ?_
  refine x_ldcK (pc := 58) (i := 8) C (by decide) rfl rfl dX4_formOf_58 ?_
  exact x_kret (pc := 60) C rfl hR dX4_formOf_60
