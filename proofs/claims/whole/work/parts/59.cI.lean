set_option maxHeartbeats 4000000 in
set_option maxRecDepth 100000 in
theorem c_X6_raise {l : Launch} {A : Nat → Prop} {G : GT} {ad : Nat → Nat} (gl : Gl l A ad)  (B : StB) (M : StM) (O : StO) (x0 : Int32) : TMetV l yX6_raise (wof yX6_raise cX6_raise 1 none) (rmd 6 1 6) [.int x0] G A ad B M O (f_X6_raise B x0) 1 6 := by
  refine xt_body (own := RX6) (by decide +kernel) rfl gl (Nat.le_of_ble_eq_true rfl) (ls := [(0, .int x0)]) rfl ?_
  intro p0 e s m args below meth c hE C
  have hR : (f_X6_raise B x0) = (if x0 = 1 then (1, 0, B) else (if x0 = 2 then (2, 0, B) else (if x0 = 3 then (3, 0, B) else (if x0 = 4 then (4, 0, B) else (if x0 = 5 then (5, 0, B) else (0, 0, B)))))) := rfl
  refine x_iload_n (pc := 0) (i := 0) C 0 dX6_raise_0 rfl rfl ?_
  by_cases c1_0 : x0 = 1
  · have hR := hR.trans (if_pos c1_0)
    refine x_tabIn (pc := 1) (tgt := 36) (off := 35) C dX6_raise_1 c1_0 (by decide) (by decide) (by decide) (by decide) ?_
    exact xt_throw (pc := 36) (k := 1) (ik := 194) (ic := 196) C hE hR (by decide) (by decide +kernel) thr_k1 thr_i1 thr_g1 thr_b1 thr_o1 dX6_raise_36 dX6_raise_39 dX6_raise_40 dX6_raise_43 (Nat.le_of_ble_eq_true rfl) (Nat.le_of_ble_eq_true rfl) ⟨Nat.le_of_ble_eq_true rfl, Nat.le_of_ble_eq_true rfl⟩ (Nat.le_of_ble_eq_true rfl) (Nat.le_of_ble_eq_true rfl)
  have hR := hR.trans (if_neg c1_0)
  by_cases c1_1 : x0 = 2
  · have hR := hR.trans (if_pos c1_1)
    refine x_tabIn (pc := 1) (tgt := 44) (off := 43) C dX6_raise_1 c1_1 (by decide) (by decide) (by decide) (by decide) ?_
    exact xt_throw (pc := 44) (k := 2) (ik := 277) (ic := 279) C hE hR (by decide) (by decide +kernel) thr_k2 thr_i2 thr_g2 thr_b2 thr_o2 dX6_raise_44 dX6_raise_47 dX6_raise_48 dX6_raise_51 (Nat.le_of_ble_eq_true rfl) (Nat.le_of_ble_eq_true rfl) ⟨Nat.le_of_ble_eq_true rfl, Nat.le_of_ble_eq_true rfl⟩ (Nat.le_of_ble_eq_true rfl) (Nat.le_of_ble_eq_true rfl)
  have hR := hR.trans (if_neg c1_1)
  by_cases c1_2 : x0 = 3
  · have hR := hR.trans (if_pos c1_2)
    refine x_tabIn (pc := 1) (tgt := 52) (off := 51) C dX6_raise_1 c1_2 (by decide) (by decide) (by decide) (by decide) ?_
    exact xt_throw (pc := 52) (k := 3) (ik := 312) (ic := 314) C hE hR (by decide) (by decide +kernel) thr_k3 thr_i3 thr_g3 thr_b3 thr_o3 dX6_raise_52 dX6_raise_55 dX6_raise_56 dX6_raise_59 (Nat.le_of_ble_eq_true rfl) (Nat.le_of_ble_eq_true rfl) ⟨Nat.le_of_ble_eq_true rfl, Nat.le_of_ble_eq_true rfl⟩ (Nat.le_of_ble_eq_true rfl) (Nat.le_of_ble_eq_true rfl)
  have hR := hR.trans (if_neg c1_2)
  by_cases c1_3 : x0 = 4
  · have hR := hR.trans (if_pos c1_3)
    refine x_tabIn (pc := 1) (tgt := 60) (off := 59) C dX6_raise_1 c1_3 (by decide) (by decide) (by decide) (by decide) ?_
    exact xt_throw (pc := 60) (k := 4) (ik := 281) (ic := 283) C hE hR (by decide) (by decide +kernel) thr_k4 thr_i4 thr_g4 thr_b4 thr_o4 dX6_raise_60 dX6_raise_63 dX6_raise_64 dX6_raise_67 (Nat.le_of_ble_eq_true rfl) (Nat.le_of_ble_eq_true rfl) ⟨Nat.le_of_ble_eq_true rfl, Nat.le_of_ble_eq_true rfl⟩ (Nat.le_of_ble_eq_true rfl) (Nat.le_of_ble_eq_true rfl)
  have hR := hR.trans (if_neg c1_3)
  by_cases c1_4 : x0 = 5
  · have hR := hR.trans (if_pos c1_4)
    refine x_tabIn (pc := 1) (tgt := 68) (off := 67) C dX6_raise_1 c1_4 (by decide) (by decide) (by decide) (by decide) ?_
    exact xt_throw (pc := 68) (k := 5) (ik := 129) (ic := 131) C hE hR (by decide) (by decide +kernel) thr_k5 thr_i5 thr_g5 thr_b5 thr_o5 dX6_raise_68 dX6_raise_71 dX6_raise_72 dX6_raise_75 (Nat.le_of_ble_eq_true rfl) (Nat.le_of_ble_eq_true rfl) ⟨Nat.le_of_ble_eq_true rfl, Nat.le_of_ble_eq_true rfl⟩ (Nat.le_of_ble_eq_true rfl) (Nat.le_of_ble_eq_true rfl)
  have hR := hR.trans (if_neg c1_4)
  refine x_tabOut (pc := 1) (tgt := 76) C dX6_raise_1 (by
    have c1_0 : ¬ Int32.toInt x0 = 1 := sw_no c1_0
    have c1_1 : ¬ Int32.toInt x0 = 2 := sw_no c1_1
    have c1_2 : ¬ Int32.toInt x0 = 3 := sw_no c1_2
    have c1_3 : ¬ Int32.toInt x0 = 4 := sw_no c1_3
    have c1_4 : ¬ Int32.toInt x0 = 5 := sw_no c1_4
    omega) (by decide) ?_
  exact xt_vret (pc := 76) C rfl hR (Nat.le_of_ble_eq_true rfl) (Nat.le_of_ble_eq_true rfl) dX6_raise_76
