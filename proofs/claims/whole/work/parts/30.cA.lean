set_option maxHeartbeats 4000000 in
set_option maxRecDepth 100000 in
theorem c_J9_floorMod_7cf53 {l : Launch} {A : Nat → Prop} {G : GT} {ad : Nat → Nat} (gl : Gl l A ad)  (B : StB) (M : StM) (O : StO) (x0 : Int32) (x1 : Int32) (hok : ok_J9_floorMod_7cf53 x0 x1) : Met l yJ9_floorMod_7cf53 (wof yJ9_floorMod_7cf53 cJ9_floorMod_7cf53 3 (some .int)) (rmd 1 0 0) (va_Pc [.int x0, .int x1] (PW G A ad B M O)) (QI G A ad (f_J9_floorMod_7cf53 x0 x1) B M O) 0 0 A := by
  refine x_bodyF (own := RJ9) (by decide +kernel) rfl gl (Nat.le_of_ble_eq_true rfl) (ls := [(0, .int x0), (1, .int x1)]) rfl ?_
  intro p0 e s m args below meth c C
  have hR : (f_J9_floorMod_7cf53 x0 x1) = (nm (x0 - x0 / x1 * x1) (fun (v2 : Int32) => (if 0 ≤ (x0 ^^^ x1) then v2 else (if v2 = 0 then v2 else (v2 + x1))))) := rfl
  have hok : (¬ x1 = 0) := hok
  refine x_iload_n (pc := 0) (i := 0) C 0 dJ9_floorMod_7cf53_0 rfl rfl ?_
  refine x_iload_n (pc := 1) (i := 1) C 1 dJ9_floorMod_7cf53_1 rfl rfl ?_
  have h1 := hok
  refine x_irem (pc := 2) C dJ9_floorMod_7cf53_2 h1 ?_
  refine x_nmI (fun v2 ev2 => ?_)
  have hR := nmE hR ev2
  refine x_istore_n (pc := 3) (i := 2) (ls2 := [(2, .int v2), (0, .int x0), (1, .int x1)]) C dJ9_floorMod_7cf53_3 rfl (by decide) rfl ?_
  refine x_iload_n (pc := 4) (i := 0) C 1 dJ9_floorMod_7cf53_4 rfl rfl ?_
  refine x_iload_n (pc := 5) (i := 1) C 2 dJ9_floorMod_7cf53_5 rfl rfl ?_
  refine x_ixor (pc := 6) C dJ9_floorMod_7cf53_6 ?_
  refine x_if_ge (pc := 7) (tgt := 18) C dJ9_floorMod_7cf53_7 (by decide) (fun c3 => ?_) (fun c3 => ?_)
  · have hR := hR.trans (if_pos c3)
    refine x_iload_n (pc := 18) (i := 2) C 0 dJ9_floorMod_7cf53_18 rfl rfl ?_
    exact x_iret (pc := 19) C rfl hR dJ9_floorMod_7cf53_19
  · have hR := hR.trans (if_neg c3)
    refine x_iload_n (pc := 10) (i := 2) C 0 dJ9_floorMod_7cf53_10 rfl rfl ?_
    refine x_if_eq (pc := 11) (tgt := 18) C dJ9_floorMod_7cf53_11 (by decide) (fun c4 => ?_) (fun c4 => ?_)
    · have hR := hR.trans (if_pos c4)
      refine x_iload_n (pc := 18) (i := 2) C 0 dJ9_floorMod_7cf53_18 rfl rfl ?_
      exact x_iret (pc := 19) C rfl hR dJ9_floorMod_7cf53_19
    · have hR := hR.trans (if_neg c4)
      refine x_iload_n (pc := 14) (i := 2) C 0 dJ9_floorMod_7cf53_14 rfl rfl ?_
      refine x_iload_n (pc := 15) (i := 1) C 2 dJ9_floorMod_7cf53_15 rfl rfl ?_
      refine x_iadd (pc := 16) C dJ9_floorMod_7cf53_16 ?_
      exact x_iret (pc := 17) C rfl hR dJ9_floorMod_7cf53_17
set_option maxHeartbeats 4000000 in
set_option maxRecDepth 100000 in
theorem c_X6_isIn {l : Launch} {A : Nat → Prop} {G : GT} {ad : Nat → Nat} (gl : Gl l A ad)  (B : StB) (M : StM) (O : StO) (x0 : Int32) (x1 : Int32) (x2 : Int32) : Met l yX6_isIn (wof yX6_isIn cX6_isIn 3 (some .boolean)) (rmd 1 0 0) (va_Pc [.int x0, .int x1, .int x2] (PW G A ad B M O)) (QI G A ad (f_X6_isIn x0 x1 x2) B M O) 0 0 A := by
  refine x_body (own := RX6) (by decide +kernel) rfl gl (Nat.le_of_ble_eq_true rfl) (ls := [(0, .int x0), (1, .int x1), (2, .int x2)]) rfl ?_
  intro p0 e s m args below meth c C
  have hR : (f_X6_isIn x0 x1 x2) = (if x0 < x1 then 0 else (if x2 < x0 then 0 else 1)) := rfl
  refine x_iload_n (pc := 0) (i := 0) C 0 dX6_isIn_0 rfl rfl ?_
  refine x_iload_n (pc := 1) (i := 1) C 1 dX6_isIn_1 rfl rfl ?_
  refine x_icmp_lt (pc := 2) (tgt := 14) C dX6_isIn_2 (by decide) (fun c1 => ?_) (fun c1 => ?_)
  · have hR := hR.trans (if_pos c1)
    refine x_iconst (pc := 14) (v := 0) C dX6_isIn_14 (by decide) ?_
    exact x_zret (pc := 15) C rfl (by decide) hR dX6_isIn_15
  · have hR := hR.trans (if_neg c1)
    refine x_iload_n (pc := 5) (i := 0) C 0 dX6_isIn_5 rfl rfl ?_
    refine x_iload_n (pc := 6) (i := 2) C 2 dX6_isIn_6 rfl rfl ?_
    refine x_icmp_gt (pc := 7) (tgt := 14) C dX6_isIn_7 (by decide) (fun c2 => ?_) (fun c2 => ?_)
    · have hR := hR.trans (if_pos c2)
      refine x_iconst (pc := 14) (v := 0) C dX6_isIn_14 (by decide) ?_
      exact x_zret (pc := 15) C rfl (by decide) hR dX6_isIn_15
    · have hR := hR.trans (if_neg c2)
      refine x_iconst (pc := 10) (v := 1) C dX6_isIn_10 (by decide) ?_
      refine x_goto (pc := 11) (tgt := 15) C dX6_isIn_11 (by decide) ?_
      exact x_zret (pc := 15) C rfl (by decide) hR dX6_isIn_15
