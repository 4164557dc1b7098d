set_option maxHeartbeats 4000000 in
set_option maxRecDepth 100000 in
theorem c_X3_endDaysFault {l : Launch} {A : Nat → Prop} {G : GT} {ad : Nat → Nat} (gl : Gl l A ad) (p : Nat) (hp : p < 176 ∧ p % 16 = 0) (B : StB) (M : StM) (O : StO) (x0 : Int32) : Met l yX3_endDaysFault (wof yX3_endDaysFault cX3_endDaysFault 2 (some .int)) (rmd 2 0 0) (va_Pc [.ref (ad p), .int x0] (PW G A ad B M O)) (QI G A ad (f_X3_endDaysFault p B x0) B M O) 0 0 A := by
  refine x_body (own := RX3) (by decide +kernel) rfl gl (Nat.le_of_ble_eq_true rfl) (ls := [(0, .ref (ad p)), (1, .int x0)]) rfl ?_
  intro p0 e s m args below meth c C
  have hR : (f_X3_endDaysFault p B x0) = (nm (f_X6_isIn x0 1 60) (fun (r1 : Int32) => (if r1 = 0 then 2 else 0))) := rfl
  refine x_iload_n (pc := 0) (i := 1) C 1 dX3_endDaysFault_0 rfl rfl ?_
  refine x_iconst (pc := 1) (v := 1) C dX3_endDaysFault_1 (by decide) ?_
  refine x_bipush (pc := 2) (v := 60) C dX3_endDaysFault_2 (by decide) ?_
  refine x_cISn (pc := 4) (as := [.int x0, .int 1, .int 60]) C (c_X6_isIn C.2.2.2.2.2.2.2.1  B M O x0 1 60) wd_2_149 cd_X6_isIn (List.mem_of_getElem? (i := 6) rfl) ⟨Nat.le_of_ble_eq_true rfl, Nat.le_of_ble_eq_true rfl⟩ ⟨Nat.le_of_ble_eq_true rfl, Nat.le_of_ble_eq_true rfl⟩ rfl rfl (Nat.le_of_ble_eq_true rfl) dX3_endDaysFault_4 ?_
  refine x_nmI (fun r1 er1 => ?_)
  have hR := nmE hR er1
  refine x_if_eq (pc := 7) (tgt := 14) C dX3_endDaysFault_7 (by decide) (fun c2 => ?_) (fun c2 => ?_)
  · have hR := hR.trans (if_pos c2)
    refine x_iconst (pc := 14) (v := 2) C dX3_endDaysFault_14 (by decide) ?_
    exact x_iret (pc := 15) C rfl hR dX3_endDaysFault_15
  · have hR := hR.trans (if_neg c2)
    refine x_iconst (pc := 10) (v := 0) C dX3_endDaysFault_10 (by decide) ?_
    refine x_goto (pc := 11) (tgt := 15) C dX3_endDaysFault_11 (by decide) ?_
    exact x_iret (pc := 15) C rfl hR dX3_endDaysFault_15
