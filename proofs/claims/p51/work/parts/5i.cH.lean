set_option maxHeartbeats 4000000 in
set_option maxRecDepth 100000 in
theorem c_X1_remember {l : Launch} {A : Nat → Prop} {G : GT} {ad : Nat → Nat} (gl : Gl l A G ad) (q0 : Nat) (hq0 : q0 < 176 ∧ q0 % 16 = 0) (B : StB) (M : StM) (O : StO)  (hok : ok_X1_remember q0 B) : Met l yX1_remember (wof yX1_remember cX1_remember 2 none) (rmd 4 0 0) (va_Pc [.ref (ad 177), .ref (ad q0)] (PW G A ad B M O)) (QV G A ad (f_X1_remember q0 B) M O) 0 0 A := by
  refine x_body (own := RX1) (by decide +kernel) rfl gl (Nat.le_of_ble_eq_true rfl) (ls := [(0, .ref (ad 177)), (1, .ref (ad q0))]) rfl ?_
  intro p0 e s m args below meth c C
  have hR : (f_X1_remember q0 B) = (nm (f_J9_floorMod_7cf53 ((bi B 177 1) + 1) 8) (fun (r2 : Int32) => (nm (sbi B 177 1 r2) (fun (B3 : StB) => (nm (f_X3_copyFrom (48 + 16 * ix (bi B3 177 1)) q0 B3) (fun (B6 : StB) => (nm (sbi B6 177 0 (mn ((bi B6 177 0) + 1) 8)) (fun (B7 : StB) => B7)))))))) := rfl
  have hok : ((ok_J9_floorMod_7cf53 ((bi B 177 1) + 1) 8) ∧ (∀ r2 : Int32, r2 = (f_J9_floorMod_7cf53 ((bi B 177 1) + 1) 8) → (∀ B3 : StB, B3 = (sbi B 177 1 r2) → (vp_in (bi B3 177 1) 8 ∧ ((ok_X3_copyFrom (48 + 16 * ix (bi B3 177 1)) q0 B3)))))) := hok
  refine x_aload_n (pc := 0) (i := 0) C 0 dX1_remember_0 rfl rfl ?_
  refine x_aload_n (pc := 1) (i := 0) C 0 dX1_remember_1 rfl rfl ?_
  refine x_get (pc := 2) (q := 177) (i := 1) C e_H rfl ttX1 (by decide) wd_1_200 rfl dX1_remember_2 ?_
  refine x_iconst (pc := 5) (v := 1) C dX1_remember_5 (by decide) ?_
  refine x_iadd (pc := 6) C dX1_remember_6 ?_
  refine x_bipush (pc := 7) (v := 8) C dX1_remember_7 (by decide) ?_
  have h1 := hok.1
  have hok := hok.2
  refine x_cIS (pc := 9) (as := [.int ((bi B 177 1) + 1), .int 8]) C (c_J9_floorMod_7cf53 C.2.2.2.2.2.2.2.1  B M O ((bi B 177 1) + 1) 8 h1) wd_3_26 cd_J9_floorMod_7cf53 wd_3_25 ⟨Nat.le_of_ble_eq_true rfl, Nat.le_of_ble_eq_true rfl⟩ ⟨Nat.le_of_ble_eq_true rfl, Nat.le_of_ble_eq_true rfl⟩ rfl rfl (Nat.le_of_ble_eq_true rfl) dX1_remember_9 ?_
  refine x_nmI (fun r2 er2 => ?_)
  have hR := nmE hR er2
  have hok := hok r2 er2
  refine x_put (pc := 12) (B2 := (sbi B 177 1 r2)) (M2 := M) (O2 := O) (q := 177) (i := 1) C tyX1 tyX1_ok nmX1 e_H rfl ttX1 (by decide) wd_1_200 rfl rfl rfl (Nat.le_of_ble_eq_true rfl) dX1_remember_12 (put_H_1 ) (o_sbi 177 1 r2) ?_
  refine x_nmB (fun B3 eB3 => ?_)
  have hR := nmE hR eB3
  have hok := hok B3 eB3
  refine x_aload_n (pc := 15) (i := 0) C 0 dX1_remember_15 rfl rfl ?_
  refine x_get (pc := 16) (q := 177) (i := 2) C e_H rfl ttX1 (by decide) wd_1_201 rfl dX1_remember_16 ?_
  refine x_aload_n (pc := 19) (i := 0) C 0 dX1_remember_19 rfl rfl ?_
  refine x_get (pc := 20) (q := 177) (i := 1) C e_H rfl ttX1 (by decide) wd_1_200 rfl dX1_remember_20 ?_
  have h4 := hok.1
  have hok := hok.2
  have hxh4 : ix (bi B3 177 1) < 8 := vp_ix h4
  refine x_aald2 (pc := 23) (q := 178) (t0 := 4) C rfl e_Hs rfl h4 (if_pos hxh4) dX1_remember_23 ?_
  refine x_aload_n (pc := 24) (i := 1) C 1 dX1_remember_24 rfl rfl ?_
  have h5 := hok
  refine x_cVV (pc := 25) (as := [.ref (ad q0)]) (q := 48 + 16 * ix (bi B3 177 1)) C (c_X3_copyFrom C.2.2.2.2.2.2.2.1 (48 + 16 * ix (bi B3 177 1)) (by omega) q0 (by omega) B3 M O  h5) (fs := _) (e_L (by omega)) rfl cv_X3_copyFrom cd_X3_copyFrom wd_3_28 ⟨Nat.le_of_ble_eq_true rfl, Nat.le_of_ble_eq_true rfl⟩ ⟨Nat.le_of_ble_eq_true rfl, Nat.le_of_ble_eq_true rfl⟩ rfl rfl (Nat.le_of_ble_eq_true rfl) dX1_remember_25 ?_
  refine x_nmB (fun B6 eB6 => ?_)
  have hR := nmE hR eB6
  refine x_aload_n (pc := 28) (i := 0) C 0 dX1_remember_28 rfl rfl ?_
  refine x_aload_n (pc := 29) (i := 0) C 0 dX1_remember_29 rfl rfl ?_
  refine x_get (pc := 30) (q := 177) (i := 0) C e_H rfl ttX1 (by decide) wd_1_198 rfl dX1_remember_30 ?_
  refine x_iconst (pc := 33) (v := 1) C dX1_remember_33 (by decide) ?_
  refine x_iadd (pc := 34) C dX1_remember_34 ?_
  refine x_bipush (pc := 35) (v := 8) C dX1_remember_35 (by decide) ?_
  refine x_mmin (pc := 37) C wd_3_48 wd_3_49 wd_1_21 wd_3_50 ⟨Nat.le_of_ble_eq_true rfl, Nat.le_of_ble_eq_true rfl⟩ ⟨Nat.le_of_ble_eq_true rfl, Nat.le_of_ble_eq_true rfl⟩ dX1_remember_37 ?_
  refine x_put (pc := 40) (B2 := (sbi B6 177 0 (mn ((bi B6 177 0) + 1) 8))) (M2 := M) (O2 := O) (q := 177) (i := 0) C tyX1 tyX1_ok nmX1 e_H rfl ttX1 (by decide) wd_1_198 rfl rfl rfl (Nat.le_of_ble_eq_true rfl) dX1_remember_40 (put_H_0 ) (o_sbi 177 0 (mn ((bi B6 177 0) + 1) 8)) ?_
  refine x_nmB (fun B7 eB7 => ?_)
  have hR := nmE hR eB7
  exact x_vretB (pc := 43) C rfl hR dX1_remember_43
