set_option maxHeartbeats 4000000 in
set_option maxRecDepth 100000 in
theorem c_X7_deposit {l : Launch} {A : Nat → Prop} {G : GT} {ad : Nat → Nat} (gl : Gl l A ad)  (B : StB) (M : StM) (O : StO) (x0 : Int32) (x1 : Int32) (hok : ok_X7_deposit M x0 x1) : Met l yX7_deposit (wof yX7_deposit cX7_deposit 3 (some .int)) (rmd 5 0 0) (va_Pc [.ref (ad 193), .int x0, .int x1] (PW G A ad B M O)) (QI G A ad (f_X7_deposit M x0 x1).1 B (f_X7_deposit M x0 x1).2 O) 0 0 A := by
  refine x_body (own := RX7) (by decide +kernel) rfl gl (Nat.le_of_ble_eq_true rfl) (ls := [(0, .ref (ad 193)), (1, .int x0), (2, .int x1)]) rfl ?_
  intro p0 e s m args below meth c C
  have hR : (f_X7_deposit M x0 x1) = (nm (f_X7_begins M) (fun (M2 : StM) => (nm (f_X7_pays M2 x0 x1) (fun (z4 : Int32 × StM) => (nm (f_X7_ends z4.2 z4.1) (fun (z6 : Int32 × StM) => (z6.1, z6.2))))))) := rfl
  have hok : ((ok_X7_begins M) ∧ (∀ M2 : StM, M2 = (f_X7_begins M) → ((ok_X7_pays M2 x0 x1) ∧ (∀ z4 : Int32 × StM, z4 = (f_X7_pays M2 x0 x1) → ((ok_X7_ends z4.2 z4.1)))))) := hok
  refine x_aload_n (pc := 0) (i := 0) C 0 dX7_deposit_0 rfl rfl ?_
  have h1 := hok.1
  have hok := hok.2
  refine x_cVV (pc := 1) (as := []) (q := 193) C (c_X7_begins C.2.2.2.2.2.2.2.1  B M O  h1) (fs := _) e_M rfl cv_X7_begins cd_X7_begins wd_7_82 ⟨Nat.le_of_ble_eq_true rfl, Nat.le_of_ble_eq_true rfl⟩ ⟨Nat.le_of_ble_eq_true rfl, Nat.le_of_ble_eq_true rfl⟩ rfl rfl (Nat.le_of_ble_eq_true rfl) dX7_deposit_1 ?_
  refine x_nmM (fun M2 eM2 => ?_)
  have hR := nmE hR eM2
  have hok := hok M2 eM2
  refine x_aload_n (pc := 4) (i := 0) C 0 dX7_deposit_4 rfl rfl ?_
  refine x_aload_n (pc := 5) (i := 0) C 0 dX7_deposit_5 rfl rfl ?_
  refine x_iload_n (pc := 6) (i := 1) C 1 dX7_deposit_6 rfl rfl ?_
  refine x_iload_n (pc := 7) (i := 2) C 2 dX7_deposit_7 rfl rfl ?_
  have h3 := hok.1
  have hok := hok.2
  refine x_cIV (pc := 8) (as := [.int x0, .int x1]) (q := 193) C (c_X7_pays C.2.2.2.2.2.2.2.1  B M2 O x0 x1 h3) (fs := _) e_M rfl cv_X7_pays cd_X7_pays wd_7_108 ⟨Nat.le_of_ble_eq_true rfl, Nat.le_of_ble_eq_true rfl⟩ ⟨Nat.le_of_ble_eq_true rfl, Nat.le_of_ble_eq_true rfl⟩ rfl rfl (Nat.le_of_ble_eq_true rfl) dX7_deposit_8 ?_
  refine x_nmIM (fun z4 ez4 => ?_)
  have hR := nmE hR ez4
  have hok := hok z4 ez4
  have h5 := hok
  refine x_cIV (pc := 11) (as := [.int z4.1]) (q := 193) C (c_X7_ends C.2.2.2.2.2.2.2.1  B z4.2 O z4.1 h5) (fs := _) e_M rfl cv_X7_ends cd_X7_ends wd_7_96 ⟨Nat.le_of_ble_eq_true rfl, Nat.le_of_ble_eq_true rfl⟩ ⟨Nat.le_of_ble_eq_true rfl, Nat.le_of_ble_eq_true rfl⟩ rfl rfl (Nat.le_of_ble_eq_true rfl) dX7_deposit_11 ?_
  refine x_nmIM (fun z6 ez6 => ?_)
  have hR := nmE hR ez6
  exact x_iretM (pc := 14) C rfl hR dX7_deposit_14
set_option maxHeartbeats 4000000 in
set_option maxRecDepth 100000 in
theorem c_X7_withdraw {l : Launch} {A : Nat → Prop} {G : GT} {ad : Nat → Nat} (gl : Gl l A ad)  (B : StB) (M : StM) (O : StO) (x0 : Int32) (x1 : Int32) (hok : ok_X7_withdraw M x0 x1) : Met l yX7_withdraw (wof yX7_withdraw cX7_withdraw 3 (some .int)) (rmd 5 0 0) (va_Pc [.ref (ad 193), .int x0, .int x1] (PW G A ad B M O)) (QI G A ad (f_X7_withdraw M x0 x1).1 B (f_X7_withdraw M x0 x1).2 O) 0 0 A := by
  refine x_body (own := RX7) (by decide +kernel) rfl gl (Nat.le_of_ble_eq_true rfl) (ls := [(0, .ref (ad 193)), (1, .int x0), (2, .int x1)]) rfl ?_
  intro p0 e s m args below meth c C
  have hR : (f_X7_withdraw M x0 x1) = (nm (f_X7_begins M) (fun (M2 : StM) => (nm (f_X7_draws M2 x0 x1) (fun (z4 : Int32 × StM) => (nm (f_X7_ends z4.2 z4.1) (fun (z6 : Int32 × StM) => (z6.1, z6.2))))))) := rfl
  have hok : ((ok_X7_begins M) ∧ (∀ M2 : StM, M2 = (f_X7_begins M) → ((ok_X7_draws M2 x0 x1) ∧ (∀ z4 : Int32 × StM, z4 = (f_X7_draws M2 x0 x1) → ((ok_X7_ends z4.2 z4.1)))))) := hok
  refine x_aload_n (pc := 0) (i := 0) C 0 dX7_withdraw_0 rfl rfl ?_
  have h1 := hok.1
  have hok := hok.2
  refine x_cVV (pc := 1) (as := []) (q := 193) C (c_X7_begins C.2.2.2.2.2.2.2.1  B M O  h1) (fs := _) e_M rfl cv_X7_begins cd_X7_begins wd_7_82 ⟨Nat.le_of_ble_eq_true rfl, Nat.le_of_ble_eq_true rfl⟩ ⟨Nat.le_of_ble_eq_true rfl, Nat.le_of_ble_eq_true rfl⟩ rfl rfl (Nat.le_of_ble_eq_true rfl) dX7_withdraw_1 ?_
  refine x_nmM (fun M2 eM2 => ?_)
  have hR := nmE hR eM2
  have hok := hok M2 eM2
  refine x_aload_n (pc := 4) (i := 0) C 0 dX7_withdraw_4 rfl rfl ?_
  refine x_aload_n (pc := 5) (i := 0) C 0 dX7_withdraw_5 rfl rfl ?_
  refine x_iload_n (pc := 6) (i := 1) C 1 dX7_withdraw_6 rfl rfl ?_
  refine x_iload_n (pc := 7) (i := 2) C 2 dX7_withdraw_7 rfl rfl ?_
  have h3 := hok.1
  have hok := hok.2
  refine x_cIV (pc := 8) (as := [.int x0, .int x1]) (q := 193) C (c_X7_draws C.2.2.2.2.2.2.2.1  B M2 O x0 x1 h3) (fs := _) e_M rfl cv_X7_draws cd_X7_draws wd_7_136 ⟨Nat.le_of_ble_eq_true rfl, Nat.le_of_ble_eq_true rfl⟩ ⟨Nat.le_of_ble_eq_true rfl, Nat.le_of_ble_eq_true rfl⟩ rfl rfl (Nat.le_of_ble_eq_true rfl) dX7_withdraw_8 ?_
  refine x_nmIM (fun z4 ez4 => ?_)
  have hR := nmE hR ez4
  have hok := hok z4 ez4
  have h5 := hok
  refine x_cIV (pc := 11) (as := [.int z4.1]) (q := 193) C (c_X7_ends C.2.2.2.2.2.2.2.1  B z4.2 O z4.1 h5) (fs := _) e_M rfl cv_X7_ends cd_X7_ends wd_7_96 ⟨Nat.le_of_ble_eq_true rfl, Nat.le_of_ble_eq_true rfl⟩ ⟨Nat.le_of_ble_eq_true rfl, Nat.le_of_ble_eq_true rfl⟩ rfl rfl (Nat.le_of_ble_eq_true rfl) dX7_withdraw_11 ?_
  refine x_nmIM (fun z6 ez6 => ?_)
  have hR := nmE hR ez6
  exact x_iretM (pc := 14) C rfl hR dX7_withdraw_14
set_option maxHeartbeats 4000000 in
set_option maxRecDepth 100000 in
theorem c_X7_setLimit {l : Launch} {A : Nat → Prop} {G : GT} {ad : Nat → Nat} (gl : Gl l A ad)  (B : StB) (M : StM) (O : StO) (x0 : Int32) (x1 : Int32) (hok : ok_X7_setLimit M x0 x1) : Met l yX7_setLimit (wof yX7_setLimit cX7_setLimit 3 (some .int)) (rmd 5 0 0) (va_Pc [.ref (ad 193), .int x0, .int x1] (PW G A ad B M O)) (QI G A ad (f_X7_setLimit M x0 x1).1 B (f_X7_setLimit M x0 x1).2 O) 0 0 A := by
  refine x_body (own := RX7) (by decide +kernel) rfl gl (Nat.le_of_ble_eq_true rfl) (ls := [(0, .ref (ad 193)), (1, .int x0), (2, .int x1)]) rfl ?_
  intro p0 e s m args below meth c C
  have hR : (f_X7_setLimit M x0 x1) = (nm (f_X7_begins M) (fun (M2 : StM) => (nm (f_X7_limits M2 x0 x1) (fun (z4 : Int32 × StM) => (nm (f_X7_ends z4.2 z4.1) (fun (z6 : Int32 × StM) => (z6.1, z6.2))))))) := rfl
  have hok : ((ok_X7_begins M) ∧ (∀ M2 : StM, M2 = (f_X7_begins M) → ((ok_X7_limits M2 x0 x1) ∧ (∀ z4 : Int32 × StM, z4 = (f_X7_limits M2 x0 x1) → ((ok_X7_ends z4.2 z4.1)))))) := hok
  refine x_aload_n (pc := 0) (i := 0) C 0 dX7_setLimit_0 rfl rfl ?_
  have h1 := hok.1
  have hok := hok.2
  refine x_cVV (pc := 1) (as := []) (q := 193) C (c_X7_begins C.2.2.2.2.2.2.2.1  B M O  h1) (fs := _) e_M rfl cv_X7_begins cd_X7_begins wd_7_82 ⟨Nat.le_of_ble_eq_true rfl, Nat.le_of_ble_eq_true rfl⟩ ⟨Nat.le_of_ble_eq_true rfl, Nat.le_of_ble_eq_true rfl⟩ rfl rfl (Nat.le_of_ble_eq_true rfl) dX7_setLimit_1 ?_
  refine x_nmM (fun M2 eM2 => ?_)
  have hR := nmE hR eM2
  have hok := hok M2 eM2
  refine x_aload_n (pc := 4) (i := 0) C 0 dX7_setLimit_4 rfl rfl ?_
  refine x_aload_n (pc := 5) (i := 0) C 0 dX7_setLimit_5 rfl rfl ?_
  refine x_iload_n (pc := 6) (i := 1) C 1 dX7_setLimit_6 rfl rfl ?_
  refine x_iload_n (pc := 7) (i := 2) C 2 dX7_setLimit_7 rfl rfl ?_
  have h3 := hok.1
  have hok := hok.2
  refine x_cIV (pc := 8) (as := [.int x0, .int x1]) (q := 193) C (c_X7_limits C.2.2.2.2.2.2.2.1  B M2 O x0 x1 h3) (fs := _) e_M rfl cv_X7_limits cd_X7_limits wd_7_144 ⟨Nat.le_of_ble_eq_true rfl, Nat.le_of_ble_eq_true rfl⟩ ⟨Nat.le_of_ble_eq_true rfl, Nat.le_of_ble_eq_true rfl⟩ rfl rfl (Nat.le_of_ble_eq_true rfl) dX7_setLimit_8 ?_
  refine x_nmIM (fun z4 ez4 => ?_)
  have hR := nmE hR ez4
  have hok := hok z4 ez4
  have h5 := hok
  refine x_cIV (pc := 11) (as := [.int z4.1]) (q := 193) C (c_X7_ends C.2.2.2.2.2.2.2.1  B z4.2 O z4.1 h5) (fs := _) e_M rfl cv_X7_ends cd_X7_ends wd_7_96 ⟨Nat.le_of_ble_eq_true rfl, Nat.le_of_ble_eq_true rfl⟩ ⟨Nat.le_of_ble_eq_true rfl, Nat.le_of_ble_eq_true rfl⟩ rfl rfl (Nat.le_of_ble_eq_true rfl) dX7_setLimit_11 ?_
  refine x_nmIM (fun z6 ez6 => ?_)
  have hR := nmE hR ez6
  exact x_iretM (pc := 14) C rfl hR dX7_setLimit_14
set_option maxHeartbeats 4000000 in
set_option maxRecDepth 100000 in
theorem t_X7_isMoved_J145 {p0 : Program} {l : Launch} {e : Env} {s : State} {m : MethodId} {args : Array Value} {below : List Frame} {meth : Method} {c : Code} {A : Nat → Prop} {G : GT} {ad : Nat → Nat} (C : CX p0 l s m args meth c A G ad cX7_isMoved RX7 6 (some .boolean))  (M : StM) (a4 : Int32) (B : StB) (O : StO) (R0 : Int32 × StM) (hR : R0 = f_X7_isMoved_J145 M a4) (hok : ok_X7_isMoved_J145 M a4) : X p0 l e (rmd 5 0 0) s m args below meth c A G ad 6 0 0 (MQ below (QI G A ad R0.1 B R0.2 O) args s 0 0 A) B M O [(4, .int a4)] 145 [.ref (ad 193)] := by
  have hR : R0 = (nm (smi M 10 1) (fun (M19 : StM) => (a4, M19))) := hR
  have hok : (∀ M19 : StM, M19 = (smi M 10 1) → (narrow .boolean (.int a4) = .int a4)) := hok
  refine x_iconst (pc := 145) (v := 1) C dX7_isMoved_145 (by decide) ?_
  refine x_goto (pc := 146) (tgt := 150) C dX7_isMoved_146 (by decide) ?_
  refine x_put (pc := 150) (M2 := (smi M 10 1)) (B2 := B) (O2 := O) (q := 193) (i := 10) C tyX7 tyX7_ok nmX7 e_M rfl ttX7 (by decide) wd_6_237 rfl (by decide) (by decide) (Nat.le_of_ble_eq_true rfl) dX7_isMoved_150 (put_M_10 ) (o_smi 10 1) ?_
  refine x_nmM (fun M19 eM19 => ?_)
  have hR := nmE hR eM19
  have hok := hok M19 eM19
  refine x_iload (pc := 153) (i := 4) C 0 dX7_isMoved_153 rfl ?_
  have h20 := hok
  exact x_zretM (pc := 155) C rfl h20 hR dX7_isMoved_155
set_option maxHeartbeats 4000000 in
set_option maxRecDepth 100000 in
theorem t_X7_isMoved_J37 {p0 : Program} {l : Launch} {e : Env} {s : State} {m : MethodId} {args : Array Value} {below : List Frame} {meth : Method} {c : Code} {A : Nat → Prop} {G : GT} {ad : Nat → Nat} (C : CX p0 l s m args meth c A G ad cX7_isMoved RX7 6 (some .boolean))  (M : StM) (a1 : Int32) (a2 : Int32) (a3 : Int32) (s0 : Int32) (B : StB) (O : StO) (R0 : Int32 × StM) (hR : R0 = f_X7_isMoved_J37 M a1 a2 a3 s0) (hok : ok_X7_isMoved_J37 M a1 a2 a3 s0) : X p0 l e (rmd 5 0 0) s m args below meth c A G ad 6 0 0 (MQ below (QI G A ad R0.1 B R0.2 O) args s 0 0 A) B M O [(0, .ref (ad 193)), (1, .int a1), (2, .int a2), (3, .int a3)] 37 [.int s0] := by
  have hR : R0 = (if s0 = 0 then (nm (f_X7_atMost M a2 3) (fun (r12 : Int32) => (nm (f_X7_gives M a2 102 r12) (fun (M14 : StM) => (nm (sma M14 0 (ix 10) ((ma M14 0 (ix 10)) + 1)) (fun (M17 : StM) => (if (mi M17 10) = 0 then (nm (f_X7_ofPlace M17 a1 0) (fun (r22 : Int32) => (if r22 = (mi M17 9) then (f_X7_isMoved_J145 M17 s0) else (nm (smi M17 10 0) (fun (M24 : StM) => (s0, M24)))))) else (f_X7_isMoved_J145 M17 s0)))))))) else (nm (f_X7_changes M a2 (-a3)) (fun (M27 : StM) => (nm (f_X7_ofPlace M27 a1 2) (fun (r29 : Int32) => (nm (f_X7_changes M27 r29 a3) (fun (M31 : StM) => (nm (f_X7_accountAt a2) (fun (r32 : Int32) => (nm (sma M31 0 (ix (r32 + 3)) 1) (fun (M34 : StM) => (nm (sma M34 0 (ix 7) ((ma M34 0 (ix 7)) + a3)) (fun (M37 : StM) => (nm (f_X7_writes M37 116 a3 a2) (fun (M39 : StM) => (s0, M39)))))))))))))))) := hR
  have hok : ((s0 = 0 → ((ok_X7_atMost M a2 3) ∧ (∀ r12 : Int32, r12 = (f_X7_atMost M a2 3) → ((ok_X7_gives M a2 102 r12) ∧ (∀ M14 : StM, M14 = (f_X7_gives M a2 102 r12) → (∀ M17 : StM, M17 = (sma M14 0 (ix 10) ((ma M14 0 (ix 10)) + 1)) → (((mi M17 10) = 0 → ((ok_X7_ofPlace M17 a1 0) ∧ (∀ r22 : Int32, r22 = (f_X7_ofPlace M17 a1 0) → ((r22 = (mi M17 9) → (ok_X7_isMoved_J145 M17 s0)) ∧ (¬ r22 = (mi M17 9) → (∀ M24 : StM, M24 = (smi M17 10 0) → (narrow .boolean (.int s0) = .int s0))))))) ∧ (¬ (mi M17 10) = 0 → (ok_X7_isMoved_J145 M17 s0))))))))) ∧ (¬ s0 = 0 → ((ok_X7_changes M a2 (-a3)) ∧ (∀ M27 : StM, M27 = (f_X7_changes M a2 (-a3)) → ((ok_X7_ofPlace M27 a1 2) ∧ (∀ r29 : Int32, r29 = (f_X7_ofPlace M27 a1 2) → ((ok_X7_changes M27 r29 a3) ∧ (∀ M31 : StM, M31 = (f_X7_changes M27 r29 a3) → (∀ r32 : Int32, r32 = (f_X7_accountAt a2) → (vp_in (r32 + 3) 124 ∧ (∀ M34 : StM, M34 = (sma M31 0 (ix (r32 + 3)) 1) → (∀ M37 : StM, M37 = (sma M34 0 (ix 7) ((ma M34 0 (ix 7)) + a3)) → ((ok_X7_writes M37 116 a3 a2) ∧ (∀ M39 : StM, M39 = (f_X7_writes M37 116 a3 a2) → (narrow .boolean (.int s0) = .int s0))))))))))))))) := hok
  refine x_istore (pc := 37) (i := 4) (ls2 := [(4, .int s0), (0, .ref (ad 193)), (1, .int a1), (2, .int a2), (3, .int a3)]) C dX7_isMoved_37 (by decide) rfl ?_
  refine x_iload (pc := 39) (i := 4) C 0 dX7_isMoved_39 rfl ?_
  refine x_if_eq (pc := 41) (tgt := 96) C dX7_isMoved_41 (by decide) (fun c10 => ?_) (fun c10 => ?_)
  · have hR := hR.trans (if_pos c10)
    have hok := hok.1 c10
    refine x_aload_n (pc := 96) (i := 0) C 1 dX7_isMoved_96 rfl rfl ?_
    refine x_iload_n (pc := 97) (i := 2) C 3 dX7_isMoved_97 rfl rfl ?_
    refine x_iconst (pc := 98) (v := 3) C dX7_isMoved_98 (by decide) ?_
    have h11 := hok.1
    have hok := hok.2
    refine x_cIV (pc := 99) (as := [.int a2, .int 3]) (q := 193) C (c_X7_atMost C.2.2.2.2.2.2.2.1  B M O a2 3 h11) (fs := _) e_M rfl cv_X7_atMost cd_X7_atMost wd_7_192 ⟨Nat.le_of_ble_eq_true rfl, Nat.le_of_ble_eq_true rfl⟩ ⟨Nat.le_of_ble_eq_true rfl, Nat.le_of_ble_eq_true rfl⟩ rfl rfl (Nat.le_of_ble_eq_true rfl) dX7_isMoved_99 ?_
    refine x_nmI (fun r12 er12 => ?_)
    have hR := nmE hR er12
    have hok := hok r12 er12
    refine x_istore (pc := 102) (i := 5) (ls2 := [(5, .int r12), (4, .int s0), (0, .ref (ad 193)), (1, .int a1), (2, .int a2), (3, .int a3)]) C dX7_isMoved_102 (by decide) rfl ?_
    refine x_aload_n (pc := 104) (i := 0) C 2 dX7_isMoved_104 rfl rfl ?_
    refine x_iload_n (pc := 105) (i := 2) C 4 dX7_isMoved_105 rfl rfl ?_
    refine x_bipush (pc := 106) (v := 102) C dX7_isMoved_106 (by decide) ?_
    refine x_iload (pc := 108) (i := 5) C 0 dX7_isMoved_108 rfl ?_
    have h13 := hok.1
    have hok := hok.2
    refine x_cVV (pc := 110) (as := [.int a2, .int 102, .int r12]) (q := 193) C (c_X7_gives C.2.2.2.2.2.2.2.1  B M O a2 102 r12 h13) (fs := _) e_M rfl cv_X7_gives cd_X7_gives wd_7_196 ⟨Nat.le_of_ble_eq_true rfl, Nat.le_of_ble_eq_true rfl⟩ ⟨Nat.le_of_ble_eq_true rfl, Nat.le_of_ble_eq_true rfl⟩ rfl rfl (Nat.le_of_ble_eq_true rfl) dX7_isMoved_110 ?_
    refine x_nmM (fun M14 eM14 => ?_)
    have hR := nmE hR eM14
    have hok := hok M14 eM14
    refine x_aload_n (pc := 113) (i := 0) C 2 dX7_isMoved_113 rfl rfl ?_
    refine x_get (pc := 114) (q := 193) (i := 0) C e_M rfl ttX7 (by decide) wd_6_227 rfl dX7_isMoved_114 ?_
    refine x_bipush (pc := 117) (v := 10) C dX7_isMoved_117 (by decide) ?_
    refine x_dup2 (pc := 119) C dX7_isMoved_119 rfl rfl ?_
    have h15 : vp_in (10) 124 := (by decide : ¬ ((10 : Int32) < 0 ∨ 124 ≤ Int32.toNatClampNeg 10))
    refine x_iald (pc := 120) (q := 194) C e_M0 h15 dX7_isMoved_120 ?_
    refine x_iconst (pc := 121) (v := 1) C dX7_isMoved_121 (by decide) ?_
    refine x_iadd (pc := 122) C dX7_isMoved_122 ?_
    have h16 : vp_in (10) 124 := (by decide : ¬ ((10 : Int32) < 0 ∨ 124 ≤ Int32.toNatClampNeg 10))
    refine x_iastM (pc := 123) (j := 0) (q := 194) C rfl (by decide) e_M0 e_M0.2 h16 dX7_isMoved_123 ?_
    refine x_nmM (fun M17 eM17 => ?_)
    have hR := nmE hR eM17
    have hok := hok M17 eM17
    refine x_aload_n (pc := 124) (i := 0) C 2 dX7_isMoved_124 rfl rfl ?_
    refine x_aload_n (pc := 125) (i := 0) C 2 dX7_isMoved_125 rfl rfl ?_
    refine x_get (pc := 126) (q := 193) (i := 10) C e_M rfl ttX7 (by decide) wd_6_237 rfl dX7_isMoved_126 ?_
    refine x_if_ne (pc := 129) (tgt := 145) C dX7_isMoved_129 (by decide) (fun c18 => ?_) (fun c18 => ?_)
    · have hR := hR.trans (if_neg c18)
      have hok := hok.2 c18
      refine x_sub [1] (ls2 := [(4, .int s0)]) rfl ?_
      exact t_X7_isMoved_J145 C M17 s0 B O _ hR hok
    · have hR := hR.trans (if_pos c18)
      have hok := hok.1 c18
      refine x_aload_n (pc := 132) (i := 0) C 2 dX7_isMoved_132 rfl rfl ?_
      refine x_iload_n (pc := 133) (i := 1) C 3 dX7_isMoved_133 rfl rfl ?_
      refine x_iconst (pc := 134) (v := 0) C dX7_isMoved_134 (by decide) ?_
      have h21 := hok.1
      have hok := hok.2
      refine x_cIV (pc := 135) (as := [.int a1, .int 0]) (q := 193) C (c_X7_ofPlace C.2.2.2.2.2.2.2.1  B M17 O a1 0 h21) (fs := _) e_M rfl cv_X7_ofPlace cd_X7_ofPlace wd_7_168 ⟨Nat.le_of_ble_eq_true rfl, Nat.le_of_ble_eq_true rfl⟩ ⟨Nat.le_of_ble_eq_true rfl, Nat.le_of_ble_eq_true rfl⟩ rfl rfl (Nat.le_of_ble_eq_true rfl) dX7_isMoved_135 ?_
      refine x_nmI (fun r22 er22 => ?_)
      have hR := nmE hR er22
      have hok := hok r22 er22
      refine x_aload_n (pc := 138) (i := 0) C 2 dX7_isMoved_138 rfl rfl ?_
      refine x_get (pc := 139) (q := 193) (i := 9) C e_M rfl ttX7 (by decide) wd_6_236 rfl dX7_isMoved_139 ?_
      refine x_icmp_ne (pc := 142) (tgt := 149) C dX7_isMoved_142 (by decide) (fun c23 => ?_) (fun c23 => ?_)
      · have hR := hR.trans (if_neg c23)
        have hok := hok.2 c23
        refine x_iconst (pc := 149) (v := 0) C dX7_isMoved_149 (by decide) ?_
        refine x_put (pc := 150) (M2 := (smi M17 10 0)) (B2 := B) (O2 := O) (q := 193) (i := 10) C tyX7 tyX7_ok nmX7 e_M rfl ttX7 (by decide) wd_6_237 rfl (by decide) (by decide) (Nat.le_of_ble_eq_true rfl) dX7_isMoved_150 (put_M_10 ) (o_smi 10 0) ?_
        refine x_nmM (fun M24 eM24 => ?_)
        have hR := nmE hR eM24
        have hok := hok M24 eM24
        refine x_iload (pc := 153) (i := 4) C 1 dX7_isMoved_153 rfl ?_
        have h25 := hok
        exact x_zretM (pc := 155) C rfl h25 hR dX7_isMoved_155
      · have hR := hR.trans (if_pos c23)
        have hok := hok.1 c23
        refine x_sub [1] (ls2 := [(4, .int s0)]) rfl ?_
        exact t_X7_isMoved_J145 C M17 s0 B O _ hR hok
  · have hR := hR.trans (if_neg c10)
    have hok := hok.2 c10
    refine x_aload_n (pc := 44) (i := 0) C 1 dX7_isMoved_44 rfl rfl ?_
    refine x_iload_n (pc := 45) (i := 2) C 3 dX7_isMoved_45 rfl rfl ?_
    refine x_iload_n (pc := 46) (i := 3) C 4 dX7_isMoved_46 rfl rfl ?_
    refine x_ineg (pc := 47) C dX7_isMoved_47 ?_
    have h26 := hok.1
    have hok := hok.2
    refine x_cVV (pc := 48) (as := [.int a2, .int (-a3)]) (q := 193) C (c_X7_changes C.2.2.2.2.2.2.2.1  B M O a2 (-a3) h26) (fs := _) e_M rfl cv_X7_changes cd_X7_changes wd_7_123 ⟨Nat.le_of_ble_eq_true rfl, Nat.le_of_ble_eq_true rfl⟩ ⟨Nat.le_of_ble_eq_true rfl, Nat.le_of_ble_eq_true rfl⟩ rfl rfl (Nat.le_of_ble_eq_true rfl) dX7_isMoved_48 ?_
    refine x_nmM (fun M27 eM27 => ?_)
    have hR := nmE hR eM27
    have hok := hok M27 eM27
    refine x_aload_n (pc := 51) (i := 0) C 1 dX7_isMoved_51 rfl rfl ?_
    refine x_aload_n (pc := 52) (i := 0) C 1 dX7_isMoved_52 rfl rfl ?_
    refine x_iload_n (pc := 53) (i := 1) C 2 dX7_isMoved_53 rfl rfl ?_
    refine x_iconst (pc := 54) (v := 2) C dX7_isMoved_54 (by decide) ?_
    have h28 := hok.1
    have hok := hok.2
    refine x_cIV (pc := 55) (as := [.int a1, .int 2]) (q := 193) C (c_X7_ofPlace C.2.2.2.2.2.2.2.1  B M27 O a1 2 h28) (fs := _) e_M rfl cv_X7_ofPlace cd_X7_ofPlace wd_7_168 ⟨Nat.le_of_ble_eq_true rfl, Nat.le_of_ble_eq_true rfl⟩ ⟨Nat.le_of_ble_eq_true rfl, Nat.le_of_ble_eq_true rfl⟩ rfl rfl (Nat.le_of_ble_eq_true rfl) dX7_isMoved_55 ?_
    refine x_nmI (fun r29 er29 => ?_)
    have hR := nmE hR er29
    have hok := hok r29 er29
    refine x_iload_n (pc := 58) (i := 3) C 4 dX7_isMoved_58 rfl rfl ?_
    have h30 := hok.1
    have hok := hok.2
    refine x_cVV (pc := 59) (as := [.int r29, .int a3]) (q := 193) C (c_X7_changes C.2.2.2.2.2.2.2.1  B M27 O r29 a3 h30) (fs := _) e_M rfl cv_X7_changes cd_X7_changes wd_7_123 ⟨Nat.le_of_ble_eq_true rfl, Nat.le_of_ble_eq_true rfl⟩ ⟨Nat.le_of_ble_eq_true rfl, Nat.le_of_ble_eq_true rfl⟩ rfl rfl (Nat.le_of_ble_eq_true rfl) dX7_isMoved_59 ?_
    refine x_nmM (fun M31 eM31 => ?_)
    have hR := nmE hR eM31
    have hok := hok M31 eM31
    refine x_aload_n (pc := 62) (i := 0) C 1 dX7_isMoved_62 rfl rfl ?_
    refine x_get (pc := 63) (q := 193) (i := 0) C e_M rfl ttX7 (by decide) wd_6_227 rfl dX7_isMoved_63 ?_
    refine x_iload_n (pc := 66) (i := 2) C 3 dX7_isMoved_66 rfl rfl ?_
    refine x_cIS (pc := 67) (as := [.int a2]) C (c_X7_accountAt C.2.2.2.2.2.2.2.1  B M31 O a2) wd_7_94 cd_X7_accountAt wd_7_93 ⟨Nat.le_of_ble_eq_true rfl, Nat.le_of_ble_eq_true rfl⟩ ⟨Nat.le_of_ble_eq_true rfl, Nat.le_of_ble_eq_true rfl⟩ rfl rfl (Nat.le_of_ble_eq_true rfl) dX7_isMoved_67 ?_
    refine x_nmI (fun r32 er32 => ?_)
    have hR := nmE hR er32
    have hok := hok r32 er32
    refine x_iconst (pc := 70) (v := 3) C dX7_isMoved_70 (by decide) ?_
    refine x_iadd (pc := 71) C dX7_isMoved_71 ?_
    refine x_iconst (pc := 72) (v := 1) C dX7_isMoved_72 (by decide) ?_
    have h33 := hok.1
    have hok := hok.2
    refine x_iastM (pc := 73) (j := 0) (q := 194) C rfl (by decide) e_M0 e_M0.2 h33 dX7_isMoved_73 ?_
    refine x_nmM (fun M34 eM34 => ?_)
    have hR := nmE hR eM34
    have hok := hok M34 eM34
    refine x_aload_n (pc := 74) (i := 0) C 1 dX7_isMoved_74 rfl rfl ?_
    refine x_get (pc := 75) (q := 193) (i := 0) C e_M rfl ttX7 (by decide) wd_6_227 rfl dX7_isMoved_75 ?_
    refine x_bipush (pc := 78) (v := 7) C dX7_isMoved_78 (by decide) ?_
    refine x_dup2 (pc := 80) C dX7_isMoved_80 rfl rfl ?_
    have h35 : vp_in (7) 124 := (by decide : ¬ ((7 : Int32) < 0 ∨ 124 ≤ Int32.toNatClampNeg 7))
    refine x_iald (pc := 81) (q := 194) C e_M0 h35 dX7_isMoved_81 ?_
    refine x_iload_n (pc := 82) (i := 3) C 4 dX7_isMoved_82 rfl rfl ?_
    refine x_iadd (pc := 83) C dX7_isMoved_83 ?_
    have h36 : vp_in (7) 124 := (by decide : ¬ ((7 : Int32) < 0 ∨ 124 ≤ Int32.toNatClampNeg 7))
    refine x_iastM (pc := 84) (j := 0) (q := 194) C rfl (by decide) e_M0 e_M0.2 h36 dX7_isMoved_84 ?_
    refine x_nmM (fun M37 eM37 => ?_)
    have hR := nmE hR eM37
    have hok := hok M37 eM37
    refine x_aload_n (pc := 85) (i := 0) C 1 dX7_isMoved_85 rfl rfl ?_
    refine x_bipush (pc := 86) (v := 116) C dX7_isMoved_86 (by decide) ?_
    refine x_iload_n (pc := 88) (i := 3) C 4 dX7_isMoved_88 rfl rfl ?_
    refine x_iload_n (pc := 89) (i := 2) C 3 dX7_isMoved_89 rfl rfl ?_
    have h38 := hok.1
    have hok := hok.2
    refine x_cVV (pc := 90) (as := [.int 116, .int a3, .int a2]) (q := 193) C (c_X7_writes C.2.2.2.2.2.2.2.1  B M37 O 116 a3 a2 h38) (fs := _) e_M rfl cv_X7_writes cd_X7_writes wd_7_127 ⟨Nat.le_of_ble_eq_true rfl, Nat.le_of_ble_eq_true rfl⟩ ⟨Nat.le_of_ble_eq_true rfl, Nat.le_of_ble_eq_true rfl⟩ rfl rfl (Nat.le_of_ble_eq_true rfl) dX7_isMoved_90 ?_
    refine x_nmM (fun M39 eM39 => ?_)
    have hR := nmE hR eM39
    have hok := hok M39 eM39
    refine x_goto (pc := 93) (tgt := 153) C dX7_isMoved_93 (by decide) ?_
    refine x_iload (pc := 153) (i := 4) C 0 dX7_isMoved_153 rfl ?_
    have h40 := hok
    exact x_zretM (pc := 155) C rfl h40 hR dX7_isMoved_155
set_option maxHeartbeats 4000000 in
set_option maxRecDepth 100000 in
theorem c_X7_isMoved {l : Launch} {A : Nat → Prop} {G : GT} {ad : Nat → Nat} (gl : Gl l A ad)  (B : StB) (M : StM) (O : StO) (x0 : Int32) (hok : ok_X7_isMoved M x0) : Met l yX7_isMoved (wof yX7_isMoved cX7_isMoved 6 (some .boolean)) (rmd 5 0 0) (va_Pc [.ref (ad 193), .int x0] (PW G A ad B M O)) (QI G A ad (f_X7_isMoved M x0).1 B (f_X7_isMoved M x0).2 O) 0 0 A := by
  refine x_body (own := RX7) (by decide +kernel) rfl gl (Nat.le_of_ble_eq_true rfl) (ls := [(0, .ref (ad 193)), (1, .int x0)]) rfl ?_
  intro p0 e s m args below meth c C
  have hR : (f_X7_isMoved M x0) = (nm (f_X7_ofPlace M x0 1) (fun (r2 : Int32) => (nm (f_X7_ofPlace M x0 3) (fun (r4 : Int32) => (nm (f_X7_of M r2 1) (fun (r6 : Int32) => (nm (f_X7_of M r2 2) (fun (r8 : Int32) => (if (r6 - r4) < (-r8) then (f_X7_isMoved_J37 M x0 r2 r4 0) else (f_X7_isMoved_J37 M x0 r2 r4 1)))))))))) := rfl
  have hok : ((ok_X7_ofPlace M x0 1) ∧ (∀ r2 : Int32, r2 = (f_X7_ofPlace M x0 1) → ((ok_X7_ofPlace M x0 3) ∧ (∀ r4 : Int32, r4 = (f_X7_ofPlace M x0 3) → ((ok_X7_of M r2 1) ∧ (∀ r6 : Int32, r6 = (f_X7_of M r2 1) → ((ok_X7_of M r2 2) ∧ (∀ r8 : Int32, r8 = (f_X7_of M r2 2) → (((r6 - r4) < (-r8) → (ok_X7_isMoved_J37 M x0 r2 r4 0)) ∧ (¬ (r6 - r4) < (-r8) → (ok_X7_isMoved_J37 M x0 r2 r4 1))))))))))) := hok
  refine x_aload_n (pc := 0) (i := 0) C 0 dX7_isMoved_0 rfl rfl ?_
  refine x_iload_n (pc := 1) (i := 1) C 1 dX7_isMoved_1 rfl rfl ?_
  refine x_iconst (pc := 2) (v := 1) C dX7_isMoved_2 (by decide) ?_
  have h1 := hok.1
  have hok := hok.2
  refine x_cIV (pc := 3) (as := [.int x0, .int 1]) (q := 193) C (c_X7_ofPlace C.2.2.2.2.2.2.2.1  B M O x0 1 h1) (fs := _) e_M rfl cv_X7_ofPlace cd_X7_ofPlace wd_7_168 ⟨Nat.le_of_ble_eq_true rfl, Nat.le_of_ble_eq_true rfl⟩ ⟨Nat.le_of_ble_eq_true rfl, Nat.le_of_ble_eq_true rfl⟩ rfl rfl (Nat.le_of_ble_eq_true rfl) dX7_isMoved_3 ?_
  refine x_nmI (fun r2 er2 => ?_)
  have hR := nmE hR er2
  have hok := hok r2 er2
  refine x_istore_n (pc := 6) (i := 2) (ls2 := [(2, .int r2), (0, .ref (ad 193)), (1, .int x0)]) C dX7_isMoved_6 rfl (by decide) rfl ?_
  refine x_aload_n (pc := 7) (i := 0) C 1 dX7_isMoved_7 rfl rfl ?_
  refine x_iload_n (pc := 8) (i := 1) C 2 dX7_isMoved_8 rfl rfl ?_
  refine x_iconst (pc := 9) (v := 3) C dX7_isMoved_9 (by decide) ?_
  have h3 := hok.1
  have hok := hok.2
  refine x_cIV (pc := 10) (as := [.int x0, .int 3]) (q := 193) C (c_X7_ofPlace C.2.2.2.2.2.2.2.1  B M O x0 3 h3) (fs := _) e_M rfl cv_X7_ofPlace cd_X7_ofPlace wd_7_168 ⟨Nat.le_of_ble_eq_true rfl, Nat.le_of_ble_eq_true rfl⟩ ⟨Nat.le_of_ble_eq_true rfl, Nat.le_of_ble_eq_true rfl⟩ rfl rfl (Nat.le_of_ble_eq_true rfl) dX7_isMoved_10 ?_
  refine x_nmI (fun r4 er4 => ?_)
  have hR := nmE hR er4
  have hok := hok r4 er4
  refine x_istore_n (pc := 13) (i := 3) (ls2 := [(3, .int r4), (2, .int r2), (0, .ref (ad 193)), (1, .int x0)]) C dX7_isMoved_13 rfl (by decide) rfl ?_
  refine x_aload_n (pc := 14) (i := 0) C 2 dX7_isMoved_14 rfl rfl ?_
  refine x_iload_n (pc := 15) (i := 2) C 1 dX7_isMoved_15 rfl rfl ?_
  refine x_iconst (pc := 16) (v := 1) C dX7_isMoved_16 (by decide) ?_
  have h5 := hok.1
  have hok := hok.2
  refine x_cIV (pc := 17) (as := [.int r2, .int 1]) (q := 193) C (c_X7_of C.2.2.2.2.2.2.2.1  B M O r2 1 h5) (fs := _) e_M rfl cv_X7_of cd_X7_of wd_7_119 ⟨Nat.le_of_ble_eq_true rfl, Nat.le_of_ble_eq_true rfl⟩ ⟨Nat.le_of_ble_eq_true rfl, Nat.le_of_ble_eq_true rfl⟩ rfl rfl (Nat.le_of_ble_eq_true rfl) dX7_isMoved_17 ?_
  refine x_nmI (fun r6 er6 => ?_)
  have hR := nmE hR er6
  have hok := hok r6 er6
  refine x_iload_n (pc := 20) (i := 3) C 0 dX7_isMoved_20 rfl rfl ?_
  refine x_isub (pc := 21) C dX7_isMoved_21 ?_
  refine x_aload_n (pc := 22) (i := 0) C 2 dX7_isMoved_22 rfl rfl ?_
  refine x_iload_n (pc := 23) (i := 2) C 1 dX7_isMoved_23 rfl rfl ?_
  refine x_iconst (pc := 24) (v := 2) C dX7_isMoved_24 (by decide) ?_
  have h7 := hok.1
  have hok := hok.2
  refine x_cIV (pc := 25) (as := [.int r2, .int 2]) (q := 193) C (c_X7_of C.2.2.2.2.2.2.2.1  B M O r2 2 h7) (fs := _) e_M rfl cv_X7_of cd_X7_of wd_7_119 ⟨Nat.le_of_ble_eq_true rfl, Nat.le_of_ble_eq_true rfl⟩ ⟨Nat.le_of_ble_eq_true rfl, Nat.le_of_ble_eq_true rfl⟩ rfl rfl (Nat.le_of_ble_eq_true rfl) dX7_isMoved_25 ?_
  refine x_nmI (fun r8 er8 => ?_)
  have hR := nmE hR er8
  have hok := hok r8 er8
  refine x_ineg (pc := 28) C dX7_isMoved_28 ?_
  refine x_icmp_lt (pc := 29) (tgt := 36) C dX7_isMoved_29 (by decide) (fun c9 => ?_) (fun c9 => ?_)
  · have hR := hR.trans (if_pos c9)
    have hok := hok.1 c9
    refine x_iconst (pc := 36) (v := 0) C dX7_isMoved_36 (by decide) ?_
    refine x_sub [2, 3, 1, 0] (ls2 := [(0, .ref (ad 193)), (1, .int x0), (2, .int r2), (3, .int r4)]) rfl ?_
    exact t_X7_isMoved_J37 C M x0 r2 r4 0 B O _ hR hok
  · have hR := hR.trans (if_neg c9)
    have hok := hok.2 c9
    refine x_iconst (pc := 32) (v := 1) C dX7_isMoved_32 (by decide) ?_
    refine x_goto (pc := 33) (tgt := 37) C dX7_isMoved_33 (by decide) ?_
    refine x_sub [2, 3, 1, 0] (ls2 := [(0, .ref (ad 193)), (1, .int x0), (2, .int r2), (3, .int r4)]) rfl ?_
    exact t_X7_isMoved_J37 C M x0 r2 r4 1 B O _ hR hok
set_option maxHeartbeats 4000000 in
set_option maxRecDepth 100000 in
theorem c_X7_earns {l : Launch} {A : Nat → Prop} {G : GT} {ad : Nat → Nat} (gl : Gl l A ad)  (B : StB) (M : StM) (O : StO) (x0 : Int32) (hok : ok_X7_earns M x0) : Met l yX7_earns (wof yX7_earns cX7_earns 4 (some .int)) (rmd 5 0 0) (va_Pc [.ref (ad 193), .int x0] (PW G A ad B M O)) (QI G A ad (f_X7_earns M x0) B M O) 0 0 A := by
  refine x_body (own := RX7) (by decide +kernel) rfl gl (Nat.le_of_ble_eq_true rfl) (ls := [(0, .ref (ad 193)), (1, .int x0)]) rfl ?_
  intro p0 e s m args below meth c C
  have hR : (f_X7_earns M x0) = (nm (f_X7_of M x0 1) (fun (r2 : Int32) => (nm ((mn r2 9999) / 100) (fun (v3 : Int32) => (nm (f_X7_of M x0 0) (fun (r5 : Int32) => (if r5 = 0 then (if r2 < 0 then (nm (f_X7_atMost M x0 (mx 1 (2 * ((-r2) / 50)))) (fun (r8 : Int32) => (-r8))) else v3) else (if r5 = 1 then (mn 30 (3 * v3)) else (if r5 = 2 then (if r2 < 0 then (nm (f_X7_atMost M x0 5) (fun (r11 : Int32) => (-r11))) else 0) else (nm (f_X7_of M x0 3) (fun (r13 : Int32) => (if r13 = 1 then 0 else (5 * v3))))))))))))) := rfl
  have hok : ((ok_X7_of M x0 1) ∧ (∀ r2 : Int32, r2 = (f_X7_of M x0 1) → (∀ v3 : Int32, v3 = ((mn r2 9999) / 100) → ((ok_X7_of M x0 0) ∧ (∀ r5 : Int32, r5 = (f_X7_of M x0 0) → ((r5 = 0 → ((r2 < 0 → ((ok_X7_atMost M x0 (mx 1 (2 * ((-r2) / 50)))))) ∧ (¬ r2 < 0 → True))) ∧ (¬ r5 = 0 → ((r5 = 1 → True) ∧ (¬ r5 = 1 → ((r5 = 2 → ((r2 < 0 → ((ok_X7_atMost M x0 5))) ∧ (¬ r2 < 0 → True))) ∧ (¬ r5 = 2 → ((ok_X7_of M x0 3))))))))))))) := hok
  refine x_aload_n (pc := 0) (i := 0) C 0 dX7_earns_0 rfl rfl ?_
  refine x_iload_n (pc := 1) (i := 1) C 1 dX7_earns_1 rfl rfl ?_
  refine x_iconst (pc := 2) (v := 1) C dX7_earns_2 (by decide) ?_
  have h1 := hok.1
  have hok := hok.2
  refine x_cIV (pc := 3) (as := [.int x0, .int 1]) (q := 193) C (c_X7_of C.2.2.2.2.2.2.2.1  B M O x0 1 h1) (fs := _) e_M rfl cv_X7_of cd_X7_of wd_7_119 ⟨Nat.le_of_ble_eq_true rfl, Nat.le_of_ble_eq_true rfl⟩ ⟨Nat.le_of_ble_eq_true rfl, Nat.le_of_ble_eq_true rfl⟩ rfl rfl (Nat.le_of_ble_eq_true rfl) dX7_earns_3 ?_
  refine x_nmI (fun r2 er2 => ?_)
  have hR := nmE hR er2
  have hok := hok r2 er2
  refine x_istore_n (pc := 6) (i := 2) (ls2 := [(2, .int r2), (0, .ref (ad 193)), (1, .int x0)]) C dX7_earns_6 rfl (by decide) rfl ?_
  refine x_iload_n (pc := 7) (i := 2) C 0 dX7_earns_7 rfl rfl ?_
  refine x_sipush (pc := 8) (v := 9999) C dX7_earns_8 (by decide) ?_
  refine x_mmin (pc := 11) C wd_7_131 wd_3_52 wd_1_21 wd_3_53 ⟨Nat.le_of_ble_eq_true rfl, Nat.le_of_ble_eq_true rfl⟩ ⟨Nat.le_of_ble_eq_true rfl, Nat.le_of_ble_eq_true rfl⟩ dX7_earns_11 ?_
  refine x_bipush (pc := 14) (v := 100) C dX7_earns_14 (by decide) ?_
  refine x_idiv (pc := 16) C dX7_earns_16 (by decide) ?_
  refine x_nmI (fun v3 ev3 => ?_)
  have hR := nmE hR ev3
  have hok := hok v3 ev3
  refine x_istore_n (pc := 17) (i := 3) (ls2 := [(3, .int v3), (2, .int r2), (0, .ref (ad 193)), (1, .int x0)]) C dX7_earns_17 rfl (by decide) rfl ?_
  refine x_aload_n (pc := 18) (i := 0) C 2 dX7_earns_18 rfl rfl ?_
  refine x_iload_n (pc := 19) (i := 1) C 3 dX7_earns_19 rfl rfl ?_
  refine x_iconst (pc := 20) (v := 0) C dX7_earns_20 (by decide) ?_
  have h4 := hok.1
  have hok := hok.2
  refine x_cIV (pc := 21) (as := [.int x0, .int 0]) (q := 193) C (c_X7_of C.2.2.2.2.2.2.2.1  B M O x0 0 h4) (fs := _) e_M rfl cv_X7_of cd_X7_of wd_7_119 ⟨Nat.le_of_ble_eq_true rfl, Nat.le_of_ble_eq_true rfl⟩ ⟨Nat.le_of_ble_eq_true rfl, Nat.le_of_ble_eq_true rfl⟩ rfl rfl (Nat.le_of_ble_eq_true rfl) dX7_earns_21 ?_
  refine x_nmI (fun r5 er5 => ?_)
  have hR := nmE hR er5
  have hok := hok r5 er5
  by_cases c15_0 : r5 = 0
  · have hR := hR.trans (if_pos c15_0)
    have hok := hok.1 c15_0
    refine x_tabIn (pc := 24) (tgt := 52) (off := 28) C dX7_earns_24 c15_0 (by decide) (by decide) (by decide) (by decide) ?_
    refine x_iload_n (pc := 52) (i := 2) C 1 dX7_earns_52 rfl rfl ?_
    refine x_if_lt (pc := 53) (tgt := 60) C dX7_earns_53 (by decide) (fun c6 => ?_) (fun c6 => ?_)
    · have hR := hR.trans (if_pos c6)
      have hok := hok.1 c6
      refine x_aload_n (pc := 60) (i := 0) C 2 dX7_earns_60 rfl rfl ?_
      refine x_iload_n (pc := 61) (i := 1) C 3 dX7_earns_61 rfl rfl ?_
      refine x_iconst (pc := 62) (v := 1) C dX7_earns_62 (by decide) ?_
      refine x_iconst (pc := 63) (v := 2) C dX7_earns_63 (by decide) ?_
      refine x_iload_n (pc := 64) (i := 2) C 1 dX7_earns_64 rfl rfl ?_
      refine x_ineg (pc := 65) C dX7_earns_65 ?_
      refine x_bipush (pc := 66) (v := 50) C dX7_earns_66 (by decide) ?_
      refine x_idiv (pc := 68) C dX7_earns_68 (by decide) ?_
      refine x_imul (pc := 69) C dX7_earns_69 ?_
      refine x_mmax (pc := 70) C wd_7_208 wd_3_211 wd_1_21 wd_3_212 ⟨Nat.le_of_ble_eq_true rfl, Nat.le_of_ble_eq_true rfl⟩ ⟨Nat.le_of_ble_eq_true rfl, Nat.le_of_ble_eq_true rfl⟩ dX7_earns_70 ?_
      have h7 := hok
      refine x_cIV (pc := 73) (as := [.int x0, .int (mx 1 (2 * ((-r2) / 50)))]) (q := 193) C (c_X7_atMost C.2.2.2.2.2.2.2.1  B M O x0 (mx 1 (2 * ((-r2) / 50))) h7) (fs := _) e_M rfl cv_X7_atMost cd_X7_atMost wd_7_192 ⟨Nat.le_of_ble_eq_true rfl, Nat.le_of_ble_eq_true rfl⟩ ⟨Nat.le_of_ble_eq_true rfl, Nat.le_of_ble_eq_true rfl⟩ rfl rfl (Nat.le_of_ble_eq_true rfl) dX7_earns_73 ?_
      refine x_nmI (fun r8 er8 => ?_)
      have hR := nmE hR er8
      refine x_ineg (pc := 76) C dX7_earns_76 ?_
      exact x_iret (pc := 77) C rfl hR dX7_earns_77
    · have hR := hR.trans (if_neg c6)
      refine x_iload_n (pc := 56) (i := 3) C 0 dX7_earns_56 rfl rfl ?_
      refine x_goto (pc := 57) (tgt := 77) C dX7_earns_57 (by decide) ?_
      exact x_iret (pc := 77) C rfl hR dX7_earns_77
  have hR := hR.trans (if_neg c15_0)
  have hok := hok.2 c15_0
  by_cases c15_1 : r5 = 1
  · have hR := hR.trans (if_pos c15_1)
    have hok := hok.1 c15_1
    refine x_tabIn (pc := 24) (tgt := 78) (off := 54) C dX7_earns_24 c15_1 (by decide) (by decide) (by decide) (by decide) ?_
    refine x_bipush (pc := 78) (v := 30) C dX7_earns_78 (by decide) ?_
    refine x_iconst (pc := 80) (v := 3) C dX7_earns_80 (by decide) ?_
    refine x_iload_n (pc := 81) (i := 3) C 0 dX7_earns_81 rfl rfl ?_
    refine x_imul (pc := 82) C dX7_earns_82 ?_
    refine x_mmin (pc := 83) C wd_7_131 wd_3_52 wd_1_21 wd_3_53 ⟨Nat.le_of_ble_eq_true rfl, Nat.le_of_ble_eq_true rfl⟩ ⟨Nat.le_of_ble_eq_true rfl, Nat.le_of_ble_eq_true rfl⟩ dX7_earns_83 ?_
    exact x_iret (pc := 86) C rfl hR dX7_earns_86
  have hR := hR.trans (if_neg c15_1)
  have hok := hok.2 c15_1
  by_cases c15_2 : r5 = 2
  · have hR := hR.trans (if_pos c15_2)
    have hok := hok.1 c15_2
    refine x_tabIn (pc := 24) (tgt := 87) (off := 63) C dX7_earns_24 c15_2 (by decide) (by decide) (by decide) (by decide) ?_
    refine x_iload_n (pc := 87) (i := 2) C 1 dX7_earns_87 rfl rfl ?_
    refine x_if_lt (pc := 88) (tgt := 95) C dX7_earns_88 (by decide) (fun c9 => ?_) (fun c9 => ?_)
    · have hR := hR.trans (if_pos c9)
      have hok := hok.1 c9
      refine x_aload_n (pc := 95) (i := 0) C 2 dX7_earns_95 rfl rfl ?_
      refine x_iload_n (pc := 96) (i := 1) C 3 dX7_earns_96 rfl rfl ?_
      refine x_iconst (pc := 97) (v := 5) C dX7_earns_97 (by decide) ?_
      have h10 := hok
      refine x_cIV (pc := 98) (as := [.int x0, .int 5]) (q := 193) C (c_X7_atMost C.2.2.2.2.2.2.2.1  B M O x0 5 h10) (fs := _) e_M rfl cv_X7_atMost cd_X7_atMost wd_7_192 ⟨Nat.le_of_ble_eq_true rfl, Nat.le_of_ble_eq_true rfl⟩ ⟨Nat.le_of_ble_eq_true rfl, Nat.le_of_ble_eq_true rfl⟩ rfl rfl (Nat.le_of_ble_eq_true rfl) dX7_earns_98 ?_
      refine x_nmI (fun r11 er11 => ?_)
      have hR := nmE hR er11
      refine x_ineg (pc := 101) C dX7_earns_101 ?_
      exact x_iret (pc := 102) C rfl hR dX7_earns_102
    · have hR := hR.trans (if_neg c9)
      refine x_iconst (pc := 91) (v := 0) C dX7_earns_91 (by decide) ?_
      refine x_goto (pc := 92) (tgt := 102) C dX7_earns_92 (by decide) ?_
      exact x_iret (pc := 102) C rfl hR dX7_earns_102
  have hR := hR.trans (if_neg c15_2)
  have hok := hok.2 c15_2
  refine x_tabOut (pc := 24) (tgt := 103) C dX7_earns_24 (by
    have c15_0 : ¬ Int32.toInt r5 = 0 := sw_no c15_0
    have c15_1 : ¬ Int32.toInt r5 = 1 := sw_no c15_1
    have c15_2 : ¬ Int32.toInt r5 = 2 := sw_no c15_2
    omega) (by decide) ?_
  refine x_aload_n (pc := 103) (i := 0) C 2 dX7_earns_103 rfl rfl ?_
  refine x_iload_n (pc := 104) (i := 1) C 3 dX7_earns_104 rfl rfl ?_
  refine x_iconst (pc := 105) (v := 3) C dX7_earns_105 (by decide) ?_
  have h12 := hok
  refine x_cIV (pc := 106) (as := [.int x0, .int 3]) (q := 193) C (c_X7_of C.2.2.2.2.2.2.2.1  B M O x0 3 h12) (fs := _) e_M rfl cv_X7_of cd_X7_of wd_7_119 ⟨Nat.le_of_ble_eq_true rfl, Nat.le_of_ble_eq_true rfl⟩ ⟨Nat.le_of_ble_eq_true rfl, Nat.le_of_ble_eq_true rfl⟩ rfl rfl (Nat.le_of_ble_eq_true rfl) dX7_earns_106 ?_
  refine x_nmI (fun r13 er13 => ?_)
  have hR := nmE hR er13
  refine x_iconst (pc := 109) (v := 1) C dX7_earns_109 (by decide) ?_
  refine x_icmp_ne (pc := 110) (tgt := 117) C dX7_earns_110 (by decide) (fun c14 => ?_) (fun c14 => ?_)
  · have hR := hR.trans (if_neg c14)
    refine x_iconst (pc := 117) (v := 5) C dX7_earns_117 (by decide) ?_
    refine x_iload_n (pc := 118) (i := 3) C 0 dX7_earns_118 rfl rfl ?_
    refine x_imul (pc := 119) C dX7_earns_119 ?_
    exact x_iret (pc := 120) C rfl hR dX7_earns_120
  · have hR := hR.trans (if_pos c14)
    refine x_iconst (pc := 113) (v := 0) C dX7_earns_113 (by decide) ?_
    refine x_goto (pc := 114) (tgt := 120) C dX7_earns_114 (by decide) ?_
    exact x_iret (pc := 120) C rfl hR dX7_earns_120
