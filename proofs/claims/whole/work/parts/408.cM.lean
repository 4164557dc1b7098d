set_option maxHeartbeats 4000000 in
set_option maxRecDepth 100000 in
theorem t_X7_limits_J64 {p0 : Program} {l : Launch} {e : Env} {s : State} {m : MethodId} {args : Array Value} {below : List Frame} {meth : Method} {c : Code} {A : Nat → Prop} {G : GT} {ad : Nat → Nat} (C : CX p0 l s m args meth c A G ad cX7_limits RX7 6 (some .int))  (M : StM) (a1 : Int32) (a2 : Int32) (a5 : Int32) (s0 : Int32) (s1 : Int32) (s2 : Int32) (s3 : Int32) (B : StB) (O : StO) (R0 : Int32 × StM) (hR : R0 = f_X7_limits_J64 M a1 a2 a5 s0 s1 s2 s3) (hok : ok_X7_limits_J64 M a1 a2 a5 s0 s1 s2 s3) : X p0 l e (rmd 4 0 0) s m args below meth c A G ad 6 0 0 (MQ below (QI G A ad R0.1 B R0.2 O) args s 0 0 A) B M O [(0, .ref (ad 193)), (1, .int a1), (2, .int a2), (5, .int a5)] 64 [.int s0, .int s1, .int s2, .int s3, .ref (ad 193)] := by
  have hR : R0 = (nm (f_X7_holds M s3 s2 s1 s0) (fun (z10 : Int32 × StM) => (if z10.1 = 0 then (a5, z10.2) else (nm (f_X7_accountAt a1) (fun (r12 : Int32) => (nm (sma z10.2 0 (ix (r12 + 2)) a2) (fun (M14 : StM) => (a5, M14)))))))) := hR
  have hok : (∀ z10 : Int32 × StM, z10 = (f_X7_holds M s3 s2 s1 s0) → ((z10.1 = 0 → True) ∧ (¬ z10.1 = 0 → (∀ r12 : Int32, r12 = (f_X7_accountAt a1) → (vp_in (r12 + 2) 124))))) := hok
  refine x_cIV (pc := 64) (as := [.int s3, .int s2, .int s1, .int s0]) (q := 193) C (c_X7_holds C.2.2.2.2.2.2.2.1  B M O s3 s2 s1 s0) (fs := _) e_M rfl cv_X7_holds cd_X7_holds wd_7_63 ⟨Nat.le_of_ble_eq_true rfl, Nat.le_of_ble_eq_true rfl⟩ ⟨Nat.le_of_ble_eq_true rfl, Nat.le_of_ble_eq_true rfl⟩ rfl rfl (Nat.le_of_ble_eq_true rfl) dX7_limits_64 ?_
  refine x_nmIM (fun z10 ez10 => ?_)
  have hR := nmE hR ez10
  have hok := hok z10 ez10
  refine x_if_eq (pc := 67) (tgt := 82) C dX7_limits_67 (by decide) (fun c11 => ?_) (fun c11 => ?_)
  · have hR := hR.trans (if_pos c11)
    refine x_iload (pc := 82) (i := 5) C 3 dX7_limits_82 rfl ?_
    exact x_iretM (pc := 84) C rfl hR dX7_limits_84
  · have hR := hR.trans (if_neg c11)
    have hok := hok.2 c11
    refine x_aload_n (pc := 70) (i := 0) C 0 dX7_limits_70 rfl rfl ?_
    refine x_get (pc := 71) (q := 193) (i := 0) C e_M rfl ttX7 (by decide) wd_6_227 rfl dX7_limits_71 ?_
    refine x_iload_n (pc := 74) (i := 1) C 1 dX7_limits_74 rfl rfl ?_
    refine x_cIS (pc := 75) (as := [.int a1]) C (c_X7_accountAt C.2.2.2.2.2.2.2.1  B z10.2 O a1) wd_7_94 cd_X7_accountAt wd_7_93 ⟨Nat.le_of_ble_eq_true rfl, Nat.le_of_ble_eq_true rfl⟩ ⟨Nat.le_of_ble_eq_true rfl, Nat.le_of_ble_eq_true rfl⟩ rfl rfl (Nat.le_of_ble_eq_true rfl) dX7_limits_75 ?_
    refine x_nmI (fun r12 er12 => ?_)
    have hR := nmE hR er12
    have hok := hok r12 er12
    refine x_iconst (pc := 78) (v := 2) C dX7_limits_78 (by decide) ?_
    refine x_iadd (pc := 79) C dX7_limits_79 ?_
    refine x_iload_n (pc := 80) (i := 2) C 2 dX7_limits_80 rfl rfl ?_
    have h13 := hok
    refine x_iastM (pc := 81) (j := 0) (q := 194) C rfl (by decide) e_M0 e_M0.2 h13 dX7_limits_81 ?_
    refine x_nmM (fun M14 eM14 => ?_)
    have hR := nmE hR eM14
    refine x_iload (pc := 82) (i := 5) C 3 dX7_limits_82 rfl ?_
    exact x_iretM (pc := 84) C rfl hR dX7_limits_84
set_option maxHeartbeats 4000000 in
set_option maxRecDepth 100000 in
theorem t_X7_limits_J63 {p0 : Program} {l : Launch} {e : Env} {s : State} {m : MethodId} {args : Array Value} {below : List Frame} {meth : Method} {c : Code} {A : Nat → Prop} {G : GT} {ad : Nat → Nat} (C : CX p0 l s m args meth c A G ad cX7_limits RX7 6 (some .int))  (M : StM) (a1 : Int32) (a2 : Int32) (a5 : Int32) (s0 : Int32) (s1 : Int32) (s2 : Int32) (B : StB) (O : StO) (R0 : Int32 × StM) (hR : R0 = f_X7_limits_J63 M a1 a2 a5 s0 s1 s2) (hok : ok_X7_limits_J63 M a1 a2 a5 s0 s1 s2) : X p0 l e (rmd 4 0 0) s m args below meth c A G ad 6 0 0 (MQ below (QI G A ad R0.1 B R0.2 O) args s 0 0 A) B M O [(0, .ref (ad 193)), (1, .int a1), (2, .int a2), (5, .int a5)] 63 [.int s0, .int s1, .int s2, .ref (ad 193)] := by
  have hR : R0 = (f_X7_limits_J64 M a1 a2 a5 0 s0 s1 s2) := hR
  have hok : (ok_X7_limits_J64 M a1 a2 a5 0 s0 s1 s2) := hok
  refine x_iconst (pc := 63) (v := 0) C dX7_limits_63 (by decide) ?_
  refine x_sub [0, 1, 2, 3] (ls2 := [(0, .ref (ad 193)), (1, .int a1), (2, .int a2), (5, .int a5)]) rfl ?_
  exact t_X7_limits_J64 C M a1 a2 a5 0 s0 s1 s2 B O _ hR hok
set_option maxHeartbeats 4000000 in
set_option maxRecDepth 100000 in
theorem t_X7_limits_J25 {p0 : Program} {l : Launch} {e : Env} {s : State} {m : MethodId} {args : Array Value} {below : List Frame} {meth : Method} {c : Code} {A : Nat → Prop} {G : GT} {ad : Nat → Nat} (C : CX p0 l s m args meth c A G ad cX7_limits RX7 6 (some .int))  (M : StM) (a1 : Int32) (a2 : Int32) (a3 : Int32) (s0 : Int32) (B : StB) (O : StO) (R0 : Int32 × StM) (hR : R0 = f_X7_limits_J25 M a1 a2 a3 s0) (hok : ok_X7_limits_J25 M a1 a2 a3 s0) : X p0 l e (rmd 4 0 0) s m args below meth c A G ad 6 0 0 (MQ below (QI G A ad R0.1 B R0.2 O) args s 0 0 A) B M O [(0, .ref (ad 193)), (1, .int a1), (2, .int a2), (3, .int a3)] 25 [.int s0] := by
  have hR : R0 = (nm (f_X7_of M a1 2) (fun (r6 : Int32) => (nm (f_X7_isAccount M a1) (fun (r8 : Int32) => (if a3 = 0 then (f_X7_limits_J63 M a1 a2 r6 s0 a3 r8) else (nm (f_X7_of M a1 1) (fun (r16 : Int32) => (if (r16 + a2) < 0 then (f_X7_limits_J63 M a1 a2 r6 s0 a3 r8) else (f_X7_limits_J64 M a1 a2 r6 1 s0 a3 r8))))))))) := hR
  have hok : ((ok_X7_of M a1 2) ∧ (∀ r6 : Int32, r6 = (f_X7_of M a1 2) → ((ok_X7_isAccount M a1) ∧ (∀ r8 : Int32, r8 = (f_X7_isAccount M a1) → ((a3 = 0 → (ok_X7_limits_J63 M a1 a2 r6 s0 a3 r8)) ∧ (¬ a3 = 0 → ((ok_X7_of M a1 1) ∧ (∀ r16 : Int32, r16 = (f_X7_of M a1 1) → (((r16 + a2) < 0 → (ok_X7_limits_J63 M a1 a2 r6 s0 a3 r8)) ∧ (¬ (r16 + a2) < 0 → (ok_X7_limits_J64 M a1 a2 r6 1 s0 a3 r8))))))))))) := hok
  refine x_istore (pc := 25) (i := 4) (ls2 := [(4, .int s0), (0, .ref (ad 193)), (1, .int a1), (2, .int a2), (3, .int a3)]) C dX7_limits_25 (by decide) rfl ?_
  refine x_aload_n (pc := 27) (i := 0) C 1 dX7_limits_27 rfl rfl ?_
  refine x_iload_n (pc := 28) (i := 1) C 2 dX7_limits_28 rfl rfl ?_
  refine x_iconst (pc := 29) (v := 2) C dX7_limits_29 (by decide) ?_
  have h5 := hok.1
  have hok := hok.2
  refine x_cIV (pc := 30) (as := [.int a1, .int 2]) (q := 193) C (c_X7_of C.2.2.2.2.2.2.2.1  B M O a1 2 h5) (fs := _) e_M rfl cv_X7_of cd_X7_of wd_7_119 ⟨Nat.le_of_ble_eq_true rfl, Nat.le_of_ble_eq_true rfl⟩ ⟨Nat.le_of_ble_eq_true rfl, Nat.le_of_ble_eq_true rfl⟩ rfl rfl (Nat.le_of_ble_eq_true rfl) dX7_limits_30 ?_
  refine x_nmI (fun r6 er6 => ?_)
  have hR := nmE hR er6
  have hok := hok r6 er6
  refine x_istore (pc := 33) (i := 5) (ls2 := [(5, .int r6), (4, .int s0), (0, .ref (ad 193)), (1, .int a1), (2, .int a2), (3, .int a3)]) C dX7_limits_33 (by decide) rfl ?_
  refine x_aload_n (pc := 35) (i := 0) C 2 dX7_limits_35 rfl rfl ?_
  refine x_aload_n (pc := 36) (i := 0) C 2 dX7_limits_36 rfl rfl ?_
  refine x_iload_n (pc := 37) (i := 1) C 3 dX7_limits_37 rfl rfl ?_
  have h7 := hok.1
  have hok := hok.2
  refine x_cIV (pc := 38) (as := [.int a1]) (q := 193) C (c_X7_isAccount C.2.2.2.2.2.2.2.1  B M O a1 h7) (fs := _) e_M rfl cv_X7_isAccount cd_X7_isAccount wd_7_115 ⟨Nat.le_of_ble_eq_true rfl, Nat.le_of_ble_eq_true rfl⟩ ⟨Nat.le_of_ble_eq_true rfl, Nat.le_of_ble_eq_true rfl⟩ rfl rfl (Nat.le_of_ble_eq_true rfl) dX7_limits_38 ?_
  refine x_nmI (fun r8 er8 => ?_)
  have hR := nmE hR er8
  have hok := hok r8 er8
  refine x_iload_n (pc := 41) (i := 3) C 5 dX7_limits_41 rfl rfl ?_
  refine x_iload (pc := 42) (i := 4) C 1 dX7_limits_42 rfl ?_
  refine x_iload_n (pc := 44) (i := 3) C 5 dX7_limits_44 rfl rfl ?_
  refine x_if_eq (pc := 45) (tgt := 63) C dX7_limits_45 (by decide) (fun c9 => ?_) (fun c9 => ?_)
  · have hR := hR.trans (if_pos c9)
    have hok := hok.1 c9
    refine x_sub [2, 3, 4, 0] (ls2 := [(0, .ref (ad 193)), (1, .int a1), (2, .int a2), (5, .int r6)]) rfl ?_
    exact t_X7_limits_J63 C M a1 a2 r6 s0 a3 r8 B O _ hR hok
  · have hR := hR.trans (if_neg c9)
    have hok := hok.2 c9
    refine x_aload_n (pc := 48) (i := 0) C 2 dX7_limits_48 rfl rfl ?_
    refine x_iload_n (pc := 49) (i := 1) C 3 dX7_limits_49 rfl rfl ?_
    refine x_iconst (pc := 50) (v := 1) C dX7_limits_50 (by decide) ?_
    have h15 := hok.1
    have hok := hok.2
    refine x_cIV (pc := 51) (as := [.int a1, .int 1]) (q := 193) C (c_X7_of C.2.2.2.2.2.2.2.1  B M O a1 1 h15) (fs := _) e_M rfl cv_X7_of cd_X7_of wd_7_119 ⟨Nat.le_of_ble_eq_true rfl, Nat.le_of_ble_eq_true rfl⟩ ⟨Nat.le_of_ble_eq_true rfl, Nat.le_of_ble_eq_true rfl⟩ rfl rfl (Nat.le_of_ble_eq_true rfl) dX7_limits_51 ?_
    refine x_nmI (fun r16 er16 => ?_)
    have hR := nmE hR er16
    have hok := hok r16 er16
    refine x_iload_n (pc := 54) (i := 2) C 4 dX7_limits_54 rfl rfl ?_
    refine x_iadd (pc := 55) C dX7_limits_55 ?_
    refine x_if_lt (pc := 56) (tgt := 63) C dX7_limits_56 (by decide) (fun c17 => ?_) (fun c17 => ?_)
    · have hR := hR.trans (if_pos c17)
      have hok := hok.1 c17
      refine x_sub [2, 3, 4, 0] (ls2 := [(0, .ref (ad 193)), (1, .int a1), (2, .int a2), (5, .int r6)]) rfl ?_
      exact t_X7_limits_J63 C M a1 a2 r6 s0 a3 r8 B O _ hR hok
    · have hR := hR.trans (if_neg c17)
      have hok := hok.2 c17
      refine x_iconst (pc := 59) (v := 1) C dX7_limits_59 (by decide) ?_
      refine x_goto (pc := 60) (tgt := 64) C dX7_limits_60 (by decide) ?_
      refine x_sub [2, 3, 4, 0] (ls2 := [(0, .ref (ad 193)), (1, .int a1), (2, .int a2), (5, .int r6)]) rfl ?_
      exact t_X7_limits_J64 C M a1 a2 r6 1 s0 a3 r8 B O _ hR hok
set_option maxHeartbeats 4000000 in
set_option maxRecDepth 100000 in
theorem c_X7_limits {l : Launch} {A : Nat → Prop} {G : GT} {ad : Nat → Nat} (gl : Gl l A ad)  (B : StB) (M : StM) (O : StO) (x0 : Int32) (x1 : Int32) (hok : ok_X7_limits M x0 x1) : Met l yX7_limits (wof yX7_limits cX7_limits 6 (some .int)) (rmd 4 0 0) (va_Pc [.ref (ad 193), .int x0, .int x1] (PW G A ad B M O)) (QI G A ad (f_X7_limits M x0 x1).1 B (f_X7_limits M x0 x1).2 O) 0 0 A := by
  refine x_body (own := RX7) (by decide +kernel) rfl gl (Nat.le_of_ble_eq_true rfl) (ls := [(0, .ref (ad 193)), (1, .int x0), (2, .int x1)]) rfl ?_
  intro p0 e s m args below meth c C
  have hR : (f_X7_limits M x0 x1) = (nm (f_X7_isIn x1 0 500) (fun (r1 : Int32) => (nm (f_X7_of M x0 0) (fun (r3 : Int32) => (if (r3 - r3 / 2 * 2) = 0 then (f_X7_limits_J25 M x0 x1 r1 1) else (f_X7_limits_J25 M x0 x1 r1 0)))))) := rfl
  have hok : (∀ r1 : Int32, r1 = (f_X7_isIn x1 0 500) → ((ok_X7_of M x0 0) ∧ (∀ r3 : Int32, r3 = (f_X7_of M x0 0) → (((r3 - r3 / 2 * 2) = 0 → (ok_X7_limits_J25 M x0 x1 r1 1)) ∧ (¬ (r3 - r3 / 2 * 2) = 0 → (ok_X7_limits_J25 M x0 x1 r1 0)))))) := hok
  refine x_iload_n (pc := 0) (i := 2) C 2 dX7_limits_0 rfl rfl ?_
  refine x_iconst (pc := 1) (v := 0) C dX7_limits_1 (by decide) ?_
  refine x_sipush (pc := 2) (v := 500) C dX7_limits_2 (by decide) ?_
  refine x_cIS (pc := 5) (as := [.int x1, .int 0, .int 500]) C (c_X7_isIn C.2.2.2.2.2.2.2.1  B M O x1 0 500) wd_7_91 cd_X7_isIn wd_7_90 ⟨Nat.le_of_ble_eq_true rfl, Nat.le_of_ble_eq_true rfl⟩ ⟨Nat.le_of_ble_eq_true rfl, Nat.le_of_ble_eq_true rfl⟩ rfl rfl (Nat.le_of_ble_eq_true rfl) dX7_limits_5 ?_
  refine x_nmI (fun r1 er1 => ?_)
  have hR := nmE hR er1
  have hok := hok r1 er1
  refine x_istore_n (pc := 8) (i := 3) (ls2 := [(3, .int r1), (0, .ref (ad 193)), (1, .int x0), (2, .int x1)]) C dX7_limits_8 rfl (by decide) rfl ?_
  refine x_aload_n (pc := 9) (i := 0) C 1 dX7_limits_9 rfl rfl ?_
  refine x_iload_n (pc := 10) (i := 1) C 2 dX7_limits_10 rfl rfl ?_
  refine x_iconst (pc := 11) (v := 0) C dX7_limits_11 (by decide) ?_
  have h2 := hok.1
  have hok := hok.2
  refine x_cIV (pc := 12) (as := [.int x0, .int 0]) (q := 193) C (c_X7_of C.2.2.2.2.2.2.2.1  B M O x0 0 h2) (fs := _) e_M rfl cv_X7_of cd_X7_of wd_7_119 ⟨Nat.le_of_ble_eq_true rfl, Nat.le_of_ble_eq_true rfl⟩ ⟨Nat.le_of_ble_eq_true rfl, Nat.le_of_ble_eq_true rfl⟩ rfl rfl (Nat.le_of_ble_eq_true rfl) dX7_limits_12 ?_
  refine x_nmI (fun r3 er3 => ?_)
  have hR := nmE hR er3
  have hok := hok r3 er3
  refine x_iconst (pc := 15) (v := 2) C dX7_limits_15 (by decide) ?_
  refine x_irem (pc := 16) C dX7_limits_16 (by decide) ?_
  refine x_if_ne (pc := 17) (tgt := 24) C dX7_limits_17 (by decide) (fun c4 => ?_) (fun c4 => ?_)
  · have hR := hR.trans (if_neg c4)
    have hok := hok.2 c4
    refine x_iconst (pc := 24) (v := 0) C dX7_limits_24 (by decide) ?_
    refine x_sub [1, 2, 3, 0] (ls2 := [(0, .ref (ad 193)), (1, .int x0), (2, .int x1), (3, .int r1)]) rfl ?_
    exact t_X7_limits_J25 C M x0 x1 r1 0 B O _ hR hok
  · have hR := hR.trans (if_pos c4)
    have hok := hok.1 c4
    refine x_iconst (pc := 20) (v := 1) C dX7_limits_20 (by decide) ?_
    refine x_goto (pc := 21) (tgt := 25) C dX7_limits_21 (by decide) ?_
    refine x_sub [1, 2, 3, 0] (ls2 := [(0, .ref (ad 193)), (1, .int x0), (2, .int x1), (3, .int r1)]) rfl ?_
    exact t_X7_limits_J25 C M x0 x1 r1 1 B O _ hR hok
set_option maxHeartbeats 4000000 in
set_option maxRecDepth 100000 in
theorem c_X7_seal {l : Launch} {A : Nat → Prop} {G : GT} {ad : Nat → Nat} (gl : Gl l A ad)  (B : StB) (M : StM) (O : StO) (x0 : Int32) (x1 : Int32) (x2 : Int32) (x3 : Int32) (hok : ok_X7_seal M x0 x1 x2 x3) : Met l yX7_seal (wof yX7_seal cX7_seal 5 (some .int)) (rmd 4 0 0) (va_Pc [.ref (ad 193), .int x0, .int x1, .int x2, .int x3] (PW G A ad B M O)) (QI G A ad (f_X7_seal M x0 x1 x2 x3).1 B (f_X7_seal M x0 x1 x2 x3).2 O) 0 0 A := by
  refine x_body (own := RX7) (by decide +kernel) rfl gl (Nat.le_of_ble_eq_true rfl) (ls := [(0, .ref (ad 193)), (1, .int x0), (2, .int x1), (3, .int x2), (4, .int x3)]) rfl ?_
  intro p0 e s m args below meth c C
  have hR : (f_X7_seal M x0 x1 x2 x3) = (nm (f_X7_begins M) (fun (M2 : StM) => (nm (f_X7_seals M2 x0 x1 x2 x3) (fun (z4 : Int32 × StM) => (nm (f_X7_ends z4.2 z4.1) (fun (z6 : Int32 × StM) => (z6.1, z6.2))))))) := rfl
  have hok : ((ok_X7_begins M) ∧ (∀ M2 : StM, M2 = (f_X7_begins M) → ((ok_X7_seals M2 x0 x1 x2 x3) ∧ (∀ z4 : Int32 × StM, z4 = (f_X7_seals M2 x0 x1 x2 x3) → ((ok_X7_ends z4.2 z4.1)))))) := hok
  refine x_aload_n (pc := 0) (i := 0) C 0 dX7_seal_0 rfl rfl ?_
  have h1 := hok.1
  have hok := hok.2
  refine x_cVV (pc := 1) (as := []) (q := 193) C (c_X7_begins C.2.2.2.2.2.2.2.1  B M O  h1) (fs := _) e_M rfl cv_X7_begins cd_X7_begins wd_7_82 ⟨Nat.le_of_ble_eq_true rfl, Nat.le_of_ble_eq_true rfl⟩ ⟨Nat.le_of_ble_eq_true rfl, Nat.le_of_ble_eq_true rfl⟩ rfl rfl (Nat.le_of_ble_eq_true rfl) dX7_seal_1 ?_
  refine x_nmM (fun M2 eM2 => ?_)
  have hR := nmE hR eM2
  have hok := hok M2 eM2
  refine x_aload_n (pc := 4) (i := 0) C 0 dX7_seal_4 rfl rfl ?_
  refine x_aload_n (pc := 5) (i := 0) C 0 dX7_seal_5 rfl rfl ?_
  refine x_iload_n (pc := 6) (i := 1) C 1 dX7_seal_6 rfl rfl ?_
  refine x_iload_n (pc := 7) (i := 2) C 2 dX7_seal_7 rfl rfl ?_
  refine x_iload_n (pc := 8) (i := 3) C 3 dX7_seal_8 rfl rfl ?_
  refine x_iload (pc := 9) (i := 4) C 4 dX7_seal_9 rfl ?_
  have h3 := hok.1
  have hok := hok.2
  refine x_cIV (pc := 11) (as := [.int x0, .int x1, .int x2, .int x3]) (q := 193) C (c_X7_seals C.2.2.2.2.2.2.2.1  B M2 O x0 x1 x2 x3 h3) (fs := _) e_M rfl cv_X7_seals cd_X7_seals wd_7_152 ⟨Nat.le_of_ble_eq_true rfl, Nat.le_of_ble_eq_true rfl⟩ ⟨Nat.le_of_ble_eq_true rfl, Nat.le_of_ble_eq_true rfl⟩ rfl rfl (Nat.le_of_ble_eq_true rfl) dX7_seal_11 ?_
  refine x_nmIM (fun z4 ez4 => ?_)
  have hR := nmE hR ez4
  have hok := hok z4 ez4
  have h5 := hok
  refine x_cIV (pc := 14) (as := [.int z4.1]) (q := 193) C (c_X7_ends C.2.2.2.2.2.2.2.1  B z4.2 O z4.1 h5) (fs := _) e_M rfl cv_X7_ends cd_X7_ends wd_7_96 ⟨Nat.le_of_ble_eq_true rfl, Nat.le_of_ble_eq_true rfl⟩ ⟨Nat.le_of_ble_eq_true rfl, Nat.le_of_ble_eq_true rfl⟩ rfl rfl (Nat.le_of_ble_eq_true rfl) dX7_seal_14 ?_
  refine x_nmIM (fun z6 ez6 => ?_)
  have hR := nmE hR ez6
  exact x_iretM (pc := 17) C rfl hR dX7_seal_17
set_option maxHeartbeats 4000000 in
set_option maxRecDepth 100000 in
theorem c_X7_cancel {l : Launch} {A : Nat → Prop} {G : GT} {ad : Nat → Nat} (gl : Gl l A ad)  (B : StB) (M : StM) (O : StO) (x0 : Int32) (hok : ok_X7_cancel M x0) : Met l yX7_cancel (wof yX7_cancel cX7_cancel 2 (some .int)) (rmd 4 0 0) (va_Pc [.ref (ad 193), .int x0] (PW G A ad B M O)) (QI G A ad (f_X7_cancel M x0).1 B (f_X7_cancel M x0).2 O) 0 0 A := by
  refine x_body (own := RX7) (by decide +kernel) rfl gl (Nat.le_of_ble_eq_true rfl) (ls := [(0, .ref (ad 193)), (1, .int x0)]) rfl ?_
  intro p0 e s m args below meth c C
  have hR : (f_X7_cancel M x0) = (nm (f_X7_begins M) (fun (M2 : StM) => (nm (f_X7_voids M2 x0) (fun (z4 : Int32 × StM) => (nm (f_X7_ends z4.2 z4.1) (fun (z6 : Int32 × StM) => (z6.1, z6.2))))))) := rfl
  have hok : ((ok_X7_begins M) ∧ (∀ M2 : StM, M2 = (f_X7_begins M) → ((ok_X7_voids M2 x0) ∧ (∀ z4 : Int32 × StM, z4 = (f_X7_voids M2 x0) → ((ok_X7_ends z4.2 z4.1)))))) := hok
  refine x_aload_n (pc := 0) (i := 0) C 0 dX7_cancel_0 rfl rfl ?_
  have h1 := hok.1
  have hok := hok.2
  refine x_cVV (pc := 1) (as := []) (q := 193) C (c_X7_begins C.2.2.2.2.2.2.2.1  B M O  h1) (fs := _) e_M rfl cv_X7_begins cd_X7_begins wd_7_82 ⟨Nat.le_of_ble_eq_true rfl, Nat.le_of_ble_eq_true rfl⟩ ⟨Nat.le_of_ble_eq_true rfl, Nat.le_of_ble_eq_true rfl⟩ rfl rfl (Nat.le_of_ble_eq_true rfl) dX7_cancel_1 ?_
  refine x_nmM (fun M2 eM2 => ?_)
  have hR := nmE hR eM2
  have hok := hok M2 eM2
  refine x_aload_n (pc := 4) (i := 0) C 0 dX7_cancel_4 rfl rfl ?_
  refine x_aload_n (pc := 5) (i := 0) C 0 dX7_cancel_5 rfl rfl ?_
  refine x_iload_n (pc := 6) (i := 1) C 1 dX7_cancel_6 rfl rfl ?_
  have h3 := hok.1
  have hok := hok.2
  refine x_cIV (pc := 7) (as := [.int x0]) (q := 193) C (c_X7_voids C.2.2.2.2.2.2.2.1  B M2 O x0 h3) (fs := _) e_M rfl cv_X7_voids cd_X7_voids wd_7_160 ⟨Nat.le_of_ble_eq_true rfl, Nat.le_of_ble_eq_true rfl⟩ ⟨Nat.le_of_ble_eq_true rfl, Nat.le_of_ble_eq_true rfl⟩ rfl rfl (Nat.le_of_ble_eq_true rfl) dX7_cancel_7 ?_
  refine x_nmIM (fun z4 ez4 => ?_)
  have hR := nmE hR ez4
  have hok := hok z4 ez4
  have h5 := hok
  refine x_cIV (pc := 10) (as := [.int z4.1]) (q := 193) C (c_X7_ends C.2.2.2.2.2.2.2.1  B z4.2 O z4.1 h5) (fs := _) e_M rfl cv_X7_ends cd_X7_ends wd_7_96 ⟨Nat.le_of_ble_eq_true rfl, Nat.le_of_ble_eq_true rfl⟩ ⟨Nat.le_of_ble_eq_true rfl, Nat.le_of_ble_eq_true rfl⟩ rfl rfl (Nat.le_of_ble_eq_true rfl) dX7_cancel_10 ?_
  refine x_nmIM (fun z6 ez6 => ?_)
  have hR := nmE hR ez6
  exact x_iretM (pc := 13) C rfl hR dX7_cancel_13
set_option maxHeartbeats 4000000 in
set_option maxRecDepth 100000 in
theorem c_X7_atMost {l : Launch} {A : Nat → Prop} {G : GT} {ad : Nat → Nat} (gl : Gl l A ad)  (B : StB) (M : StM) (O : StO) (x0 : Int32) (x1 : Int32) (hok : ok_X7_atMost M x0 x1) : Met l yX7_atMost (wof yX7_atMost cX7_atMost 3 (some .int)) (rmd 4 0 0) (va_Pc [.ref (ad 193), .int x0, .int x1] (PW G A ad B M O)) (QI G A ad (f_X7_atMost M x0 x1) B M O) 0 0 A := by
  refine x_body (own := RX7) (by decide +kernel) rfl gl (Nat.le_of_ble_eq_true rfl) (ls := [(0, .ref (ad 193)), (1, .int x0), (2, .int x1)]) rfl ?_
  intro p0 e s m args below meth c C
  have hR : (f_X7_atMost M x0 x1) = (nm (f_X7_of M x0 1) (fun (r2 : Int32) => (nm (f_X7_of M x0 2) (fun (r4 : Int32) => (mn x1 (r2 + r4)))))) := rfl
  have hok : ((ok_X7_of M x0 1) ∧ (∀ r2 : Int32, r2 = (f_X7_of M x0 1) → ((ok_X7_of M x0 2)))) := hok
  refine x_iload_n (pc := 0) (i := 2) C 2 dX7_atMost_0 rfl rfl ?_
  refine x_aload_n (pc := 1) (i := 0) C 0 dX7_atMost_1 rfl rfl ?_
  refine x_iload_n (pc := 2) (i := 1) C 1 dX7_atMost_2 rfl rfl ?_
  refine x_iconst (pc := 3) (v := 1) C dX7_atMost_3 (by decide) ?_
  have h1 := hok.1
  have hok := hok.2
  refine x_cIV (pc := 4) (as := [.int x0, .int 1]) (q := 193) C (c_X7_of C.2.2.2.2.2.2.2.1  B M O x0 1 h1) (fs := _) e_M rfl cv_X7_of cd_X7_of wd_7_119 ⟨Nat.le_of_ble_eq_true rfl, Nat.le_of_ble_eq_true rfl⟩ ⟨Nat.le_of_ble_eq_true rfl, Nat.le_of_ble_eq_true rfl⟩ rfl rfl (Nat.le_of_ble_eq_true rfl) dX7_atMost_4 ?_
  refine x_nmI (fun r2 er2 => ?_)
  have hR := nmE hR er2
  have hok := hok r2 er2
  refine x_aload_n (pc := 7) (i := 0) C 0 dX7_atMost_7 rfl rfl ?_
  refine x_iload_n (pc := 8) (i := 1) C 1 dX7_atMost_8 rfl rfl ?_
  refine x_iconst (pc := 9) (v := 2) C dX7_atMost_9 (by decide) ?_
  have h3 := hok
  refine x_cIV (pc := 10) (as := [.int x0, .int 2]) (q := 193) C (c_X7_of C.2.2.2.2.2.2.2.1  B M O x0 2 h3) (fs := _) e_M rfl cv_X7_of cd_X7_of wd_7_119 ⟨Nat.le_of_ble_eq_true rfl, Nat.le_of_ble_eq_true rfl⟩ ⟨Nat.le_of_ble_eq_true rfl, Nat.le_of_ble_eq_true rfl⟩ rfl rfl (Nat.le_of_ble_eq_true rfl) dX7_atMost_10 ?_
  refine x_nmI (fun r4 er4 => ?_)
  have hR := nmE hR er4
  refine x_iadd (pc := 13) C dX7_atMost_13 ?_
  refine x_mmin (pc := 14) C wd_7_131 wd_3_52 wd_1_21 wd_3_53 ⟨Nat.le_of_ble_eq_true rfl, Nat.le_of_ble_eq_true rfl⟩ ⟨Nat.le_of_ble_eq_true rfl, Nat.le_of_ble_eq_true rfl⟩ dX7_atMost_14 ?_
  exact x_iret (pc := 17) C rfl hR dX7_atMost_17
set_option maxHeartbeats 4000000 in
set_option maxRecDepth 100000 in
theorem c_X7_asks {l : Launch} {A : Nat → Prop} {G : GT} {ad : Nat → Nat} (gl : Gl l A ad)  (B : StB) (M : StM) (O : StO) (x0 : Int32) (x1 : Int32) (hok : ok_X7_asks M x0 x1) : Met l yX7_asks (wof yX7_asks cX7_asks 3 (some .int)) (rmd 4 0 0) (va_Pc [.ref (ad 193), .int x0, .int x1] (PW G A ad B M O)) (QI G A ad (f_X7_asks M x0 x1).1 B (f_X7_asks M x0 x1).2 O) 0 0 A := by
  refine x_body (own := RX7) (by decide +kernel) rfl gl (Nat.le_of_ble_eq_true rfl) (ls := [(0, .ref (ad 193)), (1, .int x0), (2, .int x1)]) rfl ?_
  intro p0 e s m args below meth c C
  have hR : (f_X7_asks M x0 x1) = (nm (f_X7_isAccount M x0) (fun (r2 : Int32) => (nm (f_X7_goes M r2) (fun (z4 : Int32 × StM) => (if z4.1 = 0 then (0, z4.2) else (nm (f_X7_of z4.2 x0 x1) (fun (r7 : Int32) => (r7, z4.2)))))))) := rfl
  have hok : ((ok_X7_isAccount M x0) ∧ (∀ r2 : Int32, r2 = (f_X7_isAccount M x0) → ((ok_X7_goes M r2) ∧ (∀ z4 : Int32 × StM, z4 = (f_X7_goes M r2) → ((z4.1 = 0 → True) ∧ (¬ z4.1 = 0 → ((ok_X7_of z4.2 x0 x1)))))))) := hok
  refine x_aload_n (pc := 0) (i := 0) C 0 dX7_asks_0 rfl rfl ?_
  refine x_aload_n (pc := 1) (i := 0) C 0 dX7_asks_1 rfl rfl ?_
  refine x_iload_n (pc := 2) (i := 1) C 1 dX7_asks_2 rfl rfl ?_
  have h1 := hok.1
  have hok := hok.2
  refine x_cIV (pc := 3) (as := [.int x0]) (q := 193) C (c_X7_isAccount C.2.2.2.2.2.2.2.1  B M O x0 h1) (fs := _) e_M rfl cv_X7_isAccount cd_X7_isAccount wd_7_115 ⟨Nat.le_of_ble_eq_true rfl, Nat.le_of_ble_eq_true rfl⟩ ⟨Nat.le_of_ble_eq_true rfl, Nat.le_of_ble_eq_true rfl⟩ rfl rfl (Nat.le_of_ble_eq_true rfl) dX7_asks_3 ?_
  refine x_nmI (fun r2 er2 => ?_)
  have hR := nmE hR er2
  have hok := hok r2 er2
  have h3 := hok.1
  have hok := hok.2
  refine x_cIV (pc := 6) (as := [.int r2]) (q := 193) C (c_X7_goes C.2.2.2.2.2.2.2.1  B M O r2 h3) (fs := _) e_M rfl cv_X7_goes cd_X7_goes wd_7_59 ⟨Nat.le_of_ble_eq_true rfl, Nat.le_of_ble_eq_true rfl⟩ ⟨Nat.le_of_ble_eq_true rfl, Nat.le_of_ble_eq_true rfl⟩ rfl rfl (Nat.le_of_ble_eq_true rfl) dX7_asks_6 ?_
  refine x_nmIM (fun z4 ez4 => ?_)
  have hR := nmE hR ez4
  have hok := hok z4 ez4
  refine x_if_eq (pc := 9) (tgt := 21) C dX7_asks_9 (by decide) (fun c5 => ?_) (fun c5 => ?_)
  · have hR := hR.trans (if_pos c5)
    refine x_iconst (pc := 21) (v := 0) C dX7_asks_21 (by decide) ?_
    exact x_iretM (pc := 22) C rfl hR dX7_asks_22
  · have hR := hR.trans (if_neg c5)
    have hok := hok.2 c5
    refine x_aload_n (pc := 12) (i := 0) C 0 dX7_asks_12 rfl rfl ?_
    refine x_iload_n (pc := 13) (i := 1) C 1 dX7_asks_13 rfl rfl ?_
    refine x_iload_n (pc := 14) (i := 2) C 2 dX7_asks_14 rfl rfl ?_
    have h6 := hok
    refine x_cIV (pc := 15) (as := [.int x0, .int x1]) (q := 193) C (c_X7_of C.2.2.2.2.2.2.2.1  B z4.2 O x0 x1 h6) (fs := _) e_M rfl cv_X7_of cd_X7_of wd_7_119 ⟨Nat.le_of_ble_eq_true rfl, Nat.le_of_ble_eq_true rfl⟩ ⟨Nat.le_of_ble_eq_true rfl, Nat.le_of_ble_eq_true rfl⟩ rfl rfl (Nat.le_of_ble_eq_true rfl) dX7_asks_15 ?_
    refine x_nmI (fun r7 er7 => ?_)
    have hR := nmE hR er7
    refine x_goto (pc := 18) (tgt := 22) C dX7_asks_18 (by decide) ?_
    exact x_iretM (pc := 22) C rfl hR dX7_asks_22
set_option maxHeartbeats 4000000 in
set_option maxRecDepth 100000 in
theorem c_X7_availableIn {l : Launch} {A : Nat → Prop} {G : GT} {ad : Nat → Nat} (gl : Gl l A ad)  (B : StB) (M : StM) (O : StO) (x0 : Int32) (hok : ok_X7_availableIn M x0) : Met l yX7_availableIn (wof yX7_availableIn cX7_availableIn 2 (some .int)) (rmd 4 0 0) (va_Pc [.ref (ad 193), .int x0] (PW G A ad B M O)) (QI G A ad (f_X7_availableIn M x0).1 B (f_X7_availableIn M x0).2 O) 0 0 A := by
  refine x_body (own := RX7) (by decide +kernel) rfl gl (Nat.le_of_ble_eq_true rfl) (ls := [(0, .ref (ad 193)), (1, .int x0)]) rfl ?_
  intro p0 e s m args below meth c C
  have hR : (f_X7_availableIn M x0) = (nm (f_X7_isAccount M x0) (fun (r2 : Int32) => (nm (f_X7_goes M r2) (fun (z4 : Int32 × StM) => (if z4.1 = 0 then (0, z4.2) else (nm (f_X7_of z4.2 x0 1) (fun (r7 : Int32) => (nm (f_X7_of z4.2 x0 2) (fun (r9 : Int32) => ((r7 + r9), z4.2)))))))))) := rfl
  have hok : ((ok_X7_isAccount M x0) ∧ (∀ r2 : Int32, r2 = (f_X7_isAccount M x0) → ((ok_X7_goes M r2) ∧ (∀ z4 : Int32 × StM, z4 = (f_X7_goes M r2) → ((z4.1 = 0 → True) ∧ (¬ z4.1 = 0 → ((ok_X7_of z4.2 x0 1) ∧ (∀ r7 : Int32, r7 = (f_X7_of z4.2 x0 1) → ((ok_X7_of z4.2 x0 2)))))))))) := hok
  refine x_aload_n (pc := 0) (i := 0) C 0 dX7_availableIn_0 rfl rfl ?_
  refine x_aload_n (pc := 1) (i := 0) C 0 dX7_availableIn_1 rfl rfl ?_
  refine x_iload_n (pc := 2) (i := 1) C 1 dX7_availableIn_2 rfl rfl ?_
  have h1 := hok.1
  have hok := hok.2
  refine x_cIV (pc := 3) (as := [.int x0]) (q := 193) C (c_X7_isAccount C.2.2.2.2.2.2.2.1  B M O x0 h1) (fs := _) e_M rfl cv_X7_isAccount cd_X7_isAccount wd_7_115 ⟨Nat.le_of_ble_eq_true rfl, Nat.le_of_ble_eq_true rfl⟩ ⟨Nat.le_of_ble_eq_true rfl, Nat.le_of_ble_eq_true rfl⟩ rfl rfl (Nat.le_of_ble_eq_true rfl) dX7_availableIn_3 ?_
  refine x_nmI (fun r2 er2 => ?_)
  have hR := nmE hR er2
  have hok := hok r2 er2
  have h3 := hok.1
  have hok := hok.2
  refine x_cIV (pc := 6) (as := [.int r2]) (q := 193) C (c_X7_goes C.2.2.2.2.2.2.2.1  B M O r2 h3) (fs := _) e_M rfl cv_X7_goes cd_X7_goes wd_7_59 ⟨Nat.le_of_ble_eq_true rfl, Nat.le_of_ble_eq_true rfl⟩ ⟨Nat.le_of_ble_eq_true rfl, Nat.le_of_ble_eq_true rfl⟩ rfl rfl (Nat.le_of_ble_eq_true rfl) dX7_availableIn_6 ?_
  refine x_nmIM (fun z4 ez4 => ?_)
  have hR := nmE hR ez4
  have hok := hok z4 ez4
  refine x_if_eq (pc := 9) (tgt := 28) C dX7_availableIn_9 (by decide) (fun c5 => ?_) (fun c5 => ?_)
  · have hR := hR.trans (if_pos c5)
    refine x_iconst (pc := 28) (v := 0) C dX7_availableIn_28 (by decide) ?_
    exact x_iretM (pc := 29) C rfl hR dX7_availableIn_29
  · have hR := hR.trans (if_neg c5)
    have hok := hok.2 c5
    refine x_aload_n (pc := 12) (i := 0) C 0 dX7_availableIn_12 rfl rfl ?_
    refine x_iload_n (pc := 13) (i := 1) C 1 dX7_availableIn_13 rfl rfl ?_
    refine x_iconst (pc := 14) (v := 1) C dX7_availableIn_14 (by decide) ?_
    have h6 := hok.1
    have hok := hok.2
    refine x_cIV (pc := 15) (as := [.int x0, .int 1]) (q := 193) C (c_X7_of C.2.2.2.2.2.2.2.1  B z4.2 O x0 1 h6) (fs := _) e_M rfl cv_X7_of cd_X7_of wd_7_119 ⟨Nat.le_of_ble_eq_true rfl, Nat.le_of_ble_eq_true rfl⟩ ⟨Nat.le_of_ble_eq_true rfl, Nat.le_of_ble_eq_true rfl⟩ rfl rfl (Nat.le_of_ble_eq_true rfl) dX7_availableIn_15 ?_
    refine x_nmI (fun r7 er7 => ?_)
    have hR := nmE hR er7
    have hok := hok r7 er7
    refine x_aload_n (pc := 18) (i := 0) C 0 dX7_availableIn_18 rfl rfl ?_
    refine x_iload_n (pc := 19) (i := 1) C 1 dX7_availableIn_19 rfl rfl ?_
    refine x_iconst (pc := 20) (v := 2) C dX7_availableIn_20 (by decide) ?_
    have h8 := hok
    refine x_cIV (pc := 21) (as := [.int x0, .int 2]) (q := 193) C (c_X7_of C.2.2.2.2.2.2.2.1  B z4.2 O x0 2 h8) (fs := _) e_M rfl cv_X7_of cd_X7_of wd_7_119 ⟨Nat.le_of_ble_eq_true rfl, Nat.le_of_ble_eq_true rfl⟩ ⟨Nat.le_of_ble_eq_true rfl, Nat.le_of_ble_eq_true rfl⟩ rfl rfl (Nat.le_of_ble_eq_true rfl) dX7_availableIn_21 ?_
    refine x_nmI (fun r9 er9 => ?_)
    have hR := nmE hR er9
    refine x_iadd (pc := 24) C dX7_availableIn_24 ?_
    refine x_goto (pc := 25) (tgt := 29) C dX7_availableIn_25 (by decide) ?_
    exact x_iretM (pc := 29) C rfl hR dX7_availableIn_29
set_option maxHeartbeats 4000000 in
set_option maxRecDepth 100000 in
theorem t_X7_accountAtRank_L20 {p0 : Program} {l : Launch} {e : Env} {s : State} {m : MethodId} {args : Array Value} {below : List Frame} {meth : Method} {c : Code} {A : Nat → Prop} {G : GT} {ad : Nat → Nat} {Q : State → Prop} (C : CX p0 l s m args meth c A G ad cX7_accountAtRank RX7 7 (some .int))    (n : Nat) (M : StM) (a1 : Int32) (a2 : Int32) (a3 : Int32) (a4 : Int32) (a5 : Int32) (B : StB) (O : StO) : ∀ (R0 : Int32) (hR : R0 = f_X7_accountAtRank_L20 n M a1 a2 a3 a4 a5) (hok : ok_X7_accountAtRank_L20 n M a1 a2 a3 a4 a5) (k : X p0 l e (rmd 4 0 0) s m args below meth c A G ad 7 0 0 Q B M O [(0, .ref (ad 193)), (1, .int a1), (2, .int a2), (3, .int a3), (4, .int R0)] 79 []), X p0 l e (rmd 4 0 0) s m args below meth c A G ad 7 0 0 Q B M O [(0, .ref (ad 193)), (1, .int a1), (2, .int a2), (3, .int a3), (4, .int a4), (5, .int a5)] 20 [] := by
  induction n generalizing M a1 a2 a3 a4 a5 with
  | zero => intro R0 hR hok k; exact False.elim hok
  | succ n ih =>
    intro R0 hR hok k
    have hR : R0 = (if (ma M 0 (ix 1)) ≤ a5 then a4 else (nm (f_X7_of M a5 1) (fun (r6 : Int32) => (nm (f_X7_of M a3 1) (fun (r8 : Int32) => (nm (r6 - r8) (fun (v9 : Int32) => (if 0 < v9 then (nm (a4 + 1) (fun (v11 : Int32) => (f_X7_accountAtRank_L20 n M a1 a2 a3 v11 (a5 + 1)))) else (if v9 = 0 then (if a3 ≤ a5 then (nm (a4 + 0) (fun (v15 : Int32) => (f_X7_accountAtRank_L20 n M a1 a2 a3 v15 (a5 + 1)))) else (nm (a4 + 1) (fun (v16 : Int32) => (f_X7_accountAtRank_L20 n M a1 a2 a3 v16 (a5 + 1))))) else (nm (a4 + 0) (fun (v13 : Int32) => (f_X7_accountAtRank_L20 n M a1 a2 a3 v13 (a5 + 1))))))))))))) := hR
    have hok : (((ma M 0 (ix 1)) ≤ a5 → True) ∧ (¬ (ma M 0 (ix 1)) ≤ a5 → ((ok_X7_of M a5 1) ∧ (∀ r6 : Int32, r6 = (f_X7_of M a5 1) → ((ok_X7_of M a3 1) ∧ (∀ r8 : Int32, r8 = (f_X7_of M a3 1) → (∀ v9 : Int32, v9 = (r6 - r8) → ((0 < v9 → (∀ v11 : Int32, v11 = (a4 + 1) → (ok_X7_accountAtRank_L20 n M a1 a2 a3 v11 (a5 + 1)))) ∧ (¬ 0 < v9 → ((v9 = 0 → ((a3 ≤ a5 → (∀ v15 : Int32, v15 = (a4 + 0) → (ok_X7_accountAtRank_L20 n M a1 a2 a3 v15 (a5 + 1)))) ∧ (¬ a3 ≤ a5 → (∀ v16 : Int32, v16 = (a4 + 1) → (ok_X7_accountAtRank_L20 n M a1 a2 a3 v16 (a5 + 1)))))) ∧ (¬ v9 = 0 → (∀ v13 : Int32, v13 = (a4 + 0) → (ok_X7_accountAtRank_L20 n M a1 a2 a3 v13 (a5 + 1)))))))))))))) := hok
    refine x_iload (pc := 20) (i := 5) C 5 dX7_accountAtRank_20 rfl ?_
    refine x_aload_n (pc := 22) (i := 0) C 0 dX7_accountAtRank_22 rfl rfl ?_
    refine x_get (pc := 23) (q := 193) (i := 0) C e_M rfl ttX7 (by decide) wd_6_227 rfl dX7_accountAtRank_23 ?_
    refine x_iconst (pc := 26) (v := 1) C dX7_accountAtRank_26 (by decide) ?_
    have h3 : vp_in (1) 124 := (by decide : ¬ ((1 : Int32) < 0 ∨ 124 ≤ Int32.toNatClampNeg 1))
    refine x_iald (pc := 27) (q := 194) C e_M0 h3 dX7_accountAtRank_27 ?_
    refine x_icmp_ge (pc := 28) (tgt := 79) C dX7_accountAtRank_28 (by decide) (fun c4 => ?_) (fun c4 => ?_)
    · have hR := hR.trans (if_pos c4)
      refine x_sub [0, 1, 2, 3, 4] (ls2 := [(0, .ref (ad 193)), (1, .int a1), (2, .int a2), (3, .int a3), (4, .int a4)]) rfl ?_
      subst hR
      exact k
    · have hR := hR.trans (if_neg c4)
      have hok := hok.2 c4
      refine x_aload_n (pc := 31) (i := 0) C 0 dX7_accountAtRank_31 rfl rfl ?_
      refine x_iload (pc := 32) (i := 5) C 5 dX7_accountAtRank_32 rfl ?_
      refine x_iconst (pc := 34) (v := 1) C dX7_accountAtRank_34 (by decide) ?_
      have h5 := hok.1
      have hok := hok.2
      refine x_cIV (pc := 35) (as := [.int a5, .int 1]) (q := 193) C (c_X7_of C.2.2.2.2.2.2.2.1  B M O a5 1 h5) (fs := _) e_M rfl cv_X7_of cd_X7_of wd_7_119 ⟨Nat.le_of_ble_eq_true rfl, Nat.le_of_ble_eq_true rfl⟩ ⟨Nat.le_of_ble_eq_true rfl, Nat.le_of_ble_eq_true rfl⟩ rfl rfl (Nat.le_of_ble_eq_true rfl) dX7_accountAtRank_35 ?_
      refine x_nmI (fun r6 er6 => ?_)
      have hR := nmE hR er6
      have hok := hok r6 er6
      refine x_aload_n (pc := 38) (i := 0) C 0 dX7_accountAtRank_38 rfl rfl ?_
      refine x_iload_n (pc := 39) (i := 3) C 3 dX7_accountAtRank_39 rfl rfl ?_
      refine x_iconst (pc := 40) (v := 1) C dX7_accountAtRank_40 (by decide) ?_
      have h7 := hok.1
      have hok := hok.2
      refine x_cIV (pc := 41) (as := [.int a3, .int 1]) (q := 193) C (c_X7_of C.2.2.2.2.2.2.2.1  B M O a3 1 h7) (fs := _) e_M rfl cv_X7_of cd_X7_of wd_7_119 ⟨Nat.le_of_ble_eq_true rfl, Nat.le_of_ble_eq_true rfl⟩ ⟨Nat.le_of_ble_eq_true rfl, Nat.le_of_ble_eq_true rfl⟩ rfl rfl (Nat.le_of_ble_eq_true rfl) dX7_accountAtRank_41 ?_
      refine x_nmI (fun r8 er8 => ?_)
      have hR := nmE hR er8
      have hok := hok r8 er8
      refine x_isub (pc := 44) C dX7_accountAtRank_44 ?_
      refine x_nmI (fun v9 ev9 => ?_)
      have hR := nmE hR ev9
      have hok := hok v9 ev9
      refine x_istore (pc := 45) (i := 6) (ls2 := [(6, .int v9), (0, .ref (ad 193)), (1, .int a1), (2, .int a2), (3, .int a3), (4, .int a4), (5, .int a5)]) C dX7_accountAtRank_45 (by decide) rfl ?_
      refine x_iload (pc := 47) (i := 4) C 5 dX7_accountAtRank_47 rfl ?_
      refine x_iload (pc := 49) (i := 6) C 0 dX7_accountAtRank_49 rfl ?_
      refine x_if_gt (pc := 51) (tgt := 65) C dX7_accountAtRank_51 (by decide) (fun c10 => ?_) (fun c10 => ?_)
      · have hR := hR.trans (if_pos c10)
        have hok := hok.1 c10
        refine x_iconst (pc := 65) (v := 1) C dX7_accountAtRank_65 (by decide) ?_
        refine x_goto (pc := 66) (tgt := 70) C dX7_accountAtRank_66 (by decide) ?_
        refine x_iadd (pc := 70) C dX7_accountAtRank_70 ?_
        refine x_nmI (fun v11 ev11 => ?_)
        have hR := nmE hR ev11
        have hok := hok v11 ev11
        refine x_istore (pc := 71) (i := 4) (ls2 := [(4, .int v11), (6, .int v9), (0, .ref (ad 193)), (1, .int a1), (2, .int a2), (3, .int a3), (5, .int a5)]) C dX7_accountAtRank_71 (by decide) rfl ?_
        refine x_iinc (pc := 73) (i := 5) (v := (a5 + 1)) (ls2 := [(5, .int (a5 + 1)), (4, .int v11), (6, .int v9), (0, .ref (ad 193)), (1, .int a1), (2, .int a2), (3, .int a3)]) C 6 dX7_accountAtRank_73 rfl rfl (by decide) rfl ?_
        refine x_goto (pc := 76) (tgt := 20) C dX7_accountAtRank_76 (by decide) ?_
        refine x_sub [3, 4, 5, 6, 1, 0] (ls2 := [(0, .ref (ad 193)), (1, .int a1), (2, .int a2), (3, .int a3), (4, .int v11), (5, .int (a5 + 1))]) rfl ?_
        exact ih M a1 a2 a3 v11 (a5 + 1) R0 hR hok k
      · have hR := hR.trans (if_neg c10)
        have hok := hok.2 c10
        refine x_iload (pc := 54) (i := 6) C 0 dX7_accountAtRank_54 rfl ?_
        refine x_if_ne (pc := 56) (tgt := 69) C dX7_accountAtRank_56 (by decide) (fun c12 => ?_) (fun c12 => ?_)
        · have hR := hR.trans (if_neg c12)
          have hok := hok.2 c12
          refine x_iconst (pc := 69) (v := 0) C dX7_accountAtRank_69 (by decide) ?_
          refine x_iadd (pc := 70) C dX7_accountAtRank_70 ?_
          refine x_nmI (fun v13 ev13 => ?_)
          have hR := nmE hR ev13
          have hok := hok v13 ev13
          refine x_istore (pc := 71) (i := 4) (ls2 := [(4, .int v13), (6, .int v9), (0, .ref (ad 193)), (1, .int a1), (2, .int a2), (3, .int a3), (5, .int a5)]) C dX7_accountAtRank_71 (by decide) rfl ?_
          refine x_iinc (pc := 73) (i := 5) (v := (a5 + 1)) (ls2 := [(5, .int (a5 + 1)), (4, .int v13), (6, .int v9), (0, .ref (ad 193)), (1, .int a1), (2, .int a2), (3, .int a3)]) C 6 dX7_accountAtRank_73 rfl rfl (by decide) rfl ?_
          refine x_goto (pc := 76) (tgt := 20) C dX7_accountAtRank_76 (by decide) ?_
          refine x_sub [3, 4, 5, 6, 1, 0] (ls2 := [(0, .ref (ad 193)), (1, .int a1), (2, .int a2), (3, .int a3), (4, .int v13), (5, .int (a5 + 1))]) rfl ?_
          exact ih M a1 a2 a3 v13 (a5 + 1) R0 hR hok k
        · have hR := hR.trans (if_pos c12)
          have hok := hok.1 c12
          refine x_iload (pc := 59) (i := 5) C 6 dX7_accountAtRank_59 rfl ?_
          refine x_iload_n (pc := 61) (i := 3) C 4 dX7_accountAtRank_61 rfl rfl ?_
          refine x_icmp_ge (pc := 62) (tgt := 69) C dX7_accountAtRank_62 (by decide) (fun c14 => ?_) (fun c14 => ?_)
          · have hR := hR.trans (if_pos c14)
            have hok := hok.1 c14
            refine x_iconst (pc := 69) (v := 0) C dX7_accountAtRank_69 (by decide) ?_
            refine x_iadd (pc := 70) C dX7_accountAtRank_70 ?_
            refine x_nmI (fun v15 ev15 => ?_)
            have hR := nmE hR ev15
            have hok := hok v15 ev15
            refine x_istore (pc := 71) (i := 4) (ls2 := [(4, .int v15), (6, .int v9), (0, .ref (ad 193)), (1, .int a1), (2, .int a2), (3, .int a3), (5, .int a5)]) C dX7_accountAtRank_71 (by decide) rfl ?_
            refine x_iinc (pc := 73) (i := 5) (v := (a5 + 1)) (ls2 := [(5, .int (a5 + 1)), (4, .int v15), (6, .int v9), (0, .ref (ad 193)), (1, .int a1), (2, .int a2), (3, .int a3)]) C 6 dX7_accountAtRank_73 rfl rfl (by decide) rfl ?_
            refine x_goto (pc := 76) (tgt := 20) C dX7_accountAtRank_76 (by decide) ?_
            refine x_sub [3, 4, 5, 6, 1, 0] (ls2 := [(0, .ref (ad 193)), (1, .int a1), (2, .int a2), (3, .int a3), (4, .int v15), (5, .int (a5 + 1))]) rfl ?_
            exact ih M a1 a2 a3 v15 (a5 + 1) R0 hR hok k
          · have hR := hR.trans (if_neg c14)
            have hok := hok.2 c14
            refine x_iconst (pc := 65) (v := 1) C dX7_accountAtRank_65 (by decide) ?_
            refine x_goto (pc := 66) (tgt := 70) C dX7_accountAtRank_66 (by decide) ?_
            refine x_iadd (pc := 70) C dX7_accountAtRank_70 ?_
            refine x_nmI (fun v16 ev16 => ?_)
            have hR := nmE hR ev16
            have hok := hok v16 ev16
            refine x_istore (pc := 71) (i := 4) (ls2 := [(4, .int v16), (6, .int v9), (0, .ref (ad 193)), (1, .int a1), (2, .int a2), (3, .int a3), (5, .int a5)]) C dX7_accountAtRank_71 (by decide) rfl ?_
            refine x_iinc (pc := 73) (i := 5) (v := (a5 + 1)) (ls2 := [(5, .int (a5 + 1)), (4, .int v16), (6, .int v9), (0, .ref (ad 193)), (1, .int a1), (2, .int a2), (3, .int a3)]) C 6 dX7_accountAtRank_73 rfl rfl (by decide) rfl ?_
            refine x_goto (pc := 76) (tgt := 20) C dX7_accountAtRank_76 (by decide) ?_
            refine x_sub [3, 4, 5, 6, 1, 0] (ls2 := [(0, .ref (ad 193)), (1, .int a1), (2, .int a2), (3, .int a3), (4, .int v16), (5, .int (a5 + 1))]) rfl ?_
            exact ih M a1 a2 a3 v16 (a5 + 1) R0 hR hok k
set_option maxHeartbeats 4000000 in
set_option maxRecDepth 100000 in
theorem t_X7_accountAtRank_L4 {p0 : Program} {l : Launch} {e : Env} {s : State} {m : MethodId} {args : Array Value} {below : List Frame} {meth : Method} {c : Code} {A : Nat → Prop} {G : GT} {ad : Nat → Nat} {Q : State → Prop} (C : CX p0 l s m args meth c A G ad cX7_accountAtRank RX7 7 (some .int))    (n : Nat) (M : StM) (a1 : Int32) (a2 : Int32) (a3 : Int32) (B : StB) (O : StO) : ∀ (R0 : Int32) (hR : R0 = f_X7_accountAtRank_L4 n M a1 a2 a3) (hok : ok_X7_accountAtRank_L4 n M a1 a2 a3) (k : X p0 l e (rmd 4 0 0) s m args below meth c A G ad 7 0 0 Q B M O [(0, .ref (ad 193)), (2, .int R0)] 97 []), X p0 l e (rmd 4 0 0) s m args below meth c A G ad 7 0 0 Q B M O [(0, .ref (ad 193)), (1, .int a1), (2, .int a2), (3, .int a3)] 4 [] := by
  induction n generalizing M a1 a2 a3 with
  | zero => intro R0 hR hok k; exact False.elim hok
  | succ n ih =>
    intro R0 hR hok k
    have hR : R0 = (if (ma M 0 (ix 1)) ≤ a3 then a2 else (nm (f_X7_accountAtRank_L20 fu M a1 a2 a3 0 0) (fun (z17 : Int32) => (if z17 = a1 then (f_X7_accountAtRank_L4 n M a1 a3 (a3 + 1)) else (f_X7_accountAtRank_L4 n M a1 a2 (a3 + 1)))))) := hR
    have hok : (((ma M 0 (ix 1)) ≤ a3 → True) ∧ (¬ (ma M 0 (ix 1)) ≤ a3 → ((ok_X7_accountAtRank_L20 fu M a1 a2 a3 0 0) ∧ ∀ z17 : Int32, z17 = f_X7_accountAtRank_L20 fu M a1 a2 a3 0 0 → ((z17 = a1 → (ok_X7_accountAtRank_L4 n M a1 a3 (a3 + 1))) ∧ (¬ z17 = a1 → (ok_X7_accountAtRank_L4 n M a1 a2 (a3 + 1))))))) := hok
    refine x_iload_n (pc := 4) (i := 3) C 3 dX7_accountAtRank_4 rfl rfl ?_
    refine x_aload_n (pc := 5) (i := 0) C 0 dX7_accountAtRank_5 rfl rfl ?_
    refine x_get (pc := 6) (q := 193) (i := 0) C e_M rfl ttX7 (by decide) wd_6_227 rfl dX7_accountAtRank_6 ?_
    refine x_iconst (pc := 9) (v := 1) C dX7_accountAtRank_9 (by decide) ?_
    have h1 : vp_in (1) 124 := (by decide : ¬ ((1 : Int32) < 0 ∨ 124 ≤ Int32.toNatClampNeg 1))
    refine x_iald (pc := 10) (q := 194) C e_M0 h1 dX7_accountAtRank_10 ?_
    refine x_icmp_ge (pc := 11) (tgt := 97) C dX7_accountAtRank_11 (by decide) (fun c2 => ?_) (fun c2 => ?_)
    · have hR := hR.trans (if_pos c2)
      refine x_sub [0, 2] (ls2 := [(0, .ref (ad 193)), (2, .int a2)]) rfl ?_
      subst hR
      exact k
    · have hR := hR.trans (if_neg c2)
      have hok := hok.2 c2
      refine x_iconst (pc := 14) (v := 0) C dX7_accountAtRank_14 (by decide) ?_
      refine x_istore (pc := 15) (i := 4) (ls2 := [(4, .int 0), (0, .ref (ad 193)), (1, .int a1), (2, .int a2), (3, .int a3)]) C dX7_accountAtRank_15 (by decide) rfl ?_
      refine x_iconst (pc := 17) (v := 0) C dX7_accountAtRank_17 (by decide) ?_
      refine x_istore (pc := 18) (i := 5) (ls2 := [(5, .int 0), (4, .int 0), (0, .ref (ad 193)), (1, .int a1), (2, .int a2), (3, .int a3)]) C dX7_accountAtRank_18 (by decide) rfl ?_
      refine x_sub [2, 3, 4, 5, 1, 0] (ls2 := [(0, .ref (ad 193)), (1, .int a1), (2, .int a2), (3, .int a3), (4, .int 0), (5, .int 0)]) rfl ?_
      obtain ⟨z17, ez17⟩ : ∃ z : Int32, z = f_X7_accountAtRank_L20 fu M a1 a2 a3 0 0 := ⟨_, rfl⟩
      refine t_X7_accountAtRank_L20 C fu M a1 a2 a3 0 0 B O z17 ez17 hok.1 ?_
      have hR := nmE hR ez17
      have hok := hok.2 z17 ez17
      refine x_iload (pc := 79) (i := 4) C 4 dX7_accountAtRank_79 rfl ?_
      refine x_iload_n (pc := 81) (i := 1) C 1 dX7_accountAtRank_81 rfl rfl ?_
      refine x_icmp_ne (pc := 82) (tgt := 89) C dX7_accountAtRank_82 (by decide) (fun c18 => ?_) (fun c18 => ?_)
      · have hR := hR.trans (if_neg c18)
        have hok := hok.2 c18
        refine x_iload_n (pc := 89) (i := 2) C 2 dX7_accountAtRank_89 rfl rfl ?_
        refine x_istore_n (pc := 90) (i := 2) (ls2 := [(2, .int a2), (0, .ref (ad 193)), (1, .int a1), (3, .int a3), (4, .int z17)]) C dX7_accountAtRank_90 rfl (by decide) rfl ?_
        refine x_iinc (pc := 91) (i := 3) (v := (a3 + 1)) (ls2 := [(3, .int (a3 + 1)), (2, .int a2), (0, .ref (ad 193)), (1, .int a1), (4, .int z17)]) C 3 dX7_accountAtRank_91 rfl rfl (by decide) rfl ?_
        refine x_goto (pc := 94) (tgt := 4) C dX7_accountAtRank_94 (by decide) ?_
        refine x_sub [2, 3, 1, 0] (ls2 := [(0, .ref (ad 193)), (1, .int a1), (2, .int a2), (3, .int (a3 + 1))]) rfl ?_
        exact ih M a1 a2 (a3 + 1) R0 hR hok k
      · have hR := hR.trans (if_pos c18)
        have hok := hok.1 c18
        refine x_iload_n (pc := 85) (i := 3) C 3 dX7_accountAtRank_85 rfl rfl ?_
        refine x_goto (pc := 86) (tgt := 90) C dX7_accountAtRank_86 (by decide) ?_
        refine x_istore_n (pc := 90) (i := 2) (ls2 := [(2, .int a3), (0, .ref (ad 193)), (1, .int a1), (3, .int a3), (4, .int z17)]) C dX7_accountAtRank_90 rfl (by decide) rfl ?_
        refine x_iinc (pc := 91) (i := 3) (v := (a3 + 1)) (ls2 := [(3, .int (a3 + 1)), (2, .int a3), (0, .ref (ad 193)), (1, .int a1), (4, .int z17)]) C 3 dX7_accountAtRank_91 rfl rfl (by decide) rfl ?_
        refine x_goto (pc := 94) (tgt := 4) C dX7_accountAtRank_94 (by decide) ?_
        refine x_sub [2, 3, 1, 0] (ls2 := [(0, .ref (ad 193)), (1, .int a1), (2, .int a3), (3, .int (a3 + 1))]) rfl ?_
        exact ih M a1 a3 (a3 + 1) R0 hR hok k
set_option maxHeartbeats 4000000 in
set_option maxRecDepth 100000 in
theorem t_X7_accountAtRank_J108 {p0 : Program} {l : Launch} {e : Env} {s : State} {m : MethodId} {args : Array Value} {below : List Frame} {meth : Method} {c : Code} {A : Nat → Prop} {G : GT} {ad : Nat → Nat} (C : CX p0 l s m args meth c A G ad cX7_accountAtRank RX7 7 (some .int))  (M : StM) (a2 : Int32) (s0 : Int32) (B : StB) (O : StO) (R0 : Int32 × StM) (hR : R0 = f_X7_accountAtRank_J108 M a2 s0) (hok : ok_X7_accountAtRank_J108 M a2 s0) : X p0 l e (rmd 4 0 0) s m args below meth c A G ad 7 0 0 (MQ below (QI G A ad R0.1 B R0.2 O) args s 0 0 A) B M O [(2, .int a2)] 108 [.int s0, .ref (ad 193)] := by
  have hR : R0 = (nm (f_X7_goes M s0) (fun (z22 : Int32 × StM) => (if z22.1 = 0 then (0, z22.2) else (a2, z22.2)))) := hR
  have hok : ((ok_X7_goes M s0)) := hok
  have h21 := hok
  refine x_cIV (pc := 108) (as := [.int s0]) (q := 193) C (c_X7_goes C.2.2.2.2.2.2.2.1  B M O s0 h21) (fs := _) e_M rfl cv_X7_goes cd_X7_goes wd_7_59 ⟨Nat.le_of_ble_eq_true rfl, Nat.le_of_ble_eq_true rfl⟩ ⟨Nat.le_of_ble_eq_true rfl, Nat.le_of_ble_eq_true rfl⟩ rfl rfl (Nat.le_of_ble_eq_true rfl) dX7_accountAtRank_108 ?_
  refine x_nmIM (fun z22 ez22 => ?_)
  have hR := nmE hR ez22
  refine x_if_eq (pc := 111) (tgt := 118) C dX7_accountAtRank_111 (by decide) (fun c23 => ?_) (fun c23 => ?_)
  · have hR := hR.trans (if_pos c23)
    refine x_iconst (pc := 118) (v := 0) C dX7_accountAtRank_118 (by decide) ?_
    exact x_iretM (pc := 119) C rfl hR dX7_accountAtRank_119
  · have hR := hR.trans (if_neg c23)
    refine x_iload_n (pc := 114) (i := 2) C 0 dX7_accountAtRank_114 rfl rfl ?_
    refine x_goto (pc := 115) (tgt := 119) C dX7_accountAtRank_115 (by decide) ?_
    exact x_iretM (pc := 119) C rfl hR dX7_accountAtRank_119
set_option maxHeartbeats 4000000 in
set_option maxRecDepth 100000 in
theorem c_X7_accountAtRank {l : Launch} {A : Nat → Prop} {G : GT} {ad : Nat → Nat} (gl : Gl l A ad)  (B : StB) (M : StM) (O : StO) (x0 : Int32) (hok : ok_X7_accountAtRank M x0) : Met l yX7_accountAtRank (wof yX7_accountAtRank cX7_accountAtRank 7 (some .int)) (rmd 4 0 0) (va_Pc [.ref (ad 193), .int x0] (PW G A ad B M O)) (QI G A ad (f_X7_accountAtRank M x0).1 B (f_X7_accountAtRank M x0).2 O) 0 0 A := by
  refine x_body (own := RX7) (by decide +kernel) rfl gl (Nat.le_of_ble_eq_true rfl) (ls := [(0, .ref (ad 193)), (1, .int x0)]) rfl ?_
  intro p0 e s m args below meth c C
  have hR : (f_X7_accountAtRank M x0) = (nm (f_X7_accountAtRank_L4 fu M x0 (-1) 0) (fun (z19 : Int32) => (if z19 = (-1) then (f_X7_accountAtRank_J108 M z19 0) else (f_X7_accountAtRank_J108 M z19 1)))) := rfl
  have hok : ((ok_X7_accountAtRank_L4 fu M x0 (-1) 0) ∧ ∀ z19 : Int32, z19 = f_X7_accountAtRank_L4 fu M x0 (-1) 0 → ((z19 = (-1) → (ok_X7_accountAtRank_J108 M z19 0)) ∧ (¬ z19 = (-1) → (ok_X7_accountAtRank_J108 M z19 1)))) := hok
  refine x_iconst (pc := 0) (v := (-1)) C dX7_accountAtRank_0 (by decide) ?_
  refine x_istore_n (pc := 1) (i := 2) (ls2 := [(2, .int (-1)), (0, .ref (ad 193)), (1, .int x0)]) C dX7_accountAtRank_1 rfl (by decide) rfl ?_
  refine x_iconst (pc := 2) (v := 0) C dX7_accountAtRank_2 (by decide) ?_
  refine x_istore_n (pc := 3) (i := 3) (ls2 := [(3, .int 0), (2, .int (-1)), (0, .ref (ad 193)), (1, .int x0)]) C dX7_accountAtRank_3 rfl (by decide) rfl ?_
  refine x_sub [2, 3, 1, 0] (ls2 := [(0, .ref (ad 193)), (1, .int x0), (2, .int (-1)), (3, .int 0)]) rfl ?_
  obtain ⟨z19, ez19⟩ : ∃ z : Int32, z = f_X7_accountAtRank_L4 fu M x0 (-1) 0 := ⟨_, rfl⟩
  refine t_X7_accountAtRank_L4 C fu M x0 (-1) 0 B O z19 ez19 hok.1 ?_
  have hR := nmE hR ez19
  have hok := hok.2 z19 ez19
  refine x_aload_n (pc := 97) (i := 0) C 0 dX7_accountAtRank_97 rfl rfl ?_
  refine x_iload_n (pc := 98) (i := 2) C 1 dX7_accountAtRank_98 rfl rfl ?_
  refine x_iconst (pc := 99) (v := (-1)) C dX7_accountAtRank_99 (by decide) ?_
  refine x_icmp_eq (pc := 100) (tgt := 107) C dX7_accountAtRank_100 (by decide) (fun c20 => ?_) (fun c20 => ?_)
  · have hR := hR.trans (if_pos c20)
    have hok := hok.1 c20
    refine x_iconst (pc := 107) (v := 0) C dX7_accountAtRank_107 (by decide) ?_
    refine x_sub [1] (ls2 := [(2, .int z19)]) rfl ?_
    exact t_X7_accountAtRank_J108 C M z19 0 B O _ hR hok
  · have hR := hR.trans (if_neg c20)
    have hok := hok.2 c20
    refine x_iconst (pc := 103) (v := 1) C dX7_accountAtRank_103 (by decide) ?_
    refine x_goto (pc := 104) (tgt := 108) C dX7_accountAtRank_104 (by decide) ?_
    refine x_sub [1] (ls2 := [(2, .int z19)]) rfl ?_
    exact t_X7_accountAtRank_J108 C M z19 1 B O _ hR hok
