set_option maxHeartbeats 4000000 in
set_option maxRecDepth 100000 in
theorem t_X7_type_J23 {p0 : Program} {l : Launch} {e : Env} {s : State} {m : MethodId} {args : Array Value} {below : List Frame} {meth : Method} {c : Code} {A : Nat → Prop} {G : GT} {ad : Nat → Nat} (C : CX p0 l s m args meth c A G ad cX7_type RX7 2 (some .int))  (M : StM) (a1 : Int32) (s0 : Int32) (s1 : Int32) (B : StB) (O : StO) (R0 : Int32 × StM) (hR : R0 = f_X7_type_J23 M a1 s0 s1) (hok : ok_X7_type_J23 M a1 s0 s1) : X p0 l e (rmd 2 0 0) s m args below meth c A G ad 2 0 0 (MQ below (QI G A ad R0.1 B R0.2 O) args s 0 0 A) B M O [(0, .ref (ad 193)), (1, .int a1)] 23 [.int s0, .int s1, .ref (ad 193)] := by
  have hR : R0 = (nm (f_X7_holds M s1 s0 1 1) (fun (z3 : Int32 × StM) => (if z3.1 = 0 then (0, z3.2) else (nm (sma z3.2 5 (ix (mi z3.2 12)) a1) (fun (M6 : StM) => (nm (smi M6 12 ((mi M6 12) + 1)) (fun (M7 : StM) => ((mi M7 12), M7)))))))) := hR
  have hok : (∀ z3 : Int32 × StM, z3 = (f_X7_holds M s1 s0 1 1) → ((z3.1 = 0 → True) ∧ (¬ z3.1 = 0 → (vp_in (mi z3.2 12) 60)))) := hok
  refine x_iconst (pc := 23) (v := 1) C dX7_type_23 (by decide) ?_
  refine x_iconst (pc := 24) (v := 1) C dX7_type_24 (by decide) ?_
  refine x_cIV (pc := 25) (as := [.int s1, .int s0, .int 1, .int 1]) (q := 193) C (c_X7_holds C.2.2.2.2.2.2.2.1  B M O s1 s0 1 1) (fs := _) e_M rfl cv_X7_holds cd_X7_holds wd_7_63 ⟨Nat.le_of_ble_eq_true rfl, Nat.le_of_ble_eq_true rfl⟩ ⟨Nat.le_of_ble_eq_true rfl, Nat.le_of_ble_eq_true rfl⟩ rfl rfl (Nat.le_of_ble_eq_true rfl) dX7_type_25 ?_
  refine x_nmIM (fun z3 ez3 => ?_)
  have hR := nmE hR ez3
  have hok := hok z3 ez3
  refine x_if_ne (pc := 28) (tgt := 33) C dX7_type_28 (by decide) (fun c4 => ?_) (fun c4 => ?_)
  · have hR := hR.trans (if_neg c4)
    have hok := hok.2 c4
    refine x_aload_n (pc := 33) (i := 0) C 0 dX7_type_33 rfl rfl ?_
    refine x_get (pc := 34) (q := 193) (i := 11) C e_M rfl ttX7 (by decide) wd_6_238 rfl dX7_type_34 ?_
    refine x_aload_n (pc := 37) (i := 0) C 0 dX7_type_37 rfl rfl ?_
    refine x_get (pc := 38) (q := 193) (i := 12) C e_M rfl ttX7 (by decide) wd_6_239 rfl dX7_type_38 ?_
    refine x_iload_n (pc := 41) (i := 1) C 1 dX7_type_41 rfl rfl ?_
    have h5 := hok
    refine x_iastM (pc := 42) (j := 5) (q := 199) C rfl (by decide) e_M5 e_M5.2 h5 dX7_type_42 ?_
    refine x_nmM (fun M6 eM6 => ?_)
    have hR := nmE hR eM6
    refine x_aload_n (pc := 43) (i := 0) C 0 dX7_type_43 rfl rfl ?_
    refine x_dup (pc := 44) C dX7_type_44 rfl ?_
    refine x_get (pc := 45) (q := 193) (i := 12) C e_M rfl ttX7 (by decide) wd_6_239 rfl dX7_type_45 ?_
    refine x_iconst (pc := 48) (v := 1) C dX7_type_48 (by decide) ?_
    refine x_iadd (pc := 49) C dX7_type_49 ?_
    refine x_put (pc := 50) (M2 := (smi M6 12 ((mi M6 12) + 1))) (B2 := B) (O2 := O) (q := 193) (i := 12) C tyX7 tyX7_ok nmX7 e_M rfl ttX7 (by decide) wd_6_239 rfl rfl rfl (Nat.le_of_ble_eq_true rfl) dX7_type_50 (put_M_12 ) (o_smi 12 ((mi M6 12) + 1)) ?_
    refine x_nmM (fun M7 eM7 => ?_)
    have hR := nmE hR eM7
    refine x_aload_n (pc := 53) (i := 0) C 0 dX7_type_53 rfl rfl ?_
    refine x_get (pc := 54) (q := 193) (i := 12) C e_M rfl ttX7 (by decide) wd_6_239 rfl dX7_type_54 ?_
    exact x_iretM (pc := 57) C rfl hR dX7_type_57
  · have hR := hR.trans (if_pos c4)
    refine x_iconst (pc := 31) (v := 0) C dX7_type_31 (by decide) ?_
    exact x_iretM (pc := 32) C rfl hR dX7_type_32
set_option maxHeartbeats 4000000 in
set_option maxRecDepth 100000 in
theorem c_X7_type {l : Launch} {A : Nat → Prop} {G : GT} {ad : Nat → Nat} (gl : Gl l A ad)  (B : StB) (M : StM) (O : StO) (x0 : Int32) (hok : ok_X7_type M x0) : Met l yX7_type (wof yX7_type cX7_type 2 (some .int)) (rmd 2 0 0) (va_Pc [.ref (ad 193), .int x0] (PW G A ad B M O)) (QI G A ad (f_X7_type M x0).1 B (f_X7_type M x0).2 O) 0 0 A := by
  refine x_body (own := RX7) (by decide +kernel) rfl gl (Nat.le_of_ble_eq_true rfl) (ls := [(0, .ref (ad 193)), (1, .int x0)]) rfl ?_
  intro p0 e s m args below meth c C
  have hR : (f_X7_type M x0) = (nm (f_X7_isIn x0 32 126) (fun (r1 : Int32) => (if 60 ≤ (mi M 12) then (f_X7_type_J23 M x0 0 r1) else (f_X7_type_J23 M x0 1 r1)))) := rfl
  have hok : (∀ r1 : Int32, r1 = (f_X7_isIn x0 32 126) → ((60 ≤ (mi M 12) → (ok_X7_type_J23 M x0 0 r1)) ∧ (¬ 60 ≤ (mi M 12) → (ok_X7_type_J23 M x0 1 r1)))) := hok
  refine x_aload_n (pc := 0) (i := 0) C 0 dX7_type_0 rfl rfl ?_
  refine x_iload_n (pc := 1) (i := 1) C 1 dX7_type_1 rfl rfl ?_
  refine x_bipush (pc := 2) (v := 32) C dX7_type_2 (by decide) ?_
  refine x_bipush (pc := 4) (v := 126) C dX7_type_4 (by decide) ?_
  refine x_cIS (pc := 6) (as := [.int x0, .int 32, .int 126]) C (c_X7_isIn C.2.2.2.2.2.2.2.1  B M O x0 32 126) wd_7_91 cd_X7_isIn wd_7_90 ⟨Nat.le_of_ble_eq_true rfl, Nat.le_of_ble_eq_true rfl⟩ ⟨Nat.le_of_ble_eq_true rfl, Nat.le_of_ble_eq_true rfl⟩ rfl rfl (Nat.le_of_ble_eq_true rfl) dX7_type_6 ?_
  refine x_nmI (fun r1 er1 => ?_)
  have hR := nmE hR er1
  have hok := hok r1 er1
  refine x_aload_n (pc := 9) (i := 0) C 0 dX7_type_9 rfl rfl ?_
  refine x_get (pc := 10) (q := 193) (i := 12) C e_M rfl ttX7 (by decide) wd_6_239 rfl dX7_type_10 ?_
  refine x_bipush (pc := 13) (v := 60) C dX7_type_13 (by decide) ?_
  refine x_icmp_ge (pc := 15) (tgt := 22) C dX7_type_15 (by decide) (fun c2 => ?_) (fun c2 => ?_)
  · have hR := hR.trans (if_pos c2)
    have hok := hok.1 c2
    refine x_iconst (pc := 22) (v := 0) C dX7_type_22 (by decide) ?_
    refine x_sub [0, 1] (ls2 := [(0, .ref (ad 193)), (1, .int x0)]) rfl ?_
    exact t_X7_type_J23 C M x0 0 r1 B O _ hR hok
  · have hR := hR.trans (if_neg c2)
    have hok := hok.2 c2
    refine x_iconst (pc := 18) (v := 1) C dX7_type_18 (by decide) ?_
    refine x_goto (pc := 19) (tgt := 23) C dX7_type_19 (by decide) ?_
    refine x_sub [0, 1] (ls2 := [(0, .ref (ad 193)), (1, .int x0)]) rfl ?_
    exact t_X7_type_J23 C M x0 1 r1 B O _ hR hok
set_option maxHeartbeats 4000000 in
set_option maxRecDepth 100000 in
theorem t_X7_reads_J44 {p0 : Program} {l : Launch} {e : Env} {s : State} {m : MethodId} {args : Array Value} {below : List Frame} {meth : Method} {c : Code} {A : Nat → Prop} {G : GT} {ad : Nat → Nat} (C : CX p0 l s m args meth c A G ad cX7_reads RX7 3 (some .int))  (M : StM)  (B : StB) (O : StO) (R0 : Int32 × StM) (hR : R0 = f_X7_reads_J44 M) : X p0 l e (rmd 2 0 0) s m args below meth c A G ad 3 0 0 (MQ below (QI G A ad R0.1 B R0.2 O) args s 0 0 A) B M O [(0, .ref (ad 193))] 44 [] := by
  have hR : R0 = (if (mi M 18) = (-1) then (nm (smi M 18 (mi M 17)) (fun (M4 : StM) => (0, M4))) else (nm (smi M 18 (mi M 18)) (fun (M3 : StM) => (0, M3)))) := hR
  refine x_aload_n (pc := 44) (i := 0) C 0 dX7_reads_44 rfl rfl ?_
  refine x_aload_n (pc := 45) (i := 0) C 0 dX7_reads_45 rfl rfl ?_
  refine x_get (pc := 46) (q := 193) (i := 18) C e_M rfl ttX7 (by decide) wd_7_5 rfl dX7_reads_46 ?_
  refine x_iconst (pc := 49) (v := (-1)) C dX7_reads_49 (by decide) ?_
  refine x_icmp_ne (pc := 50) (tgt := 60) C dX7_reads_50 (by decide) (fun c2 => ?_) (fun c2 => ?_)
  · have hR := hR.trans (if_neg c2)
    refine x_aload_n (pc := 60) (i := 0) C 0 dX7_reads_60 rfl rfl ?_
    refine x_get (pc := 61) (q := 193) (i := 18) C e_M rfl ttX7 (by decide) wd_7_5 rfl dX7_reads_61 ?_
    refine x_put (pc := 64) (M2 := (smi M 18 (mi M 18))) (B2 := B) (O2 := O) (q := 193) (i := 18) C tyX7 tyX7_ok nmX7 e_M rfl ttX7 (by decide) wd_7_5 rfl rfl rfl (Nat.le_of_ble_eq_true rfl) dX7_reads_64 (put_M_18 ) (o_smi 18 (mi M 18)) ?_
    refine x_nmM (fun M3 eM3 => ?_)
    have hR := nmE hR eM3
    refine x_iconst (pc := 67) (v := 0) C dX7_reads_67 (by decide) ?_
    exact x_iretM (pc := 68) C rfl hR dX7_reads_68
  · have hR := hR.trans (if_pos c2)
    refine x_aload_n (pc := 53) (i := 0) C 0 dX7_reads_53 rfl rfl ?_
    refine x_get (pc := 54) (q := 193) (i := 17) C e_M rfl ttX7 (by decide) wd_7_4 rfl dX7_reads_54 ?_
    refine x_goto (pc := 57) (tgt := 64) C dX7_reads_57 (by decide) ?_
    refine x_put (pc := 64) (M2 := (smi M 18 (mi M 17))) (B2 := B) (O2 := O) (q := 193) (i := 18) C tyX7 tyX7_ok nmX7 e_M rfl ttX7 (by decide) wd_7_5 rfl rfl rfl (Nat.le_of_ble_eq_true rfl) dX7_reads_64 (put_M_18 ) (o_smi 18 (mi M 17)) ?_
    refine x_nmM (fun M4 eM4 => ?_)
    have hR := nmE hR eM4
    refine x_iconst (pc := 67) (v := 0) C dX7_reads_67 (by decide) ?_
    exact x_iretM (pc := 68) C rfl hR dX7_reads_68
set_option maxHeartbeats 4000000 in
set_option maxRecDepth 100000 in
theorem c_X7_reads {l : Launch} {A : Nat → Prop} {G : GT} {ad : Nat → Nat} (gl : Gl l A ad)  (B : StB) (M : StM) (O : StO) (x0 : Int32) (x1 : Int32) (hok : ok_X7_reads M x0 x1) : Met l yX7_reads (wof yX7_reads cX7_reads 3 (some .int)) (rmd 2 0 0) (va_Pc [.ref (ad 193), .int x0, .int x1] (PW G A ad B M O)) (QI G A ad (f_X7_reads M x0 x1).1 B (f_X7_reads M x0 x1).2 O) 0 0 A := by
  refine x_body (own := RX7) (by decide +kernel) rfl gl (Nat.le_of_ble_eq_true rfl) (ls := [(0, .ref (ad 193)), (1, .int x0), (2, .int x1)]) rfl ?_
  intro p0 e s m args below meth c C
  have hR : (f_X7_reads M x0 x1) = (if (mi M 18) = (-1) then (nm (f_X7_letterHere M) (fun (r6 : Int32) => (nm (f_X7_isIn r6 x0 x1) (fun (r7 : Int32) => (if r7 = 0 then (f_X7_reads_J44 M) else (nm (smi M 17 ((mi M 17) + 1)) (fun (M9 : StM) => (((ma M9 5 (ix ((mi M9 17) - 1))) - x0), M9)))))))) else (f_X7_reads_J44 M)) := rfl
  have hok : (((mi M 18) = (-1) → ((ok_X7_letterHere M) ∧ (∀ r6 : Int32, r6 = (f_X7_letterHere M) → (∀ r7 : Int32, r7 = (f_X7_isIn r6 x0 x1) → ((r7 = 0 → True) ∧ (¬ r7 = 0 → (∀ M9 : StM, M9 = (smi M 17 ((mi M 17) + 1)) → (vp_in ((mi M9 17) - 1) 60)))))))) ∧ (¬ (mi M 18) = (-1) → True)) := hok
  refine x_aload_n (pc := 0) (i := 0) C 0 dX7_reads_0 rfl rfl ?_
  refine x_get (pc := 1) (q := 193) (i := 18) C e_M rfl ttX7 (by decide) wd_7_5 rfl dX7_reads_1 ?_
  refine x_iconst (pc := 4) (v := (-1)) C dX7_reads_4 (by decide) ?_
  refine x_icmp_ne (pc := 5) (tgt := 44) C dX7_reads_5 (by decide) (fun c1 => ?_) (fun c1 => ?_)
  · have hR := hR.trans (if_neg c1)
    refine x_sub [0] (ls2 := [(0, .ref (ad 193))]) rfl ?_
    exact t_X7_reads_J44 C M B O _ hR
  · have hR := hR.trans (if_pos c1)
    have hok := hok.1 c1
    refine x_aload_n (pc := 8) (i := 0) C 0 dX7_reads_8 rfl rfl ?_
    have h5 := hok.1
    have hok := hok.2
    refine x_cIV (pc := 9) (as := []) (q := 193) C (c_X7_letterHere C.2.2.2.2.2.2.2.1  B M O  h5) (fs := _) e_M rfl cv_X7_letterHere cd_X7_letterHere wd_8_172 ⟨Nat.le_of_ble_eq_true rfl, Nat.le_of_ble_eq_true rfl⟩ ⟨Nat.le_of_ble_eq_true rfl, Nat.le_of_ble_eq_true rfl⟩ rfl rfl (Nat.le_of_ble_eq_true rfl) dX7_reads_9 ?_
    refine x_nmI (fun r6 er6 => ?_)
    have hR := nmE hR er6
    have hok := hok r6 er6
    refine x_iload_n (pc := 12) (i := 1) C 1 dX7_reads_12 rfl rfl ?_
    refine x_iload_n (pc := 13) (i := 2) C 2 dX7_reads_13 rfl rfl ?_
    refine x_cIS (pc := 14) (as := [.int r6, .int x0, .int x1]) C (c_X7_isIn C.2.2.2.2.2.2.2.1  B M O r6 x0 x1) wd_7_91 cd_X7_isIn wd_7_90 ⟨Nat.le_of_ble_eq_true rfl, Nat.le_of_ble_eq_true rfl⟩ ⟨Nat.le_of_ble_eq_true rfl, Nat.le_of_ble_eq_true rfl⟩ rfl rfl (Nat.le_of_ble_eq_true rfl) dX7_reads_14 ?_
    refine x_nmI (fun r7 er7 => ?_)
    have hR := nmE hR er7
    have hok := hok r7 er7
    refine x_if_eq (pc := 17) (tgt := 44) C dX7_reads_17 (by decide) (fun c8 => ?_) (fun c8 => ?_)
    · have hR := hR.trans (if_pos c8)
      refine x_sub [0] (ls2 := [(0, .ref (ad 193))]) rfl ?_
      exact t_X7_reads_J44 C M B O _ hR
    · have hR := hR.trans (if_neg c8)
      have hok := hok.2 c8
      refine x_aload_n (pc := 20) (i := 0) C 0 dX7_reads_20 rfl rfl ?_
      refine x_dup (pc := 21) C dX7_reads_21 rfl ?_
      refine x_get (pc := 22) (q := 193) (i := 17) C e_M rfl ttX7 (by decide) wd_7_4 rfl dX7_reads_22 ?_
      refine x_iconst (pc := 25) (v := 1) C dX7_reads_25 (by decide) ?_
      refine x_iadd (pc := 26) C dX7_reads_26 ?_
      refine x_put (pc := 27) (M2 := (smi M 17 ((mi M 17) + 1))) (B2 := B) (O2 := O) (q := 193) (i := 17) C tyX7 tyX7_ok nmX7 e_M rfl ttX7 (by decide) wd_7_4 rfl rfl rfl (Nat.le_of_ble_eq_true rfl) dX7_reads_27 (put_M_17 ) (o_smi 17 ((mi M 17) + 1)) ?_
      refine x_nmM (fun M9 eM9 => ?_)
      have hR := nmE hR eM9
      have hok := hok M9 eM9
      refine x_aload_n (pc := 30) (i := 0) C 0 dX7_reads_30 rfl rfl ?_
      refine x_get (pc := 31) (q := 193) (i := 11) C e_M rfl ttX7 (by decide) wd_6_238 rfl dX7_reads_31 ?_
      refine x_aload_n (pc := 34) (i := 0) C 0 dX7_reads_34 rfl rfl ?_
      refine x_get (pc := 35) (q := 193) (i := 17) C e_M rfl ttX7 (by decide) wd_7_4 rfl dX7_reads_35 ?_
      refine x_iconst (pc := 38) (v := 1) C dX7_reads_38 (by decide) ?_
      refine x_isub (pc := 39) C dX7_reads_39 ?_
      have h10 := hok
      refine x_iald (pc := 40) (q := 199) C e_M5 h10 dX7_reads_40 ?_
      refine x_iload_n (pc := 41) (i := 1) C 1 dX7_reads_41 rfl rfl ?_
      refine x_isub (pc := 42) C dX7_reads_42 ?_
      exact x_iretM (pc := 43) C rfl hR dX7_reads_43
set_option maxHeartbeats 4000000 in
set_option maxRecDepth 100000 in
theorem t_X7_undo_J13 {p0 : Program} {l : Launch} {e : Env} {s : State} {m : MethodId} {args : Array Value} {below : List Frame} {meth : Method} {c : Code} {A : Nat → Prop} {G : GT} {ad : Nat → Nat} (C : CX p0 l s m args meth c A G ad cX7_undo RX7 1 (some .int))  (M : StM) (s0 : Int32) (B : StB) (O : StO) (R0 : Int32 × StM) (hR : R0 = f_X7_undo_J13 M s0) (hok : ok_X7_undo_J13 M s0) : X p0 l e (rmd 3 0 0) s m args below meth c A G ad 1 0 0 (MQ below (QI G A ad R0.1 B R0.2 O) args s 0 0 A) B M O [(0, .ref (ad 193))] 13 [.int s0, .ref (ad 193)] := by
  have hR : R0 = (nm (f_X7_goes M s0) (fun (z3 : Int32 × StM) => (if z3.1 = 0 then (0, z3.2) else (nm (smi z3.2 6 ((mi z3.2 6) - 1)) (fun (M5 : StM) => (nm (f_X7_copies_M4_M0 M5 ((mi M5 6) * 124) 0) (fun (M7 : StM) => ((mi M7 6), M7)))))))) := hR
  have hok : ((ok_X7_goes M s0) ∧ (∀ z3 : Int32 × StM, z3 = (f_X7_goes M s0) → ((z3.1 = 0 → True) ∧ (¬ z3.1 = 0 → (∀ M5 : StM, M5 = (smi z3.2 6 ((mi z3.2 6) - 1)) → ((ok_X7_copies_M4_M0 M5 ((mi M5 6) * 124) 0))))))) := hok
  have h2 := hok.1
  have hok := hok.2
  refine x_cIV (pc := 13) (as := [.int s0]) (q := 193) C (c_X7_goes C.2.2.2.2.2.2.2.1  B M O s0 h2) (fs := _) e_M rfl cv_X7_goes cd_X7_goes wd_7_59 ⟨Nat.le_of_ble_eq_true rfl, Nat.le_of_ble_eq_true rfl⟩ ⟨Nat.le_of_ble_eq_true rfl, Nat.le_of_ble_eq_true rfl⟩ rfl rfl (Nat.le_of_ble_eq_true rfl) dX7_undo_13 ?_
  refine x_nmIM (fun z3 ez3 => ?_)
  have hR := nmE hR ez3
  have hok := hok z3 ez3
  refine x_if_ne (pc := 16) (tgt := 21) C dX7_undo_16 (by decide) (fun c4 => ?_) (fun c4 => ?_)
  · have hR := hR.trans (if_neg c4)
    have hok := hok.2 c4
    refine x_aload_n (pc := 21) (i := 0) C 0 dX7_undo_21 rfl rfl ?_
    refine x_dup (pc := 22) C dX7_undo_22 rfl ?_
    refine x_get (pc := 23) (q := 193) (i := 6) C e_M rfl ttX7 (by decide) wd_6_233 rfl dX7_undo_23 ?_
    refine x_iconst (pc := 26) (v := 1) C dX7_undo_26 (by decide) ?_
    refine x_isub (pc := 27) C dX7_undo_27 ?_
    refine x_put (pc := 28) (M2 := (smi z3.2 6 ((mi z3.2 6) - 1))) (B2 := B) (O2 := O) (q := 193) (i := 6) C tyX7 tyX7_ok nmX7 e_M rfl ttX7 (by decide) wd_6_233 rfl rfl rfl (Nat.le_of_ble_eq_true rfl) dX7_undo_28 (put_M_6 ) (o_smi 6 ((mi z3.2 6) - 1)) ?_
    refine x_nmM (fun M5 eM5 => ?_)
    have hR := nmE hR eM5
    have hok := hok M5 eM5
    refine x_aload_n (pc := 31) (i := 0) C 0 dX7_undo_31 rfl rfl ?_
    refine x_get (pc := 32) (q := 193) (i := 4) C e_M rfl ttX7 (by decide) wd_6_231 rfl dX7_undo_32 ?_
    refine x_aload_n (pc := 35) (i := 0) C 0 dX7_undo_35 rfl rfl ?_
    refine x_get (pc := 36) (q := 193) (i := 6) C e_M rfl ttX7 (by decide) wd_6_233 rfl dX7_undo_36 ?_
    refine x_bipush (pc := 39) (v := 124) C dX7_undo_39 (by decide) ?_
    refine x_imul (pc := 41) C dX7_undo_41 ?_
    refine x_aload_n (pc := 42) (i := 0) C 0 dX7_undo_42 rfl rfl ?_
    refine x_get (pc := 43) (q := 193) (i := 0) C e_M rfl ttX7 (by decide) wd_6_227 rfl dX7_undo_43 ?_
    refine x_iconst (pc := 46) (v := 0) C dX7_undo_46 (by decide) ?_
    have h6 := hok
    refine x_cVS (pc := 47) (as := [.ref (ad 198), .int ((mi M5 6) * 124), .ref (ad 194), .int 0]) C (c_X7_copies_M4_M0 C.2.2.2.2.2.2.2.1  B M5 O ((mi M5 6) * 124) 0 h6) wd_7_68 cd_X7_copies wd_7_67 ⟨Nat.le_of_ble_eq_true rfl, Nat.le_of_ble_eq_true rfl⟩ ⟨Nat.le_of_ble_eq_true rfl, Nat.le_of_ble_eq_true rfl⟩ rfl rfl (Nat.le_of_ble_eq_true rfl) dX7_undo_47 ?_
    refine x_nmM (fun M7 eM7 => ?_)
    have hR := nmE hR eM7
    refine x_aload_n (pc := 50) (i := 0) C 0 dX7_undo_50 rfl rfl ?_
    refine x_get (pc := 51) (q := 193) (i := 6) C e_M rfl ttX7 (by decide) wd_6_233 rfl dX7_undo_51 ?_
    exact x_iretM (pc := 54) C rfl hR dX7_undo_54
  · have hR := hR.trans (if_pos c4)
    refine x_iconst (pc := 19) (v := 0) C dX7_undo_19 (by decide) ?_
    exact x_iretM (pc := 20) C rfl hR dX7_undo_20
set_option maxHeartbeats 4000000 in
set_option maxRecDepth 100000 in
theorem c_X7_undo {l : Launch} {A : Nat → Prop} {G : GT} {ad : Nat → Nat} (gl : Gl l A ad)  (B : StB) (M : StM) (O : StO)  (hok : ok_X7_undo M) : Met l yX7_undo (wof yX7_undo cX7_undo 1 (some .int)) (rmd 3 0 0) (va_Pc [.ref (ad 193)] (PW G A ad B M O)) (QI G A ad (f_X7_undo M).1 B (f_X7_undo M).2 O) 0 0 A := by
  refine x_body (own := RX7) (by decide +kernel) rfl gl (Nat.le_of_ble_eq_true rfl) (ls := [(0, .ref (ad 193))]) rfl ?_
  intro p0 e s m args below meth c C
  have hR : (f_X7_undo M) = (if (mi M 6) ≤ 0 then (f_X7_undo_J13 M 0) else (f_X7_undo_J13 M 1)) := rfl
  have hok : (((mi M 6) ≤ 0 → (ok_X7_undo_J13 M 0)) ∧ (¬ (mi M 6) ≤ 0 → (ok_X7_undo_J13 M 1))) := hok
  refine x_aload_n (pc := 0) (i := 0) C 0 dX7_undo_0 rfl rfl ?_
  refine x_aload_n (pc := 1) (i := 0) C 0 dX7_undo_1 rfl rfl ?_
  refine x_get (pc := 2) (q := 193) (i := 6) C e_M rfl ttX7 (by decide) wd_6_233 rfl dX7_undo_2 ?_
  refine x_if_le (pc := 5) (tgt := 12) C dX7_undo_5 (by decide) (fun c1 => ?_) (fun c1 => ?_)
  · have hR := hR.trans (if_pos c1)
    have hok := hok.1 c1
    refine x_iconst (pc := 12) (v := 0) C dX7_undo_12 (by decide) ?_
    refine x_sub [0] (ls2 := [(0, .ref (ad 193))]) rfl ?_
    exact t_X7_undo_J13 C M 0 B O _ hR hok
  · have hR := hR.trans (if_neg c1)
    have hok := hok.2 c1
    refine x_iconst (pc := 8) (v := 1) C dX7_undo_8 (by decide) ?_
    refine x_goto (pc := 9) (tgt := 13) C dX7_undo_9 (by decide) ?_
    refine x_sub [0] (ls2 := [(0, .ref (ad 193))]) rfl ?_
    exact t_X7_undo_J13 C M 1 B O _ hR hok
set_option maxHeartbeats 4000000 in
set_option maxRecDepth 100000 in
theorem c_X7_restore {l : Launch} {A : Nat → Prop} {G : GT} {ad : Nat → Nat} (gl : Gl l A ad)  (B : StB) (M : StM) (O : StO)  (hok : ok_X7_restore M) : Met l yX7_restore (wof yX7_restore cX7_restore 1 (some .int)) (rmd 3 0 0) (va_Pc [.ref (ad 193)] (PW G A ad B M O)) (QI G A ad (f_X7_restore M).1 B (f_X7_restore M).2 O) 0 0 A := by
  refine x_body (own := RX7) (by decide +kernel) rfl gl (Nat.le_of_ble_eq_true rfl) (ls := [(0, .ref (ad 193))]) rfl ?_
  intro p0 e s m args below meth c C
  have hR : (f_X7_restore M) = (nm (f_X7_goes M (mi M 5)) (fun (z2 : Int32 × StM) => (if z2.1 = 0 then (0, z2.2) else (nm (f_X7_copies_M3_M0 z2.2 0 0) (fun (M5 : StM) => (nm (smi M5 6 0) (fun (M6 : StM) => ((ma M6 0 (ix 0)), M6)))))))) := rfl
  have hok : ((ok_X7_goes M (mi M 5)) ∧ (∀ z2 : Int32 × StM, z2 = (f_X7_goes M (mi M 5)) → ((z2.1 = 0 → True) ∧ (¬ z2.1 = 0 → ((ok_X7_copies_M3_M0 z2.2 0 0)))))) := hok
  refine x_aload_n (pc := 0) (i := 0) C 0 dX7_restore_0 rfl rfl ?_
  refine x_aload_n (pc := 1) (i := 0) C 0 dX7_restore_1 rfl rfl ?_
  refine x_get (pc := 2) (q := 193) (i := 5) C e_M rfl ttX7 (by decide) wd_6_232 rfl dX7_restore_2 ?_
  have h1 := hok.1
  have hok := hok.2
  refine x_cIV (pc := 5) (as := [.int (mi M 5)]) (q := 193) C (c_X7_goes C.2.2.2.2.2.2.2.1  B M O (mi M 5) h1) (fs := _) e_M rfl cv_X7_goes cd_X7_goes wd_7_59 ⟨Nat.le_of_ble_eq_true rfl, Nat.le_of_ble_eq_true rfl⟩ ⟨Nat.le_of_ble_eq_true rfl, Nat.le_of_ble_eq_true rfl⟩ rfl rfl (Nat.le_of_ble_eq_true rfl) dX7_restore_5 ?_
  refine x_nmIM (fun z2 ez2 => ?_)
  have hR := nmE hR ez2
  have hok := hok z2 ez2
  refine x_if_ne (pc := 8) (tgt := 13) C dX7_restore_8 (by decide) (fun c3 => ?_) (fun c3 => ?_)
  · have hR := hR.trans (if_neg c3)
    have hok := hok.2 c3
    refine x_aload_n (pc := 13) (i := 0) C 0 dX7_restore_13 rfl rfl ?_
    refine x_get (pc := 14) (q := 193) (i := 3) C e_M rfl ttX7 (by decide) wd_6_230 rfl dX7_restore_14 ?_
    refine x_iconst (pc := 17) (v := 0) C dX7_restore_17 (by decide) ?_
    refine x_aload_n (pc := 18) (i := 0) C 0 dX7_restore_18 rfl rfl ?_
    refine x_get (pc := 19) (q := 193) (i := 0) C e_M rfl ttX7 (by decide) wd_6_227 rfl dX7_restore_19 ?_
    refine x_iconst (pc := 22) (v := 0) C dX7_restore_22 (by decide) ?_
    have h4 := hok
    refine x_cVS (pc := 23) (as := [.ref (ad 197), .int 0, .ref (ad 194), .int 0]) C (c_X7_copies_M3_M0 C.2.2.2.2.2.2.2.1  B z2.2 O 0 0 h4) wd_7_68 cd_X7_copies wd_7_67 ⟨Nat.le_of_ble_eq_true rfl, Nat.le_of_ble_eq_true rfl⟩ ⟨Nat.le_of_ble_eq_true rfl, Nat.le_of_ble_eq_true rfl⟩ rfl rfl (Nat.le_of_ble_eq_true rfl) dX7_restore_23 ?_
    refine x_nmM (fun M5 eM5 => ?_)
    have hR := nmE hR eM5
    refine x_aload_n (pc := 26) (i := 0) C 0 dX7_restore_26 rfl rfl ?_
    refine x_iconst (pc := 27) (v := 0) C dX7_restore_27 (by decide) ?_
    refine x_put (pc := 28) (M2 := (smi M5 6 0)) (B2 := B) (O2 := O) (q := 193) (i := 6) C tyX7 tyX7_ok nmX7 e_M rfl ttX7 (by decide) wd_6_233 rfl rfl rfl (Nat.le_of_ble_eq_true rfl) dX7_restore_28 (put_M_6 ) (o_smi 6 0) ?_
    refine x_nmM (fun M6 eM6 => ?_)
    have hR := nmE hR eM6
    refine x_aload_n (pc := 31) (i := 0) C 0 dX7_restore_31 rfl rfl ?_
    refine x_get (pc := 32) (q := 193) (i := 0) C e_M rfl ttX7 (by decide) wd_6_227 rfl dX7_restore_32 ?_
    refine x_iconst (pc := 35) (v := 0) C dX7_restore_35 (by decide) ?_
    have h7 : vp_in (0) 124 := (by decide : ¬ ((0 : Int32) < 0 ∨ 124 ≤ Int32.toNatClampNeg 0))
    refine x_iald (pc := 36) (q := 194) C e_M0 h7 dX7_restore_36 ?_
    exact x_iretM (pc := 37) C rfl hR dX7_restore_37
  · have hR := hR.trans (if_pos c3)
    refine x_iconst (pc := 11) (v := 0) C dX7_restore_11 (by decide) ?_
    exact x_iretM (pc := 12) C rfl hR dX7_restore_12
set_option maxHeartbeats 4000000 in
set_option maxRecDepth 100000 in
theorem c_X7_ends {l : Launch} {A : Nat → Prop} {G : GT} {ad : Nat → Nat} (gl : Gl l A ad)  (B : StB) (M : StM) (O : StO) (x0 : Int32) (hok : ok_X7_ends M x0) : Met l yX7_ends (wof yX7_ends cX7_ends 2 (some .int)) (rmd 3 0 0) (va_Pc [.ref (ad 193), .int x0] (PW G A ad B M O)) (QI G A ad (f_X7_ends M x0).1 B (f_X7_ends M x0).2 O) 0 0 A := by
  refine x_body (own := RX7) (by decide +kernel) rfl gl (Nat.le_of_ble_eq_true rfl) (ls := [(0, .ref (ad 193)), (1, .int x0)]) rfl ?_
  intro p0 e s m args below meth c C
  have hR : (f_X7_ends M x0) = (if (mi M 15) = 0 then (nm (f_X7_remembers M) (fun (M3 : StM) => (x0, M3))) else (nm (f_X7_copies_M1_M0 M 0 0) (fun (M5 : StM) => (0, M5)))) := rfl
  have hok : (((mi M 15) = 0 → ((ok_X7_remembers M))) ∧ (¬ (mi M 15) = 0 → ((ok_X7_copies_M1_M0 M 0 0)))) := hok
  refine x_aload_n (pc := 0) (i := 0) C 0 dX7_ends_0 rfl rfl ?_
  refine x_get (pc := 1) (q := 193) (i := 15) C e_M rfl ttX7 (by decide) wd_7_2 rfl dX7_ends_1 ?_
  refine x_if_eq (pc := 4) (tgt := 22) C dX7_ends_4 (by decide) (fun c1 => ?_) (fun c1 => ?_)
  · have hR := hR.trans (if_pos c1)
    have hok := hok.1 c1
    refine x_aload_n (pc := 22) (i := 0) C 0 dX7_ends_22 rfl rfl ?_
    have h2 := hok
    refine x_cVV (pc := 23) (as := []) (q := 193) C (c_X7_remembers C.2.2.2.2.2.2.2.1  B M O  h2) (fs := _) e_M rfl cv_X7_remembers cd_X7_remembers wd_7_100 ⟨Nat.le_of_ble_eq_true rfl, Nat.le_of_ble_eq_true rfl⟩ ⟨Nat.le_of_ble_eq_true rfl, Nat.le_of_ble_eq_true rfl⟩ rfl rfl (Nat.le_of_ble_eq_true rfl) dX7_ends_23 ?_
    refine x_nmM (fun M3 eM3 => ?_)
    have hR := nmE hR eM3
    refine x_iload_n (pc := 26) (i := 1) C 1 dX7_ends_26 rfl rfl ?_
    exact x_iretM (pc := 27) C rfl hR dX7_ends_27
  · have hR := hR.trans (if_neg c1)
    have hok := hok.2 c1
    refine x_aload_n (pc := 7) (i := 0) C 0 dX7_ends_7 rfl rfl ?_
    refine x_get (pc := 8) (q := 193) (i := 1) C e_M rfl ttX7 (by decide) wd_6_228 rfl dX7_ends_8 ?_
    refine x_iconst (pc := 11) (v := 0) C dX7_ends_11 (by decide) ?_
    refine x_aload_n (pc := 12) (i := 0) C 0 dX7_ends_12 rfl rfl ?_
    refine x_get (pc := 13) (q := 193) (i := 0) C e_M rfl ttX7 (by decide) wd_6_227 rfl dX7_ends_13 ?_
    refine x_iconst (pc := 16) (v := 0) C dX7_ends_16 (by decide) ?_
    have h4 := hok
    refine x_cVS (pc := 17) (as := [.ref (ad 195), .int 0, .ref (ad 194), .int 0]) C (c_X7_copies_M1_M0 C.2.2.2.2.2.2.2.1  B M O 0 0 h4) wd_7_68 cd_X7_copies wd_7_67 ⟨Nat.le_of_ble_eq_true rfl, Nat.le_of_ble_eq_true rfl⟩ ⟨Nat.le_of_ble_eq_true rfl, Nat.le_of_ble_eq_true rfl⟩ rfl rfl (Nat.le_of_ble_eq_true rfl) dX7_ends_17 ?_
    refine x_nmM (fun M5 eM5 => ?_)
    have hR := nmE hR eM5
    refine x_iconst (pc := 20) (v := 0) C dX7_ends_20 (by decide) ?_
    exact x_iretM (pc := 21) C rfl hR dX7_ends_21
set_option maxHeartbeats 4000000 in
set_option maxRecDepth 100000 in
theorem t_X7_of_J17 {p0 : Program} {l : Launch} {e : Env} {s : State} {m : MethodId} {args : Array Value} {below : List Frame} {meth : Method} {c : Code} {A : Nat → Prop} {G : GT} {ad : Nat → Nat} (C : CX p0 l s m args meth c A G ad cX7_of RX7 3 (some .int))  (M : StM) (a2 : Int32) (s0 : Int32) (B : StB) (O : StO) (R0 : Int32) (hR : R0 = f_X7_of_J17 M a2 s0) (hok : ok_X7_of_J17 M a2 s0) : X p0 l e (rmd 3 0 0) s m args below meth c A G ad 3 0 0 (MQ below (QI G A ad R0 B M O) args s 0 0 A) B M O [(2, .int a2)] 17 [.int s0, .ref (ad 194)] := by
  have hR : R0 = (nm (f_X7_accountAt s0) (fun (r4 : Int32) => (ma M 0 (ix (r4 + a2))))) := hR
  have hok : (∀ r4 : Int32, r4 = (f_X7_accountAt s0) → (vp_in (r4 + a2) 124)) := hok
  refine x_cIS (pc := 17) (as := [.int s0]) C (c_X7_accountAt C.2.2.2.2.2.2.2.1  B M O s0) wd_7_94 cd_X7_accountAt wd_7_93 ⟨Nat.le_of_ble_eq_true rfl, Nat.le_of_ble_eq_true rfl⟩ ⟨Nat.le_of_ble_eq_true rfl, Nat.le_of_ble_eq_true rfl⟩ rfl rfl (Nat.le_of_ble_eq_true rfl) dX7_of_17 ?_
  refine x_nmI (fun r4 er4 => ?_)
  have hR := nmE hR er4
  have hok := hok r4 er4
  refine x_iload_n (pc := 20) (i := 2) C 0 dX7_of_20 rfl rfl ?_
  refine x_iadd (pc := 21) C dX7_of_21 ?_
  have h5 := hok
  refine x_iald (pc := 22) (q := 194) C e_M0 h5 dX7_of_22 ?_
  exact x_iret (pc := 23) C rfl hR dX7_of_23
set_option maxHeartbeats 4000000 in
set_option maxRecDepth 100000 in
theorem c_X7_of {l : Launch} {A : Nat → Prop} {G : GT} {ad : Nat → Nat} (gl : Gl l A ad)  (B : StB) (M : StM) (O : StO) (x0 : Int32) (x1 : Int32) (hok : ok_X7_of M x0 x1) : Met l yX7_of (wof yX7_of cX7_of 3 (some .int)) (rmd 3 0 0) (va_Pc [.ref (ad 193), .int x0, .int x1] (PW G A ad B M O)) (QI G A ad (f_X7_of M x0 x1) B M O) 0 0 A := by
  refine x_body (own := RX7) (by decide +kernel) rfl gl (Nat.le_of_ble_eq_true rfl) (ls := [(0, .ref (ad 193)), (1, .int x0), (2, .int x1)]) rfl ?_
  intro p0 e s m args below meth c C
  have hR : (f_X7_of M x0 x1) = (nm (f_X7_isAccount M x0) (fun (r2 : Int32) => (if r2 = 0 then (f_X7_of_J17 M x1 0) else (f_X7_of_J17 M x1 x0)))) := rfl
  have hok : ((ok_X7_isAccount M x0) ∧ (∀ r2 : Int32, r2 = (f_X7_isAccount M x0) → ((r2 = 0 → (ok_X7_of_J17 M x1 0)) ∧ (¬ r2 = 0 → (ok_X7_of_J17 M x1 x0))))) := hok
  refine x_aload_n (pc := 0) (i := 0) C 0 dX7_of_0 rfl rfl ?_
  refine x_get (pc := 1) (q := 193) (i := 0) C e_M rfl ttX7 (by decide) wd_6_227 rfl dX7_of_1 ?_
  refine x_aload_n (pc := 4) (i := 0) C 0 dX7_of_4 rfl rfl ?_
  refine x_iload_n (pc := 5) (i := 1) C 1 dX7_of_5 rfl rfl ?_
  have h1 := hok.1
  have hok := hok.2
  refine x_cIV (pc := 6) (as := [.int x0]) (q := 193) C (c_X7_isAccount C.2.2.2.2.2.2.2.1  B M O x0 h1) (fs := _) e_M rfl cv_X7_isAccount cd_X7_isAccount wd_7_115 ⟨Nat.le_of_ble_eq_true rfl, Nat.le_of_ble_eq_true rfl⟩ ⟨Nat.le_of_ble_eq_true rfl, Nat.le_of_ble_eq_true rfl⟩ rfl rfl (Nat.le_of_ble_eq_true rfl) dX7_of_6 ?_
  refine x_nmI (fun r2 er2 => ?_)
  have hR := nmE hR er2
  have hok := hok r2 er2
  refine x_if_eq (pc := 9) (tgt := 16) C dX7_of_9 (by decide) (fun c3 => ?_) (fun c3 => ?_)
  · have hR := hR.trans (if_pos c3)
    have hok := hok.1 c3
    refine x_iconst (pc := 16) (v := 0) C dX7_of_16 (by decide) ?_
    refine x_sub [2] (ls2 := [(2, .int x1)]) rfl ?_
    exact t_X7_of_J17 C M x1 0 B O _ hR hok
  · have hR := hR.trans (if_neg c3)
    have hok := hok.2 c3
    refine x_iload_n (pc := 12) (i := 1) C 1 dX7_of_12 rfl rfl ?_
    refine x_goto (pc := 13) (tgt := 17) C dX7_of_13 (by decide) ?_
    refine x_sub [2] (ls2 := [(2, .int x1)]) rfl ?_
    exact t_X7_of_J17 C M x1 x0 B O _ hR hok
set_option maxHeartbeats 4000000 in
set_option maxRecDepth 100000 in
theorem t_X7_seals_J70 {p0 : Program} {l : Launch} {e : Env} {s : State} {m : MethodId} {args : Array Value} {below : List Frame} {meth : Method} {c : Code} {A : Nat → Prop} {G : GT} {ad : Nat → Nat} (C : CX p0 l s m args meth c A G ad cX7_seals RX7 7 (some .int))  (M : StM) (a1 : Int32) (a2 : Int32) (a3 : Int32) (a4 : Int32) (s0 : Int32) (s1 : Int32) (s2 : Int32) (B : StB) (O : StO) (R0 : Int32 × StM) (hR : R0 = f_X7_seals_J70 M a1 a2 a3 a4 s0 s1 s2) (hok : ok_X7_seals_J70 M a1 a2 a3 a4 s0 s1 s2) : X p0 l e (rmd 3 0 0) s m args below meth c A G ad 7 0 0 (MQ below (QI G A ad R0.1 B R0.2 O) args s 0 0 A) B M O [(0, .ref (ad 193)), (1, .int a1), (2, .int a2), (3, .int a3), (4, .int a4)] 70 [.int s0, .int s1, .int s2, .ref (ad 193)] := by
  have hR : R0 = (nm (f_X7_holds M s2 s1 s0 1) (fun (z7 : Int32 × StM) => (if z7.1 = 0 then (0, z7.2) else (nm (44 + (5 * (ma z7.2 0 (ix 3)))) (fun (v10 : Int32) => (nm (sma z7.2 0 (ix (v10 + 0)) (ma z7.2 0 (ix 2))) (fun (M13 : StM) => (nm (sma M13 0 (ix (v10 + 1)) a1) (fun (M15 : StM) => (nm (sma M15 0 (ix (v10 + 2)) a2) (fun (M17 : StM) => (nm (sma M17 0 (ix (v10 + 3)) a3) (fun (M19 : StM) => (nm (sma M19 0 (ix (v10 + 4)) ((ma M19 0 (ix 0)) + a4)) (fun (M22 : StM) => (nm (sma M22 0 (ix 3) ((ma M22 0 (ix 3)) + 1)) (fun (M25 : StM) => (nm (sma M25 0 (ix 2) ((ma M25 0 (ix 2)) + 1)) (fun (M28 : StM) => (((ma M28 0 (ix 2)) - 1), M28)))))))))))))))))))) := hR
  have hok : (∀ z7 : Int32 × StM, z7 = (f_X7_holds M s2 s1 s0 1) → ((z7.1 = 0 → True) ∧ (¬ z7.1 = 0 → (∀ v10 : Int32, v10 = (44 + (5 * (ma z7.2 0 (ix 3)))) → (vp_in (v10 + 0) 124 ∧ (∀ M13 : StM, M13 = (sma z7.2 0 (ix (v10 + 0)) (ma z7.2 0 (ix 2))) → (vp_in (v10 + 1) 124 ∧ (∀ M15 : StM, M15 = (sma M13 0 (ix (v10 + 1)) a1) → (vp_in (v10 + 2) 124 ∧ (∀ M17 : StM, M17 = (sma M15 0 (ix (v10 + 2)) a2) → (vp_in (v10 + 3) 124 ∧ (∀ M19 : StM, M19 = (sma M17 0 (ix (v10 + 3)) a3) → (vp_in (v10 + 4) 124))))))))))))) := hok
  refine x_iconst (pc := 70) (v := 1) C dX7_seals_70 (by decide) ?_
  refine x_cIV (pc := 71) (as := [.int s2, .int s1, .int s0, .int 1]) (q := 193) C (c_X7_holds C.2.2.2.2.2.2.2.1  B M O s2 s1 s0 1) (fs := _) e_M rfl cv_X7_holds cd_X7_holds wd_7_63 ⟨Nat.le_of_ble_eq_true rfl, Nat.le_of_ble_eq_true rfl⟩ ⟨Nat.le_of_ble_eq_true rfl, Nat.le_of_ble_eq_true rfl⟩ rfl rfl (Nat.le_of_ble_eq_true rfl) dX7_seals_71 ?_
  refine x_nmIM (fun z7 ez7 => ?_)
  have hR := nmE hR ez7
  have hok := hok z7 ez7
  refine x_if_ne (pc := 74) (tgt := 79) C dX7_seals_74 (by decide) (fun c8 => ?_) (fun c8 => ?_)
  · have hR := hR.trans (if_neg c8)
    have hok := hok.2 c8
    refine x_bipush (pc := 79) (v := 44) C dX7_seals_79 (by decide) ?_
    refine x_iconst (pc := 81) (v := 5) C dX7_seals_81 (by decide) ?_
    refine x_aload_n (pc := 82) (i := 0) C 0 dX7_seals_82 rfl rfl ?_
    refine x_get (pc := 83) (q := 193) (i := 0) C e_M rfl ttX7 (by decide) wd_6_227 rfl dX7_seals_83 ?_
    refine x_iconst (pc := 86) (v := 3) C dX7_seals_86 (by decide) ?_
    have h9 : vp_in (3) 124 := (by decide : ¬ ((3 : Int32) < 0 ∨ 124 ≤ Int32.toNatClampNeg 3))
    refine x_iald (pc := 87) (q := 194) C e_M0 h9 dX7_seals_87 ?_
    refine x_imul (pc := 88) C dX7_seals_88 ?_
    refine x_iadd (pc := 89) C dX7_seals_89 ?_
    refine x_nmI (fun v10 ev10 => ?_)
    have hR := nmE hR ev10
    have hok := hok v10 ev10
    refine x_istore (pc := 90) (i := 6) (ls2 := [(6, .int v10), (0, .ref (ad 193)), (1, .int a1), (2, .int a2), (3, .int a3), (4, .int a4)]) C dX7_seals_90 (by decide) rfl ?_
    refine x_aload_n (pc := 92) (i := 0) C 1 dX7_seals_92 rfl rfl ?_
    refine x_get (pc := 93) (q := 193) (i := 0) C e_M rfl ttX7 (by decide) wd_6_227 rfl dX7_seals_93 ?_
    refine x_iload (pc := 96) (i := 6) C 0 dX7_seals_96 rfl ?_
    refine x_iconst (pc := 98) (v := 0) C dX7_seals_98 (by decide) ?_
    refine x_iadd (pc := 99) C dX7_seals_99 ?_
    refine x_aload_n (pc := 100) (i := 0) C 1 dX7_seals_100 rfl rfl ?_
    refine x_get (pc := 101) (q := 193) (i := 0) C e_M rfl ttX7 (by decide) wd_6_227 rfl dX7_seals_101 ?_
    refine x_iconst (pc := 104) (v := 2) C dX7_seals_104 (by decide) ?_
    have h11 : vp_in (2) 124 := (by decide : ¬ ((2 : Int32) < 0 ∨ 124 ≤ Int32.toNatClampNeg 2))
    refine x_iald (pc := 105) (q := 194) C e_M0 h11 dX7_seals_105 ?_
    have h12 := hok.1
    have hok := hok.2
    refine x_iastM (pc := 106) (j := 0) (q := 194) C rfl (by decide) e_M0 e_M0.2 h12 dX7_seals_106 ?_
    refine x_nmM (fun M13 eM13 => ?_)
    have hR := nmE hR eM13
    have hok := hok M13 eM13
    refine x_aload_n (pc := 107) (i := 0) C 1 dX7_seals_107 rfl rfl ?_
    refine x_get (pc := 108) (q := 193) (i := 0) C e_M rfl ttX7 (by decide) wd_6_227 rfl dX7_seals_108 ?_
    refine x_iload (pc := 111) (i := 6) C 0 dX7_seals_111 rfl ?_
    refine x_iconst (pc := 113) (v := 1) C dX7_seals_113 (by decide) ?_
    refine x_iadd (pc := 114) C dX7_seals_114 ?_
    refine x_iload_n (pc := 115) (i := 1) C 2 dX7_seals_115 rfl rfl ?_
    have h14 := hok.1
    have hok := hok.2
    refine x_iastM (pc := 116) (j := 0) (q := 194) C rfl (by decide) e_M0 e_M0.2 h14 dX7_seals_116 ?_
    refine x_nmM (fun M15 eM15 => ?_)
    have hR := nmE hR eM15
    have hok := hok M15 eM15
    refine x_aload_n (pc := 117) (i := 0) C 1 dX7_seals_117 rfl rfl ?_
    refine x_get (pc := 118) (q := 193) (i := 0) C e_M rfl ttX7 (by decide) wd_6_227 rfl dX7_seals_118 ?_
    refine x_iload (pc := 121) (i := 6) C 0 dX7_seals_121 rfl ?_
    refine x_iconst (pc := 123) (v := 2) C dX7_seals_123 (by decide) ?_
    refine x_iadd (pc := 124) C dX7_seals_124 ?_
    refine x_iload_n (pc := 125) (i := 2) C 3 dX7_seals_125 rfl rfl ?_
    have h16 := hok.1
    have hok := hok.2
    refine x_iastM (pc := 126) (j := 0) (q := 194) C rfl (by decide) e_M0 e_M0.2 h16 dX7_seals_126 ?_
    refine x_nmM (fun M17 eM17 => ?_)
    have hR := nmE hR eM17
    have hok := hok M17 eM17
    refine x_aload_n (pc := 127) (i := 0) C 1 dX7_seals_127 rfl rfl ?_
    refine x_get (pc := 128) (q := 193) (i := 0) C e_M rfl ttX7 (by decide) wd_6_227 rfl dX7_seals_128 ?_
    refine x_iload (pc := 131) (i := 6) C 0 dX7_seals_131 rfl ?_
    refine x_iconst (pc := 133) (v := 3) C dX7_seals_133 (by decide) ?_
    refine x_iadd (pc := 134) C dX7_seals_134 ?_
    refine x_iload_n (pc := 135) (i := 3) C 4 dX7_seals_135 rfl rfl ?_
    have h18 := hok.1
    have hok := hok.2
    refine x_iastM (pc := 136) (j := 0) (q := 194) C rfl (by decide) e_M0 e_M0.2 h18 dX7_seals_136 ?_
    refine x_nmM (fun M19 eM19 => ?_)
    have hR := nmE hR eM19
    have hok := hok M19 eM19
    refine x_aload_n (pc := 137) (i := 0) C 1 dX7_seals_137 rfl rfl ?_
    refine x_get (pc := 138) (q := 193) (i := 0) C e_M rfl ttX7 (by decide) wd_6_227 rfl dX7_seals_138 ?_
    refine x_iload (pc := 141) (i := 6) C 0 dX7_seals_141 rfl ?_
    refine x_iconst (pc := 143) (v := 4) C dX7_seals_143 (by decide) ?_
    refine x_iadd (pc := 144) C dX7_seals_144 ?_
    refine x_aload_n (pc := 145) (i := 0) C 1 dX7_seals_145 rfl rfl ?_
    refine x_get (pc := 146) (q := 193) (i := 0) C e_M rfl ttX7 (by decide) wd_6_227 rfl dX7_seals_146 ?_
    refine x_iconst (pc := 149) (v := 0) C dX7_seals_149 (by decide) ?_
    have h20 : vp_in (0) 124 := (by decide : ¬ ((0 : Int32) < 0 ∨ 124 ≤ Int32.toNatClampNeg 0))
    refine x_iald (pc := 150) (q := 194) C e_M0 h20 dX7_seals_150 ?_
    refine x_iload (pc := 151) (i := 4) C 5 dX7_seals_151 rfl ?_
    refine x_iadd (pc := 153) C dX7_seals_153 ?_
    have h21 := hok
    refine x_iastM (pc := 154) (j := 0) (q := 194) C rfl (by decide) e_M0 e_M0.2 h21 dX7_seals_154 ?_
    refine x_nmM (fun M22 eM22 => ?_)
    have hR := nmE hR eM22
    refine x_aload_n (pc := 155) (i := 0) C 1 dX7_seals_155 rfl rfl ?_
    refine x_get (pc := 156) (q := 193) (i := 0) C e_M rfl ttX7 (by decide) wd_6_227 rfl dX7_seals_156 ?_
    refine x_iconst (pc := 159) (v := 3) C dX7_seals_159 (by decide) ?_
    refine x_dup2 (pc := 160) C dX7_seals_160 rfl rfl ?_
    have h23 : vp_in (3) 124 := (by decide : ¬ ((3 : Int32) < 0 ∨ 124 ≤ Int32.toNatClampNeg 3))
    refine x_iald (pc := 161) (q := 194) C e_M0 h23 dX7_seals_161 ?_
    refine x_iconst (pc := 162) (v := 1) C dX7_seals_162 (by decide) ?_
    refine x_iadd (pc := 163) C dX7_seals_163 ?_
    have h24 : vp_in (3) 124 := (by decide : ¬ ((3 : Int32) < 0 ∨ 124 ≤ Int32.toNatClampNeg 3))
    refine x_iastM (pc := 164) (j := 0) (q := 194) C rfl (by decide) e_M0 e_M0.2 h24 dX7_seals_164 ?_
    refine x_nmM (fun M25 eM25 => ?_)
    have hR := nmE hR eM25
    refine x_aload_n (pc := 165) (i := 0) C 1 dX7_seals_165 rfl rfl ?_
    refine x_get (pc := 166) (q := 193) (i := 0) C e_M rfl ttX7 (by decide) wd_6_227 rfl dX7_seals_166 ?_
    refine x_iconst (pc := 169) (v := 2) C dX7_seals_169 (by decide) ?_
    refine x_dup2 (pc := 170) C dX7_seals_170 rfl rfl ?_
    have h26 : vp_in (2) 124 := (by decide : ¬ ((2 : Int32) < 0 ∨ 124 ≤ Int32.toNatClampNeg 2))
    refine x_iald (pc := 171) (q := 194) C e_M0 h26 dX7_seals_171 ?_
    refine x_iconst (pc := 172) (v := 1) C dX7_seals_172 (by decide) ?_
    refine x_iadd (pc := 173) C dX7_seals_173 ?_
    have h27 : vp_in (2) 124 := (by decide : ¬ ((2 : Int32) < 0 ∨ 124 ≤ Int32.toNatClampNeg 2))
    refine x_iastM (pc := 174) (j := 0) (q := 194) C rfl (by decide) e_M0 e_M0.2 h27 dX7_seals_174 ?_
    refine x_nmM (fun M28 eM28 => ?_)
    have hR := nmE hR eM28
    refine x_aload_n (pc := 175) (i := 0) C 1 dX7_seals_175 rfl rfl ?_
    refine x_get (pc := 176) (q := 193) (i := 0) C e_M rfl ttX7 (by decide) wd_6_227 rfl dX7_seals_176 ?_
    refine x_iconst (pc := 179) (v := 2) C dX7_seals_179 (by decide) ?_
    have h29 : vp_in (2) 124 := (by decide : ¬ ((2 : Int32) < 0 ∨ 124 ≤ Int32.toNatClampNeg 2))
    refine x_iald (pc := 180) (q := 194) C e_M0 h29 dX7_seals_180 ?_
    refine x_iconst (pc := 181) (v := 1) C dX7_seals_181 (by decide) ?_
    refine x_isub (pc := 182) C dX7_seals_182 ?_
    exact x_iretM (pc := 183) C rfl hR dX7_seals_183
  · have hR := hR.trans (if_pos c8)
    refine x_iconst (pc := 77) (v := 0) C dX7_seals_77 (by decide) ?_
    exact x_iretM (pc := 78) C rfl hR dX7_seals_78
set_option maxHeartbeats 4000000 in
set_option maxRecDepth 100000 in
theorem t_X7_seals_J52 {p0 : Program} {l : Launch} {e : Env} {s : State} {m : MethodId} {args : Array Value} {below : List Frame} {meth : Method} {c : Code} {A : Nat → Prop} {G : GT} {ad : Nat → Nat} (C : CX p0 l s m args meth c A G ad cX7_seals RX7 7 (some .int))  (M : StM) (a1 : Int32) (a2 : Int32) (a3 : Int32) (a4 : Int32) (a5 : Int32) (s0 : Int32) (B : StB) (O : StO) (R0 : Int32 × StM) (hR : R0 = f_X7_seals_J52 M a1 a2 a3 a4 a5 s0) (hok : ok_X7_seals_J52 M a1 a2 a3 a4 a5 s0) : X p0 l e (rmd 3 0 0) s m args below meth c A G ad 7 0 0 (MQ below (QI G A ad R0.1 B R0.2 O) args s 0 0 A) B M O [(0, .ref (ad 193)), (1, .int a1), (2, .int a2), (3, .int a3), (4, .int a4), (5, .int a5)] 52 [.int s0, .ref (ad 193)] := by
  have hR : R0 = (if 10 ≤ (ma M 0 (ix 3)) then (f_X7_seals_J70 M a1 a2 a3 a4 0 a5 s0) else (f_X7_seals_J70 M a1 a2 a3 a4 1 a5 s0)) := hR
  have hok : ((10 ≤ (ma M 0 (ix 3)) → (ok_X7_seals_J70 M a1 a2 a3 a4 0 a5 s0)) ∧ (¬ 10 ≤ (ma M 0 (ix 3)) → (ok_X7_seals_J70 M a1 a2 a3 a4 1 a5 s0))) := hok
  refine x_iload (pc := 52) (i := 5) C 5 dX7_seals_52 rfl ?_
  refine x_aload_n (pc := 54) (i := 0) C 0 dX7_seals_54 rfl rfl ?_
  refine x_get (pc := 55) (q := 193) (i := 0) C e_M rfl ttX7 (by decide) wd_6_227 rfl dX7_seals_55 ?_
  refine x_iconst (pc := 58) (v := 3) C dX7_seals_58 (by decide) ?_
  have h5 : vp_in (3) 124 := (by decide : ¬ ((3 : Int32) < 0 ∨ 124 ≤ Int32.toNatClampNeg 3))
  refine x_iald (pc := 59) (q := 194) C e_M0 h5 dX7_seals_59 ?_
  refine x_bipush (pc := 60) (v := 10) C dX7_seals_60 (by decide) ?_
  refine x_icmp_ge (pc := 62) (tgt := 69) C dX7_seals_62 (by decide) (fun c6 => ?_) (fun c6 => ?_)
  · have hR := hR.trans (if_pos c6)
    have hok := hok.1 c6
    refine x_iconst (pc := 69) (v := 0) C dX7_seals_69 (by decide) ?_
    refine x_sub [0, 1, 2, 3, 4] (ls2 := [(0, .ref (ad 193)), (1, .int a1), (2, .int a2), (3, .int a3), (4, .int a4)]) rfl ?_
    exact t_X7_seals_J70 C M a1 a2 a3 a4 0 a5 s0 B O _ hR hok
  · have hR := hR.trans (if_neg c6)
    have hok := hok.2 c6
    refine x_iconst (pc := 65) (v := 1) C dX7_seals_65 (by decide) ?_
    refine x_goto (pc := 66) (tgt := 70) C dX7_seals_66 (by decide) ?_
    refine x_sub [0, 1, 2, 3, 4] (ls2 := [(0, .ref (ad 193)), (1, .int a1), (2, .int a2), (3, .int a3), (4, .int a4)]) rfl ?_
    exact t_X7_seals_J70 C M a1 a2 a3 a4 1 a5 s0 B O _ hR hok
set_option maxHeartbeats 4000000 in
set_option maxRecDepth 100000 in
theorem t_X7_seals_J51 {p0 : Program} {l : Launch} {e : Env} {s : State} {m : MethodId} {args : Array Value} {below : List Frame} {meth : Method} {c : Code} {A : Nat → Prop} {G : GT} {ad : Nat → Nat} (C : CX p0 l s m args meth c A G ad cX7_seals RX7 7 (some .int))  (M : StM) (a1 : Int32) (a2 : Int32) (a3 : Int32) (a4 : Int32) (a5 : Int32) (B : StB) (O : StO) (R0 : Int32 × StM) (hR : R0 = f_X7_seals_J51 M a1 a2 a3 a4 a5) (hok : ok_X7_seals_J51 M a1 a2 a3 a4 a5) : X p0 l e (rmd 3 0 0) s m args below meth c A G ad 7 0 0 (MQ below (QI G A ad R0.1 B R0.2 O) args s 0 0 A) B M O [(0, .ref (ad 193)), (1, .int a1), (2, .int a2), (3, .int a3), (4, .int a4), (5, .int a5)] 51 [.ref (ad 193)] := by
  have hR : R0 = (f_X7_seals_J52 M a1 a2 a3 a4 a5 0) := hR
  have hok : (ok_X7_seals_J52 M a1 a2 a3 a4 a5 0) := hok
  refine x_iconst (pc := 51) (v := 0) C dX7_seals_51 (by decide) ?_
  refine x_sub [0, 1, 2, 3, 4, 5] (ls2 := [(0, .ref (ad 193)), (1, .int a1), (2, .int a2), (3, .int a3), (4, .int a4), (5, .int a5)]) rfl ?_
  exact t_X7_seals_J52 C M a1 a2 a3 a4 a5 0 B O _ hR hok
set_option maxHeartbeats 4000000 in
set_option maxRecDepth 100000 in
theorem t_X7_seals_J28 {p0 : Program} {l : Launch} {e : Env} {s : State} {m : MethodId} {args : Array Value} {below : List Frame} {meth : Method} {c : Code} {A : Nat → Prop} {G : GT} {ad : Nat → Nat} (C : CX p0 l s m args meth c A G ad cX7_seals RX7 7 (some .int))  (M : StM) (a1 : Int32) (a2 : Int32) (a3 : Int32) (a4 : Int32) (s0 : Int32) (B : StB) (O : StO) (R0 : Int32 × StM) (hR : R0 = f_X7_seals_J28 M a1 a2 a3 a4 s0) (hok : ok_X7_seals_J28 M a1 a2 a3 a4 s0) : X p0 l e (rmd 3 0 0) s m args below meth c A G ad 7 0 0 (MQ below (QI G A ad R0.1 B R0.2 O) args s 0 0 A) B M O [(0, .ref (ad 193)), (1, .int a1), (2, .int a2), (3, .int a3), (4, .int a4)] 28 [.int s0] := by
  have hR : R0 = (nm (f_X7_isAccount M a1) (fun (r3 : Int32) => (if r3 = 0 then (f_X7_seals_J51 M a1 a2 a3 a4 s0) else (nm (f_X7_isAccount M a2) (fun (r31 : Int32) => (if r31 = 0 then (f_X7_seals_J51 M a1 a2 a3 a4 s0) else (f_X7_seals_J52 M a1 a2 a3 a4 s0 1))))))) := hR
  have hok : ((ok_X7_isAccount M a1) ∧ (∀ r3 : Int32, r3 = (f_X7_isAccount M a1) → ((r3 = 0 → (ok_X7_seals_J51 M a1 a2 a3 a4 s0)) ∧ (¬ r3 = 0 → ((ok_X7_isAccount M a2) ∧ (∀ r31 : Int32, r31 = (f_X7_isAccount M a2) → ((r31 = 0 → (ok_X7_seals_J51 M a1 a2 a3 a4 s0)) ∧ (¬ r31 = 0 → (ok_X7_seals_J52 M a1 a2 a3 a4 s0 1))))))))) := hok
  refine x_istore (pc := 28) (i := 5) (ls2 := [(5, .int s0), (0, .ref (ad 193)), (1, .int a1), (2, .int a2), (3, .int a3), (4, .int a4)]) C dX7_seals_28 (by decide) rfl ?_
  refine x_aload_n (pc := 30) (i := 0) C 1 dX7_seals_30 rfl rfl ?_
  refine x_aload_n (pc := 31) (i := 0) C 1 dX7_seals_31 rfl rfl ?_
  refine x_iload_n (pc := 32) (i := 1) C 2 dX7_seals_32 rfl rfl ?_
  have h2 := hok.1
  have hok := hok.2
  refine x_cIV (pc := 33) (as := [.int a1]) (q := 193) C (c_X7_isAccount C.2.2.2.2.2.2.2.1  B M O a1 h2) (fs := _) e_M rfl cv_X7_isAccount cd_X7_isAccount wd_7_115 ⟨Nat.le_of_ble_eq_true rfl, Nat.le_of_ble_eq_true rfl⟩ ⟨Nat.le_of_ble_eq_true rfl, Nat.le_of_ble_eq_true rfl⟩ rfl rfl (Nat.le_of_ble_eq_true rfl) dX7_seals_33 ?_
  refine x_nmI (fun r3 er3 => ?_)
  have hR := nmE hR er3
  have hok := hok r3 er3
  refine x_if_eq (pc := 36) (tgt := 51) C dX7_seals_36 (by decide) (fun c4 => ?_) (fun c4 => ?_)
  · have hR := hR.trans (if_pos c4)
    have hok := hok.1 c4
    refine x_sub [1, 2, 3, 4, 5, 0] (ls2 := [(0, .ref (ad 193)), (1, .int a1), (2, .int a2), (3, .int a3), (4, .int a4), (5, .int s0)]) rfl ?_
    exact t_X7_seals_J51 C M a1 a2 a3 a4 s0 B O _ hR hok
  · have hR := hR.trans (if_neg c4)
    have hok := hok.2 c4
    refine x_aload_n (pc := 39) (i := 0) C 1 dX7_seals_39 rfl rfl ?_
    refine x_iload_n (pc := 40) (i := 2) C 3 dX7_seals_40 rfl rfl ?_
    have h30 := hok.1
    have hok := hok.2
    refine x_cIV (pc := 41) (as := [.int a2]) (q := 193) C (c_X7_isAccount C.2.2.2.2.2.2.2.1  B M O a2 h30) (fs := _) e_M rfl cv_X7_isAccount cd_X7_isAccount wd_7_115 ⟨Nat.le_of_ble_eq_true rfl, Nat.le_of_ble_eq_true rfl⟩ ⟨Nat.le_of_ble_eq_true rfl, Nat.le_of_ble_eq_true rfl⟩ rfl rfl (Nat.le_of_ble_eq_true rfl) dX7_seals_41 ?_
    refine x_nmI (fun r31 er31 => ?_)
    have hR := nmE hR er31
    have hok := hok r31 er31
    refine x_if_eq (pc := 44) (tgt := 51) C dX7_seals_44 (by decide) (fun c32 => ?_) (fun c32 => ?_)
    · have hR := hR.trans (if_pos c32)
      have hok := hok.1 c32
      refine x_sub [1, 2, 3, 4, 5, 0] (ls2 := [(0, .ref (ad 193)), (1, .int a1), (2, .int a2), (3, .int a3), (4, .int a4), (5, .int s0)]) rfl ?_
      exact t_X7_seals_J51 C M a1 a2 a3 a4 s0 B O _ hR hok
    · have hR := hR.trans (if_neg c32)
      have hok := hok.2 c32
      refine x_iconst (pc := 47) (v := 1) C dX7_seals_47 (by decide) ?_
      refine x_goto (pc := 48) (tgt := 52) C dX7_seals_48 (by decide) ?_
      refine x_sub [1, 2, 3, 4, 5, 0] (ls2 := [(0, .ref (ad 193)), (1, .int a1), (2, .int a2), (3, .int a3), (4, .int a4), (5, .int s0)]) rfl ?_
      exact t_X7_seals_J52 C M a1 a2 a3 a4 s0 1 B O _ hR hok
set_option maxHeartbeats 4000000 in
set_option maxRecDepth 100000 in
theorem t_X7_seals_J27 {p0 : Program} {l : Launch} {e : Env} {s : State} {m : MethodId} {args : Array Value} {below : List Frame} {meth : Method} {c : Code} {A : Nat → Prop} {G : GT} {ad : Nat → Nat} (C : CX p0 l s m args meth c A G ad cX7_seals RX7 7 (some .int))  (M : StM) (a1 : Int32) (a2 : Int32) (a3 : Int32) (a4 : Int32) (B : StB) (O : StO) (R0 : Int32 × StM) (hR : R0 = f_X7_seals_J27 M a1 a2 a3 a4) (hok : ok_X7_seals_J27 M a1 a2 a3 a4) : X p0 l e (rmd 3 0 0) s m args below meth c A G ad 7 0 0 (MQ below (QI G A ad R0.1 B R0.2 O) args s 0 0 A) B M O [(0, .ref (ad 193)), (1, .int a1), (2, .int a2), (3, .int a3), (4, .int a4)] 27 [] := by
  have hR : R0 = (f_X7_seals_J28 M a1 a2 a3 a4 0) := hR
  have hok : (ok_X7_seals_J28 M a1 a2 a3 a4 0) := hok
  refine x_iconst (pc := 27) (v := 0) C dX7_seals_27 (by decide) ?_
  refine x_sub [0, 1, 2, 3, 4] (ls2 := [(0, .ref (ad 193)), (1, .int a1), (2, .int a2), (3, .int a3), (4, .int a4)]) rfl ?_
  exact t_X7_seals_J28 C M a1 a2 a3 a4 0 B O _ hR hok
set_option maxHeartbeats 4000000 in
set_option maxRecDepth 100000 in
theorem c_X7_seals {l : Launch} {A : Nat → Prop} {G : GT} {ad : Nat → Nat} (gl : Gl l A ad)  (B : StB) (M : StM) (O : StO) (x0 : Int32) (x1 : Int32) (x2 : Int32) (x3 : Int32) (hok : ok_X7_seals M x0 x1 x2 x3) : Met l yX7_seals (wof yX7_seals cX7_seals 7 (some .int)) (rmd 3 0 0) (va_Pc [.ref (ad 193), .int x0, .int x1, .int x2, .int x3] (PW G A ad B M O)) (QI G A ad (f_X7_seals M x0 x1 x2 x3).1 B (f_X7_seals M x0 x1 x2 x3).2 O) 0 0 A := by
  refine x_body (own := RX7) (by decide +kernel) rfl gl (Nat.le_of_ble_eq_true rfl) (ls := [(0, .ref (ad 193)), (1, .int x0), (2, .int x1), (3, .int x2), (4, .int x3)]) rfl ?_
  intro p0 e s m args below meth c C
  have hR : (f_X7_seals M x0 x1 x2 x3) = (if x0 = x1 then (f_X7_seals_J27 M x0 x1 x2 x3) else (nm (f_X7_isAmount x2) (fun (r34 : Int32) => (if r34 = 0 then (f_X7_seals_J27 M x0 x1 x2 x3) else (nm (f_X7_isIn x3 0 60) (fun (r36 : Int32) => (if r36 = 0 then (f_X7_seals_J27 M x0 x1 x2 x3) else (f_X7_seals_J28 M x0 x1 x2 x3 1)))))))) := rfl
  have hok : ((x0 = x1 → (ok_X7_seals_J27 M x0 x1 x2 x3)) ∧ (¬ x0 = x1 → ((ok_X7_isAmount x2) ∧ (∀ r34 : Int32, r34 = (f_X7_isAmount x2) → ((r34 = 0 → (ok_X7_seals_J27 M x0 x1 x2 x3)) ∧ (¬ r34 = 0 → (∀ r36 : Int32, r36 = (f_X7_isIn x3 0 60) → ((r36 = 0 → (ok_X7_seals_J27 M x0 x1 x2 x3)) ∧ (¬ r36 = 0 → (ok_X7_seals_J28 M x0 x1 x2 x3 1)))))))))) := hok
  refine x_iload_n (pc := 0) (i := 1) C 1 dX7_seals_0 rfl rfl ?_
  refine x_iload_n (pc := 1) (i := 2) C 2 dX7_seals_1 rfl rfl ?_
  refine x_icmp_eq (pc := 2) (tgt := 27) C dX7_seals_2 (by decide) (fun c1 => ?_) (fun c1 => ?_)
  · have hR := hR.trans (if_pos c1)
    have hok := hok.1 c1
    refine x_sub [0, 1, 2, 3, 4] (ls2 := [(0, .ref (ad 193)), (1, .int x0), (2, .int x1), (3, .int x2), (4, .int x3)]) rfl ?_
    exact t_X7_seals_J27 C M x0 x1 x2 x3 B O _ hR hok
  · have hR := hR.trans (if_neg c1)
    have hok := hok.2 c1
    refine x_iload_n (pc := 5) (i := 3) C 3 dX7_seals_5 rfl rfl ?_
    have h33 := hok.1
    have hok := hok.2
    refine x_cIS (pc := 6) (as := [.int x2]) C (c_X7_isAmount C.2.2.2.2.2.2.2.1  B M O x2 h33) wd_7_113 cd_X7_isAmount wd_7_112 ⟨Nat.le_of_ble_eq_true rfl, Nat.le_of_ble_eq_true rfl⟩ ⟨Nat.le_of_ble_eq_true rfl, Nat.le_of_ble_eq_true rfl⟩ rfl rfl (Nat.le_of_ble_eq_true rfl) dX7_seals_6 ?_
    refine x_nmI (fun r34 er34 => ?_)
    have hR := nmE hR er34
    have hok := hok r34 er34
    refine x_if_eq (pc := 9) (tgt := 27) C dX7_seals_9 (by decide) (fun c35 => ?_) (fun c35 => ?_)
    · have hR := hR.trans (if_pos c35)
      have hok := hok.1 c35
      refine x_sub [0, 1, 2, 3, 4] (ls2 := [(0, .ref (ad 193)), (1, .int x0), (2, .int x1), (3, .int x2), (4, .int x3)]) rfl ?_
      exact t_X7_seals_J27 C M x0 x1 x2 x3 B O _ hR hok
    · have hR := hR.trans (if_neg c35)
      have hok := hok.2 c35
      refine x_iload (pc := 12) (i := 4) C 4 dX7_seals_12 rfl ?_
      refine x_iconst (pc := 14) (v := 0) C dX7_seals_14 (by decide) ?_
      refine x_bipush (pc := 15) (v := 60) C dX7_seals_15 (by decide) ?_
      refine x_cIS (pc := 17) (as := [.int x3, .int 0, .int 60]) C (c_X7_isIn C.2.2.2.2.2.2.2.1  B M O x3 0 60) wd_7_91 cd_X7_isIn wd_7_90 ⟨Nat.le_of_ble_eq_true rfl, Nat.le_of_ble_eq_true rfl⟩ ⟨Nat.le_of_ble_eq_true rfl, Nat.le_of_ble_eq_true rfl⟩ rfl rfl (Nat.le_of_ble_eq_true rfl) dX7_seals_17 ?_
      refine x_nmI (fun r36 er36 => ?_)
      have hR := nmE hR er36
      have hok := hok r36 er36
      refine x_if_eq (pc := 20) (tgt := 27) C dX7_seals_20 (by decide) (fun c37 => ?_) (fun c37 => ?_)
      · have hR := hR.trans (if_pos c37)
        have hok := hok.1 c37
        refine x_sub [0, 1, 2, 3, 4] (ls2 := [(0, .ref (ad 193)), (1, .int x0), (2, .int x1), (3, .int x2), (4, .int x3)]) rfl ?_
        exact t_X7_seals_J27 C M x0 x1 x2 x3 B O _ hR hok
      · have hR := hR.trans (if_neg c37)
        have hok := hok.2 c37
        refine x_iconst (pc := 23) (v := 1) C dX7_seals_23 (by decide) ?_
        refine x_goto (pc := 24) (tgt := 28) C dX7_seals_24 (by decide) ?_
        refine x_sub [0, 1, 2, 3, 4] (ls2 := [(0, .ref (ad 193)), (1, .int x0), (2, .int x1), (3, .int x2), (4, .int x3)]) rfl ?_
        exact t_X7_seals_J28 C M x0 x1 x2 x3 1 B O _ hR hok
