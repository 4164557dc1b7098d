set_option maxHeartbeats 4000000 in
set_option maxRecDepth 100000 in
theorem c_X7_begins {l : Launch} {A : Nat → Prop} {G : GT} {ad : Nat → Nat} (gl : Gl l A ad)  (B : StB) (M : StM) (O : StO)  (hok : ok_X7_begins M) : Met l yX7_begins (wof yX7_begins cX7_begins 1 none) (rmd 2 0 0) (va_Pc [.ref (ad 193)] (PW G A ad B M O)) (QV G A ad B (f_X7_begins M) O) 0 0 A := by
  refine x_body (own := RX7) (by decide +kernel) rfl gl (Nat.le_of_ble_eq_true rfl) (ls := [(0, .ref (ad 193))]) rfl ?_
  intro p0 e s m args below meth c C
  have hR : (f_X7_begins M) = (nm (f_X7_copies_M0_M1 M 0 0) (fun (M2 : StM) => M2)) := rfl
  have hok : ((ok_X7_copies_M0_M1 M 0 0)) := hok
  refine x_aload_n (pc := 0) (i := 0) C 0 dX7_begins_0 rfl rfl ?_
  refine x_get (pc := 1) (q := 193) (i := 0) C e_M rfl ttX7 (by decide) wd_6_227 rfl dX7_begins_1 ?_
  refine x_iconst (pc := 4) (v := 0) C dX7_begins_4 (by decide) ?_
  refine x_aload_n (pc := 5) (i := 0) C 0 dX7_begins_5 rfl rfl ?_
  refine x_get (pc := 6) (q := 193) (i := 1) C e_M rfl ttX7 (by decide) wd_6_228 rfl dX7_begins_6 ?_
  refine x_iconst (pc := 9) (v := 0) C dX7_begins_9 (by decide) ?_
  have h1 := hok
  refine x_cVS (pc := 10) (as := [.ref (ad 194), .int 0, .ref (ad 195), .int 0]) C (c_X7_copies_M0_M1 C.2.2.2.2.2.2.2.1  B M O 0 0 h1) wd_7_68 cd_X7_copies wd_7_67 ⟨Nat.le_of_ble_eq_true rfl, Nat.le_of_ble_eq_true rfl⟩ ⟨Nat.le_of_ble_eq_true rfl, Nat.le_of_ble_eq_true rfl⟩ rfl rfl (Nat.le_of_ble_eq_true rfl) dX7_begins_10 ?_
  refine x_nmM (fun M2 eM2 => ?_)
  have hR := nmE hR eM2
  exact x_vretM (pc := 13) C rfl hR dX7_begins_13
set_option maxHeartbeats 4000000 in
set_option maxRecDepth 100000 in
theorem t_X7_opens_L52 {p0 : Program} {l : Launch} {e : Env} {s : State} {m : MethodId} {args : Array Value} {below : List Frame} {meth : Method} {c : Code} {A : Nat → Prop} {G : GT} {ad : Nat → Nat} {Q : State → Prop} (C : CX p0 l s m args meth c A G ad cX7_opens RX7 3 (some .int))    (n : Nat) (M : StM) (a2 : Int32) (B : StB) (O : StO) : ∀ (R0 : StM) (hR : R0 = f_X7_opens_L52 n M a2) (hok : ok_X7_opens_L52 n M a2) (k : X p0 l e (rmd 2 0 0) s m args below meth c A G ad 3 0 0 Q B R0 O [(0, .ref (ad 193))] 80 []), X p0 l e (rmd 2 0 0) s m args below meth c A G ad 3 0 0 Q B M O [(0, .ref (ad 193)), (2, .int a2)] 52 [] := by
  induction n generalizing M a2 with
  | zero => intro R0 hR hok k; exact False.elim hok
  | succ n ih =>
    intro R0 hR hok k
    have hR : R0 = (if 4 ≤ a2 then M else (nm (f_X7_accountAt (ma M 0 (ix 1))) (fun (r12 : Int32) => (nm (sma M 0 (ix (r12 + a2)) 0) (fun (M14 : StM) => (f_X7_opens_L52 n M14 (a2 + 1))))))) := hR
    have hok : ((4 ≤ a2 → True) ∧ (¬ 4 ≤ a2 → (∀ r12 : Int32, r12 = (f_X7_accountAt (ma M 0 (ix 1))) → (vp_in (r12 + a2) 124 ∧ (∀ M14 : StM, M14 = (sma M 0 (ix (r12 + a2)) 0) → (ok_X7_opens_L52 n M14 (a2 + 1))))))) := hok
    refine x_iload_n (pc := 52) (i := 2) C 1 dX7_opens_52 rfl rfl ?_
    refine x_iconst (pc := 53) (v := 4) C dX7_opens_53 (by decide) ?_
    refine x_icmp_ge (pc := 54) (tgt := 80) C dX7_opens_54 (by decide) (fun c10 => ?_) (fun c10 => ?_)
    · have hR := hR.trans (if_pos c10)
      refine x_sub [0] (ls2 := [(0, .ref (ad 193))]) rfl ?_
      subst hR
      exact k
    · have hR := hR.trans (if_neg c10)
      have hok := hok.2 c10
      refine x_aload_n (pc := 57) (i := 0) C 0 dX7_opens_57 rfl rfl ?_
      refine x_get (pc := 58) (q := 193) (i := 0) C e_M rfl ttX7 (by decide) wd_6_227 rfl dX7_opens_58 ?_
      refine x_aload_n (pc := 61) (i := 0) C 0 dX7_opens_61 rfl rfl ?_
      refine x_get (pc := 62) (q := 193) (i := 0) C e_M rfl ttX7 (by decide) wd_6_227 rfl dX7_opens_62 ?_
      refine x_iconst (pc := 65) (v := 1) C dX7_opens_65 (by decide) ?_
      have h11 : vp_in (1) 124 := (by decide : ¬ ((1 : Int32) < 0 ∨ 124 ≤ Int32.toNatClampNeg 1))
      refine x_iald (pc := 66) (q := 194) C e_M0 h11 dX7_opens_66 ?_
      refine x_cIS (pc := 67) (as := [.int (ma M 0 (ix 1))]) C (c_X7_accountAt C.2.2.2.2.2.2.2.1  B M O (ma M 0 (ix 1))) wd_7_94 cd_X7_accountAt wd_7_93 ⟨Nat.le_of_ble_eq_true rfl, Nat.le_of_ble_eq_true rfl⟩ ⟨Nat.le_of_ble_eq_true rfl, Nat.le_of_ble_eq_true rfl⟩ rfl rfl (Nat.le_of_ble_eq_true rfl) dX7_opens_67 ?_
      refine x_nmI (fun r12 er12 => ?_)
      have hR := nmE hR er12
      have hok := hok r12 er12
      refine x_iload_n (pc := 70) (i := 2) C 1 dX7_opens_70 rfl rfl ?_
      refine x_iadd (pc := 71) C dX7_opens_71 ?_
      refine x_iconst (pc := 72) (v := 0) C dX7_opens_72 (by decide) ?_
      have h13 := hok.1
      have hok := hok.2
      refine x_iastM (pc := 73) (j := 0) (q := 194) C rfl (by decide) e_M0 e_M0.2 h13 dX7_opens_73 ?_
      refine x_nmM (fun M14 eM14 => ?_)
      have hR := nmE hR eM14
      have hok := hok M14 eM14
      refine x_iinc (pc := 74) (i := 2) (v := (a2 + 1)) (ls2 := [(2, .int (a2 + 1)), (0, .ref (ad 193))]) C 1 dX7_opens_74 rfl rfl (by decide) rfl ?_
      refine x_goto (pc := 77) (tgt := 52) C dX7_opens_77 (by decide) ?_
      refine x_sub [1, 0] (ls2 := [(0, .ref (ad 193)), (2, .int (a2 + 1))]) rfl ?_
      exact ih M14 (a2 + 1) R0 hR hok k
set_option maxHeartbeats 4000000 in
set_option maxRecDepth 100000 in
theorem t_X7_opens_J23 {p0 : Program} {l : Launch} {e : Env} {s : State} {m : MethodId} {args : Array Value} {below : List Frame} {meth : Method} {c : Code} {A : Nat → Prop} {G : GT} {ad : Nat → Nat} (C : CX p0 l s m args meth c A G ad cX7_opens RX7 3 (some .int))  (M : StM) (a1 : Int32) (s0 : Int32) (s1 : Int32) (B : StB) (O : StO) (R0 : Int32 × StM) (hR : R0 = f_X7_opens_J23 M a1 s0 s1) (hok : ok_X7_opens_J23 M a1 s0 s1) : X p0 l e (rmd 2 0 0) s m args below meth c A G ad 3 0 0 (MQ below (QI G A ad R0.1 B R0.2 O) args s 0 0 A) B M O [(0, .ref (ad 193)), (1, .int a1)] 23 [.int s0, .int s1, .ref (ad 193)] := by
  have hR : R0 = (nm (f_X7_holds M s1 s0 1 1) (fun (z4 : Int32 × StM) => (if z4.1 = 0 then (0, z4.2) else (nm (f_X7_accountAt (ma z4.2 0 (ix 1))) (fun (r7 : Int32) => (nm (sma z4.2 0 (ix (r7 + 0)) a1) (fun (M9 : StM) => (nm (f_X7_opens_L52 fu M9 1) (fun (z15 : StM) => (nm (sma z15 0 (ix 1) ((ma z15 0 (ix 1)) + 1)) (fun (M18 : StM) => (((ma M18 0 (ix 1)) - 1), M18)))))))))))) := hR
  have hok : (∀ z4 : Int32 × StM, z4 = (f_X7_holds M s1 s0 1 1) → ((z4.1 = 0 → True) ∧ (¬ z4.1 = 0 → (∀ r7 : Int32, r7 = (f_X7_accountAt (ma z4.2 0 (ix 1))) → (vp_in (r7 + 0) 124 ∧ (∀ M9 : StM, M9 = (sma z4.2 0 (ix (r7 + 0)) a1) → (ok_X7_opens_L52 fu M9 1))))))) := hok
  refine x_iconst (pc := 23) (v := 1) C dX7_opens_23 (by decide) ?_
  refine x_iconst (pc := 24) (v := 1) C dX7_opens_24 (by decide) ?_
  refine x_cIV (pc := 25) (as := [.int s1, .int s0, .int 1, .int 1]) (q := 193) C (c_X7_holds C.2.2.2.2.2.2.2.1  B M O s1 s0 1 1) (fs := _) e_M rfl cv_X7_holds cd_X7_holds wd_7_63 ⟨Nat.le_of_ble_eq_true rfl, Nat.le_of_ble_eq_true rfl⟩ ⟨Nat.le_of_ble_eq_true rfl, Nat.le_of_ble_eq_true rfl⟩ rfl rfl (Nat.le_of_ble_eq_true rfl) dX7_opens_25 ?_
  refine x_nmIM (fun z4 ez4 => ?_)
  have hR := nmE hR ez4
  have hok := hok z4 ez4
  refine x_if_ne (pc := 28) (tgt := 33) C dX7_opens_28 (by decide) (fun c5 => ?_) (fun c5 => ?_)
  · have hR := hR.trans (if_neg c5)
    have hok := hok.2 c5
    refine x_aload_n (pc := 33) (i := 0) C 0 dX7_opens_33 rfl rfl ?_
    refine x_get (pc := 34) (q := 193) (i := 0) C e_M rfl ttX7 (by decide) wd_6_227 rfl dX7_opens_34 ?_
    refine x_aload_n (pc := 37) (i := 0) C 0 dX7_opens_37 rfl rfl ?_
    refine x_get (pc := 38) (q := 193) (i := 0) C e_M rfl ttX7 (by decide) wd_6_227 rfl dX7_opens_38 ?_
    refine x_iconst (pc := 41) (v := 1) C dX7_opens_41 (by decide) ?_
    have h6 : vp_in (1) 124 := (by decide : ¬ ((1 : Int32) < 0 ∨ 124 ≤ Int32.toNatClampNeg 1))
    refine x_iald (pc := 42) (q := 194) C e_M0 h6 dX7_opens_42 ?_
    refine x_cIS (pc := 43) (as := [.int (ma z4.2 0 (ix 1))]) C (c_X7_accountAt C.2.2.2.2.2.2.2.1  B z4.2 O (ma z4.2 0 (ix 1))) wd_7_94 cd_X7_accountAt wd_7_93 ⟨Nat.le_of_ble_eq_true rfl, Nat.le_of_ble_eq_true rfl⟩ ⟨Nat.le_of_ble_eq_true rfl, Nat.le_of_ble_eq_true rfl⟩ rfl rfl (Nat.le_of_ble_eq_true rfl) dX7_opens_43 ?_
    refine x_nmI (fun r7 er7 => ?_)
    have hR := nmE hR er7
    have hok := hok r7 er7
    refine x_iconst (pc := 46) (v := 0) C dX7_opens_46 (by decide) ?_
    refine x_iadd (pc := 47) C dX7_opens_47 ?_
    refine x_iload_n (pc := 48) (i := 1) C 1 dX7_opens_48 rfl rfl ?_
    have h8 := hok.1
    have hok := hok.2
    refine x_iastM (pc := 49) (j := 0) (q := 194) C rfl (by decide) e_M0 e_M0.2 h8 dX7_opens_49 ?_
    refine x_nmM (fun M9 eM9 => ?_)
    have hR := nmE hR eM9
    have hok := hok M9 eM9
    refine x_iconst (pc := 50) (v := 1) C dX7_opens_50 (by decide) ?_
    refine x_istore_n (pc := 51) (i := 2) (ls2 := [(2, .int 1), (0, .ref (ad 193)), (1, .int a1)]) C dX7_opens_51 rfl (by decide) rfl ?_
    refine x_sub [1, 0] (ls2 := [(0, .ref (ad 193)), (2, .int 1)]) rfl ?_
    obtain ⟨z15, ez15⟩ : ∃ z : StM, z = f_X7_opens_L52 fu M9 1 := ⟨_, rfl⟩
    refine t_X7_opens_L52 C fu M9 1 B O z15 ez15 hok ?_
    have hR := nmE hR ez15
    refine x_aload_n (pc := 80) (i := 0) C 0 dX7_opens_80 rfl rfl ?_
    refine x_get (pc := 81) (q := 193) (i := 0) C e_M rfl ttX7 (by decide) wd_6_227 rfl dX7_opens_81 ?_
    refine x_iconst (pc := 84) (v := 1) C dX7_opens_84 (by decide) ?_
    refine x_dup2 (pc := 85) C dX7_opens_85 rfl rfl ?_
    have h16 : vp_in (1) 124 := (by decide : ¬ ((1 : Int32) < 0 ∨ 124 ≤ Int32.toNatClampNeg 1))
    refine x_iald (pc := 86) (q := 194) C e_M0 h16 dX7_opens_86 ?_
    refine x_iconst (pc := 87) (v := 1) C dX7_opens_87 (by decide) ?_
    refine x_iadd (pc := 88) C dX7_opens_88 ?_
    have h17 : vp_in (1) 124 := (by decide : ¬ ((1 : Int32) < 0 ∨ 124 ≤ Int32.toNatClampNeg 1))
    refine x_iastM (pc := 89) (j := 0) (q := 194) C rfl (by decide) e_M0 e_M0.2 h17 dX7_opens_89 ?_
    refine x_nmM (fun M18 eM18 => ?_)
    have hR := nmE hR eM18
    refine x_aload_n (pc := 90) (i := 0) C 0 dX7_opens_90 rfl rfl ?_
    refine x_get (pc := 91) (q := 193) (i := 0) C e_M rfl ttX7 (by decide) wd_6_227 rfl dX7_opens_91 ?_
    refine x_iconst (pc := 94) (v := 1) C dX7_opens_94 (by decide) ?_
    have h19 : vp_in (1) 124 := (by decide : ¬ ((1 : Int32) < 0 ∨ 124 ≤ Int32.toNatClampNeg 1))
    refine x_iald (pc := 95) (q := 194) C e_M0 h19 dX7_opens_95 ?_
    refine x_iconst (pc := 96) (v := 1) C dX7_opens_96 (by decide) ?_
    refine x_isub (pc := 97) C dX7_opens_97 ?_
    exact x_iretM (pc := 98) C rfl hR dX7_opens_98
  · have hR := hR.trans (if_pos c5)
    refine x_iconst (pc := 31) (v := 0) C dX7_opens_31 (by decide) ?_
    exact x_iretM (pc := 32) C rfl hR dX7_opens_32
set_option maxHeartbeats 4000000 in
set_option maxRecDepth 100000 in
theorem c_X7_opens {l : Launch} {A : Nat → Prop} {G : GT} {ad : Nat → Nat} (gl : Gl l A ad)  (B : StB) (M : StM) (O : StO) (x0 : Int32) (hok : ok_X7_opens M x0) : Met l yX7_opens (wof yX7_opens cX7_opens 3 (some .int)) (rmd 2 0 0) (va_Pc [.ref (ad 193), .int x0] (PW G A ad B M O)) (QI G A ad (f_X7_opens M x0).1 B (f_X7_opens M x0).2 O) 0 0 A := by
  refine x_body (own := RX7) (by decide +kernel) rfl gl (Nat.le_of_ble_eq_true rfl) (ls := [(0, .ref (ad 193)), (1, .int x0)]) rfl ?_
  intro p0 e s m args below meth c C
  have hR : (f_X7_opens M x0) = (nm (f_X7_isIn x0 0 3) (fun (r1 : Int32) => (if 8 ≤ (ma M 0 (ix 1)) then (f_X7_opens_J23 M x0 0 r1) else (f_X7_opens_J23 M x0 1 r1)))) := rfl
  have hok : (∀ r1 : Int32, r1 = (f_X7_isIn x0 0 3) → ((8 ≤ (ma M 0 (ix 1)) → (ok_X7_opens_J23 M x0 0 r1)) ∧ (¬ 8 ≤ (ma M 0 (ix 1)) → (ok_X7_opens_J23 M x0 1 r1)))) := hok
  refine x_aload_n (pc := 0) (i := 0) C 0 dX7_opens_0 rfl rfl ?_
  refine x_iload_n (pc := 1) (i := 1) C 1 dX7_opens_1 rfl rfl ?_
  refine x_iconst (pc := 2) (v := 0) C dX7_opens_2 (by decide) ?_
  refine x_iconst (pc := 3) (v := 3) C dX7_opens_3 (by decide) ?_
  refine x_cIS (pc := 4) (as := [.int x0, .int 0, .int 3]) C (c_X7_isIn C.2.2.2.2.2.2.2.1  B M O x0 0 3) wd_7_91 cd_X7_isIn wd_7_90 ⟨Nat.le_of_ble_eq_true rfl, Nat.le_of_ble_eq_true rfl⟩ ⟨Nat.le_of_ble_eq_true rfl, Nat.le_of_ble_eq_true rfl⟩ rfl rfl (Nat.le_of_ble_eq_true rfl) dX7_opens_4 ?_
  refine x_nmI (fun r1 er1 => ?_)
  have hR := nmE hR er1
  have hok := hok r1 er1
  refine x_aload_n (pc := 7) (i := 0) C 0 dX7_opens_7 rfl rfl ?_
  refine x_get (pc := 8) (q := 193) (i := 0) C e_M rfl ttX7 (by decide) wd_6_227 rfl dX7_opens_8 ?_
  refine x_iconst (pc := 11) (v := 1) C dX7_opens_11 (by decide) ?_
  have h2 : vp_in (1) 124 := (by decide : ¬ ((1 : Int32) < 0 ∨ 124 ≤ Int32.toNatClampNeg 1))
  refine x_iald (pc := 12) (q := 194) C e_M0 h2 dX7_opens_12 ?_
  refine x_bipush (pc := 13) (v := 8) C dX7_opens_13 (by decide) ?_
  refine x_icmp_ge (pc := 15) (tgt := 22) C dX7_opens_15 (by decide) (fun c3 => ?_) (fun c3 => ?_)
  · have hR := hR.trans (if_pos c3)
    have hok := hok.1 c3
    refine x_iconst (pc := 22) (v := 0) C dX7_opens_22 (by decide) ?_
    refine x_sub [0, 1] (ls2 := [(0, .ref (ad 193)), (1, .int x0)]) rfl ?_
    exact t_X7_opens_J23 C M x0 0 r1 B O _ hR hok
  · have hR := hR.trans (if_neg c3)
    have hok := hok.2 c3
    refine x_iconst (pc := 18) (v := 1) C dX7_opens_18 (by decide) ?_
    refine x_goto (pc := 19) (tgt := 23) C dX7_opens_19 (by decide) ?_
    refine x_sub [0, 1] (ls2 := [(0, .ref (ad 193)), (1, .int x0)]) rfl ?_
    exact t_X7_opens_J23 C M x0 1 r1 B O _ hR hok
set_option maxHeartbeats 4000000 in
set_option maxRecDepth 100000 in
theorem t_X7_remembers_J49 {p0 : Program} {l : Launch} {e : Env} {s : State} {m : MethodId} {args : Array Value} {below : List Frame} {meth : Method} {c : Code} {A : Nat → Prop} {G : GT} {ad : Nat → Nat} (C : CX p0 l s m args meth c A G ad cX7_remembers RX7 2 none)  (M : StM)  (B : StB) (O : StO) (R0 : StM) (hR : R0 = f_X7_remembers_J49 M) (hok : ok_X7_remembers_J49 M) : X p0 l e (rmd 2 0 0) s m args below meth c A G ad 2 0 0 (MQ below (QV G A ad B R0 O) args s 0 0 A) B M O [(0, .ref (ad 193))] 49 [] := by
  have hR : R0 = (nm (f_X7_copies_M1_M4 M 0 ((mi M 6) * 124)) (fun (M3 : StM) => (nm (smi M3 6 ((mi M3 6) + 1)) (fun (M4 : StM) => M4)))) := hR
  have hok : ((ok_X7_copies_M1_M4 M 0 ((mi M 6) * 124))) := hok
  refine x_aload_n (pc := 49) (i := 0) C 0 dX7_remembers_49 rfl rfl ?_
  refine x_get (pc := 50) (q := 193) (i := 1) C e_M rfl ttX7 (by decide) wd_6_228 rfl dX7_remembers_50 ?_
  refine x_iconst (pc := 53) (v := 0) C dX7_remembers_53 (by decide) ?_
  refine x_aload_n (pc := 54) (i := 0) C 0 dX7_remembers_54 rfl rfl ?_
  refine x_get (pc := 55) (q := 193) (i := 4) C e_M rfl ttX7 (by decide) wd_6_231 rfl dX7_remembers_55 ?_
  refine x_aload_n (pc := 58) (i := 0) C 0 dX7_remembers_58 rfl rfl ?_
  refine x_get (pc := 59) (q := 193) (i := 6) C e_M rfl ttX7 (by decide) wd_6_233 rfl dX7_remembers_59 ?_
  refine x_bipush (pc := 62) (v := 124) C dX7_remembers_62 (by decide) ?_
  refine x_imul (pc := 64) C dX7_remembers_64 ?_
  have h2 := hok
  refine x_cVS (pc := 65) (as := [.ref (ad 195), .int 0, .ref (ad 198), .int ((mi M 6) * 124)]) C (c_X7_copies_M1_M4 C.2.2.2.2.2.2.2.1  B M O 0 ((mi M 6) * 124) h2) wd_7_68 cd_X7_copies wd_7_67 ⟨Nat.le_of_ble_eq_true rfl, Nat.le_of_ble_eq_true rfl⟩ ⟨Nat.le_of_ble_eq_true rfl, Nat.le_of_ble_eq_true rfl⟩ rfl rfl (Nat.le_of_ble_eq_true rfl) dX7_remembers_65 ?_
  refine x_nmM (fun M3 eM3 => ?_)
  have hR := nmE hR eM3
  refine x_aload_n (pc := 68) (i := 0) C 0 dX7_remembers_68 rfl rfl ?_
  refine x_dup (pc := 69) C dX7_remembers_69 rfl ?_
  refine x_get (pc := 70) (q := 193) (i := 6) C e_M rfl ttX7 (by decide) wd_6_233 rfl dX7_remembers_70 ?_
  refine x_iconst (pc := 73) (v := 1) C dX7_remembers_73 (by decide) ?_
  refine x_iadd (pc := 74) C dX7_remembers_74 ?_
  refine x_put (pc := 75) (M2 := (smi M3 6 ((mi M3 6) + 1))) (B2 := B) (O2 := O) (q := 193) (i := 6) C tyX7 tyX7_ok nmX7 e_M rfl ttX7 (by decide) wd_6_233 rfl rfl rfl (Nat.le_of_ble_eq_true rfl) dX7_remembers_75 (put_M_6 ) (o_smi 6 ((mi M3 6) + 1)) ?_
  refine x_nmM (fun M4 eM4 => ?_)
  have hR := nmE hR eM4
  exact x_vretM (pc := 78) C rfl hR dX7_remembers_78
set_option maxHeartbeats 4000000 in
set_option maxRecDepth 100000 in
theorem t_X7_remembers_L11 {p0 : Program} {l : Launch} {e : Env} {s : State} {m : MethodId} {args : Array Value} {below : List Frame} {meth : Method} {c : Code} {A : Nat → Prop} {G : GT} {ad : Nat → Nat} {Q : State → Prop} (C : CX p0 l s m args meth c A G ad cX7_remembers RX7 2 none)    (n : Nat) (M : StM) (a1 : Int32) (B : StB) (O : StO) : ∀ (R0 : StM) (hR : R0 = f_X7_remembers_L11 n M a1) (hok : ok_X7_remembers_L11 n M a1) (k : X p0 l e (rmd 2 0 0) s m args below meth c A G ad 2 0 0 Q B R0 O [(0, .ref (ad 193))] 39 []), X p0 l e (rmd 2 0 0) s m args below meth c A G ad 2 0 0 Q B M O [(0, .ref (ad 193)), (1, .int a1)] 11 [] := by
  induction n generalizing M a1 with
  | zero => intro R0 hR hok k; exact False.elim hok
  | succ n ih =>
    intro R0 hR hok k
    have hR : R0 = (if 868 ≤ a1 then M else (nm (sma M 4 (ix a1) (ma M 4 (ix (a1 + 124)))) (fun (M8 : StM) => (f_X7_remembers_L11 n M8 (a1 + 1))))) := hR
    have hok : ((868 ≤ a1 → True) ∧ (¬ 868 ≤ a1 → (vp_in (a1 + 124) 992 ∧ (vp_in a1 992 ∧ (∀ M8 : StM, M8 = (sma M 4 (ix a1) (ma M 4 (ix (a1 + 124)))) → (ok_X7_remembers_L11 n M8 (a1 + 1))))))) := hok
    refine x_iload_n (pc := 11) (i := 1) C 1 dX7_remembers_11 rfl rfl ?_
    refine x_sipush (pc := 12) (v := 868) C dX7_remembers_12 (by decide) ?_
    refine x_icmp_ge (pc := 15) (tgt := 39) C dX7_remembers_15 (by decide) (fun c5 => ?_) (fun c5 => ?_)
    · have hR := hR.trans (if_pos c5)
      refine x_sub [0] (ls2 := [(0, .ref (ad 193))]) rfl ?_
      subst hR
      exact k
    · have hR := hR.trans (if_neg c5)
      have hok := hok.2 c5
      refine x_aload_n (pc := 18) (i := 0) C 0 dX7_remembers_18 rfl rfl ?_
      refine x_get (pc := 19) (q := 193) (i := 4) C e_M rfl ttX7 (by decide) wd_6_231 rfl dX7_remembers_19 ?_
      refine x_iload_n (pc := 22) (i := 1) C 1 dX7_remembers_22 rfl rfl ?_
      refine x_aload_n (pc := 23) (i := 0) C 0 dX7_remembers_23 rfl rfl ?_
      refine x_get (pc := 24) (q := 193) (i := 4) C e_M rfl ttX7 (by decide) wd_6_231 rfl dX7_remembers_24 ?_
      refine x_iload_n (pc := 27) (i := 1) C 1 dX7_remembers_27 rfl rfl ?_
      refine x_bipush (pc := 28) (v := 124) C dX7_remembers_28 (by decide) ?_
      refine x_iadd (pc := 30) C dX7_remembers_30 ?_
      have h6 := hok.1
      have hok := hok.2
      refine x_iald (pc := 31) (q := 198) C e_M4 h6 dX7_remembers_31 ?_
      have h7 := hok.1
      have hok := hok.2
      refine x_iastM (pc := 32) (j := 4) (q := 198) C rfl (by decide) e_M4 e_M4.2 h7 dX7_remembers_32 ?_
      refine x_nmM (fun M8 eM8 => ?_)
      have hR := nmE hR eM8
      have hok := hok M8 eM8
      refine x_iinc (pc := 33) (i := 1) (v := (a1 + 1)) (ls2 := [(1, .int (a1 + 1)), (0, .ref (ad 193))]) C 1 dX7_remembers_33 rfl rfl (by decide) rfl ?_
      refine x_goto (pc := 36) (tgt := 11) C dX7_remembers_36 (by decide) ?_
      refine x_sub [1, 0] (ls2 := [(0, .ref (ad 193)), (1, .int (a1 + 1))]) rfl ?_
      exact ih M8 (a1 + 1) R0 hR hok k
set_option maxHeartbeats 4000000 in
set_option maxRecDepth 100000 in
theorem c_X7_remembers {l : Launch} {A : Nat → Prop} {G : GT} {ad : Nat → Nat} (gl : Gl l A ad)  (B : StB) (M : StM) (O : StO)  (hok : ok_X7_remembers M) : Met l yX7_remembers (wof yX7_remembers cX7_remembers 2 none) (rmd 2 0 0) (va_Pc [.ref (ad 193)] (PW G A ad B M O)) (QV G A ad B (f_X7_remembers M) O) 0 0 A := by
  refine x_body (own := RX7) (by decide +kernel) rfl gl (Nat.le_of_ble_eq_true rfl) (ls := [(0, .ref (ad 193))]) rfl ?_
  intro p0 e s m args below meth c C
  have hR : (f_X7_remembers M) = (if (mi M 6) = 8 then (nm (f_X7_remembers_L11 fu M 0) (fun (z9 : StM) => (nm (smi z9 6 ((mi z9 6) - 1)) (fun (M10 : StM) => (f_X7_remembers_J49 M10))))) else (f_X7_remembers_J49 M)) := rfl
  have hok : (((mi M 6) = 8 → ((ok_X7_remembers_L11 fu M 0) ∧ ∀ z9 : StM, z9 = f_X7_remembers_L11 fu M 0 → (∀ M10 : StM, M10 = (smi z9 6 ((mi z9 6) - 1)) → (ok_X7_remembers_J49 M10)))) ∧ (¬ (mi M 6) = 8 → (ok_X7_remembers_J49 M))) := hok
  refine x_aload_n (pc := 0) (i := 0) C 0 dX7_remembers_0 rfl rfl ?_
  refine x_get (pc := 1) (q := 193) (i := 6) C e_M rfl ttX7 (by decide) wd_6_233 rfl dX7_remembers_1 ?_
  refine x_bipush (pc := 4) (v := 8) C dX7_remembers_4 (by decide) ?_
  refine x_icmp_ne (pc := 6) (tgt := 49) C dX7_remembers_6 (by decide) (fun c1 => ?_) (fun c1 => ?_)
  · have hR := hR.trans (if_neg c1)
    have hok := hok.2 c1
    refine x_sub [0] (ls2 := [(0, .ref (ad 193))]) rfl ?_
    exact t_X7_remembers_J49 C M B O _ hR hok
  · have hR := hR.trans (if_pos c1)
    have hok := hok.1 c1
    refine x_iconst (pc := 9) (v := 0) C dX7_remembers_9 (by decide) ?_
    refine x_istore_n (pc := 10) (i := 1) (ls2 := [(1, .int 0), (0, .ref (ad 193))]) C dX7_remembers_10 rfl (by decide) rfl ?_
    refine x_sub [1, 0] (ls2 := [(0, .ref (ad 193)), (1, .int 0)]) rfl ?_
    obtain ⟨z9, ez9⟩ : ∃ z : StM, z = f_X7_remembers_L11 fu M 0 := ⟨_, rfl⟩
    refine t_X7_remembers_L11 C fu M 0 B O z9 ez9 hok.1 ?_
    have hR := nmE hR ez9
    have hok := hok.2 z9 ez9
    refine x_aload_n (pc := 39) (i := 0) C 0 dX7_remembers_39 rfl rfl ?_
    refine x_dup (pc := 40) C dX7_remembers_40 rfl ?_
    refine x_get (pc := 41) (q := 193) (i := 6) C e_M rfl ttX7 (by decide) wd_6_233 rfl dX7_remembers_41 ?_
    refine x_iconst (pc := 44) (v := 1) C dX7_remembers_44 (by decide) ?_
    refine x_isub (pc := 45) C dX7_remembers_45 ?_
    refine x_put (pc := 46) (M2 := (smi z9 6 ((mi z9 6) - 1))) (B2 := B) (O2 := O) (q := 193) (i := 6) C tyX7 tyX7_ok nmX7 e_M rfl ttX7 (by decide) wd_6_233 rfl rfl rfl (Nat.le_of_ble_eq_true rfl) dX7_remembers_46 (put_M_6 ) (o_smi 6 ((mi z9 6) - 1)) ?_
    refine x_nmM (fun M10 eM10 => ?_)
    have hR := nmE hR eM10
    have hok := hok M10 eM10
    refine x_sub [0] (ls2 := [(0, .ref (ad 193))]) rfl ?_
    exact t_X7_remembers_J49 C M10 B O _ hR hok
set_option maxHeartbeats 4000000 in
set_option maxRecDepth 100000 in
theorem c_X7_isAmount {l : Launch} {A : Nat → Prop} {G : GT} {ad : Nat → Nat} (gl : Gl l A ad)  (B : StB) (M : StM) (O : StO) (x0 : Int32) (hok : ok_X7_isAmount x0) : Met l yX7_isAmount (wof yX7_isAmount cX7_isAmount 1 (some .boolean)) (rmd 2 0 0) (va_Pc [.int x0] (PW G A ad B M O)) (QI G A ad (f_X7_isAmount x0) B M O) 0 0 A := by
  refine x_body (own := RX7) (by decide +kernel) rfl gl (Nat.le_of_ble_eq_true rfl) (ls := [(0, .int x0)]) rfl ?_
  intro p0 e s m args below meth c C
  have hR : (f_X7_isAmount x0) = (nm (f_X7_isIn x0 1 999) (fun (r1 : Int32) => r1)) := rfl
  have hok : (∀ r1 : Int32, r1 = (f_X7_isIn x0 1 999) → (narrow .boolean (.int r1) = .int r1)) := hok
  refine x_iload_n (pc := 0) (i := 0) C 0 dX7_isAmount_0 rfl rfl ?_
  refine x_iconst (pc := 1) (v := 1) C dX7_isAmount_1 (by decide) ?_
  refine x_sipush (pc := 2) (v := 999) C dX7_isAmount_2 (by decide) ?_
  refine x_cIS (pc := 5) (as := [.int x0, .int 1, .int 999]) C (c_X7_isIn C.2.2.2.2.2.2.2.1  B M O x0 1 999) wd_7_91 cd_X7_isIn wd_7_90 ⟨Nat.le_of_ble_eq_true rfl, Nat.le_of_ble_eq_true rfl⟩ ⟨Nat.le_of_ble_eq_true rfl, Nat.le_of_ble_eq_true rfl⟩ rfl rfl (Nat.le_of_ble_eq_true rfl) dX7_isAmount_5 ?_
  refine x_nmI (fun r1 er1 => ?_)
  have hR := nmE hR er1
  have hok := hok r1 er1
  have h2 := hok
  exact x_zret (pc := 8) C rfl h2 hR dX7_isAmount_8
set_option maxHeartbeats 4000000 in
set_option maxRecDepth 100000 in
theorem c_X7_isAccount {l : Launch} {A : Nat → Prop} {G : GT} {ad : Nat → Nat} (gl : Gl l A ad)  (B : StB) (M : StM) (O : StO) (x0 : Int32) (hok : ok_X7_isAccount M x0) : Met l yX7_isAccount (wof yX7_isAccount cX7_isAccount 2 (some .boolean)) (rmd 2 0 0) (va_Pc [.ref (ad 193), .int x0] (PW G A ad B M O)) (QI G A ad (f_X7_isAccount M x0) B M O) 0 0 A := by
  refine x_body (own := RX7) (by decide +kernel) rfl gl (Nat.le_of_ble_eq_true rfl) (ls := [(0, .ref (ad 193)), (1, .int x0)]) rfl ?_
  intro p0 e s m args below meth c C
  have hR : (f_X7_isAccount M x0) = (nm (f_X7_isIn x0 0 ((ma M 0 (ix 1)) - 1)) (fun (r2 : Int32) => r2)) := rfl
  have hok : (∀ r2 : Int32, r2 = (f_X7_isIn x0 0 ((ma M 0 (ix 1)) - 1)) → (narrow .boolean (.int r2) = .int r2)) := hok
  refine x_iload_n (pc := 0) (i := 1) C 1 dX7_isAccount_0 rfl rfl ?_
  refine x_iconst (pc := 1) (v := 0) C dX7_isAccount_1 (by decide) ?_
  refine x_aload_n (pc := 2) (i := 0) C 0 dX7_isAccount_2 rfl rfl ?_
  refine x_get (pc := 3) (q := 193) (i := 0) C e_M rfl ttX7 (by decide) wd_6_227 rfl dX7_isAccount_3 ?_
  refine x_iconst (pc := 6) (v := 1) C dX7_isAccount_6 (by decide) ?_
  have h1 : vp_in (1) 124 := (by decide : ¬ ((1 : Int32) < 0 ∨ 124 ≤ Int32.toNatClampNeg 1))
  refine x_iald (pc := 7) (q := 194) C e_M0 h1 dX7_isAccount_7 ?_
  refine x_iconst (pc := 8) (v := 1) C dX7_isAccount_8 (by decide) ?_
  refine x_isub (pc := 9) C dX7_isAccount_9 ?_
  refine x_cIS (pc := 10) (as := [.int x0, .int 0, .int ((ma M 0 (ix 1)) - 1)]) C (c_X7_isIn C.2.2.2.2.2.2.2.1  B M O x0 0 ((ma M 0 (ix 1)) - 1)) wd_7_91 cd_X7_isIn wd_7_90 ⟨Nat.le_of_ble_eq_true rfl, Nat.le_of_ble_eq_true rfl⟩ ⟨Nat.le_of_ble_eq_true rfl, Nat.le_of_ble_eq_true rfl⟩ rfl rfl (Nat.le_of_ble_eq_true rfl) dX7_isAccount_10 ?_
  refine x_nmI (fun r2 er2 => ?_)
  have hR := nmE hR er2
  have hok := hok r2 er2
  have h3 := hok
  exact x_zret (pc := 13) C rfl h3 hR dX7_isAccount_13
set_option maxHeartbeats 4000000 in
set_option maxRecDepth 100000 in
theorem c_X7_changes {l : Launch} {A : Nat → Prop} {G : GT} {ad : Nat → Nat} (gl : Gl l A ad)  (B : StB) (M : StM) (O : StO) (x0 : Int32) (x1 : Int32) (hok : ok_X7_changes M x0 x1) : Met l yX7_changes (wof yX7_changes cX7_changes 3 none) (rmd 2 0 0) (va_Pc [.ref (ad 193), .int x0, .int x1] (PW G A ad B M O)) (QV G A ad B (f_X7_changes M x0 x1) O) 0 0 A := by
  refine x_body (own := RX7) (by decide +kernel) rfl gl (Nat.le_of_ble_eq_true rfl) (ls := [(0, .ref (ad 193)), (1, .int x0), (2, .int x1)]) rfl ?_
  intro p0 e s m args below meth c C
  have hR : (f_X7_changes M x0 x1) = (nm (f_X7_accountAt x0) (fun (r1 : Int32) => (nm (sma M 0 (ix (r1 + 1)) ((ma M 0 (ix (r1 + 1))) + x1)) (fun (M4 : StM) => M4)))) := rfl
  have hok : (∀ r1 : Int32, r1 = (f_X7_accountAt x0) → (vp_in (r1 + 1) 124 ∧ (vp_in (r1 + 1) 124))) := hok
  refine x_aload_n (pc := 0) (i := 0) C 0 dX7_changes_0 rfl rfl ?_
  refine x_get (pc := 1) (q := 193) (i := 0) C e_M rfl ttX7 (by decide) wd_6_227 rfl dX7_changes_1 ?_
  refine x_iload_n (pc := 4) (i := 1) C 1 dX7_changes_4 rfl rfl ?_
  refine x_cIS (pc := 5) (as := [.int x0]) C (c_X7_accountAt C.2.2.2.2.2.2.2.1  B M O x0) wd_7_94 cd_X7_accountAt wd_7_93 ⟨Nat.le_of_ble_eq_true rfl, Nat.le_of_ble_eq_true rfl⟩ ⟨Nat.le_of_ble_eq_true rfl, Nat.le_of_ble_eq_true rfl⟩ rfl rfl (Nat.le_of_ble_eq_true rfl) dX7_changes_5 ?_
  refine x_nmI (fun r1 er1 => ?_)
  have hR := nmE hR er1
  have hok := hok r1 er1
  refine x_iconst (pc := 8) (v := 1) C dX7_changes_8 (by decide) ?_
  refine x_iadd (pc := 9) C dX7_changes_9 ?_
  refine x_dup2 (pc := 10) C dX7_changes_10 rfl rfl ?_
  have h2 := hok.1
  have hok := hok.2
  refine x_iald (pc := 11) (q := 194) C e_M0 h2 dX7_changes_11 ?_
  refine x_iload_n (pc := 12) (i := 2) C 2 dX7_changes_12 rfl rfl ?_
  refine x_iadd (pc := 13) C dX7_changes_13 ?_
  have h3 := hok
  refine x_iastM (pc := 14) (j := 0) (q := 194) C rfl (by decide) e_M0 e_M0.2 h3 dX7_changes_14 ?_
  refine x_nmM (fun M4 eM4 => ?_)
  have hR := nmE hR eM4
  exact x_vretM (pc := 15) C rfl hR dX7_changes_15
set_option maxHeartbeats 4000000 in
set_option maxRecDepth 100000 in
theorem t_X7_writesNumber_L25 {p0 : Program} {l : Launch} {e : Env} {s : State} {m : MethodId} {args : Array Value} {below : List Frame} {meth : Method} {c : Code} {A : Nat → Prop} {G : GT} {ad : Nat → Nat} {Q : State → Prop} (C : CX p0 l s m args meth c A G ad cX7_writesNumber RX7 7 (some .int))    (n : Nat) (M : StM) (a3 : Int32) (a4 : Int32) (a5 : Int32) (B : StB) (O : StO) : ∀ (R0 : Int32) (hR : R0 = f_X7_writesNumber_L25 n M a3 a4 a5) (hok : ok_X7_writesNumber_L25 n M a3 a4 a5) (k : X p0 l e (rmd 2 0 0) s m args below meth c A G ad 7 0 0 Q B M O [(0, .ref (ad 193)), (3, .int a3), (4, .int a4), (5, .int R0)] 45 []), X p0 l e (rmd 2 0 0) s m args below meth c A G ad 7 0 0 Q B M O [(0, .ref (ad 193)), (3, .int a3), (4, .int a4), (5, .int a5)] 25 [] := by
  induction n generalizing M a3 a4 a5 with
  | zero => intro R0 hR hok k; exact False.elim hok
  | succ n ih =>
    intro R0 hR hok k
    have hR : R0 = (if (a4 / a5) ≤ 9 then a5 else (nm (a5 * 10) (fun (v5 : Int32) => (f_X7_writesNumber_L25 n M a3 a4 v5)))) := hR
    have hok : (¬ a5 = 0 ∧ (((a4 / a5) ≤ 9 → True) ∧ (¬ (a4 / a5) ≤ 9 → (∀ v5 : Int32, v5 = (a5 * 10) → (ok_X7_writesNumber_L25 n M a3 a4 v5))))) := hok
    refine x_iload (pc := 25) (i := 4) C 2 dX7_writesNumber_25 rfl ?_
    refine x_iload (pc := 27) (i := 5) C 3 dX7_writesNumber_27 rfl ?_
    have h3 := hok.1
    have hok := hok.2
    refine x_idiv (pc := 29) C dX7_writesNumber_29 h3 ?_
    refine x_bipush (pc := 30) (v := 9) C dX7_writesNumber_30 (by decide) ?_
    refine x_icmp_le (pc := 32) (tgt := 45) C dX7_writesNumber_32 (by decide) (fun c4 => ?_) (fun c4 => ?_)
    · have hR := hR.trans (if_pos c4)
      refine x_sub [0, 1, 2, 3] (ls2 := [(0, .ref (ad 193)), (3, .int a3), (4, .int a4), (5, .int a5)]) rfl ?_
      subst hR
      exact k
    · have hR := hR.trans (if_neg c4)
      have hok := hok.2 c4
      refine x_iload (pc := 35) (i := 5) C 3 dX7_writesNumber_35 rfl ?_
      refine x_bipush (pc := 37) (v := 10) C dX7_writesNumber_37 (by decide) ?_
      refine x_imul (pc := 39) C dX7_writesNumber_39 ?_
      refine x_nmI (fun v5 ev5 => ?_)
      have hR := nmE hR ev5
      have hok := hok v5 ev5
      refine x_istore (pc := 40) (i := 5) (ls2 := [(5, .int v5), (0, .ref (ad 193)), (3, .int a3), (4, .int a4)]) C dX7_writesNumber_40 (by decide) rfl ?_
      refine x_goto (pc := 42) (tgt := 25) C dX7_writesNumber_42 (by decide) ?_
      refine x_sub [1, 2, 3, 0] (ls2 := [(0, .ref (ad 193)), (3, .int a3), (4, .int a4), (5, .int v5)]) rfl ?_
      exact ih M a3 a4 v5 R0 hR hok k
set_option maxHeartbeats 4000000 in
set_option maxRecDepth 100000 in
theorem t_X7_writesNumber_L49 {p0 : Program} {l : Launch} {e : Env} {s : State} {m : MethodId} {args : Array Value} {below : List Frame} {meth : Method} {c : Code} {A : Nat → Prop} {G : GT} {ad : Nat → Nat} {Q : State → Prop} (C : CX p0 l s m args meth c A G ad cX7_writesNumber RX7 7 (some .int))    (n : Nat) (M : StM) (a3 : Int32) (a4 : Int32) (a6 : Int32) (B : StB) (O : StO) : ∀ (R0 : Int32 × StM) (hR : R0 = f_X7_writesNumber_L49 n M a3 a4 a6) (hok : ok_X7_writesNumber_L49 n M a3 a4 a6) (k : X p0 l e (rmd 2 0 0) s m args below meth c A G ad 7 0 0 Q B R0.2 O [(3, .int R0.1)] 81 []), X p0 l e (rmd 2 0 0) s m args below meth c A G ad 7 0 0 Q B M O [(0, .ref (ad 193)), (3, .int a3), (4, .int a4), (6, .int a6)] 49 [] := by
  induction n generalizing M a3 a4 a6 with
  | zero => intro R0 hR hok k; exact False.elim hok
  | succ n ih =>
    intro R0 hR hok k
    have hR : R0 = (if a6 ≤ 0 then (a3, M) else (nm (f_X7_put M a3 (48 + ((a4 / a6) - (a4 / a6) / 10 * 10))) (fun (z10 : Int32 × StM) => (nm (a6 / 10) (fun (v11 : Int32) => (f_X7_writesNumber_L49 n z10.2 z10.1 a4 v11)))))) := hR
    have hok : ((a6 ≤ 0 → True) ∧ (¬ a6 ≤ 0 → (¬ a6 = 0 ∧ ((ok_X7_put M a3 (48 + ((a4 / a6) - (a4 / a6) / 10 * 10))) ∧ (∀ z10 : Int32 × StM, z10 = (f_X7_put M a3 (48 + ((a4 / a6) - (a4 / a6) / 10 * 10))) → (∀ v11 : Int32, v11 = (a6 / 10) → (ok_X7_writesNumber_L49 n z10.2 z10.1 a4 v11))))))) := hok
    refine x_iload (pc := 49) (i := 6) C 3 dX7_writesNumber_49 rfl ?_
    refine x_if_le (pc := 51) (tgt := 81) C dX7_writesNumber_51 (by decide) (fun c7 => ?_) (fun c7 => ?_)
    · have hR := hR.trans (if_pos c7)
      refine x_sub [1] (ls2 := [(3, .int a3)]) rfl ?_
      subst hR
      exact k
    · have hR := hR.trans (if_neg c7)
      have hok := hok.2 c7
      refine x_aload_n (pc := 54) (i := 0) C 0 dX7_writesNumber_54 rfl rfl ?_
      refine x_iload_n (pc := 55) (i := 3) C 1 dX7_writesNumber_55 rfl rfl ?_
      refine x_bipush (pc := 56) (v := 48) C dX7_writesNumber_56 (by decide) ?_
      refine x_iload (pc := 58) (i := 4) C 2 dX7_writesNumber_58 rfl ?_
      refine x_iload (pc := 60) (i := 6) C 3 dX7_writesNumber_60 rfl ?_
      have h8 := hok.1
      have hok := hok.2
      refine x_idiv (pc := 62) C dX7_writesNumber_62 h8 ?_
      refine x_bipush (pc := 63) (v := 10) C dX7_writesNumber_63 (by decide) ?_
      refine x_irem (pc := 65) C dX7_writesNumber_65 (by decide) ?_
      refine x_iadd (pc := 66) C dX7_writesNumber_66 ?_
      have h9 := hok.1
      have hok := hok.2
      refine x_cIV (pc := 67) (as := [.int a3, .int (48 + ((a4 / a6) - (a4 / a6) / 10 * 10))]) (q := 193) C (c_X7_put C.2.2.2.2.2.2.2.1  B M O a3 (48 + ((a4 / a6) - (a4 / a6) / 10 * 10)) h9) (fs := _) e_M rfl cv_X7_put cd_X7_put wd_8_124 ⟨Nat.le_of_ble_eq_true rfl, Nat.le_of_ble_eq_true rfl⟩ ⟨Nat.le_of_ble_eq_true rfl, Nat.le_of_ble_eq_true rfl⟩ rfl rfl (Nat.le_of_ble_eq_true rfl) dX7_writesNumber_67 ?_
      refine x_nmIM (fun z10 ez10 => ?_)
      have hR := nmE hR ez10
      have hok := hok z10 ez10
      refine x_istore_n (pc := 70) (i := 3) (ls2 := [(3, .int z10.1), (0, .ref (ad 193)), (4, .int a4), (6, .int a6)]) C dX7_writesNumber_70 rfl (by decide) rfl ?_
      refine x_iload (pc := 71) (i := 6) C 3 dX7_writesNumber_71 rfl ?_
      refine x_bipush (pc := 73) (v := 10) C dX7_writesNumber_73 (by decide) ?_
      refine x_idiv (pc := 75) C dX7_writesNumber_75 (by decide) ?_
      refine x_nmI (fun v11 ev11 => ?_)
      have hR := nmE hR ev11
      have hok := hok v11 ev11
      refine x_istore (pc := 76) (i := 6) (ls2 := [(6, .int v11), (3, .int z10.1), (0, .ref (ad 193)), (4, .int a4)]) C dX7_writesNumber_76 (by decide) rfl ?_
      refine x_goto (pc := 78) (tgt := 49) C dX7_writesNumber_78 (by decide) ?_
      refine x_sub [2, 1, 3, 0] (ls2 := [(0, .ref (ad 193)), (3, .int z10.1), (4, .int a4), (6, .int v11)]) rfl ?_
      exact ih z10.2 z10.1 a4 v11 R0 hR hok k
set_option maxHeartbeats 4000000 in
set_option maxRecDepth 100000 in
theorem t_X7_writesNumber_J15 {p0 : Program} {l : Launch} {e : Env} {s : State} {m : MethodId} {args : Array Value} {below : List Frame} {meth : Method} {c : Code} {A : Nat → Prop} {G : GT} {ad : Nat → Nat} (C : CX p0 l s m args meth c A G ad cX7_writesNumber RX7 7 (some .int))  (M : StM) (a2 : Int32) (s0 : Int32) (B : StB) (O : StO) (R0 : Int32 × StM) (hR : R0 = f_X7_writesNumber_J15 M a2 s0) (hok : ok_X7_writesNumber_J15 M a2 s0) : X p0 l e (rmd 2 0 0) s m args below meth c A G ad 7 0 0 (MQ below (QI G A ad R0.1 B R0.2 O) args s 0 0 A) B M O [(0, .ref (ad 193)), (2, .int a2)] 15 [.int s0] := by
  have hR : R0 = (nm (mabs a2) (fun (v2 : Int32) => (nm (f_X7_writesNumber_L25 fu M s0 v2 1) (fun (z6 : Int32) => (nm (f_X7_writesNumber_L49 fu M s0 v2 z6) (fun (z12 : Int32 × StM) => (z12.1, z12.2))))))) := hR
  have hok : (∀ v2 : Int32, v2 = (mabs a2) → ((ok_X7_writesNumber_L25 fu M s0 v2 1) ∧ ∀ z6 : Int32, z6 = f_X7_writesNumber_L25 fu M s0 v2 1 → (ok_X7_writesNumber_L49 fu M s0 v2 z6))) := hok
  refine x_istore_n (pc := 15) (i := 3) (ls2 := [(3, .int s0), (0, .ref (ad 193)), (2, .int a2)]) C dX7_writesNumber_15 rfl (by decide) rfl ?_
  refine x_iload_n (pc := 16) (i := 2) C 2 dX7_writesNumber_16 rfl rfl ?_
  refine x_mabs (pc := 17) C wd_8_132 wd_8_133 wd_1_21 wd_8_134 ⟨Nat.le_of_ble_eq_true rfl, Nat.le_of_ble_eq_true rfl⟩ ⟨Nat.le_of_ble_eq_true rfl, Nat.le_of_ble_eq_true rfl⟩ dX7_writesNumber_17 ?_
  refine x_nmI (fun v2 ev2 => ?_)
  have hR := nmE hR ev2
  have hok := hok v2 ev2
  refine x_istore (pc := 20) (i := 4) (ls2 := [(4, .int v2), (3, .int s0), (0, .ref (ad 193)), (2, .int a2)]) C dX7_writesNumber_20 (by decide) rfl ?_
  refine x_iconst (pc := 22) (v := 1) C dX7_writesNumber_22 (by decide) ?_
  refine x_istore (pc := 23) (i := 5) (ls2 := [(5, .int 1), (4, .int v2), (3, .int s0), (0, .ref (ad 193)), (2, .int a2)]) C dX7_writesNumber_23 (by decide) rfl ?_
  refine x_sub [3, 2, 1, 0] (ls2 := [(0, .ref (ad 193)), (3, .int s0), (4, .int v2), (5, .int 1)]) rfl ?_
  obtain ⟨z6, ez6⟩ : ∃ z : Int32, z = f_X7_writesNumber_L25 fu M s0 v2 1 := ⟨_, rfl⟩
  refine t_X7_writesNumber_L25 C fu M s0 v2 1 B O z6 ez6 hok.1 ?_
  have hR := nmE hR ez6
  have hok := hok.2 z6 ez6
  refine x_iload (pc := 45) (i := 5) C 3 dX7_writesNumber_45 rfl ?_
  refine x_istore (pc := 47) (i := 6) (ls2 := [(6, .int z6), (0, .ref (ad 193)), (3, .int s0), (4, .int v2), (5, .int z6)]) C dX7_writesNumber_47 (by decide) rfl ?_
  refine x_sub [1, 2, 3, 0] (ls2 := [(0, .ref (ad 193)), (3, .int s0), (4, .int v2), (6, .int z6)]) rfl ?_
  obtain ⟨z12, ez12⟩ : ∃ z : Int32 × StM, z = f_X7_writesNumber_L49 fu M s0 v2 z6 := ⟨_, rfl⟩
  refine t_X7_writesNumber_L49 C fu M s0 v2 z6 B O z12 ez12 hok ?_
  have hR := nmE hR ez12
  refine x_iload_n (pc := 81) (i := 3) C 0 dX7_writesNumber_81 rfl rfl ?_
  exact x_iretM (pc := 82) C rfl hR dX7_writesNumber_82
set_option maxHeartbeats 4000000 in
set_option maxRecDepth 100000 in
theorem c_X7_writesNumber {l : Launch} {A : Nat → Prop} {G : GT} {ad : Nat → Nat} (gl : Gl l A ad)  (B : StB) (M : StM) (O : StO) (x0 : Int32) (x1 : Int32) (hok : ok_X7_writesNumber M x0 x1) : Met l yX7_writesNumber (wof yX7_writesNumber cX7_writesNumber 7 (some .int)) (rmd 2 0 0) (va_Pc [.ref (ad 193), .int x0, .int x1] (PW G A ad B M O)) (QI G A ad (f_X7_writesNumber M x0 x1).1 B (f_X7_writesNumber M x0 x1).2 O) 0 0 A := by
  refine x_body (own := RX7) (by decide +kernel) rfl gl (Nat.le_of_ble_eq_true rfl) (ls := [(0, .ref (ad 193)), (1, .int x0), (2, .int x1)]) rfl ?_
  intro p0 e s m args below meth c C
  have hR : (f_X7_writesNumber M x0 x1) = (if 0 ≤ x1 then (f_X7_writesNumber_J15 M x1 x0) else (nm (f_X7_put M x0 45) (fun (z14 : Int32 × StM) => (f_X7_writesNumber_J15 z14.2 x1 z14.1)))) := rfl
  have hok : ((0 ≤ x1 → (ok_X7_writesNumber_J15 M x1 x0)) ∧ (¬ 0 ≤ x1 → ((ok_X7_put M x0 45) ∧ (∀ z14 : Int32 × StM, z14 = (f_X7_put M x0 45) → (ok_X7_writesNumber_J15 z14.2 x1 z14.1))))) := hok
  refine x_iload_n (pc := 0) (i := 2) C 2 dX7_writesNumber_0 rfl rfl ?_
  refine x_if_ge (pc := 1) (tgt := 14) C dX7_writesNumber_1 (by decide) (fun c1 => ?_) (fun c1 => ?_)
  · have hR := hR.trans (if_pos c1)
    have hok := hok.1 c1
    refine x_iload_n (pc := 14) (i := 1) C 1 dX7_writesNumber_14 rfl rfl ?_
    refine x_sub [0, 2] (ls2 := [(0, .ref (ad 193)), (2, .int x1)]) rfl ?_
    exact t_X7_writesNumber_J15 C M x1 x0 B O _ hR hok
  · have hR := hR.trans (if_neg c1)
    have hok := hok.2 c1
    refine x_aload_n (pc := 4) (i := 0) C 0 dX7_writesNumber_4 rfl rfl ?_
    refine x_iload_n (pc := 5) (i := 1) C 1 dX7_writesNumber_5 rfl rfl ?_
    refine x_bipush (pc := 6) (v := 45) C dX7_writesNumber_6 (by decide) ?_
    have h13 := hok.1
    have hok := hok.2
    refine x_cIV (pc := 8) (as := [.int x0, .int 45]) (q := 193) C (c_X7_put C.2.2.2.2.2.2.2.1  B M O x0 45 h13) (fs := _) e_M rfl cv_X7_put cd_X7_put wd_8_124 ⟨Nat.le_of_ble_eq_true rfl, Nat.le_of_ble_eq_true rfl⟩ ⟨Nat.le_of_ble_eq_true rfl, Nat.le_of_ble_eq_true rfl⟩ rfl rfl (Nat.le_of_ble_eq_true rfl) dX7_writesNumber_8 ?_
    refine x_nmIM (fun z14 ez14 => ?_)
    have hR := nmE hR ez14
    have hok := hok z14 ez14
    refine x_goto (pc := 11) (tgt := 15) C dX7_writesNumber_11 (by decide) ?_
    refine x_sub [0, 2] (ls2 := [(0, .ref (ad 193)), (2, .int x1)]) rfl ?_
    exact t_X7_writesNumber_J15 C z14.2 x1 z14.1 B O _ hR hok
