set_option maxHeartbeats 4000000 in
set_option maxRecDepth 100000 in
theorem c_X4_formOf {l : Launch} {A : Nat → Prop} {G : GT} {ad : Nat → Nat} (gl : Gl l A ad)  (B : StB) (M : StM) (O : StO) (x0 : Int32) : Met l yX4_formOf (wof yX4_formOf cX4_formOf 1 (some (.object "java/lang/String"))) (rmd 1 0 0) (va_Pc [.int x0] (PW G A ad B M O)) (QK G A ad (f_X4_formOf x0) B M O) 0 0 A := by
  refine x_body (own := RX4) (by decide +kernel) rfl gl (Nat.le_of_ble_eq_true rfl) (ls := [(0, .int x0)]) rfl ?_
  intro p0 e s m args below meth c C
  have hR : (f_X4_formOf x0) = (if x0 = 0 then 2 else (if x0 = 1 then 3 else (if x0 = 2 then 4 else (if x0 = 3 then 5 else (if x0 = 4 then 6 else (if x0 = 5 then 7 else 8)))))) := rfl
  refine x_iload_n (pc := 0) (i := 0) C 0 dX4_formOf_0 rfl rfl ?_
  by_cases c1_0 : x0 = 0
  · have hR := hR.trans (if_pos c1_0)
    refine x_tabIn (pc := 1) (tgt := 40) (off := 39) C dX4_formOf_1 c1_0 (by decide) (by decide) (by decide) (by decide) ?_
    refine x_ldcK (pc := 40) (i := 2) C (by decide) rfl rfl dX4_formOf_40 ?_
    exact x_kret (pc := 42) C rfl hR dX4_formOf_42
  have hR := hR.trans (if_neg c1_0)
  by_cases c1_1 : x0 = 1
  · have hR := hR.trans (if_pos c1_1)
    refine x_tabIn (pc := 1) (tgt := 43) (off := 42) C dX4_formOf_1 c1_1 (by decide) (by decide) (by decide) (by decide) ?_
    refine x_ldcK (pc := 43) (i := 3) C (by decide) rfl rfl dX4_formOf_43 ?_
    exact x_kret (pc := 45) C rfl hR dX4_formOf_45
  have hR := hR.trans (if_neg c1_1)
  by_cases c1_2 : x0 = 2
  · have hR := hR.trans (if_pos c1_2)
    refine x_tabIn (pc := 1) (tgt := 46) (off := 45) C dX4_formOf_1 c1_2 (by decide) (by decide) (by decide) (by decide) ?_
    refine x_ldcK (pc := 46) (i := 4) C (by decide) rfl rfl dX4_formOf_46 ?_
    exact x_kret (pc := 48) C rfl hR dX4_formOf_48
  have hR := hR.trans (if_neg c1_2)
  by_cases c1_3 : x0 = 3
  · have hR := hR.trans (if_pos c1_3)
    refine x_tabIn (pc := 1) (tgt := 49) (off := 48) C dX4_formOf_1 c1_3 (by decide) (by decide) (by decide) (by decide) ?_
    refine x_ldcK (pc := 49) (i := 5) C (by decide) rfl rfl dX4_formOf_49 ?_
    exact x_kret (pc := 51) C rfl hR dX4_formOf_51
  have hR := hR.trans (if_neg c1_3)
  by_cases c1_4 : x0 = 4
  · have hR := hR.trans (if_pos c1_4)
    refine x_tabIn (pc := 1) (tgt := 52) (off := 51) C dX4_formOf_1 c1_4 (by decide) (by decide) (by decide) (by decide) ?_
    refine x_ldcK (pc := 52) (i := 6) C (by decide) rfl rfl dX4_formOf_52 ?_
    exact x_kret (pc := 54) C rfl hR dX4_formOf_54
  have hR := hR.trans (if_neg c1_4)
  by_cases c1_5 : x0 = 5
  · have hR := hR.trans (if_pos c1_5)
    refine x_tabIn (pc := 1) (tgt := 55) (off := 54) C dX4_formOf_1 c1_5 (by decide) (by decide) (by decide) (by decide) ?_
    refine x_ldcK (pc := 55) (i := 7) C (by decide) rfl rfl dX4_formOf_55 ?_
    exact x_kret (pc := 57) C rfl hR dX4_formOf_57
  have hR := hR.trans (if_neg c1_5)
  refine x_tabOut (pc := 1) (tgt := 58) C dX4_formOf_1 (by
    have c1_0 : ¬ Int32.toInt x0 = 0 := sw_no c1_0
    have c1_1 : ¬ Int32.toInt x0 = 1 := sw_no c1_1
    have c1_2 : ¬ Int32.toInt x0 = 2 := sw_no c1_2
    have c1_3 : ¬ Int32.toInt x0 = 3 := sw_no c1_3
    have c1_4 : ¬ Int32.toInt x0 = 4 := sw_no c1_4
    have c1_5 : ¬ Int32.toInt x0 = 5 := sw_no c1_5
    omega) (by decide) ?_
  refine x_ldcK (pc := 58) (i := 8) C (by decide) rfl rfl dX4_formOf_58 ?_
  exact x_kret (pc := 60) C rfl hR dX4_formOf_60
set_option maxHeartbeats 4000000 in
set_option maxRecDepth 100000 in
theorem t_X7_kindHere_L36 {p0 : Program} {l : Launch} {e : Env} {s : State} {m : MethodId} {args : Array Value} {below : List Frame} {meth : Method} {c : Code} {A : Nat → Prop} {G : GT} {ad : Nat → Nat} {Q : State → Prop} (C : CX p0 l s m args meth c A G ad cX7_kindHere RX7 6 (some .int))    (n : Nat) (M : StM) (a1 : Int32) (a2 : Int32) (a3 : Int32) (a4 : Int32) (a5 : Int32) (B : StB) (O : StO) : ∀ (R0 : Int32) (hR : R0 = f_X7_kindHere_L36 n M a1 a2 a3 a4 a5) (hok : ok_X7_kindHere_L36 n M a1 a2 a3 a4 a5) (k : X p0 l e (rmd 5 0 0) s m args below meth c A G ad 6 0 0 Q B M O [(0, .ref (ad 193)), (1, .int a1), (2, .int a2), (3, .int a3), (4, .int a4), (5, .int R0)] 90 []), X p0 l e (rmd 5 0 0) s m args below meth c A G ad 6 0 0 Q B M O [(0, .ref (ad 193)), (1, .int a1), (2, .int a2), (3, .int a3), (4, .int a4), (5, .int a5)] 36 [] := by
  induction n generalizing M a1 a2 a3 a4 a5 with
  | zero => intro R0 hR hok k; exact False.elim hok
  | succ n ih =>
    intro R0 hR hok k
    have hR : R0 = (if a4 ≤ a5 then a5 else (if (mi M 16) ≤ ((mi M 17) + a5) then a5 else (nm (f_X7_startOf a3) (fun (r10 : Int32) => (nm (f_J0_charAt_5068e 9 (r10 + a5)) (fun (r12 : Int32) => (if (ma M 5 (ix ((mi M 17) + a5))) = r12 then (f_X7_kindHere_L36 n M a1 a2 a3 a4 (a5 + 1)) else a5))))))) := hR
    have hok : ((a4 ≤ a5 → True) ∧ (¬ a4 ≤ a5 → (((mi M 16) ≤ ((mi M 17) + a5) → True) ∧ (¬ (mi M 16) ≤ ((mi M 17) + a5) → (vp_in ((mi M 17) + a5) 60 ∧ (∀ r10 : Int32, r10 = (f_X7_startOf a3) → ((ok_J0_charAt_5068e 9 (r10 + a5)) ∧ (∀ r12 : Int32, r12 = (f_J0_charAt_5068e 9 (r10 + a5)) → (((ma M 5 (ix ((mi M 17) + a5))) = r12 → (ok_X7_kindHere_L36 n M a1 a2 a3 a4 (a5 + 1))) ∧ (¬ (ma M 5 (ix ((mi M 17) + a5))) = r12 → True)))))))))) := hok
    refine x_iload (pc := 36) (i := 5) C 5 dX7_kindHere_36 rfl ?_
    refine x_iload (pc := 38) (i := 4) C 4 dX7_kindHere_38 rfl ?_
    refine x_icmp_ge (pc := 40) (tgt := 90) C dX7_kindHere_40 (by decide) (fun c7 => ?_) (fun c7 => ?_)
    · have hR := hR.trans (if_pos c7)
      refine x_sub [0, 1, 2, 3, 4, 5] (ls2 := [(0, .ref (ad 193)), (1, .int a1), (2, .int a2), (3, .int a3), (4, .int a4), (5, .int a5)]) rfl ?_
      subst hR
      exact k
    · have hR := hR.trans (if_neg c7)
      have hok := hok.2 c7
      refine x_aload_n (pc := 43) (i := 0) C 0 dX7_kindHere_43 rfl rfl ?_
      refine x_get (pc := 44) (q := 193) (i := 17) C e_M rfl ttX7 (by decide) wd_7_4 rfl dX7_kindHere_44 ?_
      refine x_iload (pc := 47) (i := 5) C 5 dX7_kindHere_47 rfl ?_
      refine x_iadd (pc := 49) C dX7_kindHere_49 ?_
      refine x_aload_n (pc := 50) (i := 0) C 0 dX7_kindHere_50 rfl rfl ?_
      refine x_get (pc := 51) (q := 193) (i := 16) C e_M rfl ttX7 (by decide) wd_7_3 rfl dX7_kindHere_51 ?_
      refine x_icmp_ge (pc := 54) (tgt := 90) C dX7_kindHere_54 (by decide) (fun c8 => ?_) (fun c8 => ?_)
      · have hR := hR.trans (if_pos c8)
        refine x_sub [0, 1, 2, 3, 4, 5] (ls2 := [(0, .ref (ad 193)), (1, .int a1), (2, .int a2), (3, .int a3), (4, .int a4), (5, .int a5)]) rfl ?_
        subst hR
        exact k
      · have hR := hR.trans (if_neg c8)
        have hok := hok.2 c8
        refine x_aload_n (pc := 57) (i := 0) C 0 dX7_kindHere_57 rfl rfl ?_
        refine x_get (pc := 58) (q := 193) (i := 11) C e_M rfl ttX7 (by decide) wd_6_238 rfl dX7_kindHere_58 ?_
        refine x_aload_n (pc := 61) (i := 0) C 0 dX7_kindHere_61 rfl rfl ?_
        refine x_get (pc := 62) (q := 193) (i := 17) C e_M rfl ttX7 (by decide) wd_7_4 rfl dX7_kindHere_62 ?_
        refine x_iload (pc := 65) (i := 5) C 5 dX7_kindHere_65 rfl ?_
        refine x_iadd (pc := 67) C dX7_kindHere_67 ?_
        have h9 := hok.1
        have hok := hok.2
        refine x_iald (pc := 68) (q := 199) C e_M5 h9 dX7_kindHere_68 ?_
        refine x_ldcK (pc := 69) (i := 9) C (by decide) rfl rfl dX7_kindHere_69 ?_
        refine x_iload_n (pc := 71) (i := 3) C 3 dX7_kindHere_71 rfl rfl ?_
        refine x_cIS (pc := 72) (as := [.int a3]) C (c_X7_startOf C.2.2.2.2.2.2.2.1  B M O a3) wd_8_160 cd_X7_startOf wd_8_159 ⟨Nat.le_of_ble_eq_true rfl, Nat.le_of_ble_eq_true rfl⟩ ⟨Nat.le_of_ble_eq_true rfl, Nat.le_of_ble_eq_true rfl⟩ rfl rfl (Nat.le_of_ble_eq_true rfl) dX7_kindHere_72 ?_
        refine x_nmI (fun r10 er10 => ?_)
        have hR := nmE hR er10
        have hok := hok r10 er10
        refine x_iload (pc := 75) (i := 5) C 5 dX7_kindHere_75 rfl ?_
        refine x_iadd (pc := 77) C dX7_kindHere_77 ?_
        have h11 := hok.1
        have hok := hok.2
        refine x_cIVK (pc := 78) (as := [.int (r10 + a5)]) C (c_J0_charAt_5068e C.2.2.2.2.2.2.2.1 9 (by decide) B M O (r10 + a5) h11) (by decide) rfl cv_J0_charAt_5068e cd_J0_charAt_5068e wd_8_163 ⟨Nat.le_of_ble_eq_true rfl, Nat.le_of_ble_eq_true rfl⟩ ⟨Nat.le_of_ble_eq_true rfl, Nat.le_of_ble_eq_true rfl⟩ rfl rfl (Nat.le_of_ble_eq_true rfl) dX7_kindHere_78 ?_
        refine x_nmI (fun r12 er12 => ?_)
        have hR := nmE hR er12
        have hok := hok r12 er12
        refine x_icmp_ne (pc := 81) (tgt := 90) C dX7_kindHere_81 (by decide) (fun c13 => ?_) (fun c13 => ?_)
        · have hR := hR.trans (if_neg c13)
          refine x_sub [0, 1, 2, 3, 4, 5] (ls2 := [(0, .ref (ad 193)), (1, .int a1), (2, .int a2), (3, .int a3), (4, .int a4), (5, .int a5)]) rfl ?_
          subst hR
          exact k
        · have hR := hR.trans (if_pos c13)
          have hok := hok.1 c13
          refine x_iinc (pc := 84) (i := 5) (v := (a5 + 1)) (ls2 := [(5, .int (a5 + 1)), (0, .ref (ad 193)), (1, .int a1), (2, .int a2), (3, .int a3), (4, .int a4)]) C 5 dX7_kindHere_84 rfl rfl (by decide) rfl ?_
          refine x_goto (pc := 87) (tgt := 36) C dX7_kindHere_87 (by decide) ?_
          refine x_sub [1, 2, 3, 4, 5, 0] (ls2 := [(0, .ref (ad 193)), (1, .int a1), (2, .int a2), (3, .int a3), (4, .int a4), (5, .int (a5 + 1))]) rfl ?_
          exact ih M a1 a2 a3 a4 (a5 + 1) R0 hR hok k
set_option maxHeartbeats 4000000 in
set_option maxRecDepth 100000 in
theorem t_X7_kindHere_L9 {p0 : Program} {l : Launch} {e : Env} {s : State} {m : MethodId} {args : Array Value} {below : List Frame} {meth : Method} {c : Code} {A : Nat → Prop} {G : GT} {ad : Nat → Nat} {Q : State → Prop} (C : CX p0 l s m args meth c A G ad cX7_kindHere RX7 6 (some .int))    (n : Nat) (M : StM) (a1 : Int32) (a2 : Int32) (a3 : Int32) (B : StB) (O : StO) : ∀ (R0 : Int32 × Int32) (hR : R0 = f_X7_kindHere_L9 n M a1 a2 a3) (hok : ok_X7_kindHere_L9 n M a1 a2 a3) (k : X p0 l e (rmd 5 0 0) s m args below meth c A G ad 6 0 0 Q B M O [(0, .ref (ad 193)), (1, .int R0.1), (2, .int R0.2)] 121 []), X p0 l e (rmd 5 0 0) s m args below meth c A G ad 6 0 0 Q B M O [(0, .ref (ad 193)), (1, .int a1), (2, .int a2), (3, .int a3)] 9 [] := by
  induction n generalizing M a1 a2 a3 with
  | zero => intro R0 hR hok k; exact False.elim hok
  | succ n ih =>
    intro R0 hR hok k
    have hR : R0 = (if 6 ≤ a3 then (a1, a2) else (if a2 = (-1) then (nm (f_X7_startOf (a3 + 1)) (fun (r4 : Int32) => (nm (f_X7_startOf a3) (fun (r5 : Int32) => (nm (r4 - r5) (fun (v6 : Int32) => (nm (f_X7_kindHere_L36 fu M a1 a2 a3 v6 0) (fun (z14 : Int32) => (nm (mx a1 ((mi M 17) + z14)) (fun (v15 : Int32) => (if z14 = v6 then (f_X7_kindHere_L9 n M v15 a3 (a3 + 1)) else (f_X7_kindHere_L9 n M v15 a2 (a3 + 1))))))))))))) else (a1, a2))) := hR
    have hok : ((6 ≤ a3 → True) ∧ (¬ 6 ≤ a3 → ((a2 = (-1) → (∀ r4 : Int32, r4 = (f_X7_startOf (a3 + 1)) → (∀ r5 : Int32, r5 = (f_X7_startOf a3) → (∀ v6 : Int32, v6 = (r4 - r5) → ((ok_X7_kindHere_L36 fu M a1 a2 a3 v6 0) ∧ ∀ z14 : Int32, z14 = f_X7_kindHere_L36 fu M a1 a2 a3 v6 0 → (∀ v15 : Int32, v15 = (mx a1 ((mi M 17) + z14)) → ((z14 = v6 → (ok_X7_kindHere_L9 n M v15 a3 (a3 + 1))) ∧ (¬ z14 = v6 → (ok_X7_kindHere_L9 n M v15 a2 (a3 + 1)))))))))) ∧ (¬ a2 = (-1) → True)))) := hok
    refine x_iload_n (pc := 9) (i := 3) C 3 dX7_kindHere_9 rfl rfl ?_
    refine x_bipush (pc := 10) (v := 6) C dX7_kindHere_10 (by decide) ?_
    refine x_icmp_ge (pc := 12) (tgt := 121) C dX7_kindHere_12 (by decide) (fun c2 => ?_) (fun c2 => ?_)
    · have hR := hR.trans (if_pos c2)
      refine x_sub [0, 1, 2] (ls2 := [(0, .ref (ad 193)), (1, .int a1), (2, .int a2)]) rfl ?_
      subst hR
      exact k
    · have hR := hR.trans (if_neg c2)
      have hok := hok.2 c2
      refine x_iload_n (pc := 15) (i := 2) C 2 dX7_kindHere_15 rfl rfl ?_
      refine x_iconst (pc := 16) (v := (-1)) C dX7_kindHere_16 (by decide) ?_
      refine x_icmp_ne (pc := 17) (tgt := 121) C dX7_kindHere_17 (by decide) (fun c3 => ?_) (fun c3 => ?_)
      · have hR := hR.trans (if_neg c3)
        refine x_sub [0, 1, 2] (ls2 := [(0, .ref (ad 193)), (1, .int a1), (2, .int a2)]) rfl ?_
        subst hR
        exact k
      · have hR := hR.trans (if_pos c3)
        have hok := hok.1 c3
        refine x_iload_n (pc := 20) (i := 3) C 3 dX7_kindHere_20 rfl rfl ?_
        refine x_iconst (pc := 21) (v := 1) C dX7_kindHere_21 (by decide) ?_
        refine x_iadd (pc := 22) C dX7_kindHere_22 ?_
        refine x_cIS (pc := 23) (as := [.int (a3 + 1)]) C (c_X7_startOf C.2.2.2.2.2.2.2.1  B M O (a3 + 1)) wd_8_160 cd_X7_startOf wd_8_159 ⟨Nat.le_of_ble_eq_true rfl, Nat.le_of_ble_eq_true rfl⟩ ⟨Nat.le_of_ble_eq_true rfl, Nat.le_of_ble_eq_true rfl⟩ rfl rfl (Nat.le_of_ble_eq_true rfl) dX7_kindHere_23 ?_
        refine x_nmI (fun r4 er4 => ?_)
        have hR := nmE hR er4
        have hok := hok r4 er4
        refine x_iload_n (pc := 26) (i := 3) C 3 dX7_kindHere_26 rfl rfl ?_
        refine x_cIS (pc := 27) (as := [.int a3]) C (c_X7_startOf C.2.2.2.2.2.2.2.1  B M O a3) wd_8_160 cd_X7_startOf wd_8_159 ⟨Nat.le_of_ble_eq_true rfl, Nat.le_of_ble_eq_true rfl⟩ ⟨Nat.le_of_ble_eq_true rfl, Nat.le_of_ble_eq_true rfl⟩ rfl rfl (Nat.le_of_ble_eq_true rfl) dX7_kindHere_27 ?_
        refine x_nmI (fun r5 er5 => ?_)
        have hR := nmE hR er5
        have hok := hok r5 er5
        refine x_isub (pc := 30) C dX7_kindHere_30 ?_
        refine x_nmI (fun v6 ev6 => ?_)
        have hR := nmE hR ev6
        have hok := hok v6 ev6
        refine x_istore (pc := 31) (i := 4) (ls2 := [(4, .int v6), (0, .ref (ad 193)), (1, .int a1), (2, .int a2), (3, .int a3)]) C dX7_kindHere_31 (by decide) rfl ?_
        refine x_iconst (pc := 33) (v := 0) C dX7_kindHere_33 (by decide) ?_
        refine x_istore (pc := 34) (i := 5) (ls2 := [(5, .int 0), (4, .int v6), (0, .ref (ad 193)), (1, .int a1), (2, .int a2), (3, .int a3)]) C dX7_kindHere_34 (by decide) rfl ?_
        refine x_sub [2, 3, 4, 5, 1, 0] (ls2 := [(0, .ref (ad 193)), (1, .int a1), (2, .int a2), (3, .int a3), (4, .int v6), (5, .int 0)]) rfl ?_
        obtain ⟨z14, ez14⟩ : ∃ z : Int32, z = f_X7_kindHere_L36 fu M a1 a2 a3 v6 0 := ⟨_, rfl⟩
        refine t_X7_kindHere_L36 C fu M a1 a2 a3 v6 0 B O z14 ez14 hok.1 ?_
        have hR := nmE hR ez14
        have hok := hok.2 z14 ez14
        refine x_iload_n (pc := 90) (i := 1) C 1 dX7_kindHere_90 rfl rfl ?_
        refine x_aload_n (pc := 91) (i := 0) C 0 dX7_kindHere_91 rfl rfl ?_
        refine x_get (pc := 92) (q := 193) (i := 17) C e_M rfl ttX7 (by decide) wd_7_4 rfl dX7_kindHere_92 ?_
        refine x_iload (pc := 95) (i := 5) C 5 dX7_kindHere_95 rfl ?_
        refine x_iadd (pc := 97) C dX7_kindHere_97 ?_
        refine x_mmax (pc := 98) C wd_7_208 wd_3_211 wd_1_21 wd_3_212 ⟨Nat.le_of_ble_eq_true rfl, Nat.le_of_ble_eq_true rfl⟩ ⟨Nat.le_of_ble_eq_true rfl, Nat.le_of_ble_eq_true rfl⟩ dX7_kindHere_98 ?_
        refine x_nmI (fun v15 ev15 => ?_)
        have hR := nmE hR ev15
        have hok := hok v15 ev15
        refine x_istore_n (pc := 101) (i := 1) (ls2 := [(1, .int v15), (0, .ref (ad 193)), (2, .int a2), (3, .int a3), (4, .int v6), (5, .int z14)]) C dX7_kindHere_101 rfl (by decide) rfl ?_
        refine x_iload (pc := 102) (i := 5) C 5 dX7_kindHere_102 rfl ?_
        refine x_iload (pc := 104) (i := 4) C 4 dX7_kindHere_104 rfl ?_
        refine x_icmp_ne (pc := 106) (tgt := 113) C dX7_kindHere_106 (by decide) (fun c16 => ?_) (fun c16 => ?_)
        · have hR := hR.trans (if_neg c16)
          have hok := hok.2 c16
          refine x_iload_n (pc := 113) (i := 2) C 2 dX7_kindHere_113 rfl rfl ?_
          refine x_istore_n (pc := 114) (i := 2) (ls2 := [(2, .int a2), (1, .int v15), (0, .ref (ad 193)), (3, .int a3), (4, .int v6), (5, .int z14)]) C dX7_kindHere_114 rfl (by decide) rfl ?_
          refine x_iinc (pc := 115) (i := 3) (v := (a3 + 1)) (ls2 := [(3, .int (a3 + 1)), (2, .int a2), (1, .int v15), (0, .ref (ad 193)), (4, .int v6), (5, .int z14)]) C 3 dX7_kindHere_115 rfl rfl (by decide) rfl ?_
          refine x_goto (pc := 118) (tgt := 9) C dX7_kindHere_118 (by decide) ?_
          refine x_sub [3, 2, 1, 0] (ls2 := [(0, .ref (ad 193)), (1, .int v15), (2, .int a2), (3, .int (a3 + 1))]) rfl ?_
          exact ih M v15 a2 (a3 + 1) R0 hR hok k
        · have hR := hR.trans (if_pos c16)
          have hok := hok.1 c16
          refine x_iload_n (pc := 109) (i := 3) C 3 dX7_kindHere_109 rfl rfl ?_
          refine x_goto (pc := 110) (tgt := 114) C dX7_kindHere_110 (by decide) ?_
          refine x_istore_n (pc := 114) (i := 2) (ls2 := [(2, .int a3), (1, .int v15), (0, .ref (ad 193)), (3, .int a3), (4, .int v6), (5, .int z14)]) C dX7_kindHere_114 rfl (by decide) rfl ?_
          refine x_iinc (pc := 115) (i := 3) (v := (a3 + 1)) (ls2 := [(3, .int (a3 + 1)), (2, .int a3), (1, .int v15), (0, .ref (ad 193)), (4, .int v6), (5, .int z14)]) C 3 dX7_kindHere_115 rfl rfl (by decide) rfl ?_
          refine x_goto (pc := 118) (tgt := 9) C dX7_kindHere_118 (by decide) ?_
          refine x_sub [3, 2, 1, 0] (ls2 := [(0, .ref (ad 193)), (1, .int v15), (2, .int a3), (3, .int (a3 + 1))]) rfl ?_
          exact ih M v15 a3 (a3 + 1) R0 hR hok k
set_option maxHeartbeats 4000000 in
set_option maxRecDepth 100000 in
theorem t_X7_kindHere_J135 {p0 : Program} {l : Launch} {e : Env} {s : State} {m : MethodId} {args : Array Value} {below : List Frame} {meth : Method} {c : Code} {A : Nat → Prop} {G : GT} {ad : Nat → Nat} (C : CX p0 l s m args meth c A G ad cX7_kindHere RX7 6 (some .int))  (M : StM) (a2 : Int32) (s0 : Int32) (B : StB) (O : StO) (R0 : Int32 × StM) (hR : R0 = f_X7_kindHere_J135 M a2 s0) : X p0 l e (rmd 5 0 0) s m args below meth c A G ad 6 0 0 (MQ below (QI G A ad R0.1 B R0.2 O) args s 0 0 A) B M O [(0, .ref (ad 193)), (2, .int a2)] 135 [.int s0, .ref (ad 193)] := by
  have hR : R0 = (nm (smi M 18 s0) (fun (M19 : StM) => (if a2 = (-1) then (nm (smi M19 17 ((mi M19 17) + 0)) (fun (M24 : StM) => (a2, M24))) else (nm (f_X7_startOf (a2 + 1)) (fun (r21 : Int32) => (nm (f_X7_startOf a2) (fun (r22 : Int32) => (nm (smi M19 17 ((mi M19 17) + (r21 - r22))) (fun (M23 : StM) => (a2, M23)))))))))) := hR
  refine x_put (pc := 135) (M2 := (smi M 18 s0)) (B2 := B) (O2 := O) (q := 193) (i := 18) C tyX7 tyX7_ok nmX7 e_M rfl ttX7 (by decide) wd_7_5 rfl rfl rfl (Nat.le_of_ble_eq_true rfl) dX7_kindHere_135 (put_M_18 ) (o_smi 18 s0) ?_
  refine x_nmM (fun M19 eM19 => ?_)
  have hR := nmE hR eM19
  refine x_aload_n (pc := 138) (i := 0) C 0 dX7_kindHere_138 rfl rfl ?_
  refine x_dup (pc := 139) C dX7_kindHere_139 rfl ?_
  refine x_get (pc := 140) (q := 193) (i := 17) C e_M rfl ttX7 (by decide) wd_7_4 rfl dX7_kindHere_140 ?_
  refine x_iload_n (pc := 143) (i := 2) C 1 dX7_kindHere_143 rfl rfl ?_
  refine x_iconst (pc := 144) (v := (-1)) C dX7_kindHere_144 (by decide) ?_
  refine x_icmp_ne (pc := 145) (tgt := 152) C dX7_kindHere_145 (by decide) (fun c20 => ?_) (fun c20 => ?_)
  · have hR := hR.trans (if_neg c20)
    refine x_iload_n (pc := 152) (i := 2) C 1 dX7_kindHere_152 rfl rfl ?_
    refine x_iconst (pc := 153) (v := 1) C dX7_kindHere_153 (by decide) ?_
    refine x_iadd (pc := 154) C dX7_kindHere_154 ?_
    refine x_cIS (pc := 155) (as := [.int (a2 + 1)]) C (c_X7_startOf C.2.2.2.2.2.2.2.1  B M19 O (a2 + 1)) wd_8_160 cd_X7_startOf wd_8_159 ⟨Nat.le_of_ble_eq_true rfl, Nat.le_of_ble_eq_true rfl⟩ ⟨Nat.le_of_ble_eq_true rfl, Nat.le_of_ble_eq_true rfl⟩ rfl rfl (Nat.le_of_ble_eq_true rfl) dX7_kindHere_155 ?_
    refine x_nmI (fun r21 er21 => ?_)
    have hR := nmE hR er21
    refine x_iload_n (pc := 158) (i := 2) C 1 dX7_kindHere_158 rfl rfl ?_
    refine x_cIS (pc := 159) (as := [.int a2]) C (c_X7_startOf C.2.2.2.2.2.2.2.1  B M19 O a2) wd_8_160 cd_X7_startOf wd_8_159 ⟨Nat.le_of_ble_eq_true rfl, Nat.le_of_ble_eq_true rfl⟩ ⟨Nat.le_of_ble_eq_true rfl, Nat.le_of_ble_eq_true rfl⟩ rfl rfl (Nat.le_of_ble_eq_true rfl) dX7_kindHere_159 ?_
    refine x_nmI (fun r22 er22 => ?_)
    have hR := nmE hR er22
    refine x_isub (pc := 162) C dX7_kindHere_162 ?_
    refine x_iadd (pc := 163) C dX7_kindHere_163 ?_
    refine x_put (pc := 164) (M2 := (smi M19 17 ((mi M19 17) + (r21 - r22)))) (B2 := B) (O2 := O) (q := 193) (i := 17) C tyX7 tyX7_ok nmX7 e_M rfl ttX7 (by decide) wd_7_4 rfl rfl rfl (Nat.le_of_ble_eq_true rfl) dX7_kindHere_164 (put_M_17 ) (o_smi 17 ((mi M19 17) + (r21 - r22))) ?_
    refine x_nmM (fun M23 eM23 => ?_)
    have hR := nmE hR eM23
    refine x_iload_n (pc := 167) (i := 2) C 1 dX7_kindHere_167 rfl rfl ?_
    exact x_iretM (pc := 168) C rfl hR dX7_kindHere_168
  · have hR := hR.trans (if_pos c20)
    refine x_iconst (pc := 148) (v := 0) C dX7_kindHere_148 (by decide) ?_
    refine x_goto (pc := 149) (tgt := 163) C dX7_kindHere_149 (by decide) ?_
    refine x_iadd (pc := 163) C dX7_kindHere_163 ?_
    refine x_put (pc := 164) (M2 := (smi M19 17 ((mi M19 17) + 0))) (B2 := B) (O2 := O) (q := 193) (i := 17) C tyX7 tyX7_ok nmX7 e_M rfl ttX7 (by decide) wd_7_4 rfl rfl rfl (Nat.le_of_ble_eq_true rfl) dX7_kindHere_164 (put_M_17 ) (o_smi 17 ((mi M19 17) + 0)) ?_
    refine x_nmM (fun M24 eM24 => ?_)
    have hR := nmE hR eM24
    refine x_iload_n (pc := 167) (i := 2) C 1 dX7_kindHere_167 rfl rfl ?_
    exact x_iretM (pc := 168) C rfl hR dX7_kindHere_168
set_option maxHeartbeats 4000000 in
set_option maxRecDepth 100000 in
theorem t_X7_kindHere_J121 {p0 : Program} {l : Launch} {e : Env} {s : State} {m : MethodId} {args : Array Value} {below : List Frame} {meth : Method} {c : Code} {A : Nat → Prop} {G : GT} {ad : Nat → Nat} (C : CX p0 l s m args meth c A G ad cX7_kindHere RX7 6 (some .int))  (M : StM) (a1 : Int32) (a2 : Int32) (B : StB) (O : StO) (R0 : Int32 × StM) (hR : R0 = f_X7_kindHere_J121 M a1 a2) : X p0 l e (rmd 5 0 0) s m args below meth c A G ad 6 0 0 (MQ below (QI G A ad R0.1 B R0.2 O) args s 0 0 A) B M O [(0, .ref (ad 193)), (1, .int a1), (2, .int a2)] 121 [] := by
  have hR : R0 = (if a2 = (-1) then (f_X7_kindHere_J135 M a2 a1) else (f_X7_kindHere_J135 M a2 (mi M 18))) := hR
  refine x_aload_n (pc := 121) (i := 0) C 0 dX7_kindHere_121 rfl rfl ?_
  refine x_iload_n (pc := 122) (i := 2) C 2 dX7_kindHere_122 rfl rfl ?_
  refine x_iconst (pc := 123) (v := (-1)) C dX7_kindHere_123 (by decide) ?_
  refine x_icmp_ne (pc := 124) (tgt := 131) C dX7_kindHere_124 (by decide) (fun c18 => ?_) (fun c18 => ?_)
  · have hR := hR.trans (if_neg c18)
    refine x_aload_n (pc := 131) (i := 0) C 0 dX7_kindHere_131 rfl rfl ?_
    refine x_get (pc := 132) (q := 193) (i := 18) C e_M rfl ttX7 (by decide) wd_7_5 rfl dX7_kindHere_132 ?_
    refine x_sub [0, 2] (ls2 := [(0, .ref (ad 193)), (2, .int a2)]) rfl ?_
    exact t_X7_kindHere_J135 C M a2 (mi M 18) B O _ hR
  · have hR := hR.trans (if_pos c18)
    refine x_iload_n (pc := 127) (i := 1) C 1 dX7_kindHere_127 rfl rfl ?_
    refine x_goto (pc := 128) (tgt := 135) C dX7_kindHere_128 (by decide) ?_
    refine x_sub [0, 2] (ls2 := [(0, .ref (ad 193)), (2, .int a2)]) rfl ?_
    exact t_X7_kindHere_J135 C M a2 a1 B O _ hR
set_option maxHeartbeats 4000000 in
set_option maxRecDepth 100000 in
theorem c_X7_kindHere {l : Launch} {A : Nat → Prop} {G : GT} {ad : Nat → Nat} (gl : Gl l A ad)  (B : StB) (M : StM) (O : StO)  (hok : ok_X7_kindHere M) : Met l yX7_kindHere (wof yX7_kindHere cX7_kindHere 6 (some .int)) (rmd 5 0 0) (va_Pc [.ref (ad 193)] (PW G A ad B M O)) (QI G A ad (f_X7_kindHere M).1 B (f_X7_kindHere M).2 O) 0 0 A := by
  refine x_body (own := RX7) (by decide +kernel) rfl gl (Nat.le_of_ble_eq_true rfl) (ls := [(0, .ref (ad 193))]) rfl ?_
  intro p0 e s m args below meth c C
  have hR : (f_X7_kindHere M) = (nm (mi M 17) (fun (v1 : Int32) => (nm (f_X7_kindHere_L9 fu M v1 (-1) 0) (fun (z17 : Int32 × Int32) => (f_X7_kindHere_J121 M z17.1 z17.2))))) := rfl
  have hok : (∀ v1 : Int32, v1 = (mi M 17) → (ok_X7_kindHere_L9 fu M v1 (-1) 0)) := hok
  refine x_aload_n (pc := 0) (i := 0) C 0 dX7_kindHere_0 rfl rfl ?_
  refine x_get (pc := 1) (q := 193) (i := 17) C e_M rfl ttX7 (by decide) wd_7_4 rfl dX7_kindHere_1 ?_
  refine x_nmI (fun v1 ev1 => ?_)
  have hR := nmE hR ev1
  have hok := hok v1 ev1
  refine x_istore_n (pc := 4) (i := 1) (ls2 := [(1, .int v1), (0, .ref (ad 193))]) C dX7_kindHere_4 rfl (by decide) rfl ?_
  refine x_iconst (pc := 5) (v := (-1)) C dX7_kindHere_5 (by decide) ?_
  refine x_istore_n (pc := 6) (i := 2) (ls2 := [(2, .int (-1)), (1, .int v1), (0, .ref (ad 193))]) C dX7_kindHere_6 rfl (by decide) rfl ?_
  refine x_iconst (pc := 7) (v := 0) C dX7_kindHere_7 (by decide) ?_
  refine x_istore_n (pc := 8) (i := 3) (ls2 := [(3, .int 0), (2, .int (-1)), (1, .int v1), (0, .ref (ad 193))]) C dX7_kindHere_8 rfl (by decide) rfl ?_
  refine x_sub [3, 2, 1, 0] (ls2 := [(0, .ref (ad 193)), (1, .int v1), (2, .int (-1)), (3, .int 0)]) rfl ?_
  obtain ⟨z17, ez17⟩ : ∃ z : Int32 × Int32, z = f_X7_kindHere_L9 fu M v1 (-1) 0 := ⟨_, rfl⟩
  refine t_X7_kindHere_L9 C fu M v1 (-1) 0 B O z17 ez17 hok ?_
  have hR := nmE hR ez17
  refine x_sub [0, 1, 2] (ls2 := [(0, .ref (ad 193)), (1, .int z17.1), (2, .int z17.2)]) rfl ?_
  exact t_X7_kindHere_J121 C M z17.1 z17.2 B O _ hR
set_option maxHeartbeats 4000000 in
set_option maxRecDepth 100000 in
theorem t_X7_meanBalance_J15 {p0 : Program} {l : Launch} {e : Env} {s : State} {m : MethodId} {args : Array Value} {below : List Frame} {meth : Method} {c : Code} {A : Nat → Prop} {G : GT} {ad : Nat → Nat} (C : CX p0 l s m args meth c A G ad cX7_meanBalance RX7 1 (some .double))  (M : StM) (s0 : Int32) (B : StB) (O : StO) (R0 : UInt64 × StM) (hR : R0 = f_X7_meanBalance_J15 M s0) (hok : ok_X7_meanBalance_J15 M s0) : X p0 l e (rmd 5 0 0) s m args below meth c A G ad 1 0 0 (MQ below (QD G A ad R0.1 B R0.2 O) args s 0 0 A) B M O [(0, .ref (ad 193))] 15 [.int s0, .ref (ad 193)] := by
  have hR : R0 = (nm (f_X7_goes M s0) (fun (z4 : Int32 × StM) => (if z4.1 = 0 then (0, z4.2) else (nm (f_X7_balances z4.2) (fun (r7 : Int64) => ((FP.ddiv (FP.l2d r7) (FP.i2d (ma z4.2 0 (ix 1)))), z4.2)))))) := hR
  have hok : ((ok_X7_goes M s0) ∧ (∀ z4 : Int32 × StM, z4 = (f_X7_goes M s0) → ((z4.1 = 0 → True) ∧ (¬ z4.1 = 0 → ((ok_X7_balances z4.2) ∧ (∀ r7 : Int64, r7 = (f_X7_balances z4.2) → (vf_n64 (FP.ddiv (FP.l2d r7) (FP.i2d (ma z4.2 0 (ix 1))))))))))) := hok
  have h3 := hok.1
  have hok := hok.2
  refine x_cIV (pc := 15) (as := [.int s0]) (q := 193) C (c_X7_goes C.2.2.2.2.2.2.2.1  B M O s0 h3) (fs := _) e_M rfl cv_X7_goes cd_X7_goes wd_7_59 ⟨Nat.le_of_ble_eq_true rfl, Nat.le_of_ble_eq_true rfl⟩ ⟨Nat.le_of_ble_eq_true rfl, Nat.le_of_ble_eq_true rfl⟩ rfl rfl (Nat.le_of_ble_eq_true rfl) dX7_meanBalance_15 ?_
  refine x_nmIM (fun z4 ez4 => ?_)
  have hR := nmE hR ez4
  have hok := hok z4 ez4
  refine x_if_eq (pc := 18) (tgt := 37) C dX7_meanBalance_18 (by decide) (fun c5 => ?_) (fun c5 => ?_)
  · have hR := hR.trans (if_pos c5)
    refine x_dconst0 (pc := 37) C dX7_meanBalance_37 ?_
    exact x_dretM (pc := 38) C rfl hR dX7_meanBalance_38
  · have hR := hR.trans (if_neg c5)
    have hok := hok.2 c5
    refine x_aload_n (pc := 21) (i := 0) C 0 dX7_meanBalance_21 rfl rfl ?_
    have h6 := hok.1
    have hok := hok.2
    refine x_cLV (pc := 22) (as := []) (q := 193) C (c_X7_balances C.2.2.2.2.2.2.2.1  B z4.2 O  h6) (fs := _) e_M rfl cv_X7_balances cd_X7_balances wd_8_9 ⟨Nat.le_of_ble_eq_true rfl, Nat.le_of_ble_eq_true rfl⟩ ⟨Nat.le_of_ble_eq_true rfl, Nat.le_of_ble_eq_true rfl⟩ rfl rfl (Nat.le_of_ble_eq_true rfl) dX7_meanBalance_22 ?_
    refine x_nmL (fun r7 er7 => ?_)
    have hR := nmE hR er7
    have hok := hok r7 er7
    refine x_l2d (pc := 25) C dX7_meanBalance_25 ?_
    refine x_aload_n (pc := 26) (i := 0) C 0 dX7_meanBalance_26 rfl rfl ?_
    refine x_get (pc := 27) (q := 193) (i := 0) C e_M rfl ttX7 (by decide) wd_6_227 rfl dX7_meanBalance_27 ?_
    refine x_iconst (pc := 30) (v := 1) C dX7_meanBalance_30 (by decide) ?_
    have h8 : vp_in (1) 124 := (by decide : ¬ ((1 : Int32) < 0 ∨ 124 ≤ Int32.toNatClampNeg 1))
    refine x_iald (pc := 31) (q := 194) C e_M0 h8 dX7_meanBalance_31 ?_
    refine x_i2d (pc := 32) C dX7_meanBalance_32 ?_
    have h9 := hok
    refine x_ddiv (pc := 33) C h9 dX7_meanBalance_33 ?_
    refine x_goto (pc := 34) (tgt := 38) C dX7_meanBalance_34 (by decide) ?_
    exact x_dretM (pc := 38) C rfl hR dX7_meanBalance_38
set_option maxHeartbeats 4000000 in
set_option maxRecDepth 100000 in
theorem c_X7_meanBalance {l : Launch} {A : Nat → Prop} {G : GT} {ad : Nat → Nat} (gl : Gl l A ad)  (B : StB) (M : StM) (O : StO)  (hok : ok_X7_meanBalance M) : Met l yX7_meanBalance (wof yX7_meanBalance cX7_meanBalance 1 (some .double)) (rmd 5 0 0) (va_Pc [.ref (ad 193)] (PW G A ad B M O)) (QD G A ad (f_X7_meanBalance M).1 B (f_X7_meanBalance M).2 O) 0 0 A := by
  refine x_body (own := RX7) (by decide +kernel) rfl gl (Nat.le_of_ble_eq_true rfl) (ls := [(0, .ref (ad 193))]) rfl ?_
  intro p0 e s m args below meth c C
  have hR : (f_X7_meanBalance M) = (if (ma M 0 (ix 1)) ≤ 0 then (f_X7_meanBalance_J15 M 0) else (f_X7_meanBalance_J15 M 1)) := rfl
  have hok : (((ma M 0 (ix 1)) ≤ 0 → (ok_X7_meanBalance_J15 M 0)) ∧ (¬ (ma M 0 (ix 1)) ≤ 0 → (ok_X7_meanBalance_J15 M 1))) := hok
  refine x_aload_n (pc := 0) (i := 0) C 0 dX7_meanBalance_0 rfl rfl ?_
  refine x_aload_n (pc := 1) (i := 0) C 0 dX7_meanBalance_1 rfl rfl ?_
  refine x_get (pc := 2) (q := 193) (i := 0) C e_M rfl ttX7 (by decide) wd_6_227 rfl dX7_meanBalance_2 ?_
  refine x_iconst (pc := 5) (v := 1) C dX7_meanBalance_5 (by decide) ?_
  have h1 : vp_in (1) 124 := (by decide : ¬ ((1 : Int32) < 0 ∨ 124 ≤ Int32.toNatClampNeg 1))
  refine x_iald (pc := 6) (q := 194) C e_M0 h1 dX7_meanBalance_6 ?_
  refine x_if_le (pc := 7) (tgt := 14) C dX7_meanBalance_7 (by decide) (fun c2 => ?_) (fun c2 => ?_)
  · have hR := hR.trans (if_pos c2)
    have hok := hok.1 c2
    refine x_iconst (pc := 14) (v := 0) C dX7_meanBalance_14 (by decide) ?_
    refine x_sub [0] (ls2 := [(0, .ref (ad 193))]) rfl ?_
    exact t_X7_meanBalance_J15 C M 0 B O _ hR hok
  · have hR := hR.trans (if_neg c2)
    have hok := hok.2 c2
    refine x_iconst (pc := 10) (v := 1) C dX7_meanBalance_10 (by decide) ?_
    refine x_goto (pc := 11) (tgt := 15) C dX7_meanBalance_11 (by decide) ?_
    refine x_sub [0] (ls2 := [(0, .ref (ad 193))]) rfl ?_
    exact t_X7_meanBalance_J15 C M 1 B O _ hR hok
set_option maxHeartbeats 4000000 in
set_option maxRecDepth 100000 in
theorem t_X4_readCommand_L45 {p0 : Program} {l : Launch} {e : Env} {s : State} {m : MethodId} {args : Array Value} {below : List Frame} {meth : Method} {c : Code} {A : Nat → Prop} {G : GT} {ad : Nat → Nat} (C : CX p0 l s m args meth c A G ad cX4_readCommand RX4 6 (some .boolean))  {k1 : Nat} (hk1 : k1 < 10)  (n : Nat) (B : StB) (a2 : Int32) (a3 : Int32) (M : StM) (O : StO) : ∀ (R0 : Int32 × StB) (hR : R0 = f_X4_readCommand_L45 n k1 B a2 a3) (hok : ok_X4_readCommand_L45 n k1 B a2 a3), X p0 l e (rmd 5 0 0) s m args below meth c A G ad 6 0 0 (MQ below (QI G A ad R0.1 R0.2 M O) args s 0 0 A) B M O [(0, .ref (ad 179)), (1, .ref (G.2.2.1 k1)), (2, .int a2), (3, .int a3)] 45 [] := by
  induction n generalizing B a2 a3 with
  | zero => intro R0 hR hok; exact False.elim hok
  | succ n ih =>
    intro R0 hR hok
    have hR : R0 = (nm (f_J0_length_8abf5 k1) (fun (r4 : Int32) => (if r4 ≤ a3 then (nm (f_J0_isEmpty_aae02 k1) (fun (r6 : Int32) => (if r6 = 0 then (1, B) else (0, B)))) else (nm (f_J0_charAt_5068e k1 a3) (fun (r9 : Int32) => (if r9 = 68 then (if r9 = 68 then (nm (f_X4_readNumber B 1) (fun (z19 : Int32 × StB) => (if z19.1 < 0 then (0, z19.2) else (if a2 < 4 then (nm (sba z19.2 181 (ix a2) z19.1) (fun (B23 : StB) => (f_X4_readCommand_L45 n k1 B23 (a2 + 1) (a3 + 1)))) else (0, z19.2))))) else (nm (f_X4_readNumber B 3) (fun (z13 : Int32 × StB) => (if z13.1 < 0 then (0, z13.2) else (if a2 < 4 then (nm (sba z13.2 181 (ix a2) z13.1) (fun (B17 : StB) => (f_X4_readCommand_L45 n k1 B17 (a2 + 1) (a3 + 1)))) else (0, z13.2)))))) else (if r9 = 78 then (if r9 = 68 then (nm (f_X4_readNumber B 1) (fun (z33 : Int32 × StB) => (if z33.1 < 0 then (0, z33.2) else (if a2 < 4 then (nm (sba z33.2 181 (ix a2) z33.1) (fun (B37 : StB) => (f_X4_readCommand_L45 n k1 B37 (a2 + 1) (a3 + 1)))) else (0, z33.2))))) else (nm (f_X4_readNumber B 3) (fun (z27 : Int32 × StB) => (if z27.1 < 0 then (0, z27.2) else (if a2 < 4 then (nm (sba z27.2 181 (ix a2) z27.1) (fun (B31 : StB) => (f_X4_readCommand_L45 n k1 B31 (a2 + 1) (a3 + 1)))) else (0, z27.2)))))) else (nm (f_X4_readSign B r9) (fun (z39 : Int32 × StB) => (if z39.1 = 0 then (0, z39.2) else (f_X4_readCommand_L45 n k1 z39.2 a2 (a3 + 1)))))))))))) := hR
    have hok : (∀ r4 : Int32, r4 = (f_J0_length_8abf5 k1) → ((r4 ≤ a3 → True) ∧ (¬ r4 ≤ a3 → ((ok_J0_charAt_5068e k1 a3) ∧ (∀ r9 : Int32, r9 = (f_J0_charAt_5068e k1 a3) → ((r9 = 68 → ((r9 = 68 → ((ok_X4_readNumber B 1) ∧ (∀ z19 : Int32 × StB, z19 = (f_X4_readNumber B 1) → ((z19.1 < 0 → True) ∧ (¬ z19.1 < 0 → ((a2 < 4 → (vp_in a2 4 ∧ (∀ B23 : StB, B23 = (sba z19.2 181 (ix a2) z19.1) → (ok_X4_readCommand_L45 n k1 B23 (a2 + 1) (a3 + 1))))) ∧ (¬ a2 < 4 → True))))))) ∧ (¬ r9 = 68 → ((ok_X4_readNumber B 3) ∧ (∀ z13 : Int32 × StB, z13 = (f_X4_readNumber B 3) → ((z13.1 < 0 → True) ∧ (¬ z13.1 < 0 → ((a2 < 4 → (vp_in a2 4 ∧ (∀ B17 : StB, B17 = (sba z13.2 181 (ix a2) z13.1) → (ok_X4_readCommand_L45 n k1 B17 (a2 + 1) (a3 + 1))))) ∧ (¬ a2 < 4 → True))))))))) ∧ (¬ r9 = 68 → ((r9 = 78 → ((r9 = 68 → ((ok_X4_readNumber B 1) ∧ (∀ z33 : Int32 × StB, z33 = (f_X4_readNumber B 1) → ((z33.1 < 0 → True) ∧ (¬ z33.1 < 0 → ((a2 < 4 → (vp_in a2 4 ∧ (∀ B37 : StB, B37 = (sba z33.2 181 (ix a2) z33.1) → (ok_X4_readCommand_L45 n k1 B37 (a2 + 1) (a3 + 1))))) ∧ (¬ a2 < 4 → True))))))) ∧ (¬ r9 = 68 → ((ok_X4_readNumber B 3) ∧ (∀ z27 : Int32 × StB, z27 = (f_X4_readNumber B 3) → ((z27.1 < 0 → True) ∧ (¬ z27.1 < 0 → ((a2 < 4 → (vp_in a2 4 ∧ (∀ B31 : StB, B31 = (sba z27.2 181 (ix a2) z27.1) → (ok_X4_readCommand_L45 n k1 B31 (a2 + 1) (a3 + 1))))) ∧ (¬ a2 < 4 → True))))))))) ∧ (¬ r9 = 78 → ((ok_X4_readSign B r9) ∧ (∀ z39 : Int32 × StB, z39 = (f_X4_readSign B r9) → ((z39.1 = 0 → True) ∧ (¬ z39.1 = 0 → (ok_X4_readCommand_L45 n k1 z39.2 a2 (a3 + 1))))))))))))))) := hok
    refine x_iload_n (pc := 45) (i := 3) C 3 dX4_readCommand_45 rfl rfl ?_
    refine x_aload_n (pc := 46) (i := 1) C 1 dX4_readCommand_46 rfl rfl ?_
    refine x_cIVK (pc := 47) (as := []) C (c_J0_length_8abf5 C.2.2.2.2.2.2.2.1 k1 hk1 B M O ) hk1 rfl cv_J0_length_8abf5 cd_J0_length_8abf5 wd_6_149 ⟨Nat.le_of_ble_eq_true rfl, Nat.le_of_ble_eq_true rfl⟩ ⟨Nat.le_of_ble_eq_true rfl, Nat.le_of_ble_eq_true rfl⟩ rfl rfl (Nat.le_of_ble_eq_true rfl) dX4_readCommand_47 ?_
    refine x_nmI (fun r4 er4 => ?_)
    have hR := nmE hR er4
    have hok := hok r4 er4
    refine x_icmp_ge (pc := 50) (tgt := 132) C dX4_readCommand_50 (by decide) (fun c5 => ?_) (fun c5 => ?_)
    · have hR := hR.trans (if_pos c5)
      refine x_aload_n (pc := 132) (i := 1) C 1 dX4_readCommand_132 rfl rfl ?_
      refine x_cIVK (pc := 133) (as := []) C (c_J0_isEmpty_aae02 C.2.2.2.2.2.2.2.1 k1 hk1 B M O ) hk1 rfl cv_J0_isEmpty_aae02 cd_J0_isEmpty_aae02 wd_6_164 ⟨Nat.le_of_ble_eq_true rfl, Nat.le_of_ble_eq_true rfl⟩ ⟨Nat.le_of_ble_eq_true rfl, Nat.le_of_ble_eq_true rfl⟩ rfl rfl (Nat.le_of_ble_eq_true rfl) dX4_readCommand_133 ?_
      refine x_nmI (fun r6 er6 => ?_)
      have hR := nmE hR er6
      refine x_if_ne (pc := 136) (tgt := 143) C dX4_readCommand_136 (by decide) (fun c7 => ?_) (fun c7 => ?_)
      · have hR := hR.trans (if_neg c7)
        refine x_iconst (pc := 143) (v := 0) C dX4_readCommand_143 (by decide) ?_
        exact x_zretB (pc := 144) C rfl (by decide) hR dX4_readCommand_144
      · have hR := hR.trans (if_pos c7)
        refine x_iconst (pc := 139) (v := 1) C dX4_readCommand_139 (by decide) ?_
        refine x_goto (pc := 140) (tgt := 144) C dX4_readCommand_140 (by decide) ?_
        exact x_zretB (pc := 144) C rfl (by decide) hR dX4_readCommand_144
    · have hR := hR.trans (if_neg c5)
      have hok := hok.2 c5
      refine x_aload_n (pc := 53) (i := 1) C 1 dX4_readCommand_53 rfl rfl ?_
      refine x_iload_n (pc := 54) (i := 3) C 3 dX4_readCommand_54 rfl rfl ?_
      have h8 := hok.1
      have hok := hok.2
      refine x_cIVK (pc := 55) (as := [.int a3]) C (c_J0_charAt_5068e C.2.2.2.2.2.2.2.1 k1 hk1 B M O a3 h8) hk1 rfl cv_J0_charAt_5068e cd_J0_charAt_5068e wd_6_150 ⟨Nat.le_of_ble_eq_true rfl, Nat.le_of_ble_eq_true rfl⟩ ⟨Nat.le_of_ble_eq_true rfl, Nat.le_of_ble_eq_true rfl⟩ rfl rfl (Nat.le_of_ble_eq_true rfl) dX4_readCommand_55 ?_
      refine x_nmI (fun r9 er9 => ?_)
      have hR := nmE hR er9
      have hok := hok r9 er9
      refine x_istore (pc := 58) (i := 4) (ls2 := [(4, .int r9), (0, .ref (ad 179)), (1, .ref (G.2.2.1 k1)), (2, .int a2), (3, .int a3)]) C dX4_readCommand_58 (by decide) rfl ?_
      refine x_iload (pc := 60) (i := 4) C 0 dX4_readCommand_60 rfl ?_
      refine x_bipush (pc := 62) (v := 68) C dX4_readCommand_62 (by decide) ?_
      refine x_icmp_eq (pc := 64) (tgt := 85) C dX4_readCommand_64 (by decide) (fun c10 => ?_) (fun c10 => ?_)
      · have hR := hR.trans (if_pos c10)
        have hok := hok.1 c10
        refine x_aload_n (pc := 85) (i := 0) C 1 dX4_readCommand_85 rfl rfl ?_
        refine x_iload (pc := 86) (i := 4) C 0 dX4_readCommand_86 rfl ?_
        refine x_bipush (pc := 88) (v := 68) C dX4_readCommand_88 (by decide) ?_
        refine x_icmp_ne (pc := 90) (tgt := 97) C dX4_readCommand_90 (by decide) (fun c11 => ?_) (fun c11 => ?_)
        · have hR := hR.trans (if_neg c11)
          have hok := hok.2 c11
          refine x_iconst (pc := 97) (v := 3) C dX4_readCommand_97 (by decide) ?_
          have h12 := hok.1
          have hok := hok.2
          refine x_cIV (pc := 98) (as := [.int 3]) (q := 179) C (c_X4_readNumber C.2.2.2.2.2.2.2.1  B M O 3 h12) (fs := _) e_R rfl cv_X4_readNumber cd_X4_readNumber wd_6_155 ⟨Nat.le_of_ble_eq_true rfl, Nat.le_of_ble_eq_true rfl⟩ ⟨Nat.le_of_ble_eq_true rfl, Nat.le_of_ble_eq_true rfl⟩ rfl rfl (Nat.le_of_ble_eq_true rfl) dX4_readCommand_98 ?_
          refine x_nmIB (fun z13 ez13 => ?_)
          have hR := nmE hR ez13
          have hok := hok z13 ez13
          refine x_istore (pc := 101) (i := 5) (ls2 := [(5, .int z13.1), (4, .int r9), (0, .ref (ad 179)), (1, .ref (G.2.2.1 k1)), (2, .int a2), (3, .int a3)]) C dX4_readCommand_101 (by decide) rfl ?_
          refine x_iload (pc := 103) (i := 5) C 0 dX4_readCommand_103 rfl ?_
          refine x_if_lt (pc := 105) (tgt := 113) C dX4_readCommand_105 (by decide) (fun c14 => ?_) (fun c14 => ?_)
          · have hR := hR.trans (if_pos c14)
            refine x_iconst (pc := 113) (v := 0) C dX4_readCommand_113 (by decide) ?_
            exact x_zretB (pc := 114) C rfl (by decide) hR dX4_readCommand_114
          · have hR := hR.trans (if_neg c14)
            have hok := hok.2 c14
            refine x_iload_n (pc := 108) (i := 2) C 4 dX4_readCommand_108 rfl rfl ?_
            refine x_iconst (pc := 109) (v := 4) C dX4_readCommand_109 (by decide) ?_
            refine x_icmp_lt (pc := 110) (tgt := 115) C dX4_readCommand_110 (by decide) (fun c15 => ?_) (fun c15 => ?_)
            · have hR := hR.trans (if_pos c15)
              have hok := hok.1 c15
              refine x_aload_n (pc := 115) (i := 0) C 2 dX4_readCommand_115 rfl rfl ?_
              refine x_get (pc := 116) (q := 179) (i := 4) C e_R rfl ttX4 (by decide) wd_1_224 rfl dX4_readCommand_116 ?_
              refine x_iload_n (pc := 119) (i := 2) C 4 dX4_readCommand_119 rfl rfl ?_
              refine x_iload (pc := 120) (i := 5) C 0 dX4_readCommand_120 rfl ?_
              have h16 := hok.1
              have hok := hok.2
              refine x_iastB (pc := 122) (q := 181) C e_Rv e_Rv.2 h16 dX4_readCommand_122 ?_
              refine x_nmB (fun B17 eB17 => ?_)
              have hR := nmE hR eB17
              have hok := hok B17 eB17
              refine x_iinc (pc := 123) (i := 2) (v := (a2 + 1)) (ls2 := [(2, .int (a2 + 1)), (5, .int z13.1), (4, .int r9), (0, .ref (ad 179)), (1, .ref (G.2.2.1 k1)), (3, .int a3)]) C 4 dX4_readCommand_123 rfl rfl (by decide) rfl ?_
              refine x_iinc (pc := 126) (i := 3) (v := (a3 + 1)) (ls2 := [(3, .int (a3 + 1)), (2, .int (a2 + 1)), (5, .int z13.1), (4, .int r9), (0, .ref (ad 179)), (1, .ref (G.2.2.1 k1))]) C 5 dX4_readCommand_126 rfl rfl (by decide) rfl ?_
              refine x_goto (pc := 129) (tgt := 45) C dX4_readCommand_129 (by decide) ?_
              refine x_sub [4, 5, 1, 0] (ls2 := [(0, .ref (ad 179)), (1, .ref (G.2.2.1 k1)), (2, .int (a2 + 1)), (3, .int (a3 + 1))]) rfl ?_
              exact ih B17 (a2 + 1) (a3 + 1) R0 hR hok
            · have hR := hR.trans (if_neg c15)
              refine x_iconst (pc := 113) (v := 0) C dX4_readCommand_113 (by decide) ?_
              exact x_zretB (pc := 114) C rfl (by decide) hR dX4_readCommand_114
        · have hR := hR.trans (if_pos c11)
          have hok := hok.1 c11
          refine x_iconst (pc := 93) (v := 1) C dX4_readCommand_93 (by decide) ?_
          refine x_goto (pc := 94) (tgt := 98) C dX4_readCommand_94 (by decide) ?_
          have h18 := hok.1
          have hok := hok.2
          refine x_cIV (pc := 98) (as := [.int 1]) (q := 179) C (c_X4_readNumber C.2.2.2.2.2.2.2.1  B M O 1 h18) (fs := _) e_R rfl cv_X4_readNumber cd_X4_readNumber wd_6_155 ⟨Nat.le_of_ble_eq_true rfl, Nat.le_of_ble_eq_true rfl⟩ ⟨Nat.le_of_ble_eq_true rfl, Nat.le_of_ble_eq_true rfl⟩ rfl rfl (Nat.le_of_ble_eq_true rfl) dX4_readCommand_98 ?_
          refine x_nmIB (fun z19 ez19 => ?_)
          have hR := nmE hR ez19
          have hok := hok z19 ez19
          refine x_istore (pc := 101) (i := 5) (ls2 := [(5, .int z19.1), (4, .int r9), (0, .ref (ad 179)), (1, .ref (G.2.2.1 k1)), (2, .int a2), (3, .int a3)]) C dX4_readCommand_101 (by decide) rfl ?_
          refine x_iload (pc := 103) (i := 5) C 0 dX4_readCommand_103 rfl ?_
          refine x_if_lt (pc := 105) (tgt := 113) C dX4_readCommand_105 (by decide) (fun c20 => ?_) (fun c20 => ?_)
          · have hR := hR.trans (if_pos c20)
            refine x_iconst (pc := 113) (v := 0) C dX4_readCommand_113 (by decide) ?_
            exact x_zretB (pc := 114) C rfl (by decide) hR dX4_readCommand_114
          · have hR := hR.trans (if_neg c20)
            have hok := hok.2 c20
            refine x_iload_n (pc := 108) (i := 2) C 4 dX4_readCommand_108 rfl rfl ?_
            refine x_iconst (pc := 109) (v := 4) C dX4_readCommand_109 (by decide) ?_
            refine x_icmp_lt (pc := 110) (tgt := 115) C dX4_readCommand_110 (by decide) (fun c21 => ?_) (fun c21 => ?_)
            · have hR := hR.trans (if_pos c21)
              have hok := hok.1 c21
              refine x_aload_n (pc := 115) (i := 0) C 2 dX4_readCommand_115 rfl rfl ?_
              refine x_get (pc := 116) (q := 179) (i := 4) C e_R rfl ttX4 (by decide) wd_1_224 rfl dX4_readCommand_116 ?_
              refine x_iload_n (pc := 119) (i := 2) C 4 dX4_readCommand_119 rfl rfl ?_
              refine x_iload (pc := 120) (i := 5) C 0 dX4_readCommand_120 rfl ?_
              have h22 := hok.1
              have hok := hok.2
              refine x_iastB (pc := 122) (q := 181) C e_Rv e_Rv.2 h22 dX4_readCommand_122 ?_
              refine x_nmB (fun B23 eB23 => ?_)
              have hR := nmE hR eB23
              have hok := hok B23 eB23
              refine x_iinc (pc := 123) (i := 2) (v := (a2 + 1)) (ls2 := [(2, .int (a2 + 1)), (5, .int z19.1), (4, .int r9), (0, .ref (ad 179)), (1, .ref (G.2.2.1 k1)), (3, .int a3)]) C 4 dX4_readCommand_123 rfl rfl (by decide) rfl ?_
              refine x_iinc (pc := 126) (i := 3) (v := (a3 + 1)) (ls2 := [(3, .int (a3 + 1)), (2, .int (a2 + 1)), (5, .int z19.1), (4, .int r9), (0, .ref (ad 179)), (1, .ref (G.2.2.1 k1))]) C 5 dX4_readCommand_126 rfl rfl (by decide) rfl ?_
              refine x_goto (pc := 129) (tgt := 45) C dX4_readCommand_129 (by decide) ?_
              refine x_sub [4, 5, 1, 0] (ls2 := [(0, .ref (ad 179)), (1, .ref (G.2.2.1 k1)), (2, .int (a2 + 1)), (3, .int (a3 + 1))]) rfl ?_
              exact ih B23 (a2 + 1) (a3 + 1) R0 hR hok
            · have hR := hR.trans (if_neg c21)
              refine x_iconst (pc := 113) (v := 0) C dX4_readCommand_113 (by decide) ?_
              exact x_zretB (pc := 114) C rfl (by decide) hR dX4_readCommand_114
      · have hR := hR.trans (if_neg c10)
        have hok := hok.2 c10
        refine x_iload (pc := 67) (i := 4) C 0 dX4_readCommand_67 rfl ?_
        refine x_bipush (pc := 69) (v := 78) C dX4_readCommand_69 (by decide) ?_
        refine x_icmp_eq (pc := 71) (tgt := 85) C dX4_readCommand_71 (by decide) (fun c24 => ?_) (fun c24 => ?_)
        · have hR := hR.trans (if_pos c24)
          have hok := hok.1 c24
          refine x_aload_n (pc := 85) (i := 0) C 1 dX4_readCommand_85 rfl rfl ?_
          refine x_iload (pc := 86) (i := 4) C 0 dX4_readCommand_86 rfl ?_
          refine x_bipush (pc := 88) (v := 68) C dX4_readCommand_88 (by decide) ?_
          refine x_icmp_ne (pc := 90) (tgt := 97) C dX4_readCommand_90 (by decide) (fun c25 => ?_) (fun c25 => ?_)
          · have hR := hR.trans (if_neg c25)
            have hok := hok.2 c25
            refine x_iconst (pc := 97) (v := 3) C dX4_readCommand_97 (by decide) ?_
            have h26 := hok.1
            have hok := hok.2
            refine x_cIV (pc := 98) (as := [.int 3]) (q := 179) C (c_X4_readNumber C.2.2.2.2.2.2.2.1  B M O 3 h26) (fs := _) e_R rfl cv_X4_readNumber cd_X4_readNumber wd_6_155 ⟨Nat.le_of_ble_eq_true rfl, Nat.le_of_ble_eq_true rfl⟩ ⟨Nat.le_of_ble_eq_true rfl, Nat.le_of_ble_eq_true rfl⟩ rfl rfl (Nat.le_of_ble_eq_true rfl) dX4_readCommand_98 ?_
            refine x_nmIB (fun z27 ez27 => ?_)
            have hR := nmE hR ez27
            have hok := hok z27 ez27
            refine x_istore (pc := 101) (i := 5) (ls2 := [(5, .int z27.1), (4, .int r9), (0, .ref (ad 179)), (1, .ref (G.2.2.1 k1)), (2, .int a2), (3, .int a3)]) C dX4_readCommand_101 (by decide) rfl ?_
            refine x_iload (pc := 103) (i := 5) C 0 dX4_readCommand_103 rfl ?_
            refine x_if_lt (pc := 105) (tgt := 113) C dX4_readCommand_105 (by decide) (fun c28 => ?_) (fun c28 => ?_)
            · have hR := hR.trans (if_pos c28)
              refine x_iconst (pc := 113) (v := 0) C dX4_readCommand_113 (by decide) ?_
              exact x_zretB (pc := 114) C rfl (by decide) hR dX4_readCommand_114
            · have hR := hR.trans (if_neg c28)
              have hok := hok.2 c28
              refine x_iload_n (pc := 108) (i := 2) C 4 dX4_readCommand_108 rfl rfl ?_
              refine x_iconst (pc := 109) (v := 4) C dX4_readCommand_109 (by decide) ?_
              refine x_icmp_lt (pc := 110) (tgt := 115) C dX4_readCommand_110 (by decide) (fun c29 => ?_) (fun c29 => ?_)
              · have hR := hR.trans (if_pos c29)
                have hok := hok.1 c29
                refine x_aload_n (pc := 115) (i := 0) C 2 dX4_readCommand_115 rfl rfl ?_
                refine x_get (pc := 116) (q := 179) (i := 4) C e_R rfl ttX4 (by decide) wd_1_224 rfl dX4_readCommand_116 ?_
                refine x_iload_n (pc := 119) (i := 2) C 4 dX4_readCommand_119 rfl rfl ?_
                refine x_iload (pc := 120) (i := 5) C 0 dX4_readCommand_120 rfl ?_
                have h30 := hok.1
                have hok := hok.2
                refine x_iastB (pc := 122) (q := 181) C e_Rv e_Rv.2 h30 dX4_readCommand_122 ?_
                refine x_nmB (fun B31 eB31 => ?_)
                have hR := nmE hR eB31
                have hok := hok B31 eB31
                refine x_iinc (pc := 123) (i := 2) (v := (a2 + 1)) (ls2 := [(2, .int (a2 + 1)), (5, .int z27.1), (4, .int r9), (0, .ref (ad 179)), (1, .ref (G.2.2.1 k1)), (3, .int a3)]) C 4 dX4_readCommand_123 rfl rfl (by decide) rfl ?_
                refine x_iinc (pc := 126) (i := 3) (v := (a3 + 1)) (ls2 := [(3, .int (a3 + 1)), (2, .int (a2 + 1)), (5, .int z27.1), (4, .int r9), (0, .ref (ad 179)), (1, .ref (G.2.2.1 k1))]) C 5 dX4_readCommand_126 rfl rfl (by decide) rfl ?_
                refine x_goto (pc := 129) (tgt := 45) C dX4_readCommand_129 (by decide) ?_
                refine x_sub [4, 5, 1, 0] (ls2 := [(0, .ref (ad 179)), (1, .ref (G.2.2.1 k1)), (2, .int (a2 + 1)), (3, .int (a3 + 1))]) rfl ?_
                exact ih B31 (a2 + 1) (a3 + 1) R0 hR hok
              · have hR := hR.trans (if_neg c29)
                refine x_iconst (pc := 113) (v := 0) C dX4_readCommand_113 (by decide) ?_
                exact x_zretB (pc := 114) C rfl (by decide) hR dX4_readCommand_114
          · have hR := hR.trans (if_pos c25)
            have hok := hok.1 c25
            refine x_iconst (pc := 93) (v := 1) C dX4_readCommand_93 (by decide) ?_
            refine x_goto (pc := 94) (tgt := 98) C dX4_readCommand_94 (by decide) ?_
            have h32 := hok.1
            have hok := hok.2
            refine x_cIV (pc := 98) (as := [.int 1]) (q := 179) C (c_X4_readNumber C.2.2.2.2.2.2.2.1  B M O 1 h32) (fs := _) e_R rfl cv_X4_readNumber cd_X4_readNumber wd_6_155 ⟨Nat.le_of_ble_eq_true rfl, Nat.le_of_ble_eq_true rfl⟩ ⟨Nat.le_of_ble_eq_true rfl, Nat.le_of_ble_eq_true rfl⟩ rfl rfl (Nat.le_of_ble_eq_true rfl) dX4_readCommand_98 ?_
            refine x_nmIB (fun z33 ez33 => ?_)
            have hR := nmE hR ez33
            have hok := hok z33 ez33
            refine x_istore (pc := 101) (i := 5) (ls2 := [(5, .int z33.1), (4, .int r9), (0, .ref (ad 179)), (1, .ref (G.2.2.1 k1)), (2, .int a2), (3, .int a3)]) C dX4_readCommand_101 (by decide) rfl ?_
            refine x_iload (pc := 103) (i := 5) C 0 dX4_readCommand_103 rfl ?_
            refine x_if_lt (pc := 105) (tgt := 113) C dX4_readCommand_105 (by decide) (fun c34 => ?_) (fun c34 => ?_)
            · have hR := hR.trans (if_pos c34)
              refine x_iconst (pc := 113) (v := 0) C dX4_readCommand_113 (by decide) ?_
              exact x_zretB (pc := 114) C rfl (by decide) hR dX4_readCommand_114
            · have hR := hR.trans (if_neg c34)
              have hok := hok.2 c34
              refine x_iload_n (pc := 108) (i := 2) C 4 dX4_readCommand_108 rfl rfl ?_
              refine x_iconst (pc := 109) (v := 4) C dX4_readCommand_109 (by decide) ?_
              refine x_icmp_lt (pc := 110) (tgt := 115) C dX4_readCommand_110 (by decide) (fun c35 => ?_) (fun c35 => ?_)
              · have hR := hR.trans (if_pos c35)
                have hok := hok.1 c35
                refine x_aload_n (pc := 115) (i := 0) C 2 dX4_readCommand_115 rfl rfl ?_
                refine x_get (pc := 116) (q := 179) (i := 4) C e_R rfl ttX4 (by decide) wd_1_224 rfl dX4_readCommand_116 ?_
                refine x_iload_n (pc := 119) (i := 2) C 4 dX4_readCommand_119 rfl rfl ?_
                refine x_iload (pc := 120) (i := 5) C 0 dX4_readCommand_120 rfl ?_
                have h36 := hok.1
                have hok := hok.2
                refine x_iastB (pc := 122) (q := 181) C e_Rv e_Rv.2 h36 dX4_readCommand_122 ?_
                refine x_nmB (fun B37 eB37 => ?_)
                have hR := nmE hR eB37
                have hok := hok B37 eB37
                refine x_iinc (pc := 123) (i := 2) (v := (a2 + 1)) (ls2 := [(2, .int (a2 + 1)), (5, .int z33.1), (4, .int r9), (0, .ref (ad 179)), (1, .ref (G.2.2.1 k1)), (3, .int a3)]) C 4 dX4_readCommand_123 rfl rfl (by decide) rfl ?_
                refine x_iinc (pc := 126) (i := 3) (v := (a3 + 1)) (ls2 := [(3, .int (a3 + 1)), (2, .int (a2 + 1)), (5, .int z33.1), (4, .int r9), (0, .ref (ad 179)), (1, .ref (G.2.2.1 k1))]) C 5 dX4_readCommand_126 rfl rfl (by decide) rfl ?_
                refine x_goto (pc := 129) (tgt := 45) C dX4_readCommand_129 (by decide) ?_
                refine x_sub [4, 5, 1, 0] (ls2 := [(0, .ref (ad 179)), (1, .ref (G.2.2.1 k1)), (2, .int (a2 + 1)), (3, .int (a3 + 1))]) rfl ?_
                exact ih B37 (a2 + 1) (a3 + 1) R0 hR hok
              · have hR := hR.trans (if_neg c35)
                refine x_iconst (pc := 113) (v := 0) C dX4_readCommand_113 (by decide) ?_
                exact x_zretB (pc := 114) C rfl (by decide) hR dX4_readCommand_114
        · have hR := hR.trans (if_neg c24)
          have hok := hok.2 c24
          refine x_aload_n (pc := 74) (i := 0) C 1 dX4_readCommand_74 rfl rfl ?_
          refine x_iload (pc := 75) (i := 4) C 0 dX4_readCommand_75 rfl ?_
          have h38 := hok.1
          have hok := hok.2
          refine x_cIV (pc := 77) (as := [.int r9]) (q := 179) C (c_X4_readSign C.2.2.2.2.2.2.2.1  B M O r9 h38) (fs := _) e_R rfl cv_X4_readSign cd_X4_readSign wd_6_151 ⟨Nat.le_of_ble_eq_true rfl, Nat.le_of_ble_eq_true rfl⟩ ⟨Nat.le_of_ble_eq_true rfl, Nat.le_of_ble_eq_true rfl⟩ rfl rfl (Nat.le_of_ble_eq_true rfl) dX4_readCommand_77 ?_
          refine x_nmIB (fun z39 ez39 => ?_)
          have hR := nmE hR ez39
          have hok := hok z39 ez39
          refine x_if_ne (pc := 80) (tgt := 126) C dX4_readCommand_80 (by decide) (fun c40 => ?_) (fun c40 => ?_)
          · have hR := hR.trans (if_neg c40)
            have hok := hok.2 c40
            refine x_iinc (pc := 126) (i := 3) (v := (a3 + 1)) (ls2 := [(3, .int (a3 + 1)), (4, .int r9), (0, .ref (ad 179)), (1, .ref (G.2.2.1 k1)), (2, .int a2)]) C 4 dX4_readCommand_126 rfl rfl (by decide) rfl ?_
            refine x_goto (pc := 129) (tgt := 45) C dX4_readCommand_129 (by decide) ?_
            refine x_sub [2, 3, 4, 0] (ls2 := [(0, .ref (ad 179)), (1, .ref (G.2.2.1 k1)), (2, .int a2), (3, .int (a3 + 1))]) rfl ?_
            exact ih z39.2 a2 (a3 + 1) R0 hR hok
          · have hR := hR.trans (if_pos c40)
            refine x_iconst (pc := 83) (v := 0) C dX4_readCommand_83 (by decide) ?_
            exact x_zretB (pc := 84) C rfl (by decide) hR dX4_readCommand_84
set_option maxHeartbeats 4000000 in
set_option maxRecDepth 100000 in
theorem t_X4_readCommand_J30 {p0 : Program} {l : Launch} {e : Env} {s : State} {m : MethodId} {args : Array Value} {below : List Frame} {meth : Method} {c : Code} {A : Nat → Prop} {G : GT} {ad : Nat → Nat} (C : CX p0 l s m args meth c A G ad cX4_readCommand RX4 6 (some .boolean))  (B : StB) (s0 : Int32) (M : StM) (O : StO) (R0 : Int32 × StB) (hR : R0 = f_X4_readCommand_J30 B s0) (hok : ok_X4_readCommand_J30 B s0) : X p0 l e (rmd 5 0 0) s m args below meth c A G ad 6 0 0 (MQ below (QI G A ad R0.1 R0.2 M O) args s 0 0 A) B M O [(0, .ref (ad 179))] 30 [.int s0, .ref (ad 179)] := by
  have hR : R0 = (nm (sbi B 179 3 s0) (fun (B2 : StB) => (nm (f_X4_formOf (bi B2 179 3)) (fun (k3 : Nat) => (f_X4_readCommand_L45 fu k3 B2 0 0))))) := hR
  have hok : (∀ B2 : StB, B2 = (sbi B 179 3 s0) → (∀ k3 : Nat, k3 = (f_X4_formOf (bi B2 179 3)) → (ok_X4_readCommand_L45 fu k3 B2 0 0))) := hok
  refine x_put (pc := 30) (B2 := (sbi B 179 3 s0)) (M2 := M) (O2 := O) (q := 179) (i := 3) C tyX4 tyX4_ok nmX4 e_R rfl ttX4 (by decide) wd_1_222 rfl rfl rfl (Nat.le_of_ble_eq_true rfl) dX4_readCommand_30 (put_R_3 ) (o_sbi 179 3 s0) ?_
  refine x_nmB (fun B2 eB2 => ?_)
  have hR := nmE hR eB2
  have hok := hok B2 eB2
  refine x_aload_n (pc := 33) (i := 0) C 0 dX4_readCommand_33 rfl rfl ?_
  refine x_get (pc := 34) (q := 179) (i := 3) C e_R rfl ttX4 (by decide) wd_1_222 rfl dX4_readCommand_34 ?_
  refine x_cKS (pc := 37) (as := [.int (bi B2 179 3)]) C (c_X4_formOf C.2.2.2.2.2.2.2.1  B2 M O (bi B2 179 3)) wd_6_140 cd_X4_formOf wd_6_139 ⟨Nat.le_of_ble_eq_true rfl, Nat.le_of_ble_eq_true rfl⟩ ⟨Nat.le_of_ble_eq_true rfl, Nat.le_of_ble_eq_true rfl⟩ rfl rfl (Nat.le_of_ble_eq_true rfl) dX4_readCommand_37 ?_
  refine x_nmK (fun k3 ek3 => ?_)
  have hR := nmE hR ek3
  have hok := hok k3 ek3
  have hk3 : k3 < 10 := by rw [ek3]; exact f_X4_formOf_lt (bi B2 179 3)
  refine x_astore_n (pc := 40) (i := 1) (ls2 := [(1, .ref (G.2.2.1 k3)), (0, .ref (ad 179))]) C dX4_readCommand_40 rfl (by decide) rfl ?_
  refine x_iconst (pc := 41) (v := 0) C dX4_readCommand_41 (by decide) ?_
  refine x_istore_n (pc := 42) (i := 2) (ls2 := [(2, .int 0), (1, .ref (G.2.2.1 k3)), (0, .ref (ad 179))]) C dX4_readCommand_42 rfl (by decide) rfl ?_
  refine x_iconst (pc := 43) (v := 0) C dX4_readCommand_43 (by decide) ?_
  refine x_istore_n (pc := 44) (i := 3) (ls2 := [(3, .int 0), (2, .int 0), (1, .ref (G.2.2.1 k3)), (0, .ref (ad 179))]) C dX4_readCommand_44 rfl (by decide) rfl ?_
  refine x_sub [3, 2, 1, 0] (ls2 := [(0, .ref (ad 179)), (1, .ref (G.2.2.1 k3)), (2, .int 0), (3, .int 0)]) rfl ?_
  exact t_X4_readCommand_L45 C hk3 fu B2 0 0 M O _ hR hok
set_option maxHeartbeats 4000000 in
set_option maxRecDepth 100000 in
theorem c_X4_readCommand {l : Launch} {A : Nat → Prop} {G : GT} {ad : Nat → Nat} (gl : Gl l A ad)  (B : StB) (M : StM) (O : StO)  (hok : ok_X4_readCommand B) : Met l yX4_readCommand (wof yX4_readCommand cX4_readCommand 6 (some .boolean)) (rmd 5 0 0) (va_Pc [.ref (ad 179)] (PW G A ad B M O)) (QI G A ad (f_X4_readCommand B).1 (f_X4_readCommand B).2 M O) 0 0 A := by
  refine x_body (own := RX4) (by decide +kernel) rfl gl (Nat.le_of_ble_eq_true rfl) (ls := [(0, .ref (ad 179))]) rfl ?_
  intro p0 e s m args below meth c C
  have hR : (f_X4_readCommand B) = (if (bi B 179 1) ≤ (bi B 179 2) then (f_X4_readCommand_J30 B (-1)) else (nm (f_J0_indexOf_0f7a4 1 (ba B 180 (ix (bi B 179 2)))) (fun (r43 : Int32) => (f_X4_readCommand_J30 B r43)))) := rfl
  have hok : (((bi B 179 1) ≤ (bi B 179 2) → (ok_X4_readCommand_J30 B (-1))) ∧ (¬ (bi B 179 1) ≤ (bi B 179 2) → (vp_in (bi B 179 2) 60 ∧ ((ok_J0_indexOf_0f7a4 1 (ba B 180 (ix (bi B 179 2)))) ∧ (∀ r43 : Int32, r43 = (f_J0_indexOf_0f7a4 1 (ba B 180 (ix (bi B 179 2)))) → (ok_X4_readCommand_J30 B r43)))))) := hok
  refine x_aload_n (pc := 0) (i := 0) C 0 dX4_readCommand_0 rfl rfl ?_
  refine x_aload_n (pc := 1) (i := 0) C 0 dX4_readCommand_1 rfl rfl ?_
  refine x_get (pc := 2) (q := 179) (i := 2) C e_R rfl ttX4 (by decide) wd_1_220 rfl dX4_readCommand_2 ?_
  refine x_aload_n (pc := 5) (i := 0) C 0 dX4_readCommand_5 rfl rfl ?_
  refine x_get (pc := 6) (q := 179) (i := 1) C e_R rfl ttX4 (by decide) wd_1_218 rfl dX4_readCommand_6 ?_
  refine x_icmp_ge (pc := 9) (tgt := 29) C dX4_readCommand_9 (by decide) (fun c1 => ?_) (fun c1 => ?_)
  · have hR := hR.trans (if_pos c1)
    have hok := hok.1 c1
    refine x_iconst (pc := 29) (v := (-1)) C dX4_readCommand_29 (by decide) ?_
    refine x_sub [0] (ls2 := [(0, .ref (ad 179))]) rfl ?_
    exact t_X4_readCommand_J30 C B (-1) M O _ hR hok
  · have hR := hR.trans (if_neg c1)
    have hok := hok.2 c1
    refine x_ldcK (pc := 12) (i := 1) C (by decide) rfl rfl dX4_readCommand_12 ?_
    refine x_aload_n (pc := 14) (i := 0) C 0 dX4_readCommand_14 rfl rfl ?_
    refine x_get (pc := 15) (q := 179) (i := 0) C e_R rfl ttX4 (by decide) wd_1_217 rfl dX4_readCommand_15 ?_
    refine x_aload_n (pc := 18) (i := 0) C 0 dX4_readCommand_18 rfl rfl ?_
    refine x_get (pc := 19) (q := 179) (i := 2) C e_R rfl ttX4 (by decide) wd_1_220 rfl dX4_readCommand_19 ?_
    have h41 := hok.1
    have hok := hok.2
    refine x_cald (pc := 22) (q := 180) C e_Rt h41 dX4_readCommand_22 ?_
    have h42 := hok.1
    have hok := hok.2
    refine x_cIVK (pc := 23) (as := [.int (ba B 180 (ix (bi B 179 2)))]) C (c_J0_indexOf_0f7a4 C.2.2.2.2.2.2.2.1 1 (by decide) B M O (ba B 180 (ix (bi B 179 2))) h42) (by decide) rfl cv_J0_indexOf_0f7a4 cd_J0_indexOf_0f7a4 wd_6_93 ⟨Nat.le_of_ble_eq_true rfl, Nat.le_of_ble_eq_true rfl⟩ ⟨Nat.le_of_ble_eq_true rfl, Nat.le_of_ble_eq_true rfl⟩ rfl rfl (Nat.le_of_ble_eq_true rfl) dX4_readCommand_23 ?_
    refine x_nmI (fun r43 er43 => ?_)
    have hR := nmE hR er43
    have hok := hok r43 er43
    refine x_goto (pc := 26) (tgt := 30) C dX4_readCommand_26 (by decide) ?_
    refine x_sub [0] (ls2 := [(0, .ref (ad 179))]) rfl ?_
    exact t_X4_readCommand_J30 C B r43 M O _ hR hok
set_option maxHeartbeats 4000000 in
set_option maxRecDepth 100000 in
theorem t_X4_countCommands_L7 {p0 : Program} {l : Launch} {e : Env} {s : State} {m : MethodId} {args : Array Value} {below : List Frame} {meth : Method} {c : Code} {A : Nat → Prop} {G : GT} {ad : Nat → Nat} (C : CX p0 l s m args meth c A G ad cX4_countCommands RX4 2 (some .int))    (n : Nat) (B : StB) (a1 : Int32) (M : StM) (O : StO) : ∀ (R0 : Int32 × StB) (hR : R0 = f_X4_countCommands_L7 n B a1) (hok : ok_X4_countCommands_L7 n B a1), X p0 l e (rmd 6 0 0) s m args below meth c A G ad 2 0 0 (MQ below (QI G A ad R0.1 R0.2 M O) args s 0 0 A) B M O [(0, .ref (ad 179)), (1, .int a1)] 7 [] := by
  induction n generalizing B a1 with
  | zero => intro R0 hR hok; exact False.elim hok
  | succ n ih =>
    intro R0 hR hok
    have hR : R0 = (if 60 < a1 then ((-1), B) else (nm (f_X4_readCommand B) (fun (z4 : Int32 × StB) => (if z4.1 = 0 then ((-1), z4.2) else (if (bi z4.2 179 2) < (bi z4.2 179 1) then (nm (f_X4_readSign z4.2 59) (fun (z8 : Int32 × StB) => (if z8.1 = 0 then ((-1), z8.2) else (f_X4_countCommands_L7 n z8.2 (a1 + 1))))) else ((a1 + 1), z4.2)))))) := hR
    have hok : ((60 < a1 → True) ∧ (¬ 60 < a1 → ((ok_X4_readCommand B) ∧ (∀ z4 : Int32 × StB, z4 = (f_X4_readCommand B) → ((z4.1 = 0 → True) ∧ (¬ z4.1 = 0 → (((bi z4.2 179 2) < (bi z4.2 179 1) → ((ok_X4_readSign z4.2 59) ∧ (∀ z8 : Int32 × StB, z8 = (f_X4_readSign z4.2 59) → ((z8.1 = 0 → True) ∧ (¬ z8.1 = 0 → (ok_X4_countCommands_L7 n z8.2 (a1 + 1))))))) ∧ (¬ (bi z4.2 179 2) < (bi z4.2 179 1) → True)))))))) := hok
    refine x_iload_n (pc := 7) (i := 1) C 1 dX4_countCommands_7 rfl rfl ?_
    refine x_bipush (pc := 8) (v := 60) C dX4_countCommands_8 (by decide) ?_
    refine x_icmp_gt (pc := 10) (tgt := 49) C dX4_countCommands_10 (by decide) (fun c2 => ?_) (fun c2 => ?_)
    · have hR := hR.trans (if_pos c2)
      refine x_iconst (pc := 49) (v := (-1)) C dX4_countCommands_49 (by decide) ?_
      exact x_iretB (pc := 50) C rfl hR dX4_countCommands_50
    · have hR := hR.trans (if_neg c2)
      have hok := hok.2 c2
      refine x_aload_n (pc := 13) (i := 0) C 0 dX4_countCommands_13 rfl rfl ?_
      have h3 := hok.1
      have hok := hok.2
      refine x_cIV (pc := 14) (as := []) (q := 179) C (c_X4_readCommand C.2.2.2.2.2.2.2.1  B M O  h3) (fs := _) e_R rfl cv_X4_readCommand cd_X4_readCommand wd_6_88 ⟨Nat.le_of_ble_eq_true rfl, Nat.le_of_ble_eq_true rfl⟩ ⟨Nat.le_of_ble_eq_true rfl, Nat.le_of_ble_eq_true rfl⟩ rfl rfl (Nat.le_of_ble_eq_true rfl) dX4_countCommands_14 ?_
      refine x_nmIB (fun z4 ez4 => ?_)
      have hR := nmE hR ez4
      have hok := hok z4 ez4
      refine x_if_ne (pc := 17) (tgt := 22) C dX4_countCommands_17 (by decide) (fun c5 => ?_) (fun c5 => ?_)
      · have hR := hR.trans (if_neg c5)
        have hok := hok.2 c5
        refine x_iinc (pc := 22) (i := 1) (v := (a1 + 1)) (ls2 := [(1, .int (a1 + 1)), (0, .ref (ad 179))]) C 1 dX4_countCommands_22 rfl rfl (by decide) rfl ?_
        refine x_aload_n (pc := 25) (i := 0) C 1 dX4_countCommands_25 rfl rfl ?_
        refine x_get (pc := 26) (q := 179) (i := 2) C e_R rfl ttX4 (by decide) wd_1_220 rfl dX4_countCommands_26 ?_
        refine x_aload_n (pc := 29) (i := 0) C 1 dX4_countCommands_29 rfl rfl ?_
        refine x_get (pc := 30) (q := 179) (i := 1) C e_R rfl ttX4 (by decide) wd_1_218 rfl dX4_countCommands_30 ?_
        refine x_icmp_lt (pc := 33) (tgt := 38) C dX4_countCommands_33 (by decide) (fun c6 => ?_) (fun c6 => ?_)
        · have hR := hR.trans (if_pos c6)
          have hok := hok.1 c6
          refine x_aload_n (pc := 38) (i := 0) C 1 dX4_countCommands_38 rfl rfl ?_
          refine x_bipush (pc := 39) (v := 59) C dX4_countCommands_39 (by decide) ?_
          have h7 := hok.1
          have hok := hok.2
          refine x_cIV (pc := 41) (as := [.int 59]) (q := 179) C (c_X4_readSign C.2.2.2.2.2.2.2.1  z4.2 M O 59 h7) (fs := _) e_R rfl cv_X4_readSign cd_X4_readSign wd_6_151 ⟨Nat.le_of_ble_eq_true rfl, Nat.le_of_ble_eq_true rfl⟩ ⟨Nat.le_of_ble_eq_true rfl, Nat.le_of_ble_eq_true rfl⟩ rfl rfl (Nat.le_of_ble_eq_true rfl) dX4_countCommands_41 ?_
          refine x_nmIB (fun z8 ez8 => ?_)
          have hR := nmE hR ez8
          have hok := hok z8 ez8
          refine x_if_ne (pc := 44) (tgt := 7) C dX4_countCommands_44 (by decide) (fun c9 => ?_) (fun c9 => ?_)
          · have hR := hR.trans (if_neg c9)
            have hok := hok.2 c9
            refine x_sub [1, 0] (ls2 := [(0, .ref (ad 179)), (1, .int (a1 + 1))]) rfl ?_
            exact ih z8.2 (a1 + 1) R0 hR hok
          · have hR := hR.trans (if_pos c9)
            refine x_iconst (pc := 47) (v := (-1)) C dX4_countCommands_47 (by decide) ?_
            exact x_iretB (pc := 48) C rfl hR dX4_countCommands_48
        · have hR := hR.trans (if_neg c6)
          refine x_iload_n (pc := 36) (i := 1) C 0 dX4_countCommands_36 rfl rfl ?_
          exact x_iretB (pc := 37) C rfl hR dX4_countCommands_37
      · have hR := hR.trans (if_pos c5)
        refine x_iconst (pc := 20) (v := (-1)) C dX4_countCommands_20 (by decide) ?_
        exact x_iretB (pc := 21) C rfl hR dX4_countCommands_21
set_option maxHeartbeats 4000000 in
set_option maxRecDepth 100000 in
theorem c_X4_countCommands {l : Launch} {A : Nat → Prop} {G : GT} {ad : Nat → Nat} (gl : Gl l A ad)  (B : StB) (M : StM) (O : StO)  (hok : ok_X4_countCommands B) : Met l yX4_countCommands (wof yX4_countCommands cX4_countCommands 2 (some .int)) (rmd 6 0 0) (va_Pc [.ref (ad 179)] (PW G A ad B M O)) (QI G A ad (f_X4_countCommands B).1 (f_X4_countCommands B).2 M O) 0 0 A := by
  refine x_body (own := RX4) (by decide +kernel) rfl gl (Nat.le_of_ble_eq_true rfl) (ls := [(0, .ref (ad 179))]) rfl ?_
  intro p0 e s m args below meth c C
  have hR : (f_X4_countCommands B) = (nm (sbi B 179 2 0) (fun (B1 : StB) => (f_X4_countCommands_L7 fu B1 0))) := rfl
  have hok : (∀ B1 : StB, B1 = (sbi B 179 2 0) → (ok_X4_countCommands_L7 fu B1 0)) := hok
  refine x_aload_n (pc := 0) (i := 0) C 0 dX4_countCommands_0 rfl rfl ?_
  refine x_iconst (pc := 1) (v := 0) C dX4_countCommands_1 (by decide) ?_
  refine x_put (pc := 2) (B2 := (sbi B 179 2 0)) (M2 := M) (O2 := O) (q := 179) (i := 2) C tyX4 tyX4_ok nmX4 e_R rfl ttX4 (by decide) wd_1_220 rfl rfl rfl (Nat.le_of_ble_eq_true rfl) dX4_countCommands_2 (put_R_2 ) (o_sbi 179 2 0) ?_
  refine x_nmB (fun B1 eB1 => ?_)
  have hR := nmE hR eB1
  have hok := hok B1 eB1
  refine x_iconst (pc := 5) (v := 0) C dX4_countCommands_5 (by decide) ?_
  refine x_istore_n (pc := 6) (i := 1) (ls2 := [(1, .int 0), (0, .ref (ad 179))]) C dX4_countCommands_6 rfl (by decide) rfl ?_
  refine x_sub [1, 0] (ls2 := [(0, .ref (ad 179)), (1, .int 0)]) rfl ?_
  exact t_X4_countCommands_L7 C fu B1 0 M O _ hR hok
set_option maxHeartbeats 4000000 in
set_option maxRecDepth 100000 in
theorem t_X7_readsCommand_J103 {p0 : Program} {l : Launch} {e : Env} {s : State} {m : MethodId} {args : Array Value} {below : List Frame} {meth : Method} {c : Code} {A : Nat → Prop} {G : GT} {ad : Nat → Nat} (C : CX p0 l s m args meth c A G ad cX7_readsCommand RX7 3 none)  (M : StM) (a1 : Int32) (a2 : Int32) (B : StB) (O : StO) (R0 : StM) (hR : R0 = f_X7_readsCommand_J103 M a1 a2) (hok : ok_X7_readsCommand_J103 M a1 a2) : X p0 l e (rmd 6 0 0) s m args below meth c A G ad 3 0 0 (MQ below (QV G A ad B R0 O) args s 0 0 A) B M O [(0, .ref (ad 193)), (1, .int a1), (2, .int a2)] 103 [] := by
  have hR : R0 = (if 3 ≤ a2 then M else (nm (f_X7_numberBehindBlank M) (fun (z16 : Int32 × StM) => (nm (sma z16.2 7 (ix (a1 + 2)) z16.1) (fun (M18 : StM) => M18))))) := hR
  have hok : ((3 ≤ a2 → True) ∧ (¬ 3 ≤ a2 → ((ok_X7_numberBehindBlank M) ∧ (∀ z16 : Int32 × StM, z16 = (f_X7_numberBehindBlank M) → (vp_in (a1 + 2) 150))))) := hok
  refine x_iload_n (pc := 103) (i := 2) C 2 dX7_readsCommand_103 rfl rfl ?_
  refine x_iconst (pc := 104) (v := 3) C dX7_readsCommand_104 (by decide) ?_
  refine x_icmp_ge (pc := 105) (tgt := 120) C dX7_readsCommand_105 (by decide) (fun c14 => ?_) (fun c14 => ?_)
  · have hR := hR.trans (if_pos c14)
    exact x_vretM (pc := 120) C rfl hR dX7_readsCommand_120
  · have hR := hR.trans (if_neg c14)
    have hok := hok.2 c14
    refine x_aload_n (pc := 108) (i := 0) C 0 dX7_readsCommand_108 rfl rfl ?_
    refine x_get (pc := 109) (q := 193) (i := 20) C e_M rfl ttX7 (by decide) wd_7_7 rfl dX7_readsCommand_109 ?_
    refine x_iload_n (pc := 112) (i := 1) C 1 dX7_readsCommand_112 rfl rfl ?_
    refine x_iconst (pc := 113) (v := 2) C dX7_readsCommand_113 (by decide) ?_
    refine x_iadd (pc := 114) C dX7_readsCommand_114 ?_
    refine x_aload_n (pc := 115) (i := 0) C 0 dX7_readsCommand_115 rfl rfl ?_
    have h15 := hok.1
    have hok := hok.2
    refine x_cIV (pc := 116) (as := []) (q := 193) C (c_X7_numberBehindBlank C.2.2.2.2.2.2.2.1  B M O  h15) (fs := _) e_M rfl cv_X7_numberBehindBlank cd_X7_numberBehindBlank wd_8_180 ⟨Nat.le_of_ble_eq_true rfl, Nat.le_of_ble_eq_true rfl⟩ ⟨Nat.le_of_ble_eq_true rfl, Nat.le_of_ble_eq_true rfl⟩ rfl rfl (Nat.le_of_ble_eq_true rfl) dX7_readsCommand_116 ?_
    refine x_nmIM (fun z16 ez16 => ?_)
    have hR := nmE hR ez16
    have hok := hok z16 ez16
    have h17 := hok
    refine x_iastM (pc := 119) (j := 7) (q := 201) C rfl (by decide) e_M7 e_M7.2 h17 dX7_readsCommand_119 ?_
    refine x_nmM (fun M18 eM18 => ?_)
    have hR := nmE hR eM18
    exact x_vretM (pc := 120) C rfl hR dX7_readsCommand_120
set_option maxHeartbeats 4000000 in
set_option maxRecDepth 100000 in
theorem t_X7_readsCommand_J61 {p0 : Program} {l : Launch} {e : Env} {s : State} {m : MethodId} {args : Array Value} {below : List Frame} {meth : Method} {c : Code} {A : Nat → Prop} {G : GT} {ad : Nat → Nat} (C : CX p0 l s m args meth c A G ad cX7_readsCommand RX7 3 none)  (M : StM) (a1 : Int32) (a2 : Int32) (s0 : Int32) (s1 : Int32) (B : StB) (O : StO) (R0 : StM) (hR : R0 = f_X7_readsCommand_J61 M a1 a2 s0 s1) (hok : ok_X7_readsCommand_J61 M a1 a2 s0 s1) : X p0 l e (rmd 6 0 0) s m args below meth c A G ad 3 0 0 (MQ below (QV G A ad B R0 O) args s 0 0 A) B M O [(0, .ref (ad 193)), (1, .int a1), (2, .int a2)] 61 [.int s0, .int s1, .ref (ad 201)] := by
  have hR : R0 = (nm (sma M 7 (ix s1) s0) (fun (M12 : StM) => (if a2 = 3 then (nm (f_X7_digit M12) (fun (z20 : Int32 × StM) => (nm (sma z20.2 7 (ix (a1 + 2)) z20.1) (fun (M22 : StM) => (nm (f_X7_numberBehindBlank M22) (fun (z24 : Int32 × StM) => (nm (sma z24.2 7 (ix (a1 + 3)) z24.1) (fun (M26 : StM) => (nm (f_X7_numberBehindBlank M26) (fun (z28 : Int32 × StM) => (nm (sma z28.2 7 (ix (a1 + 4)) z28.1) (fun (M30 : StM) => (f_X7_readsCommand_J103 M30 a1 a2))))))))))))) else (f_X7_readsCommand_J103 M12 a1 a2)))) := hR
  have hok : (vp_in s1 150 ∧ (∀ M12 : StM, M12 = (sma M 7 (ix s1) s0) → ((a2 = 3 → ((ok_X7_digit M12) ∧ (∀ z20 : Int32 × StM, z20 = (f_X7_digit M12) → (vp_in (a1 + 2) 150 ∧ (∀ M22 : StM, M22 = (sma z20.2 7 (ix (a1 + 2)) z20.1) → ((ok_X7_numberBehindBlank M22) ∧ (∀ z24 : Int32 × StM, z24 = (f_X7_numberBehindBlank M22) → (vp_in (a1 + 3) 150 ∧ (∀ M26 : StM, M26 = (sma z24.2 7 (ix (a1 + 3)) z24.1) → ((ok_X7_numberBehindBlank M26) ∧ (∀ z28 : Int32 × StM, z28 = (f_X7_numberBehindBlank M26) → (vp_in (a1 + 4) 150 ∧ (∀ M30 : StM, M30 = (sma z28.2 7 (ix (a1 + 4)) z28.1) → (ok_X7_readsCommand_J103 M30 a1 a2)))))))))))))) ∧ (¬ a2 = 3 → (ok_X7_readsCommand_J103 M12 a1 a2))))) := hok
  have h11 := hok.1
  have hok := hok.2
  refine x_iastM (pc := 61) (j := 7) (q := 201) C rfl (by decide) e_M7 e_M7.2 h11 dX7_readsCommand_61 ?_
  refine x_nmM (fun M12 eM12 => ?_)
  have hR := nmE hR eM12
  have hok := hok M12 eM12
  refine x_iload_n (pc := 62) (i := 2) C 2 dX7_readsCommand_62 rfl rfl ?_
  refine x_iconst (pc := 63) (v := 3) C dX7_readsCommand_63 (by decide) ?_
  refine x_icmp_ne (pc := 64) (tgt := 103) C dX7_readsCommand_64 (by decide) (fun c13 => ?_) (fun c13 => ?_)
  · have hR := hR.trans (if_neg c13)
    have hok := hok.2 c13
    refine x_sub [0, 1, 2] (ls2 := [(0, .ref (ad 193)), (1, .int a1), (2, .int a2)]) rfl ?_
    exact t_X7_readsCommand_J103 C M12 a1 a2 B O _ hR hok
  · have hR := hR.trans (if_pos c13)
    have hok := hok.1 c13
    refine x_aload_n (pc := 67) (i := 0) C 0 dX7_readsCommand_67 rfl rfl ?_
    refine x_get (pc := 68) (q := 193) (i := 20) C e_M rfl ttX7 (by decide) wd_7_7 rfl dX7_readsCommand_68 ?_
    refine x_iload_n (pc := 71) (i := 1) C 1 dX7_readsCommand_71 rfl rfl ?_
    refine x_iconst (pc := 72) (v := 2) C dX7_readsCommand_72 (by decide) ?_
    refine x_iadd (pc := 73) C dX7_readsCommand_73 ?_
    refine x_aload_n (pc := 74) (i := 0) C 0 dX7_readsCommand_74 rfl rfl ?_
    have h19 := hok.1
    have hok := hok.2
    refine x_cIV (pc := 75) (as := []) (q := 193) C (c_X7_digit C.2.2.2.2.2.2.2.1  B M12 O  h19) (fs := _) e_M rfl cv_X7_digit cd_X7_digit wd_8_164 ⟨Nat.le_of_ble_eq_true rfl, Nat.le_of_ble_eq_true rfl⟩ ⟨Nat.le_of_ble_eq_true rfl, Nat.le_of_ble_eq_true rfl⟩ rfl rfl (Nat.le_of_ble_eq_true rfl) dX7_readsCommand_75 ?_
    refine x_nmIM (fun z20 ez20 => ?_)
    have hR := nmE hR ez20
    have hok := hok z20 ez20
    have h21 := hok.1
    have hok := hok.2
    refine x_iastM (pc := 78) (j := 7) (q := 201) C rfl (by decide) e_M7 e_M7.2 h21 dX7_readsCommand_78 ?_
    refine x_nmM (fun M22 eM22 => ?_)
    have hR := nmE hR eM22
    have hok := hok M22 eM22
    refine x_aload_n (pc := 79) (i := 0) C 0 dX7_readsCommand_79 rfl rfl ?_
    refine x_get (pc := 80) (q := 193) (i := 20) C e_M rfl ttX7 (by decide) wd_7_7 rfl dX7_readsCommand_80 ?_
    refine x_iload_n (pc := 83) (i := 1) C 1 dX7_readsCommand_83 rfl rfl ?_
    refine x_iconst (pc := 84) (v := 3) C dX7_readsCommand_84 (by decide) ?_
    refine x_iadd (pc := 85) C dX7_readsCommand_85 ?_
    refine x_aload_n (pc := 86) (i := 0) C 0 dX7_readsCommand_86 rfl rfl ?_
    have h23 := hok.1
    have hok := hok.2
    refine x_cIV (pc := 87) (as := []) (q := 193) C (c_X7_numberBehindBlank C.2.2.2.2.2.2.2.1  B M22 O  h23) (fs := _) e_M rfl cv_X7_numberBehindBlank cd_X7_numberBehindBlank wd_8_180 ⟨Nat.le_of_ble_eq_true rfl, Nat.le_of_ble_eq_true rfl⟩ ⟨Nat.le_of_ble_eq_true rfl, Nat.le_of_ble_eq_true rfl⟩ rfl rfl (Nat.le_of_ble_eq_true rfl) dX7_readsCommand_87 ?_
    refine x_nmIM (fun z24 ez24 => ?_)
    have hR := nmE hR ez24
    have hok := hok z24 ez24
    have h25 := hok.1
    have hok := hok.2
    refine x_iastM (pc := 90) (j := 7) (q := 201) C rfl (by decide) e_M7 e_M7.2 h25 dX7_readsCommand_90 ?_
    refine x_nmM (fun M26 eM26 => ?_)
    have hR := nmE hR eM26
    have hok := hok M26 eM26
    refine x_aload_n (pc := 91) (i := 0) C 0 dX7_readsCommand_91 rfl rfl ?_
    refine x_get (pc := 92) (q := 193) (i := 20) C e_M rfl ttX7 (by decide) wd_7_7 rfl dX7_readsCommand_92 ?_
    refine x_iload_n (pc := 95) (i := 1) C 1 dX7_readsCommand_95 rfl rfl ?_
    refine x_iconst (pc := 96) (v := 4) C dX7_readsCommand_96 (by decide) ?_
    refine x_iadd (pc := 97) C dX7_readsCommand_97 ?_
    refine x_aload_n (pc := 98) (i := 0) C 0 dX7_readsCommand_98 rfl rfl ?_
    have h27 := hok.1
    have hok := hok.2
    refine x_cIV (pc := 99) (as := []) (q := 193) C (c_X7_numberBehindBlank C.2.2.2.2.2.2.2.1  B M26 O  h27) (fs := _) e_M rfl cv_X7_numberBehindBlank cd_X7_numberBehindBlank wd_8_180 ⟨Nat.le_of_ble_eq_true rfl, Nat.le_of_ble_eq_true rfl⟩ ⟨Nat.le_of_ble_eq_true rfl, Nat.le_of_ble_eq_true rfl⟩ rfl rfl (Nat.le_of_ble_eq_true rfl) dX7_readsCommand_99 ?_
    refine x_nmIM (fun z28 ez28 => ?_)
    have hR := nmE hR ez28
    have hok := hok z28 ez28
    have h29 := hok.1
    have hok := hok.2
    refine x_iastM (pc := 102) (j := 7) (q := 201) C rfl (by decide) e_M7 e_M7.2 h29 dX7_readsCommand_102 ?_
    refine x_nmM (fun M30 eM30 => ?_)
    have hR := nmE hR eM30
    have hok := hok M30 eM30
    refine x_sub [0, 1, 2] (ls2 := [(0, .ref (ad 193)), (1, .int a1), (2, .int a2)]) rfl ?_
    exact t_X7_readsCommand_J103 C M30 a1 a2 B O _ hR hok
set_option maxHeartbeats 4000000 in
set_option maxRecDepth 100000 in
theorem c_X7_readsCommand {l : Launch} {A : Nat → Prop} {G : GT} {ad : Nat → Nat} (gl : Gl l A ad)  (B : StB) (M : StM) (O : StO)  (hok : ok_X7_readsCommand M) : Met l yX7_readsCommand (wof yX7_readsCommand cX7_readsCommand 3 none) (rmd 6 0 0) (va_Pc [.ref (ad 193)] (PW G A ad B M O)) (QV G A ad B (f_X7_readsCommand M) O) 0 0 A := by
  refine x_body (own := RX7) (by decide +kernel) rfl gl (Nat.le_of_ble_eq_true rfl) (ls := [(0, .ref (ad 193))]) rfl ?_
  intro p0 e s m args below meth c C
  have hR : (f_X7_readsCommand M) = (nm (5 * (mi M 19)) (fun (v1 : Int32) => (nm (f_X7_kindHere M) (fun (z3 : Int32 × StM) => (nm (sma z3.2 7 (ix v1) z3.1) (fun (M5 : StM) => (nm (smi M5 19 ((mi M5 19) + 1)) (fun (M6 : StM) => (if (mi M6 18) = (-1) then (if 4 ≤ z3.1 then (nm (f_X7_number M6) (fun (z10 : Int32 × StM) => (f_X7_readsCommand_J61 z10.2 v1 z3.1 z10.1 (v1 + 1)))) else (nm (f_X7_digit M6) (fun (z32 : Int32 × StM) => (f_X7_readsCommand_J61 z32.2 v1 z3.1 z32.1 (v1 + 1))))) else M6))))))))) := rfl
  have hok : (∀ v1 : Int32, v1 = (5 * (mi M 19)) → ((ok_X7_kindHere M) ∧ (∀ z3 : Int32 × StM, z3 = (f_X7_kindHere M) → (vp_in v1 150 ∧ (∀ M5 : StM, M5 = (sma z3.2 7 (ix v1) z3.1) → (∀ M6 : StM, M6 = (smi M5 19 ((mi M5 19) + 1)) → (((mi M6 18) = (-1) → ((4 ≤ z3.1 → ((ok_X7_number M6) ∧ (∀ z10 : Int32 × StM, z10 = (f_X7_number M6) → (ok_X7_readsCommand_J61 z10.2 v1 z3.1 z10.1 (v1 + 1))))) ∧ (¬ 4 ≤ z3.1 → ((ok_X7_digit M6) ∧ (∀ z32 : Int32 × StM, z32 = (f_X7_digit M6) → (ok_X7_readsCommand_J61 z32.2 v1 z3.1 z32.1 (v1 + 1))))))) ∧ (¬ (mi M6 18) = (-1) → True)))))))) := hok
  refine x_iconst (pc := 0) (v := 5) C dX7_readsCommand_0 (by decide) ?_
  refine x_aload_n (pc := 1) (i := 0) C 0 dX7_readsCommand_1 rfl rfl ?_
  refine x_get (pc := 2) (q := 193) (i := 19) C e_M rfl ttX7 (by decide) wd_7_6 rfl dX7_readsCommand_2 ?_
  refine x_imul (pc := 5) C dX7_readsCommand_5 ?_
  refine x_nmI (fun v1 ev1 => ?_)
  have hR := nmE hR ev1
  have hok := hok v1 ev1
  refine x_istore_n (pc := 6) (i := 1) (ls2 := [(1, .int v1), (0, .ref (ad 193))]) C dX7_readsCommand_6 rfl (by decide) rfl ?_
  refine x_aload_n (pc := 7) (i := 0) C 1 dX7_readsCommand_7 rfl rfl ?_
  have h2 := hok.1
  have hok := hok.2
  refine x_cIV (pc := 8) (as := []) (q := 193) C (c_X7_kindHere C.2.2.2.2.2.2.2.1  B M O  h2) (fs := _) e_M rfl cv_X7_kindHere cd_X7_kindHere wd_8_155 ⟨Nat.le_of_ble_eq_true rfl, Nat.le_of_ble_eq_true rfl⟩ ⟨Nat.le_of_ble_eq_true rfl, Nat.le_of_ble_eq_true rfl⟩ rfl rfl (Nat.le_of_ble_eq_true rfl) dX7_readsCommand_8 ?_
  refine x_nmIM (fun z3 ez3 => ?_)
  have hR := nmE hR ez3
  have hok := hok z3 ez3
  refine x_istore_n (pc := 11) (i := 2) (ls2 := [(2, .int z3.1), (1, .int v1), (0, .ref (ad 193))]) C dX7_readsCommand_11 rfl (by decide) rfl ?_
  refine x_aload_n (pc := 12) (i := 0) C 2 dX7_readsCommand_12 rfl rfl ?_
  refine x_get (pc := 13) (q := 193) (i := 20) C e_M rfl ttX7 (by decide) wd_7_7 rfl dX7_readsCommand_13 ?_
  refine x_iload_n (pc := 16) (i := 1) C 1 dX7_readsCommand_16 rfl rfl ?_
  refine x_iload_n (pc := 17) (i := 2) C 0 dX7_readsCommand_17 rfl rfl ?_
  have h4 := hok.1
  have hok := hok.2
  refine x_iastM (pc := 18) (j := 7) (q := 201) C rfl (by decide) e_M7 e_M7.2 h4 dX7_readsCommand_18 ?_
  refine x_nmM (fun M5 eM5 => ?_)
  have hR := nmE hR eM5
  have hok := hok M5 eM5
  refine x_aload_n (pc := 19) (i := 0) C 2 dX7_readsCommand_19 rfl rfl ?_
  refine x_dup (pc := 20) C dX7_readsCommand_20 rfl ?_
  refine x_get (pc := 21) (q := 193) (i := 19) C e_M rfl ttX7 (by decide) wd_7_6 rfl dX7_readsCommand_21 ?_
  refine x_iconst (pc := 24) (v := 1) C dX7_readsCommand_24 (by decide) ?_
  refine x_iadd (pc := 25) C dX7_readsCommand_25 ?_
  refine x_put (pc := 26) (M2 := (smi M5 19 ((mi M5 19) + 1))) (B2 := B) (O2 := O) (q := 193) (i := 19) C tyX7 tyX7_ok nmX7 e_M rfl ttX7 (by decide) wd_7_6 rfl rfl rfl (Nat.le_of_ble_eq_true rfl) dX7_readsCommand_26 (put_M_19 ) (o_smi 19 ((mi M5 19) + 1)) ?_
  refine x_nmM (fun M6 eM6 => ?_)
  have hR := nmE hR eM6
  have hok := hok M6 eM6
  refine x_aload_n (pc := 29) (i := 0) C 2 dX7_readsCommand_29 rfl rfl ?_
  refine x_get (pc := 30) (q := 193) (i := 18) C e_M rfl ttX7 (by decide) wd_7_5 rfl dX7_readsCommand_30 ?_
  refine x_iconst (pc := 33) (v := (-1)) C dX7_readsCommand_33 (by decide) ?_
  refine x_icmp_eq (pc := 34) (tgt := 38) C dX7_readsCommand_34 (by decide) (fun c7 => ?_) (fun c7 => ?_)
  · have hR := hR.trans (if_pos c7)
    have hok := hok.1 c7
    refine x_aload_n (pc := 38) (i := 0) C 2 dX7_readsCommand_38 rfl rfl ?_
    refine x_get (pc := 39) (q := 193) (i := 20) C e_M rfl ttX7 (by decide) wd_7_7 rfl dX7_readsCommand_39 ?_
    refine x_iload_n (pc := 42) (i := 1) C 1 dX7_readsCommand_42 rfl rfl ?_
    refine x_iconst (pc := 43) (v := 1) C dX7_readsCommand_43 (by decide) ?_
    refine x_iadd (pc := 44) C dX7_readsCommand_44 ?_
    refine x_iload_n (pc := 45) (i := 2) C 0 dX7_readsCommand_45 rfl rfl ?_
    refine x_iconst (pc := 46) (v := 4) C dX7_readsCommand_46 (by decide) ?_
    refine x_icmp_ge (pc := 47) (tgt := 57) C dX7_readsCommand_47 (by decide) (fun c8 => ?_) (fun c8 => ?_)
    · have hR := hR.trans (if_pos c8)
      have hok := hok.1 c8
      refine x_aload_n (pc := 57) (i := 0) C 2 dX7_readsCommand_57 rfl rfl ?_
      have h9 := hok.1
      have hok := hok.2
      refine x_cIV (pc := 58) (as := []) (q := 193) C (c_X7_number C.2.2.2.2.2.2.2.1  B M6 O  h9) (fs := _) e_M rfl cv_X7_number cd_X7_number wd_8_176 ⟨Nat.le_of_ble_eq_true rfl, Nat.le_of_ble_eq_true rfl⟩ ⟨Nat.le_of_ble_eq_true rfl, Nat.le_of_ble_eq_true rfl⟩ rfl rfl (Nat.le_of_ble_eq_true rfl) dX7_readsCommand_58 ?_
      refine x_nmIM (fun z10 ez10 => ?_)
      have hR := nmE hR ez10
      have hok := hok z10 ez10
      refine x_sub [2, 1, 0] (ls2 := [(0, .ref (ad 193)), (1, .int v1), (2, .int z3.1)]) rfl ?_
      exact t_X7_readsCommand_J61 C z10.2 v1 z3.1 z10.1 (v1 + 1) B O _ hR hok
    · have hR := hR.trans (if_neg c8)
      have hok := hok.2 c8
      refine x_aload_n (pc := 50) (i := 0) C 2 dX7_readsCommand_50 rfl rfl ?_
      have h31 := hok.1
      have hok := hok.2
      refine x_cIV (pc := 51) (as := []) (q := 193) C (c_X7_digit C.2.2.2.2.2.2.2.1  B M6 O  h31) (fs := _) e_M rfl cv_X7_digit cd_X7_digit wd_8_164 ⟨Nat.le_of_ble_eq_true rfl, Nat.le_of_ble_eq_true rfl⟩ ⟨Nat.le_of_ble_eq_true rfl, Nat.le_of_ble_eq_true rfl⟩ rfl rfl (Nat.le_of_ble_eq_true rfl) dX7_readsCommand_51 ?_
      refine x_nmIM (fun z32 ez32 => ?_)
      have hR := nmE hR ez32
      have hok := hok z32 ez32
      refine x_goto (pc := 54) (tgt := 61) C dX7_readsCommand_54 (by decide) ?_
      refine x_sub [2, 1, 0] (ls2 := [(0, .ref (ad 193)), (1, .int v1), (2, .int z3.1)]) rfl ?_
      exact t_X7_readsCommand_J61 C z32.2 v1 z3.1 z32.1 (v1 + 1) B O _ hR hok
  · have hR := hR.trans (if_neg c7)
    exact x_vretM (pc := 37) C rfl hR dX7_readsCommand_37
set_option maxHeartbeats 4000000 in
set_option maxRecDepth 100000 in
theorem t_X7_readsAll_L32 {p0 : Program} {l : Launch} {e : Env} {s : State} {m : MethodId} {args : Array Value} {below : List Frame} {meth : Method} {c : Code} {A : Nat → Prop} {G : GT} {ad : Nat → Nat} {Q : State → Prop} (C : CX p0 l s m args meth c A G ad cX7_readsAll RX7 2 none)    (n : Nat) (M : StM)  (B : StB) (O : StO) : ∀ (R0 : StM) (hR : R0 = f_X7_readsAll_L32 n M) (hok : ok_X7_readsAll_L32 n M) (k : X p0 l e (rmd 7 0 0) s m args below meth c A G ad 2 0 0 Q B R0 O [] 75 []), X p0 l e (rmd 7 0 0) s m args below meth c A G ad 2 0 0 Q B M O [(0, .ref (ad 193))] 32 [] := by
  induction n generalizing M with
  | zero => intro R0 hR hok k; exact False.elim hok
  | succ n ih =>
    intro R0 hR hok k
    have hR : R0 = (if (mi M 18) = (-1) then (if (mi M 16) ≤ (mi M 17) then M else (nm (f_X7_reads M 59 59) (fun (z11 : Int32 × StM) => (if (mi z11.2 18) = (-1) then (nm (f_X7_readsCommand z11.2) (fun (M14 : StM) => (f_X7_readsAll_L32 n M14))) else (f_X7_readsAll_L32 n z11.2))))) else M) := hR
    have hok : (((mi M 18) = (-1) → (((mi M 16) ≤ (mi M 17) → True) ∧ (¬ (mi M 16) ≤ (mi M 17) → ((ok_X7_reads M 59 59) ∧ (∀ z11 : Int32 × StM, z11 = (f_X7_reads M 59 59) → (((mi z11.2 18) = (-1) → ((ok_X7_readsCommand z11.2) ∧ (∀ M14 : StM, M14 = (f_X7_readsCommand z11.2) → (ok_X7_readsAll_L32 n M14)))) ∧ (¬ (mi z11.2 18) = (-1) → (ok_X7_readsAll_L32 n z11.2)))))))) ∧ (¬ (mi M 18) = (-1) → True)) := hok
    refine x_aload_n (pc := 32) (i := 0) C 0 dX7_readsAll_32 rfl rfl ?_
    refine x_get (pc := 33) (q := 193) (i := 18) C e_M rfl ttX7 (by decide) wd_7_5 rfl dX7_readsAll_33 ?_
    refine x_iconst (pc := 36) (v := (-1)) C dX7_readsAll_36 (by decide) ?_
    refine x_icmp_ne (pc := 37) (tgt := 75) C dX7_readsAll_37 (by decide) (fun c8 => ?_) (fun c8 => ?_)
    · have hR := hR.trans (if_neg c8)
      refine x_sub [] (ls2 := []) rfl ?_
      subst hR
      exact k
    · have hR := hR.trans (if_pos c8)
      have hok := hok.1 c8
      refine x_aload_n (pc := 40) (i := 0) C 0 dX7_readsAll_40 rfl rfl ?_
      refine x_get (pc := 41) (q := 193) (i := 17) C e_M rfl ttX7 (by decide) wd_7_4 rfl dX7_readsAll_41 ?_
      refine x_aload_n (pc := 44) (i := 0) C 0 dX7_readsAll_44 rfl rfl ?_
      refine x_get (pc := 45) (q := 193) (i := 16) C e_M rfl ttX7 (by decide) wd_7_3 rfl dX7_readsAll_45 ?_
      refine x_icmp_ge (pc := 48) (tgt := 75) C dX7_readsAll_48 (by decide) (fun c9 => ?_) (fun c9 => ?_)
      · have hR := hR.trans (if_pos c9)
        refine x_sub [] (ls2 := []) rfl ?_
        subst hR
        exact k
      · have hR := hR.trans (if_neg c9)
        have hok := hok.2 c9
        refine x_aload_n (pc := 51) (i := 0) C 0 dX7_readsAll_51 rfl rfl ?_
        refine x_bipush (pc := 52) (v := 59) C dX7_readsAll_52 (by decide) ?_
        refine x_bipush (pc := 54) (v := 59) C dX7_readsAll_54 (by decide) ?_
        have h10 := hok.1
        have hok := hok.2
        refine x_cIV (pc := 56) (as := [.int 59, .int 59]) (q := 193) C (c_X7_reads C.2.2.2.2.2.2.2.1  B M O 59 59 h10) (fs := _) e_M rfl cv_X7_reads cd_X7_reads wd_8_168 ⟨Nat.le_of_ble_eq_true rfl, Nat.le_of_ble_eq_true rfl⟩ ⟨Nat.le_of_ble_eq_true rfl, Nat.le_of_ble_eq_true rfl⟩ rfl rfl (Nat.le_of_ble_eq_true rfl) dX7_readsAll_56 ?_
        refine x_nmIM (fun z11 ez11 => ?_)
        have hR := nmE hR ez11
        have hok := hok z11 ez11
        refine x_istore_n (pc := 59) (i := 1) (ls2 := [(1, .int z11.1), (0, .ref (ad 193))]) C dX7_readsAll_59 rfl (by decide) rfl ?_
        refine x_aload_n (pc := 60) (i := 0) C 1 dX7_readsAll_60 rfl rfl ?_
        refine x_get (pc := 61) (q := 193) (i := 18) C e_M rfl ttX7 (by decide) wd_7_5 rfl dX7_readsAll_61 ?_
        refine x_iconst (pc := 64) (v := (-1)) C dX7_readsAll_64 (by decide) ?_
        refine x_icmp_ne (pc := 65) (tgt := 72) C dX7_readsAll_65 (by decide) (fun c12 => ?_) (fun c12 => ?_)
        · have hR := hR.trans (if_neg c12)
          have hok := hok.2 c12
          refine x_goto (pc := 72) (tgt := 32) C dX7_readsAll_72 (by decide) ?_
          refine x_sub [1] (ls2 := [(0, .ref (ad 193))]) rfl ?_
          exact ih z11.2 R0 hR hok k
        · have hR := hR.trans (if_pos c12)
          have hok := hok.1 c12
          refine x_aload_n (pc := 68) (i := 0) C 1 dX7_readsAll_68 rfl rfl ?_
          have h13 := hok.1
          have hok := hok.2
          refine x_cVV (pc := 69) (as := []) (q := 193) C (c_X7_readsCommand C.2.2.2.2.2.2.2.1  B z11.2 O  h13) (fs := _) e_M rfl cv_X7_readsCommand cd_X7_readsCommand wd_8_151 ⟨Nat.le_of_ble_eq_true rfl, Nat.le_of_ble_eq_true rfl⟩ ⟨Nat.le_of_ble_eq_true rfl, Nat.le_of_ble_eq_true rfl⟩ rfl rfl (Nat.le_of_ble_eq_true rfl) dX7_readsAll_69 ?_
          refine x_nmM (fun M14 eM14 => ?_)
          have hR := nmE hR eM14
          have hok := hok M14 eM14
          refine x_goto (pc := 72) (tgt := 32) C dX7_readsAll_72 (by decide) ?_
          refine x_sub [1] (ls2 := [(0, .ref (ad 193))]) rfl ?_
          exact ih M14 R0 hR hok k
set_option maxHeartbeats 4000000 in
set_option maxRecDepth 100000 in
theorem c_X7_readsAll {l : Launch} {A : Nat → Prop} {G : GT} {ad : Nat → Nat} (gl : Gl l A ad)  (B : StB) (M : StM) (O : StO)  (hok : ok_X7_readsAll M) : Met l yX7_readsAll (wof yX7_readsAll cX7_readsAll 2 none) (rmd 7 0 0) (va_Pc [.ref (ad 193)] (PW G A ad B M O)) (QV G A ad B (f_X7_readsAll M) O) 0 0 A := by
  refine x_body (own := RX7) (by decide +kernel) rfl gl (Nat.le_of_ble_eq_true rfl) (ls := [(0, .ref (ad 193))]) rfl ?_
  intro p0 e s m args below meth c C
  have hR : (f_X7_readsAll M) = (nm (smi M 16 (mi M 12)) (fun (M1 : StM) => (nm (smi M1 12 0) (fun (M2 : StM) => (nm (smi M2 17 0) (fun (M3 : StM) => (nm (smi M3 18 (-1)) (fun (M4 : StM) => (nm (smi M4 19 0) (fun (M5 : StM) => (nm (f_X7_readsCommand M5) (fun (M7 : StM) => (nm (f_X7_readsAll_L32 fu M7) (fun (z15 : StM) => z15)))))))))))))) := rfl
  have hok : (∀ M1 : StM, M1 = (smi M 16 (mi M 12)) → (∀ M2 : StM, M2 = (smi M1 12 0) → (∀ M3 : StM, M3 = (smi M2 17 0) → (∀ M4 : StM, M4 = (smi M3 18 (-1)) → (∀ M5 : StM, M5 = (smi M4 19 0) → ((ok_X7_readsCommand M5) ∧ (∀ M7 : StM, M7 = (f_X7_readsCommand M5) → (ok_X7_readsAll_L32 fu M7)))))))) := hok
  refine x_aload_n (pc := 0) (i := 0) C 0 dX7_readsAll_0 rfl rfl ?_
  refine x_aload_n (pc := 1) (i := 0) C 0 dX7_readsAll_1 rfl rfl ?_
  refine x_get (pc := 2) (q := 193) (i := 12) C e_M rfl ttX7 (by decide) wd_6_239 rfl dX7_readsAll_2 ?_
  refine x_put (pc := 5) (M2 := (smi M 16 (mi M 12))) (B2 := B) (O2 := O) (q := 193) (i := 16) C tyX7 tyX7_ok nmX7 e_M rfl ttX7 (by decide) wd_7_3 rfl rfl rfl (Nat.le_of_ble_eq_true rfl) dX7_readsAll_5 (put_M_16 ) (o_smi 16 (mi M 12)) ?_
  refine x_nmM (fun M1 eM1 => ?_)
  have hR := nmE hR eM1
  have hok := hok M1 eM1
  refine x_aload_n (pc := 8) (i := 0) C 0 dX7_readsAll_8 rfl rfl ?_
  refine x_iconst (pc := 9) (v := 0) C dX7_readsAll_9 (by decide) ?_
  refine x_put (pc := 10) (M2 := (smi M1 12 0)) (B2 := B) (O2 := O) (q := 193) (i := 12) C tyX7 tyX7_ok nmX7 e_M rfl ttX7 (by decide) wd_6_239 rfl rfl rfl (Nat.le_of_ble_eq_true rfl) dX7_readsAll_10 (put_M_12 ) (o_smi 12 0) ?_
  refine x_nmM (fun M2 eM2 => ?_)
  have hR := nmE hR eM2
  have hok := hok M2 eM2
  refine x_aload_n (pc := 13) (i := 0) C 0 dX7_readsAll_13 rfl rfl ?_
  refine x_iconst (pc := 14) (v := 0) C dX7_readsAll_14 (by decide) ?_
  refine x_put (pc := 15) (M2 := (smi M2 17 0)) (B2 := B) (O2 := O) (q := 193) (i := 17) C tyX7 tyX7_ok nmX7 e_M rfl ttX7 (by decide) wd_7_4 rfl rfl rfl (Nat.le_of_ble_eq_true rfl) dX7_readsAll_15 (put_M_17 ) (o_smi 17 0) ?_
  refine x_nmM (fun M3 eM3 => ?_)
  have hR := nmE hR eM3
  have hok := hok M3 eM3
  refine x_aload_n (pc := 18) (i := 0) C 0 dX7_readsAll_18 rfl rfl ?_
  refine x_iconst (pc := 19) (v := (-1)) C dX7_readsAll_19 (by decide) ?_
  refine x_put (pc := 20) (M2 := (smi M3 18 (-1))) (B2 := B) (O2 := O) (q := 193) (i := 18) C tyX7 tyX7_ok nmX7 e_M rfl ttX7 (by decide) wd_7_5 rfl rfl rfl (Nat.le_of_ble_eq_true rfl) dX7_readsAll_20 (put_M_18 ) (o_smi 18 (-1)) ?_
  refine x_nmM (fun M4 eM4 => ?_)
  have hR := nmE hR eM4
  have hok := hok M4 eM4
  refine x_aload_n (pc := 23) (i := 0) C 0 dX7_readsAll_23 rfl rfl ?_
  refine x_iconst (pc := 24) (v := 0) C dX7_readsAll_24 (by decide) ?_
  refine x_put (pc := 25) (M2 := (smi M4 19 0)) (B2 := B) (O2 := O) (q := 193) (i := 19) C tyX7 tyX7_ok nmX7 e_M rfl ttX7 (by decide) wd_7_6 rfl rfl rfl (Nat.le_of_ble_eq_true rfl) dX7_readsAll_25 (put_M_19 ) (o_smi 19 0) ?_
  refine x_nmM (fun M5 eM5 => ?_)
  have hR := nmE hR eM5
  have hok := hok M5 eM5
  refine x_aload_n (pc := 28) (i := 0) C 0 dX7_readsAll_28 rfl rfl ?_
  have h6 := hok.1
  have hok := hok.2
  refine x_cVV (pc := 29) (as := []) (q := 193) C (c_X7_readsCommand C.2.2.2.2.2.2.2.1  B M5 O  h6) (fs := _) e_M rfl cv_X7_readsCommand cd_X7_readsCommand wd_8_151 ⟨Nat.le_of_ble_eq_true rfl, Nat.le_of_ble_eq_true rfl⟩ ⟨Nat.le_of_ble_eq_true rfl, Nat.le_of_ble_eq_true rfl⟩ rfl rfl (Nat.le_of_ble_eq_true rfl) dX7_readsAll_29 ?_
  refine x_nmM (fun M7 eM7 => ?_)
  have hR := nmE hR eM7
  have hok := hok M7 eM7
  refine x_sub [0] (ls2 := [(0, .ref (ad 193))]) rfl ?_
  obtain ⟨z15, ez15⟩ : ∃ z : StM, z = f_X7_readsAll_L32 fu M7 := ⟨_, rfl⟩
  refine t_X7_readsAll_L32 C fu M7 B O z15 ez15 hok ?_
  have hR := nmE hR ez15
  exact x_vretM (pc := 75) C rfl hR dX7_readsAll_75
set_option maxHeartbeats 4000000 in
set_option maxRecDepth 100000 in
theorem t_X7_execute_L38 {p0 : Program} {l : Launch} {e : Env} {s : State} {m : MethodId} {args : Array Value} {below : List Frame} {meth : Method} {c : Code} {A : Nat → Prop} {G : GT} {ad : Nat → Nat} (C : CX p0 l s m args meth c A G ad cX7_execute RX7 3 (some .int))    (n : Nat) (M : StM) (a1 : Int32) (B : StB) (O : StO) : ∀ (R0 : Int32 × StM) (hR : R0 = f_X7_execute_L38 n M a1) (hok : ok_X7_execute_L38 n M a1), X p0 l e (rmd 10 0 0) s m args below meth c A G ad 3 0 0 (MQ below (QI G A ad R0.1 B R0.2 O) args s 0 0 A) B M O [(0, .ref (ad 193)), (1, .int a1)] 38 [] := by
  induction n generalizing M a1 with
  | zero => intro R0 hR hok; exact False.elim hok
  | succ n ih =>
    intro R0 hR hok
    have hR : R0 = (if (mi M 19) ≤ a1 then (nm (f_X7_ends M (mi M 19)) (fun (z9 : Int32 × StM) => (z9.1, z9.2))) else (nm (f_X7_does M (5 * a1)) (fun (z11 : Int32 × StM) => (if (mi z11.2 15) = 0 then (f_X7_execute_L38 n z11.2 (a1 + 1)) else (nm (smi z11.2 8 a1) (fun (M13 : StM) => (nm (smi M13 15 2) (fun (M14 : StM) => (nm (f_X7_copies_M1_M0 M14 0 0) (fun (M16 : StM) => (0, M16))))))))))) := hR
    have hok : (((mi M 19) ≤ a1 → ((ok_X7_ends M (mi M 19)))) ∧ (¬ (mi M 19) ≤ a1 → ((ok_X7_does M (5 * a1)) ∧ (∀ z11 : Int32 × StM, z11 = (f_X7_does M (5 * a1)) → (((mi z11.2 15) = 0 → (ok_X7_execute_L38 n z11.2 (a1 + 1))) ∧ (¬ (mi z11.2 15) = 0 → (∀ M13 : StM, M13 = (smi z11.2 8 a1) → (∀ M14 : StM, M14 = (smi M13 15 2) → ((ok_X7_copies_M1_M0 M14 0 0)))))))))) := hok
    refine x_iload_n (pc := 38) (i := 1) C 1 dX7_execute_38 rfl rfl ?_
    refine x_aload_n (pc := 39) (i := 0) C 0 dX7_execute_39 rfl rfl ?_
    refine x_get (pc := 40) (q := 193) (i := 19) C e_M rfl ttX7 (by decide) wd_7_6 rfl dX7_execute_40 ?_
    refine x_icmp_ge (pc := 43) (tgt := 92) C dX7_execute_43 (by decide) (fun c7 => ?_) (fun c7 => ?_)
    · have hR := hR.trans (if_pos c7)
      have hok := hok.1 c7
      refine x_aload_n (pc := 92) (i := 0) C 0 dX7_execute_92 rfl rfl ?_
      refine x_aload_n (pc := 93) (i := 0) C 0 dX7_execute_93 rfl rfl ?_
      refine x_get (pc := 94) (q := 193) (i := 19) C e_M rfl ttX7 (by decide) wd_7_6 rfl dX7_execute_94 ?_
      have h8 := hok
      refine x_cIV (pc := 97) (as := [.int (mi M 19)]) (q := 193) C (c_X7_ends C.2.2.2.2.2.2.2.1  B M O (mi M 19) h8) (fs := _) e_M rfl cv_X7_ends cd_X7_ends wd_7_96 ⟨Nat.le_of_ble_eq_true rfl, Nat.le_of_ble_eq_true rfl⟩ ⟨Nat.le_of_ble_eq_true rfl, Nat.le_of_ble_eq_true rfl⟩ rfl rfl (Nat.le_of_ble_eq_true rfl) dX7_execute_97 ?_
      refine x_nmIM (fun z9 ez9 => ?_)
      have hR := nmE hR ez9
      exact x_iretM (pc := 100) C rfl hR dX7_execute_100
    · have hR := hR.trans (if_neg c7)
      have hok := hok.2 c7
      refine x_aload_n (pc := 46) (i := 0) C 0 dX7_execute_46 rfl rfl ?_
      refine x_iconst (pc := 47) (v := 5) C dX7_execute_47 (by decide) ?_
      refine x_iload_n (pc := 48) (i := 1) C 1 dX7_execute_48 rfl rfl ?_
      refine x_imul (pc := 49) C dX7_execute_49 ?_
      have h10 := hok.1
      have hok := hok.2
      refine x_cIV (pc := 50) (as := [.int (5 * a1)]) (q := 193) C (c_X7_does C.2.2.2.2.2.2.2.1  B M O (5 * a1) h10) (fs := _) e_M rfl cv_X7_does cd_X7_does wd_8_184 ⟨Nat.le_of_ble_eq_true rfl, Nat.le_of_ble_eq_true rfl⟩ ⟨Nat.le_of_ble_eq_true rfl, Nat.le_of_ble_eq_true rfl⟩ rfl rfl (Nat.le_of_ble_eq_true rfl) dX7_execute_50 ?_
      refine x_nmIM (fun z11 ez11 => ?_)
      have hR := nmE hR ez11
      have hok := hok z11 ez11
      refine x_istore_n (pc := 53) (i := 2) (ls2 := [(2, .int z11.1), (0, .ref (ad 193)), (1, .int a1)]) C dX7_execute_53 rfl (by decide) rfl ?_
      refine x_aload_n (pc := 54) (i := 0) C 1 dX7_execute_54 rfl rfl ?_
      refine x_get (pc := 55) (q := 193) (i := 15) C e_M rfl ttX7 (by decide) wd_7_2 rfl dX7_execute_55 ?_
      refine x_if_eq (pc := 58) (tgt := 86) C dX7_execute_58 (by decide) (fun c12 => ?_) (fun c12 => ?_)
      · have hR := hR.trans (if_pos c12)
        have hok := hok.1 c12
        refine x_iinc (pc := 86) (i := 1) (v := (a1 + 1)) (ls2 := [(1, .int (a1 + 1)), (2, .int z11.1), (0, .ref (ad 193))]) C 2 dX7_execute_86 rfl rfl (by decide) rfl ?_
        refine x_goto (pc := 89) (tgt := 38) C dX7_execute_89 (by decide) ?_
        refine x_sub [2, 0] (ls2 := [(0, .ref (ad 193)), (1, .int (a1 + 1))]) rfl ?_
        exact ih z11.2 (a1 + 1) R0 hR hok
      · have hR := hR.trans (if_neg c12)
        have hok := hok.2 c12
        refine x_aload_n (pc := 61) (i := 0) C 1 dX7_execute_61 rfl rfl ?_
        refine x_iload_n (pc := 62) (i := 1) C 2 dX7_execute_62 rfl rfl ?_
        refine x_put (pc := 63) (M2 := (smi z11.2 8 a1)) (B2 := B) (O2 := O) (q := 193) (i := 8) C tyX7 tyX7_ok nmX7 e_M rfl ttX7 (by decide) wd_6_235 rfl rfl rfl (Nat.le_of_ble_eq_true rfl) dX7_execute_63 (put_M_8 ) (o_smi 8 a1) ?_
        refine x_nmM (fun M13 eM13 => ?_)
        have hR := nmE hR eM13
        have hok := hok M13 eM13
        refine x_aload_n (pc := 66) (i := 0) C 1 dX7_execute_66 rfl rfl ?_
        refine x_iconst (pc := 67) (v := 2) C dX7_execute_67 (by decide) ?_
        refine x_put (pc := 68) (M2 := (smi M13 15 2)) (B2 := B) (O2 := O) (q := 193) (i := 15) C tyX7 tyX7_ok nmX7 e_M rfl ttX7 (by decide) wd_7_2 rfl rfl rfl (Nat.le_of_ble_eq_true rfl) dX7_execute_68 (put_M_15 ) (o_smi 15 2) ?_
        refine x_nmM (fun M14 eM14 => ?_)
        have hR := nmE hR eM14
        have hok := hok M14 eM14
        refine x_aload_n (pc := 71) (i := 0) C 1 dX7_execute_71 rfl rfl ?_
        refine x_get (pc := 72) (q := 193) (i := 1) C e_M rfl ttX7 (by decide) wd_6_228 rfl dX7_execute_72 ?_
        refine x_iconst (pc := 75) (v := 0) C dX7_execute_75 (by decide) ?_
        refine x_aload_n (pc := 76) (i := 0) C 1 dX7_execute_76 rfl rfl ?_
        refine x_get (pc := 77) (q := 193) (i := 0) C e_M rfl ttX7 (by decide) wd_6_227 rfl dX7_execute_77 ?_
        refine x_iconst (pc := 80) (v := 0) C dX7_execute_80 (by decide) ?_
        have h15 := hok
        refine x_cVS (pc := 81) (as := [.ref (ad 195), .int 0, .ref (ad 194), .int 0]) C (c_X7_copies_M1_M0 C.2.2.2.2.2.2.2.1  B M14 O 0 0 h15) wd_7_68 cd_X7_copies wd_7_67 ⟨Nat.le_of_ble_eq_true rfl, Nat.le_of_ble_eq_true rfl⟩ ⟨Nat.le_of_ble_eq_true rfl, Nat.le_of_ble_eq_true rfl⟩ rfl rfl (Nat.le_of_ble_eq_true rfl) dX7_execute_81 ?_
        refine x_nmM (fun M16 eM16 => ?_)
        have hR := nmE hR eM16
        refine x_iconst (pc := 84) (v := 0) C dX7_execute_84 (by decide) ?_
        exact x_iretM (pc := 85) C rfl hR dX7_execute_85
set_option maxHeartbeats 4000000 in
set_option maxRecDepth 100000 in
theorem c_X7_execute {l : Launch} {A : Nat → Prop} {G : GT} {ad : Nat → Nat} (gl : Gl l A ad)  (B : StB) (M : StM) (O : StO)  (hok : ok_X7_execute M) : Met l yX7_execute (wof yX7_execute cX7_execute 3 (some .int)) (rmd 10 0 0) (va_Pc [.ref (ad 193)] (PW G A ad B M O)) (QI G A ad (f_X7_execute M).1 B (f_X7_execute M).2 O) 0 0 A := by
  refine x_body (own := RX7) (by decide +kernel) rfl gl (Nat.le_of_ble_eq_true rfl) (ls := [(0, .ref (ad 193))]) rfl ?_
  intro p0 e s m args below meth c C
  have hR : (f_X7_execute M) = (nm (f_X7_readsAll M) (fun (M2 : StM) => (if (mi M2 18) = (-1) then (nm (f_X7_begins M2) (fun (M5 : StM) => (nm (smi M5 15 0) (fun (M6 : StM) => (f_X7_execute_L38 fu M6 0))))) else (nm (smi M2 7 (mi M2 18)) (fun (M17 : StM) => (nm (smi M17 15 1) (fun (M18 : StM) => (0, M18)))))))) := rfl
  have hok : ((ok_X7_readsAll M) ∧ (∀ M2 : StM, M2 = (f_X7_readsAll M) → (((mi M2 18) = (-1) → ((ok_X7_begins M2) ∧ (∀ M5 : StM, M5 = (f_X7_begins M2) → (∀ M6 : StM, M6 = (smi M5 15 0) → (ok_X7_execute_L38 fu M6 0))))) ∧ (¬ (mi M2 18) = (-1) → True)))) := hok
  refine x_aload_n (pc := 0) (i := 0) C 0 dX7_execute_0 rfl rfl ?_
  have h1 := hok.1
  have hok := hok.2
  refine x_cVV (pc := 1) (as := []) (q := 193) C (c_X7_readsAll C.2.2.2.2.2.2.2.1  B M O  h1) (fs := _) e_M rfl cv_X7_readsAll cd_X7_readsAll wd_8_147 ⟨Nat.le_of_ble_eq_true rfl, Nat.le_of_ble_eq_true rfl⟩ ⟨Nat.le_of_ble_eq_true rfl, Nat.le_of_ble_eq_true rfl⟩ rfl rfl (Nat.le_of_ble_eq_true rfl) dX7_execute_1 ?_
  refine x_nmM (fun M2 eM2 => ?_)
  have hR := nmE hR eM2
  have hok := hok M2 eM2
  refine x_aload_n (pc := 4) (i := 0) C 0 dX7_execute_4 rfl rfl ?_
  refine x_get (pc := 5) (q := 193) (i := 18) C e_M rfl ttX7 (by decide) wd_7_5 rfl dX7_execute_5 ?_
  refine x_iconst (pc := 8) (v := (-1)) C dX7_execute_8 (by decide) ?_
  refine x_icmp_eq (pc := 9) (tgt := 27) C dX7_execute_9 (by decide) (fun c3 => ?_) (fun c3 => ?_)
  · have hR := hR.trans (if_pos c3)
    have hok := hok.1 c3
    refine x_aload_n (pc := 27) (i := 0) C 0 dX7_execute_27 rfl rfl ?_
    have h4 := hok.1
    have hok := hok.2
    refine x_cVV (pc := 28) (as := []) (q := 193) C (c_X7_begins C.2.2.2.2.2.2.2.1  B M2 O  h4) (fs := _) e_M rfl cv_X7_begins cd_X7_begins wd_7_82 ⟨Nat.le_of_ble_eq_true rfl, Nat.le_of_ble_eq_true rfl⟩ ⟨Nat.le_of_ble_eq_true rfl, Nat.le_of_ble_eq_true rfl⟩ rfl rfl (Nat.le_of_ble_eq_true rfl) dX7_execute_28 ?_
    refine x_nmM (fun M5 eM5 => ?_)
    have hR := nmE hR eM5
    have hok := hok M5 eM5
    refine x_aload_n (pc := 31) (i := 0) C 0 dX7_execute_31 rfl rfl ?_
    refine x_iconst (pc := 32) (v := 0) C dX7_execute_32 (by decide) ?_
    refine x_put (pc := 33) (M2 := (smi M5 15 0)) (B2 := B) (O2 := O) (q := 193) (i := 15) C tyX7 tyX7_ok nmX7 e_M rfl ttX7 (by decide) wd_7_2 rfl rfl rfl (Nat.le_of_ble_eq_true rfl) dX7_execute_33 (put_M_15 ) (o_smi 15 0) ?_
    refine x_nmM (fun M6 eM6 => ?_)
    have hR := nmE hR eM6
    have hok := hok M6 eM6
    refine x_iconst (pc := 36) (v := 0) C dX7_execute_36 (by decide) ?_
    refine x_istore_n (pc := 37) (i := 1) (ls2 := [(1, .int 0), (0, .ref (ad 193))]) C dX7_execute_37 rfl (by decide) rfl ?_
    refine x_sub [1, 0] (ls2 := [(0, .ref (ad 193)), (1, .int 0)]) rfl ?_
    exact t_X7_execute_L38 C fu M6 0 B O _ hR hok
  · have hR := hR.trans (if_neg c3)
    refine x_aload_n (pc := 12) (i := 0) C 0 dX7_execute_12 rfl rfl ?_
    refine x_aload_n (pc := 13) (i := 0) C 0 dX7_execute_13 rfl rfl ?_
    refine x_get (pc := 14) (q := 193) (i := 18) C e_M rfl ttX7 (by decide) wd_7_5 rfl dX7_execute_14 ?_
    refine x_put (pc := 17) (M2 := (smi M2 7 (mi M2 18))) (B2 := B) (O2 := O) (q := 193) (i := 7) C tyX7 tyX7_ok nmX7 e_M rfl ttX7 (by decide) wd_6_234 rfl rfl rfl (Nat.le_of_ble_eq_true rfl) dX7_execute_17 (put_M_7 ) (o_smi 7 (mi M2 18)) ?_
    refine x_nmM (fun M17 eM17 => ?_)
    have hR := nmE hR eM17
    refine x_aload_n (pc := 20) (i := 0) C 0 dX7_execute_20 rfl rfl ?_
    refine x_iconst (pc := 21) (v := 1) C dX7_execute_21 (by decide) ?_
    refine x_put (pc := 22) (M2 := (smi M17 15 1)) (B2 := B) (O2 := O) (q := 193) (i := 15) C tyX7 tyX7_ok nmX7 e_M rfl ttX7 (by decide) wd_7_2 rfl rfl rfl (Nat.le_of_ble_eq_true rfl) dX7_execute_22 (put_M_15 ) (o_smi 15 1) ?_
    refine x_nmM (fun M18 eM18 => ?_)
    have hR := nmE hR eM18
    refine x_iconst (pc := 25) (v := 0) C dX7_execute_25 (by decide) ?_
    exact x_iretM (pc := 26) C rfl hR dX7_execute_26
