set_option maxHeartbeats 4000000 in
set_option maxRecDepth 100000 in
theorem t_L_cell_J15 {p0 : Program} {l : Launch} {e : Env} {s : State} {m : MethodId} {args : Array Value} {below : List Frame} {meth : Method} {c : Code} {A : Nat → Prop} {G : GT} {ad : Nat → Nat} (C : CX p0 l s m args meth c A G ad cL_cell RL 3 (some .int)) {S : Nat → Int32} {N : Nat} (hsc : S = scx G ∧ N = G.2.2.2.2 5)  (a1 : Int32) (s0 : Int32) (s1 : Int32) (B : StB) (M : StM) (O : StO)  (R0 : Int32) (hR : R0 = f_L_cell_J15 S N a1 s0 s1) : X p0 l e (rmd 1 0 0) s m args below meth c A G ad 3 0 0 (MQ below (QI G A ad R0 B M O) args s 0 0 A) B M O [(1, .int a1)] 15 [.int s0, .int s1] := by
  have hR : R0 = (nm ((s1 * (s0 + (1009 * a1))) + 12345) (fun (v2 : Int32) => (nm ((v2 ^^^ (iushr v2 13)) * 1103515245) (fun (v3 : Int32) => (v3 ^^^ (iushr v3 16)))))) := hR
  refine x_sipush (pc := 15) (v := 1009) C dL_cell_15 (by decide) ?_
  refine x_iload_n (pc := 18) (i := 1) C 0 dL_cell_18 rfl rfl ?_
  refine x_imul (pc := 19) C dL_cell_19 ?_
  refine x_iadd (pc := 20) C dL_cell_20 ?_
  refine x_imul (pc := 21) C dL_cell_21 ?_
  refine x_sipush (pc := 22) (v := 12345) C dL_cell_22 (by decide) ?_
  refine x_iadd (pc := 25) C dL_cell_25 ?_
  refine x_nmI (fun v2 ev2 => ?_)
  have hR := nmE hR ev2
  refine x_istore_n (pc := 26) (i := 2) (ls2 := [(2, .int v2), (1, .int a1)]) C dL_cell_26 rfl (by decide) rfl ?_
  refine x_iload_n (pc := 27) (i := 2) C 0 dL_cell_27 rfl rfl ?_
  refine x_iload_n (pc := 28) (i := 2) C 0 dL_cell_28 rfl rfl ?_
  refine x_bipush (pc := 29) (v := 13) C dL_cell_29 (by decide) ?_
  refine x_iushr (pc := 31) C dL_cell_31 ?_
  refine x_ixor (pc := 32) C dL_cell_32 ?_
  refine x_ldcI (pc := 33) (v := 1103515245) C wd_2_72 dL_cell_33 ?_
  refine x_imul (pc := 35) C dL_cell_35 ?_
  refine x_nmI (fun v3 ev3 => ?_)
  have hR := nmE hR ev3
  refine x_istore_n (pc := 36) (i := 2) (ls2 := [(2, .int v3), (1, .int a1)]) C dL_cell_36 rfl (by decide) rfl ?_
  refine x_iload_n (pc := 37) (i := 2) C 0 dL_cell_37 rfl rfl ?_
  refine x_iload_n (pc := 38) (i := 2) C 0 dL_cell_38 rfl rfl ?_
  refine x_bipush (pc := 39) (v := 16) C dL_cell_39 (by decide) ?_
  refine x_iushr (pc := 41) C dL_cell_41 ?_
  refine x_ixor (pc := 42) C dL_cell_42 ?_
  exact x_iret (pc := 43) C rfl hR dL_cell_43
set_option maxHeartbeats 4000000 in
set_option maxRecDepth 100000 in
theorem c_L_cell {l : Launch} {A : Nat → Prop} {G : GT} {ad : Nat → Nat} (gl : Gl l A G ad) (S : Nat → Int32) (N : Nat) (hsc : S = scx G ∧ N = G.2.2.2.2 5) (B : StB) (M : StM) (O : StO) (x1 : Int32) (hok : ok_L_cell S N x1) : Met l yL_cell (wof yL_cell cL_cell 3 (some .int)) (rmd 1 0 0) (va_Pc [.ref (G.2.2.2.2 4), .int x1] (PW G A ad B M O)) (QI G A ad (f_L_cell S N x1) B M O) 0 0 A := by
  refine x_body (own := RL) (by decide +kernel) rfl gl (Nat.le_of_ble_eq_true rfl) (ls := [(0, .ref (G.2.2.2.2 4)), (1, .int x1)]) rfl ?_
  intro p0 e s m args below meth c C
  have hR : (f_L_cell S N x1) = (if (Int32.ofNat N) ≤ x1 then (f_L_cell_J15 S N x1 0 69069) else (f_L_cell_J15 S N x1 (S (ix x1)) 69069)) := rfl
  have hok : (((Int32.ofNat N) ≤ x1 → True) ∧ (¬ (Int32.ofNat N) ≤ x1 → (vp_in x1 N))) := hok
  refine x_ldcI (pc := 0) (v := 69069) C wd_2_71 dL_cell_0 ?_
  refine x_iload_n (pc := 2) (i := 1) C 1 dL_cell_2 rfl rfl ?_
  refine x_aload_n (pc := 3) (i := 0) C 0 dL_cell_3 rfl rfl ?_
  refine x_alenS (pc := 4) C hsc dL_cell_4 ?_
  refine x_icmp_ge (pc := 5) (tgt := 14) C dL_cell_5 (by decide) (fun c1 => ?_) (fun c1 => ?_)
  · have hR := hR.trans (if_pos c1)
    refine x_iconst (pc := 14) (v := 0) C dL_cell_14 (by decide) ?_
    refine x_sub [1] (ls2 := [(1, .int x1)]) rfl ?_
    exact t_L_cell_J15 C hsc x1 0 69069 B M O _ hR
  · have hR := hR.trans (if_neg c1)
    have hok := hok.2 c1
    refine x_aload_n (pc := 8) (i := 0) C 0 dL_cell_8 rfl rfl ?_
    refine x_iload_n (pc := 9) (i := 1) C 1 dL_cell_9 rfl rfl ?_
    have h4 := hok
    refine x_ialdS (pc := 10) C hsc h4 dL_cell_10 ?_
    refine x_goto (pc := 11) (tgt := 15) C dL_cell_11 (by decide) ?_
    refine x_sub [1] (ls2 := [(1, .int x1)]) rfl ?_
    exact t_L_cell_J15 C hsc x1 (S (ix x1)) 69069 B M O _ hR
set_option maxHeartbeats 4000000 in
set_option maxRecDepth 100000 in
theorem c_L_told {l : Launch} {A : Nat → Prop} {G : GT} {ad : Nat → Nat} (gl : Gl l A G ad)  (B : StB) (M : StM) (O : StO) (x0 : Int32) : Met l yL_told (wof yL_told cL_told 1 (some .int)) (rmd 1 0 0) (va_Pc [.int x0] (PW G A ad B M O)) (QI G A ad (f_L_told x0) B M O) 0 0 A := by
  refine x_body (own := RL) (by decide +kernel) rfl gl (Nat.le_of_ble_eq_true rfl) (ls := [(0, .int x0)]) rfl ?_
  intro p0 e s m args below meth c C
  have hR : (f_L_told x0) = (if x0 = 0 then 0 else 1) := rfl
  refine x_iload_n (pc := 0) (i := 0) C 0 dL_told_0 rfl rfl ?_
  refine x_if_eq (pc := 1) (tgt := 8) C dL_told_1 (by decide) (fun c1 => ?_) (fun c1 => ?_)
  · have hR := hR.trans (if_pos c1)
    refine x_iconst (pc := 8) (v := 0) C dL_told_8 (by decide) ?_
    exact x_iret (pc := 9) C rfl hR dL_told_9
  · have hR := hR.trans (if_neg c1)
    refine x_iconst (pc := 4) (v := 1) C dL_told_4 (by decide) ?_
    refine x_goto (pc := 5) (tgt := 9) C dL_told_5 (by decide) ?_
    exact x_iret (pc := 9) C rfl hR dL_told_9
set_option maxHeartbeats 4000000 in
set_option maxRecDepth 100000 in
theorem t_L_interest_J80 {p0 : Program} {l : Launch} {e : Env} {s : State} {m : MethodId} {args : Array Value} {below : List Frame} {meth : Method} {c : Code} {A : Nat → Prop} {G : GT} {ad : Nat → Nat} (C : CX p0 l s m args meth c A G ad cL_interest RL 6 (some .int))   (a1 : Int32) (a2 : Int32) (s0 : Int32) (B : StB) (M : StM) (O : StO)  (R0 : Int32) (hR : R0 = f_L_interest_J80 a1 a2 s0) : X p0 l e (rmd 2 0 0) s m args below meth c A G ad 6 0 0 (MQ below (QI G A ad R0 B M O) args s 0 0 A) B M O [(1, .int a1), (2, .int a2)] 80 [.int s0] := by
  have hR : R0 = (-(mn s0 (a1 + a2))) := hR
  refine x_istore (pc := 80) (i := 5) (ls2 := [(5, .int s0), (1, .int a1), (2, .int a2)]) C dL_interest_80 (by decide) rfl ?_
  refine x_iload (pc := 82) (i := 5) C 0 dL_interest_82 rfl ?_
  refine x_iload_n (pc := 84) (i := 1) C 1 dL_interest_84 rfl rfl ?_
  refine x_iload_n (pc := 85) (i := 2) C 2 dL_interest_85 rfl rfl ?_
  refine x_iadd (pc := 86) C dL_interest_86 ?_
  refine x_mmin (pc := 87) C wd_5_23 wd_3_49 wd_1_21 wd_3_50 ⟨Nat.le_of_ble_eq_true rfl, Nat.le_of_ble_eq_true rfl⟩ ⟨Nat.le_of_ble_eq_true rfl, Nat.le_of_ble_eq_true rfl⟩ dL_interest_87 ?_
  refine x_ineg (pc := 90) C dL_interest_90 ?_
  exact x_iret (pc := 91) C rfl hR dL_interest_91
set_option maxHeartbeats 4000000 in
set_option maxRecDepth 100000 in
theorem c_L_interest {l : Launch} {A : Nat → Prop} {G : GT} {ad : Nat → Nat} (gl : Gl l A G ad)  (B : StB) (M : StM) (O : StO) (x0 : Int32) (x1 : Int32) (x2 : Int32) (x3 : Int32) : Met l yL_interest (wof yL_interest cL_interest 6 (some .int)) (rmd 2 0 0) (va_Pc [.int x0, .int x1, .int x2, .int x3] (PW G A ad B M O)) (QI G A ad (f_L_interest x0 x1 x2 x3) B M O) 0 0 A := by
  refine x_body (own := RL) (by decide +kernel) rfl gl (Nat.le_of_ble_eq_true rfl) (ls := [(0, .int x0), (1, .int x1), (2, .int x2), (3, .int x3)]) rfl ?_
  intro p0 e s m args below meth c C
  have hR : (f_L_interest x0 x1 x2 x3) = (nm ((mn x1 9999) / 100) (fun (v1 : Int32) => (if x0 = 1 then (mn 30 (3 * v1)) else (if x0 = 3 then (if x3 = 0 then (5 * v1) else 0) else (if x1 < 0 then (if x0 = 2 then (f_L_interest_J80 x1 x2 5) else (f_L_interest_J80 x1 x2 (mx 1 (2 * ((-x1) / 50))))) else (if x0 = 0 then v1 else 0)))))) := rfl
  refine x_iload_n (pc := 0) (i := 1) C 1 dL_interest_0 rfl rfl ?_
  refine x_sipush (pc := 1) (v := 9999) C dL_interest_1 (by decide) ?_
  refine x_mmin (pc := 4) C wd_5_23 wd_3_49 wd_1_21 wd_3_50 ⟨Nat.le_of_ble_eq_true rfl, Nat.le_of_ble_eq_true rfl⟩ ⟨Nat.le_of_ble_eq_true rfl, Nat.le_of_ble_eq_true rfl⟩ dL_interest_4 ?_
  refine x_bipush (pc := 7) (v := 100) C dL_interest_7 (by decide) ?_
  refine x_idiv (pc := 9) C dL_interest_9 (by decide) ?_
  refine x_nmI (fun v1 ev1 => ?_)
  have hR := nmE hR ev1
  refine x_istore (pc := 10) (i := 4) (ls2 := [(4, .int v1), (0, .int x0), (1, .int x1), (2, .int x2), (3, .int x3)]) C dL_interest_10 (by decide) rfl ?_
  refine x_iload_n (pc := 12) (i := 0) C 1 dL_interest_12 rfl rfl ?_
  refine x_iconst (pc := 13) (v := 1) C dL_interest_13 (by decide) ?_
  refine x_icmp_ne (pc := 14) (tgt := 27) C dL_interest_14 (by decide) (fun c2 => ?_) (fun c2 => ?_)
  · have hR := hR.trans (if_neg c2)
    refine x_iload_n (pc := 27) (i := 0) C 1 dL_interest_27 rfl rfl ?_
    refine x_iconst (pc := 28) (v := 3) C dL_interest_28 (by decide) ?_
    refine x_icmp_ne (pc := 29) (tgt := 45) C dL_interest_29 (by decide) (fun c3 => ?_) (fun c3 => ?_)
    · have hR := hR.trans (if_neg c3)
      refine x_iload_n (pc := 45) (i := 1) C 2 dL_interest_45 rfl rfl ?_
      refine x_if_lt (pc := 46) (tgt := 60) C dL_interest_46 (by decide) (fun c4 => ?_) (fun c4 => ?_)
      · have hR := hR.trans (if_pos c4)
        refine x_iload_n (pc := 60) (i := 0) C 1 dL_interest_60 rfl rfl ?_
        refine x_iconst (pc := 61) (v := 2) C dL_interest_61 (by decide) ?_
        refine x_icmp_ne (pc := 62) (tgt := 69) C dL_interest_62 (by decide) (fun c5 => ?_) (fun c5 => ?_)
        · have hR := hR.trans (if_neg c5)
          refine x_iconst (pc := 69) (v := 1) C dL_interest_69 (by decide) ?_
          refine x_iconst (pc := 70) (v := 2) C dL_interest_70 (by decide) ?_
          refine x_iload_n (pc := 71) (i := 1) C 2 dL_interest_71 rfl rfl ?_
          refine x_ineg (pc := 72) C dL_interest_72 ?_
          refine x_bipush (pc := 73) (v := 50) C dL_interest_73 (by decide) ?_
          refine x_idiv (pc := 75) C dL_interest_75 (by decide) ?_
          refine x_imul (pc := 76) C dL_interest_76 ?_
          refine x_mmax (pc := 77) C wd_4_115 wd_3_180 wd_1_21 wd_3_181 ⟨Nat.le_of_ble_eq_true rfl, Nat.le_of_ble_eq_true rfl⟩ ⟨Nat.le_of_ble_eq_true rfl, Nat.le_of_ble_eq_true rfl⟩ dL_interest_77 ?_
          refine x_sub [2, 3] (ls2 := [(1, .int x1), (2, .int x2)]) rfl ?_
          exact t_L_interest_J80 C x1 x2 (mx 1 (2 * ((-x1) / 50))) B M O _ hR
        · have hR := hR.trans (if_pos c5)
          refine x_iconst (pc := 65) (v := 5) C dL_interest_65 (by decide) ?_
          refine x_goto (pc := 66) (tgt := 80) C dL_interest_66 (by decide) ?_
          refine x_sub [2, 3] (ls2 := [(1, .int x1), (2, .int x2)]) rfl ?_
          exact t_L_interest_J80 C x1 x2 5 B M O _ hR
      · have hR := hR.trans (if_neg c4)
        refine x_iload_n (pc := 49) (i := 0) C 1 dL_interest_49 rfl rfl ?_
        refine x_if_ne (pc := 50) (tgt := 58) C dL_interest_50 (by decide) (fun c6 => ?_) (fun c6 => ?_)
        · have hR := hR.trans (if_neg c6)
          refine x_iconst (pc := 58) (v := 0) C dL_interest_58 (by decide) ?_
          exact x_iret (pc := 59) C rfl hR dL_interest_59
        · have hR := hR.trans (if_pos c6)
          refine x_iload (pc := 53) (i := 4) C 0 dL_interest_53 rfl ?_
          refine x_goto (pc := 55) (tgt := 59) C dL_interest_55 (by decide) ?_
          exact x_iret (pc := 59) C rfl hR dL_interest_59
    · have hR := hR.trans (if_pos c3)
      refine x_iload_n (pc := 32) (i := 3) C 4 dL_interest_32 rfl rfl ?_
      refine x_if_eq (pc := 33) (tgt := 40) C dL_interest_33 (by decide) (fun c7 => ?_) (fun c7 => ?_)
      · have hR := hR.trans (if_pos c7)
        refine x_iconst (pc := 40) (v := 5) C dL_interest_40 (by decide) ?_
        refine x_iload (pc := 41) (i := 4) C 0 dL_interest_41 rfl ?_
        refine x_imul (pc := 43) C dL_interest_43 ?_
        exact x_iret (pc := 44) C rfl hR dL_interest_44
      · have hR := hR.trans (if_neg c7)
        refine x_iconst (pc := 36) (v := 0) C dL_interest_36 (by decide) ?_
        refine x_goto (pc := 37) (tgt := 44) C dL_interest_37 (by decide) ?_
        exact x_iret (pc := 44) C rfl hR dL_interest_44
  · have hR := hR.trans (if_pos c2)
    refine x_bipush (pc := 17) (v := 30) C dL_interest_17 (by decide) ?_
    refine x_iconst (pc := 19) (v := 3) C dL_interest_19 (by decide) ?_
    refine x_iload (pc := 20) (i := 4) C 0 dL_interest_20 rfl ?_
    refine x_imul (pc := 22) C dL_interest_22 ?_
    refine x_mmin (pc := 23) C wd_5_23 wd_3_49 wd_1_21 wd_3_50 ⟨Nat.le_of_ble_eq_true rfl, Nat.le_of_ble_eq_true rfl⟩ ⟨Nat.le_of_ble_eq_true rfl, Nat.le_of_ble_eq_true rfl⟩ dL_interest_23 ?_
    exact x_iret (pc := 26) C rfl hR dL_interest_26
set_option maxHeartbeats 4000000 in
set_option maxRecDepth 100000 in
theorem c_L_pick {l : Launch} {A : Nat → Prop} {G : GT} {ad : Nat → Nat} (gl : Gl l A G ad) (S : Nat → Int32) (N : Nat) (hsc : S = scx G ∧ N = G.2.2.2.2 5) (B : StB) (M : StM) (O : StO) (x1 : Int32) (x2 : Int32) (hok : ok_L_pick S N x1 x2) : Met l yL_pick (wof yL_pick cL_pick 3 (some .int)) (rmd 2 0 0) (va_Pc [.ref (G.2.2.2.2 4), .int x1, .int x2] (PW G A ad B M O)) (QI G A ad (f_L_pick S N x1 x2) B M O) 0 0 A := by
  refine x_body (own := RL) (by decide +kernel) rfl gl (Nat.le_of_ble_eq_true rfl) (ls := [(0, .ref (G.2.2.2.2 4)), (1, .int x1), (2, .int x2)]) rfl ?_
  intro p0 e s m args below meth c C
  have hR : (f_L_pick S N x1 x2) = (nm (f_L_cell S N x1) (fun (r2 : Int32) => ((iushr r2 8) - (iushr r2 8) / x2 * x2))) := rfl
  have hok : ((ok_L_cell S N x1) ∧ (∀ r2 : Int32, r2 = (f_L_cell S N x1) → (¬ x2 = 0))) := hok
  refine x_aload_n (pc := 0) (i := 0) C 0 dL_pick_0 rfl rfl ?_
  refine x_iload_n (pc := 1) (i := 1) C 1 dL_pick_1 rfl rfl ?_
  have h1 := hok.1
  have hok := hok.2
  refine x_cIS (pc := 2) (as := [.ref (G.2.2.2.2 4), .int x1]) C (c_L_cell C.2.2.2.2.2.2.2.1 S N hsc B M O x1 h1) wd_2_69 cd_L_cell wd_2_68 ⟨Nat.le_of_ble_eq_true rfl, Nat.le_of_ble_eq_true rfl⟩ ⟨Nat.le_of_ble_eq_true rfl, Nat.le_of_ble_eq_true rfl⟩ rfl rfl (Nat.le_of_ble_eq_true rfl) dL_pick_2 ?_
  refine x_nmI (fun r2 er2 => ?_)
  have hR := nmE hR er2
  have hok := hok r2 er2
  refine x_bipush (pc := 5) (v := 8) C dL_pick_5 (by decide) ?_
  refine x_iushr (pc := 7) C dL_pick_7 ?_
  refine x_iload_n (pc := 8) (i := 2) C 2 dL_pick_8 rfl rfl ?_
  have h3 := hok
  refine x_irem (pc := 9) C dL_pick_9 h3 ?_
  exact x_iret (pc := 10) C rfl hR dL_pick_10
set_option maxHeartbeats 4000000 in
set_option maxRecDepth 100000 in
theorem c_L_id {l : Launch} {A : Nat → Prop} {G : GT} {ad : Nat → Nat} (gl : Gl l A G ad)  (B : StB) (M : StM) (O : StO) (x1 : Int32) (hok : ok_L_id B x1) : Met l yL_id (wof yL_id cL_id 2 (some .int)) (rmd 4 0 0) (va_Pc [.ref (ad 176), .int x1] (PW G A ad B M O)) (QI G A ad (f_L_id B x1) B M O) 0 0 A := by
  refine x_body (own := RL) (by decide +kernel) rfl gl (Nat.le_of_ble_eq_true rfl) (ls := [(0, .ref (ad 176)), (1, .int x1)]) rfl ?_
  intro p0 e s m args below meth c C
  have hR : (f_L_id B x1) = (nm (f_X6_transferCount B) (fun (r1 : Int32) => (if r1 = 0 then 0 else (nm (f_X6_transferCount B) (fun (r3 : Int32) => (nm (f_X6_transferAt_n B (x1 - x1 / r3 * r3)) (fun (r6 : Int32) => r6))))))) := rfl
  have hok : (∀ r1 : Int32, r1 = (f_X6_transferCount B) → ((r1 = 0 → True) ∧ (¬ r1 = 0 → (∀ r3 : Int32, r3 = (f_X6_transferCount B) → (¬ r3 = 0 ∧ ((ok_X6_transferAt_n B (x1 - x1 / r3 * r3)))))))) := hok
  refine x_aload_n (pc := 0) (i := 0) C 0 dL_id_0 rfl rfl ?_
  refine x_cIV (pc := 1) (as := []) (q := 176) C (c_X6_transferCount C.2.2.2.2.2.2.2.1  B M O ) (fs := _) e_I rfl cv_X6_transferCount cd_X6_transferCount wd_4_119 ⟨Nat.le_of_ble_eq_true rfl, Nat.le_of_ble_eq_true rfl⟩ ⟨Nat.le_of_ble_eq_true rfl, Nat.le_of_ble_eq_true rfl⟩ rfl rfl (Nat.le_of_ble_eq_true rfl) dL_id_1 ?_
  refine x_nmI (fun r1 er1 => ?_)
  have hR := nmE hR er1
  have hok := hok r1 er1
  refine x_if_ne (pc := 4) (tgt := 11) C dL_id_4 (by decide) (fun c2 => ?_) (fun c2 => ?_)
  · have hR := hR.trans (if_neg c2)
    have hok := hok.2 c2
    refine x_aload_n (pc := 11) (i := 0) C 0 dL_id_11 rfl rfl ?_
    refine x_iload_n (pc := 12) (i := 1) C 1 dL_id_12 rfl rfl ?_
    refine x_aload_n (pc := 13) (i := 0) C 0 dL_id_13 rfl rfl ?_
    refine x_cIV (pc := 14) (as := []) (q := 176) C (c_X6_transferCount C.2.2.2.2.2.2.2.1  B M O ) (fs := _) e_I rfl cv_X6_transferCount cd_X6_transferCount wd_4_119 ⟨Nat.le_of_ble_eq_true rfl, Nat.le_of_ble_eq_true rfl⟩ ⟨Nat.le_of_ble_eq_true rfl, Nat.le_of_ble_eq_true rfl⟩ rfl rfl (Nat.le_of_ble_eq_true rfl) dL_id_14 ?_
    refine x_nmI (fun r3 er3 => ?_)
    have hR := nmE hR er3
    have hok := hok r3 er3
    have h4 := hok.1
    have hok := hok.2
    refine x_irem (pc := 17) C dL_id_17 h4 ?_
    have h5 := hok
    refine x_cIV (pc := 18) (as := [.int (x1 - x1 / r3 * r3)]) (q := 176) C (c_X6_transferAt_n C.2.2.2.2.2.2.2.1  B M O (x1 - x1 / r3 * r3) h5) (fs := _) e_I rfl cv_X6_transferAt cd_X6_transferAt wd_4_123 ⟨Nat.le_of_ble_eq_true rfl, Nat.le_of_ble_eq_true rfl⟩ ⟨Nat.le_of_ble_eq_true rfl, Nat.le_of_ble_eq_true rfl⟩ rfl rfl (Nat.le_of_ble_eq_true rfl) dL_id_18 ?_
    refine x_nmI (fun r6 er6 => ?_)
    have hR := nmE hR er6
    exact x_iret (pc := 21) C rfl hR dL_id_21
  · have hR := hR.trans (if_pos c2)
    refine x_iconst (pc := 7) (v := 0) C dL_id_7 (by decide) ?_
    refine x_goto (pc := 8) (tgt := 21) C dL_id_8 (by decide) ?_
    exact x_iret (pc := 21) C rfl hR dL_id_21
set_option maxHeartbeats 4000000 in
set_option maxRecDepth 100000 in
theorem t_L_isLine_L17 {p0 : Program} {l : Launch} {e : Env} {s : State} {m : MethodId} {args : Array Value} {below : List Frame} {meth : Method} {c : Code} {A : Nat → Prop} {G : GT} {ad : Nat → Nat} {Q : State → Prop} (C : CX p0 l s m args meth c A G ad cL_isLine RL 5 (some .boolean)) (hG : G.2.2.2.2 2 = 3 ∧ G.2.2.2.2 3 = 2)   (n : Nat) (B : StB) (a3 : Int32) (a4 : Int32) (M : StM) (O : StO) : ∀ (R0 : Int32) (hR : R0 = f_L_isLine_L17 n B a3 a4) (hok : ok_L_isLine_L17 n B a3 a4) (k : X p0 l e (rmd 6 0 0) s m args below meth c A G ad 5 0 0 Q B M O [(3, .int R0)] 57 []), X p0 l e (rmd 6 0 0) s m args below meth c A G ad 5 0 0 Q B M O [(0, .ref (ad 176)), (2, .ref (ad 193)), (3, .int a3), (4, .int a4)] 17 [] := by
  induction n generalizing B a3 a4 with
  | zero => intro R0 hR hok k; exact False.elim hok
  | succ n ih =>
    intro R0 hR hok k
    have hR : R0 = (nm (f_J0_length_8abf5_W B) (fun (r3 : Int32) => (if r3 ≤ a4 then a3 else (if a3 = 0 then a3 else (nm (f_X6_statementAt_n B a4) (fun (r7 : Int32) => (nm (f_J0_charAt_5068e_W B a4) (fun (r9 : Int32) => (if r7 = r9 then (f_L_isLine_L17 n B 1 (a4 + 1)) else (f_L_isLine_L17 n B 0 (a4 + 1))))))))))) := hR
    have hok : (∀ r3 : Int32, r3 = (f_J0_length_8abf5_W B) → ((r3 ≤ a4 → True) ∧ (¬ r3 ≤ a4 → ((a3 = 0 → True) ∧ (¬ a3 = 0 → ((ok_X6_statementAt_n B a4) ∧ (∀ r7 : Int32, r7 = (f_X6_statementAt_n B a4) → ((ok_J0_charAt_5068e_W B a4) ∧ (∀ r9 : Int32, r9 = (f_J0_charAt_5068e_W B a4) → ((r7 = r9 → (ok_L_isLine_L17 n B 1 (a4 + 1))) ∧ (¬ r7 = r9 → (ok_L_isLine_L17 n B 0 (a4 + 1))))))))))))) := hok
    refine x_iload (pc := 17) (i := 4) C 3 dL_isLine_17 rfl ?_
    refine x_aload_n (pc := 19) (i := 2) C 1 dL_isLine_19 rfl rfl ?_
    refine x_cIV (pc := 20) (as := []) (q := 193) C (c_J0_length_8abf5_W C.2.2.2.2.2.2.2.1 hG B M O ) (fs := _) (e_W hG) rfl cv_J0_length_8abf5 cd_J0_length_8abf5 wd_6_42 ⟨Nat.le_of_ble_eq_true rfl, Nat.le_of_ble_eq_true rfl⟩ ⟨Nat.le_of_ble_eq_true rfl, Nat.le_of_ble_eq_true rfl⟩ rfl rfl (Nat.le_of_ble_eq_true rfl) dL_isLine_20 ?_
    refine x_nmI (fun r3 er3 => ?_)
    have hR := nmE hR er3
    have hok := hok r3 er3
    refine x_icmp_ge (pc := 23) (tgt := 57) C dL_isLine_23 (by decide) (fun c4 => ?_) (fun c4 => ?_)
    · have hR := hR.trans (if_pos c4)
      refine x_sub [2] (ls2 := [(3, .int a3)]) rfl ?_
      subst hR
      exact k
    · have hR := hR.trans (if_neg c4)
      have hok := hok.2 c4
      refine x_iload_n (pc := 26) (i := 3) C 2 dL_isLine_26 rfl rfl ?_
      refine x_if_eq (pc := 27) (tgt := 57) C dL_isLine_27 (by decide) (fun c5 => ?_) (fun c5 => ?_)
      · have hR := hR.trans (if_pos c5)
        refine x_sub [2] (ls2 := [(3, .int a3)]) rfl ?_
        subst hR
        exact k
      · have hR := hR.trans (if_neg c5)
        have hok := hok.2 c5
        refine x_aload_n (pc := 30) (i := 0) C 0 dL_isLine_30 rfl rfl ?_
        refine x_iload (pc := 31) (i := 4) C 3 dL_isLine_31 rfl ?_
        have h6 := hok.1
        have hok := hok.2
        refine x_cIV (pc := 33) (as := [.int a4]) (q := 176) C (c_X6_statementAt_n C.2.2.2.2.2.2.2.1  B M O a4 h6) (fs := _) e_I rfl cv_X6_statementAt cd_X6_statementAt wd_6_43 ⟨Nat.le_of_ble_eq_true rfl, Nat.le_of_ble_eq_true rfl⟩ ⟨Nat.le_of_ble_eq_true rfl, Nat.le_of_ble_eq_true rfl⟩ rfl rfl (Nat.le_of_ble_eq_true rfl) dL_isLine_33 ?_
        refine x_nmI (fun r7 er7 => ?_)
        have hR := nmE hR er7
        have hok := hok r7 er7
        refine x_aload_n (pc := 36) (i := 2) C 1 dL_isLine_36 rfl rfl ?_
        refine x_iload (pc := 37) (i := 4) C 3 dL_isLine_37 rfl ?_
        have h8 := hok.1
        have hok := hok.2
        refine x_cIV (pc := 39) (as := [.int a4]) (q := 193) C (c_J0_charAt_5068e_W C.2.2.2.2.2.2.2.1 hG B M O a4 h8) (fs := _) (e_W hG) rfl cv_J0_charAt_5068e cd_J0_charAt_5068e wd_6_57 ⟨Nat.le_of_ble_eq_true rfl, Nat.le_of_ble_eq_true rfl⟩ ⟨Nat.le_of_ble_eq_true rfl, Nat.le_of_ble_eq_true rfl⟩ rfl rfl (Nat.le_of_ble_eq_true rfl) dL_isLine_39 ?_
        refine x_nmI (fun r9 er9 => ?_)
        have hR := nmE hR er9
        have hok := hok r9 er9
        refine x_icmp_ne (pc := 42) (tgt := 49) C dL_isLine_42 (by decide) (fun c10 => ?_) (fun c10 => ?_)
        · have hR := hR.trans (if_neg c10)
          have hok := hok.2 c10
          refine x_iconst (pc := 49) (v := 0) C dL_isLine_49 (by decide) ?_
          refine x_istore_n (pc := 50) (i := 3) (ls2 := [(3, .int 0), (0, .ref (ad 176)), (2, .ref (ad 193)), (4, .int a4)]) C dL_isLine_50 rfl (by decide) rfl ?_
          refine x_iinc (pc := 51) (i := 4) (v := (a4 + 1)) (ls2 := [(4, .int (a4 + 1)), (3, .int 0), (0, .ref (ad 176)), (2, .ref (ad 193))]) C 3 dL_isLine_51 rfl rfl (by decide) rfl ?_
          refine x_goto (pc := 54) (tgt := 17) C dL_isLine_54 (by decide) ?_
          refine x_sub [2, 3, 1, 0] (ls2 := [(0, .ref (ad 176)), (2, .ref (ad 193)), (3, .int 0), (4, .int (a4 + 1))]) rfl ?_
          exact ih B 0 (a4 + 1) R0 hR hok k
        · have hR := hR.trans (if_pos c10)
          have hok := hok.1 c10
          refine x_iconst (pc := 45) (v := 1) C dL_isLine_45 (by decide) ?_
          refine x_goto (pc := 46) (tgt := 50) C dL_isLine_46 (by decide) ?_
          refine x_istore_n (pc := 50) (i := 3) (ls2 := [(3, .int 1), (0, .ref (ad 176)), (2, .ref (ad 193)), (4, .int a4)]) C dL_isLine_50 rfl (by decide) rfl ?_
          refine x_iinc (pc := 51) (i := 4) (v := (a4 + 1)) (ls2 := [(4, .int (a4 + 1)), (3, .int 1), (0, .ref (ad 176)), (2, .ref (ad 193))]) C 3 dL_isLine_51 rfl rfl (by decide) rfl ?_
          refine x_goto (pc := 54) (tgt := 17) C dL_isLine_54 (by decide) ?_
          refine x_sub [2, 3, 1, 0] (ls2 := [(0, .ref (ad 176)), (2, .ref (ad 193)), (3, .int 1), (4, .int (a4 + 1))]) rfl ?_
          exact ih B 1 (a4 + 1) R0 hR hok k
set_option maxHeartbeats 4000000 in
set_option maxRecDepth 100000 in
theorem t_L_isLine_J13 {p0 : Program} {l : Launch} {e : Env} {s : State} {m : MethodId} {args : Array Value} {below : List Frame} {meth : Method} {c : Code} {A : Nat → Prop} {G : GT} {ad : Nat → Nat} (C : CX p0 l s m args meth c A G ad cL_isLine RL 5 (some .boolean)) (hG : G.2.2.2.2 2 = 3 ∧ G.2.2.2.2 3 = 2) (B : StB) (s0 : Int32) (M : StM) (O : StO)  (R0 : Int32) (hR : R0 = f_L_isLine_J13 B s0) (hok : ok_L_isLine_J13 B s0) : X p0 l e (rmd 6 0 0) s m args below meth c A G ad 5 0 0 (MQ below (QI G A ad R0 B M O) args s 0 0 A) B M O [(0, .ref (ad 176)), (2, .ref (ad 193))] 13 [.int s0] := by
  have hR : R0 = (nm (f_L_isLine_L17 20 B s0 0) (fun (z11 : Int32) => z11)) := hR
  have hok : ((ok_L_isLine_L17 20 B s0 0) ∧ ∀ z11 : Int32, z11 = f_L_isLine_L17 20 B s0 0 → (narrow .boolean (.int z11) = .int z11)) := hok
  refine x_istore_n (pc := 13) (i := 3) (ls2 := [(3, .int s0), (0, .ref (ad 176)), (2, .ref (ad 193))]) C dL_isLine_13 rfl (by decide) rfl ?_
  refine x_iconst (pc := 14) (v := 0) C dL_isLine_14 (by decide) ?_
  refine x_istore (pc := 15) (i := 4) (ls2 := [(4, .int 0), (3, .int s0), (0, .ref (ad 176)), (2, .ref (ad 193))]) C dL_isLine_15 (by decide) rfl ?_
  refine x_sub [2, 3, 1, 0] (ls2 := [(0, .ref (ad 176)), (2, .ref (ad 193)), (3, .int s0), (4, .int 0)]) rfl ?_
  obtain ⟨z11, ez11⟩ : ∃ z : Int32, z = f_L_isLine_L17 20 B s0 0 := ⟨_, rfl⟩
  refine t_L_isLine_L17 C hG 20 B s0 0 M O z11 ez11 hok.1 ?_
  have hR := nmE hR ez11
  have hok := hok.2 z11 ez11
  refine x_iload_n (pc := 57) (i := 3) C 0 dL_isLine_57 rfl rfl ?_
  have h12 := hok
  exact x_zret (pc := 58) C rfl h12 hR dL_isLine_58
set_option maxHeartbeats 4000000 in
set_option maxRecDepth 100000 in
theorem c_L_isLine {l : Launch} {A : Nat → Prop} {G : GT} {ad : Nat → Nat} (gl : Gl l A G ad) (hG : G.2.2.2.2 2 = 3 ∧ G.2.2.2.2 3 = 2) (B : StB) (M : StM) (O : StO) (x1 : Int32) (hok : ok_L_isLine B x1) : Met l yL_isLine (wof yL_isLine cL_isLine 5 (some .boolean)) (rmd 6 0 0) (va_Pc [.ref (ad 176), .int x1, .ref (ad 193)] (PW G A ad B M O)) (QI G A ad (f_L_isLine B x1) B M O) 0 0 A := by
  refine x_body (own := RL) (by decide +kernel) rfl gl (Nat.le_of_ble_eq_true rfl) (ls := [(0, .ref (ad 176)), (1, .int x1), (2, .ref (ad 193))]) rfl ?_
  intro p0 e s m args below meth c C
  have hR : (f_L_isLine B x1) = (nm (f_J0_length_8abf5_W B) (fun (r1 : Int32) => (if x1 = r1 then (f_L_isLine_J13 B 1) else (f_L_isLine_J13 B 0)))) := rfl
  have hok : (∀ r1 : Int32, r1 = (f_J0_length_8abf5_W B) → ((x1 = r1 → (ok_L_isLine_J13 B 1)) ∧ (¬ x1 = r1 → (ok_L_isLine_J13 B 0)))) := hok
  refine x_iload_n (pc := 0) (i := 1) C 1 dL_isLine_0 rfl rfl ?_
  refine x_aload_n (pc := 1) (i := 2) C 2 dL_isLine_1 rfl rfl ?_
  refine x_cIV (pc := 2) (as := []) (q := 193) C (c_J0_length_8abf5_W C.2.2.2.2.2.2.2.1 hG B M O ) (fs := _) (e_W hG) rfl cv_J0_length_8abf5 cd_J0_length_8abf5 wd_6_42 ⟨Nat.le_of_ble_eq_true rfl, Nat.le_of_ble_eq_true rfl⟩ ⟨Nat.le_of_ble_eq_true rfl, Nat.le_of_ble_eq_true rfl⟩ rfl rfl (Nat.le_of_ble_eq_true rfl) dL_isLine_2 ?_
  refine x_nmI (fun r1 er1 => ?_)
  have hR := nmE hR er1
  have hok := hok r1 er1
  refine x_icmp_ne (pc := 5) (tgt := 12) C dL_isLine_5 (by decide) (fun c2 => ?_) (fun c2 => ?_)
  · have hR := hR.trans (if_neg c2)
    have hok := hok.2 c2
    refine x_iconst (pc := 12) (v := 0) C dL_isLine_12 (by decide) ?_
    refine x_sub [0, 2] (ls2 := [(0, .ref (ad 176)), (2, .ref (ad 193))]) rfl ?_
    exact t_L_isLine_J13 C hG B 0 M O _ hR hok
  · have hR := hR.trans (if_pos c2)
    have hok := hok.1 c2
    refine x_iconst (pc := 8) (v := 1) C dL_isLine_8 (by decide) ?_
    refine x_goto (pc := 9) (tgt := 13) C dL_isLine_9 (by decide) ?_
    refine x_sub [0, 2] (ls2 := [(0, .ref (ad 176)), (2, .ref (ad 193))]) rfl ?_
    exact t_L_isLine_J13 C hG B 1 M O _ hR hok
set_option maxHeartbeats 4000000 in
set_option maxRecDepth 100000 in
theorem t_L_leads_1_L3 {p0 : Program} {l : Launch} {e : Env} {s : State} {m : MethodId} {args : Array Value} {below : List Frame} {meth : Method} {c : Code} {A : Nat → Prop} {G : GT} {ad : Nat → Nat} (C : CX p0 l s m args meth c A G ad cL_leads RL 6 (some .boolean))    (n : Nat) (B : StB) (a1 : Int32) (a2 : Int32) (a3 : Int32) (a4 : Int32) (M : StM) (O : StO) : ∀ (R0 : Int32) (hR : R0 = f_L_leads_1_L3 n B a1 a2 a3 a4) (hok : ok_L_leads_1_L3 n B a1 a2 a3 a4), X p0 l e (rmd 4 0 0) s m args below meth c A G ad 6 0 0 (MQ below (QI G A ad R0 B M O) args s 0 0 A) B M O [(0, .ref (ad 176)), (1, .int a1), (2, .int a2), (3, .int a3), (4, .int a4)] 3 [] := by
  induction n generalizing B a1 a2 a3 a4 with
  | zero => intro R0 hR hok; exact False.elim hok
  | succ n ih =>
    intro R0 hR hok
    have hR : R0 = (nm (f_X6_transferCount B) (fun (r1 : Int32) => (if r1 ≤ a4 then 0 else (nm (f_X6_transferAt_n B a4) (fun (r4 : Int32) => (nm (f_X6_senderOf_n B r4) (fun (r6 : Int32) => (if r6 = a1 then (nm (f_X6_receiverOf_n B r4) (fun (r9 : Int32) => (if r9 = a2 then 1 else (if a3 ≤ 1 then (f_L_leads_1_L3 n B a1 a2 a3 (a4 + 1)) else (nm (f_X6_receiverOf_n B r4) (fun (r13 : Int32) => 0)))))) else (f_L_leads_1_L3 n B a1 a2 a3 (a4 + 1)))))))))) := hR
    have hok : (∀ r1 : Int32, r1 = (f_X6_transferCount B) → ((r1 ≤ a4 → True) ∧ (¬ r1 ≤ a4 → ((ok_X6_transferAt_n B a4) ∧ (∀ r4 : Int32, r4 = (f_X6_transferAt_n B a4) → ((ok_X6_senderOf_n B r4) ∧ (∀ r6 : Int32, r6 = (f_X6_senderOf_n B r4) → ((r6 = a1 → ((ok_X6_receiverOf_n B r4) ∧ (∀ r9 : Int32, r9 = (f_X6_receiverOf_n B r4) → ((r9 = a2 → True) ∧ (¬ r9 = a2 → ((a3 ≤ 1 → (ok_L_leads_1_L3 n B a1 a2 a3 (a4 + 1))) ∧ (¬ a3 ≤ 1 → ((ok_X6_receiverOf_n B r4) ∧ (∀ r13 : Int32, r13 = (f_X6_receiverOf_n B r4) → False))))))))) ∧ (¬ r6 = a1 → (ok_L_leads_1_L3 n B a1 a2 a3 (a4 + 1))))))))))) := hok
    refine x_iload (pc := 3) (i := 4) C 4 dL_leads_3 rfl ?_
    refine x_aload_n (pc := 5) (i := 0) C 0 dL_leads_5 rfl rfl ?_
    refine x_cIV (pc := 6) (as := []) (q := 176) C (c_X6_transferCount C.2.2.2.2.2.2.2.1  B M O ) (fs := _) e_I rfl cv_X6_transferCount cd_X6_transferCount wd_4_119 ⟨Nat.le_of_ble_eq_true rfl, Nat.le_of_ble_eq_true rfl⟩ ⟨Nat.le_of_ble_eq_true rfl, Nat.le_of_ble_eq_true rfl⟩ rfl rfl (Nat.le_of_ble_eq_true rfl) dL_leads_6 ?_
    refine x_nmI (fun r1 er1 => ?_)
    have hR := nmE hR er1
    have hok := hok r1 er1
    refine x_icmp_ge (pc := 9) (tgt := 70) C dL_leads_9 (by decide) (fun c2 => ?_) (fun c2 => ?_)
    · have hR := hR.trans (if_pos c2)
      refine x_iconst (pc := 70) (v := 0) C dL_leads_70 (by decide) ?_
      exact x_zret (pc := 71) C rfl (by decide) hR dL_leads_71
    · have hR := hR.trans (if_neg c2)
      have hok := hok.2 c2
      refine x_aload_n (pc := 12) (i := 0) C 0 dL_leads_12 rfl rfl ?_
      refine x_iload (pc := 13) (i := 4) C 4 dL_leads_13 rfl ?_
      have h3 := hok.1
      have hok := hok.2
      refine x_cIV (pc := 15) (as := [.int a4]) (q := 176) C (c_X6_transferAt_n C.2.2.2.2.2.2.2.1  B M O a4 h3) (fs := _) e_I rfl cv_X6_transferAt cd_X6_transferAt wd_4_123 ⟨Nat.le_of_ble_eq_true rfl, Nat.le_of_ble_eq_true rfl⟩ ⟨Nat.le_of_ble_eq_true rfl, Nat.le_of_ble_eq_true rfl⟩ rfl rfl (Nat.le_of_ble_eq_true rfl) dL_leads_15 ?_
      refine x_nmI (fun r4 er4 => ?_)
      have hR := nmE hR er4
      have hok := hok r4 er4
      refine x_istore (pc := 18) (i := 5) (ls2 := [(5, .int r4), (0, .ref (ad 176)), (1, .int a1), (2, .int a2), (3, .int a3), (4, .int a4)]) C dL_leads_18 (by decide) rfl ?_
      refine x_aload_n (pc := 20) (i := 0) C 1 dL_leads_20 rfl rfl ?_
      refine x_iload (pc := 21) (i := 5) C 0 dL_leads_21 rfl ?_
      have h5 := hok.1
      have hok := hok.2
      refine x_cIV (pc := 23) (as := [.int r4]) (q := 176) C (c_X6_senderOf_n C.2.2.2.2.2.2.2.1  B M O r4 h5) (fs := _) e_I rfl cv_X6_senderOf cd_X6_senderOf wd_6_108 ⟨Nat.le_of_ble_eq_true rfl, Nat.le_of_ble_eq_true rfl⟩ ⟨Nat.le_of_ble_eq_true rfl, Nat.le_of_ble_eq_true rfl⟩ rfl rfl (Nat.le_of_ble_eq_true rfl) dL_leads_23 ?_
      refine x_nmI (fun r6 er6 => ?_)
      have hR := nmE hR er6
      have hok := hok r6 er6
      refine x_iload_n (pc := 26) (i := 1) C 2 dL_leads_26 rfl rfl ?_
      refine x_icmp_ne (pc := 27) (tgt := 64) C dL_leads_27 (by decide) (fun c7 => ?_) (fun c7 => ?_)
      · have hR := hR.trans (if_neg c7)
        have hok := hok.2 c7
        refine x_iinc (pc := 64) (i := 4) (v := (a4 + 1)) (ls2 := [(4, .int (a4 + 1)), (5, .int r4), (0, .ref (ad 176)), (1, .int a1), (2, .int a2), (3, .int a3)]) C 5 dL_leads_64 rfl rfl (by decide) rfl ?_
        refine x_goto (pc := 67) (tgt := 3) C dL_leads_67 (by decide) ?_
        refine x_sub [2, 3, 4, 5, 0] (ls2 := [(0, .ref (ad 176)), (1, .int a1), (2, .int a2), (3, .int a3), (4, .int (a4 + 1))]) rfl ?_
        exact ih B a1 a2 a3 (a4 + 1) R0 hR hok
      · have hR := hR.trans (if_pos c7)
        have hok := hok.1 c7
        refine x_aload_n (pc := 30) (i := 0) C 1 dL_leads_30 rfl rfl ?_
        refine x_iload (pc := 31) (i := 5) C 0 dL_leads_31 rfl ?_
        have h8 := hok.1
        have hok := hok.2
        refine x_cIV (pc := 33) (as := [.int r4]) (q := 176) C (c_X6_receiverOf_n C.2.2.2.2.2.2.2.1  B M O r4 h8) (fs := _) e_I rfl cv_X6_receiverOf cd_X6_receiverOf wd_6_104 ⟨Nat.le_of_ble_eq_true rfl, Nat.le_of_ble_eq_true rfl⟩ ⟨Nat.le_of_ble_eq_true rfl, Nat.le_of_ble_eq_true rfl⟩ rfl rfl (Nat.le_of_ble_eq_true rfl) dL_leads_33 ?_
        refine x_nmI (fun r9 er9 => ?_)
        have hR := nmE hR er9
        have hok := hok r9 er9
        refine x_iload_n (pc := 36) (i := 2) C 3 dL_leads_36 rfl rfl ?_
        refine x_icmp_eq (pc := 37) (tgt := 62) C dL_leads_37 (by decide) (fun c10 => ?_) (fun c10 => ?_)
        · have hR := hR.trans (if_pos c10)
          refine x_iconst (pc := 62) (v := 1) C dL_leads_62 (by decide) ?_
          exact x_zret (pc := 63) C rfl (by decide) hR dL_leads_63
        · have hR := hR.trans (if_neg c10)
          have hok := hok.2 c10
          refine x_iload_n (pc := 40) (i := 3) C 4 dL_leads_40 rfl rfl ?_
          refine x_iconst (pc := 41) (v := 1) C dL_leads_41 (by decide) ?_
          refine x_icmp_le (pc := 42) (tgt := 64) C dL_leads_42 (by decide) (fun c11 => ?_) (fun c11 => ?_)
          · have hR := hR.trans (if_pos c11)
            have hok := hok.1 c11
            refine x_iinc (pc := 64) (i := 4) (v := (a4 + 1)) (ls2 := [(4, .int (a4 + 1)), (5, .int r4), (0, .ref (ad 176)), (1, .int a1), (2, .int a2), (3, .int a3)]) C 5 dL_leads_64 rfl rfl (by decide) rfl ?_
            refine x_goto (pc := 67) (tgt := 3) C dL_leads_67 (by decide) ?_
            refine x_sub [2, 3, 4, 5, 0] (ls2 := [(0, .ref (ad 176)), (1, .int a1), (2, .int a2), (3, .int a3), (4, .int (a4 + 1))]) rfl ?_
            exact ih B a1 a2 a3 (a4 + 1) R0 hR hok
          · have hR := hR.trans (if_neg c11)
            have hok := hok.2 c11
            refine x_aload_n (pc := 45) (i := 0) C 1 dL_leads_45 rfl rfl ?_
            refine x_aload_n (pc := 46) (i := 0) C 1 dL_leads_46 rfl rfl ?_
            refine x_iload (pc := 47) (i := 5) C 0 dL_leads_47 rfl ?_
            have h12 := hok.1
            have hok := hok.2
            refine x_cIV (pc := 49) (as := [.int r4]) (q := 176) C (c_X6_receiverOf_n C.2.2.2.2.2.2.2.1  B M O r4 h12) (fs := _) e_I rfl cv_X6_receiverOf cd_X6_receiverOf wd_6_104 ⟨Nat.le_of_ble_eq_true rfl, Nat.le_of_ble_eq_true rfl⟩ ⟨Nat.le_of_ble_eq_true rfl, Nat.le_of_ble_eq_true rfl⟩ rfl rfl (Nat.le_of_ble_eq_true rfl) dL_leads_49 ?_
            refine x_nmI (fun r13 er13 => ?_)
            have hR := nmE hR er13
            have hok := hok r13 er13
            refine x_iload_n (pc := 52) (i := 2) C 3 dL_leads_52 rfl rfl ?_
            refine x_iload_n (pc := 53) (i := 3) C 4 dL_leads_53 rfl rfl ?_
            refine x_iconst (pc := 54) (v := 1) C dL_leads_54 (by decide) ?_
            refine x_isub (pc := 55) C dL_leads_55 ?_
            exact False.elim hok
set_option maxHeartbeats 4000000 in
set_option maxRecDepth 100000 in
theorem c_L_leads_1 {l : Launch} {A : Nat → Prop} {G : GT} {ad : Nat → Nat} (gl : Gl l A G ad)  (B : StB) (M : StM) (O : StO) (x1 : Int32) (x2 : Int32) (x3 : Int32) (hok : ok_L_leads_1 B x1 x2 x3) : Met l yL_leads (wof yL_leads cL_leads 6 (some .boolean)) (rmd 4 0 0) (va_Pc [.ref (ad 176), .int x1, .int x2, .int x3] (PW G A ad B M O)) (QI G A ad (f_L_leads_1 B x1 x2 x3) B M O) 0 0 A := by
  refine x_body (own := RL) (by decide +kernel) rfl gl (Nat.le_of_ble_eq_true rfl) (ls := [(0, .ref (ad 176)), (1, .int x1), (2, .int x2), (3, .int x3)]) rfl ?_
  intro p0 e s m args below meth c C
  have hR : (f_L_leads_1 B x1 x2 x3) = (f_L_leads_1_L3 20 B x1 x2 x3 0) := rfl
  have hok : (ok_L_leads_1_L3 20 B x1 x2 x3 0) := hok
  refine x_iconst (pc := 0) (v := 0) C dL_leads_0 (by decide) ?_
  refine x_istore (pc := 1) (i := 4) (ls2 := [(4, .int 0), (0, .ref (ad 176)), (1, .int x1), (2, .int x2), (3, .int x3)]) C dL_leads_1 (by decide) rfl ?_
  refine x_sub [1, 2, 3, 4, 0] (ls2 := [(0, .ref (ad 176)), (1, .int x1), (2, .int x2), (3, .int x3), (4, .int 0)]) rfl ?_
  exact t_L_leads_1_L3 C 20 B x1 x2 x3 0 M O _ hR hok
set_option maxHeartbeats 4000000 in
set_option maxRecDepth 100000 in
theorem t_L_leads_2_L3 {p0 : Program} {l : Launch} {e : Env} {s : State} {m : MethodId} {args : Array Value} {below : List Frame} {meth : Method} {c : Code} {A : Nat → Prop} {G : GT} {ad : Nat → Nat} (C : CX p0 l s m args meth c A G ad cL_leads RL 6 (some .boolean))    (n : Nat) (B : StB) (a1 : Int32) (a2 : Int32) (a3 : Int32) (a4 : Int32) (M : StM) (O : StO) : ∀ (R0 : Int32) (hR : R0 = f_L_leads_2_L3 n B a1 a2 a3 a4) (hok : ok_L_leads_2_L3 n B a1 a2 a3 a4), X p0 l e (rmd 5 0 0) s m args below meth c A G ad 6 0 0 (MQ below (QI G A ad R0 B M O) args s 0 0 A) B M O [(0, .ref (ad 176)), (1, .int a1), (2, .int a2), (3, .int a3), (4, .int a4)] 3 [] := by
  induction n generalizing B a1 a2 a3 a4 with
  | zero => intro R0 hR hok; exact False.elim hok
  | succ n ih =>
    intro R0 hR hok
    have hR : R0 = (nm (f_X6_transferCount B) (fun (r1 : Int32) => (if r1 ≤ a4 then 0 else (nm (f_X6_transferAt_n B a4) (fun (r4 : Int32) => (nm (f_X6_senderOf_n B r4) (fun (r6 : Int32) => (if r6 = a1 then (nm (f_X6_receiverOf_n B r4) (fun (r9 : Int32) => (if r9 = a2 then 1 else (if a3 ≤ 1 then (f_L_leads_2_L3 n B a1 a2 a3 (a4 + 1)) else (nm (f_X6_receiverOf_n B r4) (fun (r13 : Int32) => (nm (f_L_leads_1 B r13 a2 (a3 - 1)) (fun (r15 : Int32) => (if r15 = 0 then (f_L_leads_2_L3 n B a1 a2 a3 (a4 + 1)) else 1))))))))) else (f_L_leads_2_L3 n B a1 a2 a3 (a4 + 1)))))))))) := hR
    have hok : (∀ r1 : Int32, r1 = (f_X6_transferCount B) → ((r1 ≤ a4 → True) ∧ (¬ r1 ≤ a4 → ((ok_X6_transferAt_n B a4) ∧ (∀ r4 : Int32, r4 = (f_X6_transferAt_n B a4) → ((ok_X6_senderOf_n B r4) ∧ (∀ r6 : Int32, r6 = (f_X6_senderOf_n B r4) → ((r6 = a1 → ((ok_X6_receiverOf_n B r4) ∧ (∀ r9 : Int32, r9 = (f_X6_receiverOf_n B r4) → ((r9 = a2 → True) ∧ (¬ r9 = a2 → ((a3 ≤ 1 → (ok_L_leads_2_L3 n B a1 a2 a3 (a4 + 1))) ∧ (¬ a3 ≤ 1 → ((ok_X6_receiverOf_n B r4) ∧ (∀ r13 : Int32, r13 = (f_X6_receiverOf_n B r4) → ((ok_L_leads_1 B r13 a2 (a3 - 1)) ∧ (∀ r15 : Int32, r15 = (f_L_leads_1 B r13 a2 (a3 - 1)) → ((r15 = 0 → (ok_L_leads_2_L3 n B a1 a2 a3 (a4 + 1))) ∧ (¬ r15 = 0 → True))))))))))))) ∧ (¬ r6 = a1 → (ok_L_leads_2_L3 n B a1 a2 a3 (a4 + 1))))))))))) := hok
    refine x_iload (pc := 3) (i := 4) C 4 dL_leads_3 rfl ?_
    refine x_aload_n (pc := 5) (i := 0) C 0 dL_leads_5 rfl rfl ?_
    refine x_cIV (pc := 6) (as := []) (q := 176) C (c_X6_transferCount C.2.2.2.2.2.2.2.1  B M O ) (fs := _) e_I rfl cv_X6_transferCount cd_X6_transferCount wd_4_119 ⟨Nat.le_of_ble_eq_true rfl, Nat.le_of_ble_eq_true rfl⟩ ⟨Nat.le_of_ble_eq_true rfl, Nat.le_of_ble_eq_true rfl⟩ rfl rfl (Nat.le_of_ble_eq_true rfl) dL_leads_6 ?_
    refine x_nmI (fun r1 er1 => ?_)
    have hR := nmE hR er1
    have hok := hok r1 er1
    refine x_icmp_ge (pc := 9) (tgt := 70) C dL_leads_9 (by decide) (fun c2 => ?_) (fun c2 => ?_)
    · have hR := hR.trans (if_pos c2)
      refine x_iconst (pc := 70) (v := 0) C dL_leads_70 (by decide) ?_
      exact x_zret (pc := 71) C rfl (by decide) hR dL_leads_71
    · have hR := hR.trans (if_neg c2)
      have hok := hok.2 c2
      refine x_aload_n (pc := 12) (i := 0) C 0 dL_leads_12 rfl rfl ?_
      refine x_iload (pc := 13) (i := 4) C 4 dL_leads_13 rfl ?_
      have h3 := hok.1
      have hok := hok.2
      refine x_cIV (pc := 15) (as := [.int a4]) (q := 176) C (c_X6_transferAt_n C.2.2.2.2.2.2.2.1  B M O a4 h3) (fs := _) e_I rfl cv_X6_transferAt cd_X6_transferAt wd_4_123 ⟨Nat.le_of_ble_eq_true rfl, Nat.le_of_ble_eq_true rfl⟩ ⟨Nat.le_of_ble_eq_true rfl, Nat.le_of_ble_eq_true rfl⟩ rfl rfl (Nat.le_of_ble_eq_true rfl) dL_leads_15 ?_
      refine x_nmI (fun r4 er4 => ?_)
      have hR := nmE hR er4
      have hok := hok r4 er4
      refine x_istore (pc := 18) (i := 5) (ls2 := [(5, .int r4), (0, .ref (ad 176)), (1, .int a1), (2, .int a2), (3, .int a3), (4, .int a4)]) C dL_leads_18 (by decide) rfl ?_
      refine x_aload_n (pc := 20) (i := 0) C 1 dL_leads_20 rfl rfl ?_
      refine x_iload (pc := 21) (i := 5) C 0 dL_leads_21 rfl ?_
      have h5 := hok.1
      have hok := hok.2
      refine x_cIV (pc := 23) (as := [.int r4]) (q := 176) C (c_X6_senderOf_n C.2.2.2.2.2.2.2.1  B M O r4 h5) (fs := _) e_I rfl cv_X6_senderOf cd_X6_senderOf wd_6_108 ⟨Nat.le_of_ble_eq_true rfl, Nat.le_of_ble_eq_true rfl⟩ ⟨Nat.le_of_ble_eq_true rfl, Nat.le_of_ble_eq_true rfl⟩ rfl rfl (Nat.le_of_ble_eq_true rfl) dL_leads_23 ?_
      refine x_nmI (fun r6 er6 => ?_)
      have hR := nmE hR er6
      have hok := hok r6 er6
      refine x_iload_n (pc := 26) (i := 1) C 2 dL_leads_26 rfl rfl ?_
      refine x_icmp_ne (pc := 27) (tgt := 64) C dL_leads_27 (by decide) (fun c7 => ?_) (fun c7 => ?_)
      · have hR := hR.trans (if_neg c7)
        have hok := hok.2 c7
        refine x_iinc (pc := 64) (i := 4) (v := (a4 + 1)) (ls2 := [(4, .int (a4 + 1)), (5, .int r4), (0, .ref (ad 176)), (1, .int a1), (2, .int a2), (3, .int a3)]) C 5 dL_leads_64 rfl rfl (by decide) rfl ?_
        refine x_goto (pc := 67) (tgt := 3) C dL_leads_67 (by decide) ?_
        refine x_sub [2, 3, 4, 5, 0] (ls2 := [(0, .ref (ad 176)), (1, .int a1), (2, .int a2), (3, .int a3), (4, .int (a4 + 1))]) rfl ?_
        exact ih B a1 a2 a3 (a4 + 1) R0 hR hok
      · have hR := hR.trans (if_pos c7)
        have hok := hok.1 c7
        refine x_aload_n (pc := 30) (i := 0) C 1 dL_leads_30 rfl rfl ?_
        refine x_iload (pc := 31) (i := 5) C 0 dL_leads_31 rfl ?_
        have h8 := hok.1
        have hok := hok.2
        refine x_cIV (pc := 33) (as := [.int r4]) (q := 176) C (c_X6_receiverOf_n C.2.2.2.2.2.2.2.1  B M O r4 h8) (fs := _) e_I rfl cv_X6_receiverOf cd_X6_receiverOf wd_6_104 ⟨Nat.le_of_ble_eq_true rfl, Nat.le_of_ble_eq_true rfl⟩ ⟨Nat.le_of_ble_eq_true rfl, Nat.le_of_ble_eq_true rfl⟩ rfl rfl (Nat.le_of_ble_eq_true rfl) dL_leads_33 ?_
        refine x_nmI (fun r9 er9 => ?_)
        have hR := nmE hR er9
        have hok := hok r9 er9
        refine x_iload_n (pc := 36) (i := 2) C 3 dL_leads_36 rfl rfl ?_
        refine x_icmp_eq (pc := 37) (tgt := 62) C dL_leads_37 (by decide) (fun c10 => ?_) (fun c10 => ?_)
        · have hR := hR.trans (if_pos c10)
          refine x_iconst (pc := 62) (v := 1) C dL_leads_62 (by decide) ?_
          exact x_zret (pc := 63) C rfl (by decide) hR dL_leads_63
        · have hR := hR.trans (if_neg c10)
          have hok := hok.2 c10
          refine x_iload_n (pc := 40) (i := 3) C 4 dL_leads_40 rfl rfl ?_
          refine x_iconst (pc := 41) (v := 1) C dL_leads_41 (by decide) ?_
          refine x_icmp_le (pc := 42) (tgt := 64) C dL_leads_42 (by decide) (fun c11 => ?_) (fun c11 => ?_)
          · have hR := hR.trans (if_pos c11)
            have hok := hok.1 c11
            refine x_iinc (pc := 64) (i := 4) (v := (a4 + 1)) (ls2 := [(4, .int (a4 + 1)), (5, .int r4), (0, .ref (ad 176)), (1, .int a1), (2, .int a2), (3, .int a3)]) C 5 dL_leads_64 rfl rfl (by decide) rfl ?_
            refine x_goto (pc := 67) (tgt := 3) C dL_leads_67 (by decide) ?_
            refine x_sub [2, 3, 4, 5, 0] (ls2 := [(0, .ref (ad 176)), (1, .int a1), (2, .int a2), (3, .int a3), (4, .int (a4 + 1))]) rfl ?_
            exact ih B a1 a2 a3 (a4 + 1) R0 hR hok
          · have hR := hR.trans (if_neg c11)
            have hok := hok.2 c11
            refine x_aload_n (pc := 45) (i := 0) C 1 dL_leads_45 rfl rfl ?_
            refine x_aload_n (pc := 46) (i := 0) C 1 dL_leads_46 rfl rfl ?_
            refine x_iload (pc := 47) (i := 5) C 0 dL_leads_47 rfl ?_
            have h12 := hok.1
            have hok := hok.2
            refine x_cIV (pc := 49) (as := [.int r4]) (q := 176) C (c_X6_receiverOf_n C.2.2.2.2.2.2.2.1  B M O r4 h12) (fs := _) e_I rfl cv_X6_receiverOf cd_X6_receiverOf wd_6_104 ⟨Nat.le_of_ble_eq_true rfl, Nat.le_of_ble_eq_true rfl⟩ ⟨Nat.le_of_ble_eq_true rfl, Nat.le_of_ble_eq_true rfl⟩ rfl rfl (Nat.le_of_ble_eq_true rfl) dL_leads_49 ?_
            refine x_nmI (fun r13 er13 => ?_)
            have hR := nmE hR er13
            have hok := hok r13 er13
            refine x_iload_n (pc := 52) (i := 2) C 3 dL_leads_52 rfl rfl ?_
            refine x_iload_n (pc := 53) (i := 3) C 4 dL_leads_53 rfl rfl ?_
            refine x_iconst (pc := 54) (v := 1) C dL_leads_54 (by decide) ?_
            refine x_isub (pc := 55) C dL_leads_55 ?_
            have h14 := hok.1
            have hok := hok.2
            refine x_cIS (pc := 56) (as := [.ref (ad 176), .int r13, .int a2, .int (a3 - 1)]) C (c_L_leads_1 C.2.2.2.2.2.2.2.1  B M O r13 a2 (a3 - 1) h14) wd_6_121 cd_L_leads wd_6_120 ⟨Nat.le_of_ble_eq_true rfl, Nat.le_of_ble_eq_true rfl⟩ ⟨Nat.le_of_ble_eq_true rfl, Nat.le_of_ble_eq_true rfl⟩ rfl rfl (Nat.le_of_ble_eq_true rfl) dL_leads_56 ?_
            refine x_nmI (fun r15 er15 => ?_)
            have hR := nmE hR er15
            have hok := hok r15 er15
            refine x_if_eq (pc := 59) (tgt := 64) C dL_leads_59 (by decide) (fun c16 => ?_) (fun c16 => ?_)
            · have hR := hR.trans (if_pos c16)
              have hok := hok.1 c16
              refine x_iinc (pc := 64) (i := 4) (v := (a4 + 1)) (ls2 := [(4, .int (a4 + 1)), (5, .int r4), (0, .ref (ad 176)), (1, .int a1), (2, .int a2), (3, .int a3)]) C 5 dL_leads_64 rfl rfl (by decide) rfl ?_
              refine x_goto (pc := 67) (tgt := 3) C dL_leads_67 (by decide) ?_
              refine x_sub [2, 3, 4, 5, 0] (ls2 := [(0, .ref (ad 176)), (1, .int a1), (2, .int a2), (3, .int a3), (4, .int (a4 + 1))]) rfl ?_
              exact ih B a1 a2 a3 (a4 + 1) R0 hR hok
            · have hR := hR.trans (if_neg c16)
              refine x_iconst (pc := 62) (v := 1) C dL_leads_62 (by decide) ?_
              exact x_zret (pc := 63) C rfl (by decide) hR dL_leads_63
set_option maxHeartbeats 4000000 in
set_option maxRecDepth 100000 in
theorem c_L_leads_2 {l : Launch} {A : Nat → Prop} {G : GT} {ad : Nat → Nat} (gl : Gl l A G ad)  (B : StB) (M : StM) (O : StO) (x1 : Int32) (x2 : Int32) (x3 : Int32) (hok : ok_L_leads_2 B x1 x2 x3) : Met l yL_leads (wof yL_leads cL_leads 6 (some .boolean)) (rmd 5 0 0) (va_Pc [.ref (ad 176), .int x1, .int x2, .int x3] (PW G A ad B M O)) (QI G A ad (f_L_leads_2 B x1 x2 x3) B M O) 0 0 A := by
  refine x_body (own := RL) (by decide +kernel) rfl gl (Nat.le_of_ble_eq_true rfl) (ls := [(0, .ref (ad 176)), (1, .int x1), (2, .int x2), (3, .int x3)]) rfl ?_
  intro p0 e s m args below meth c C
  have hR : (f_L_leads_2 B x1 x2 x3) = (f_L_leads_2_L3 20 B x1 x2 x3 0) := rfl
  have hok : (ok_L_leads_2_L3 20 B x1 x2 x3 0) := hok
  refine x_iconst (pc := 0) (v := 0) C dL_leads_0 (by decide) ?_
  refine x_istore (pc := 1) (i := 4) (ls2 := [(4, .int 0), (0, .ref (ad 176)), (1, .int x1), (2, .int x2), (3, .int x3)]) C dL_leads_1 (by decide) rfl ?_
  refine x_sub [1, 2, 3, 4, 0] (ls2 := [(0, .ref (ad 176)), (1, .int x1), (2, .int x2), (3, .int x3), (4, .int 0)]) rfl ?_
  exact t_L_leads_2_L3 C 20 B x1 x2 x3 0 M O _ hR hok
set_option maxHeartbeats 4000000 in
set_option maxRecDepth 100000 in
theorem t_L_leads_3_L3 {p0 : Program} {l : Launch} {e : Env} {s : State} {m : MethodId} {args : Array Value} {below : List Frame} {meth : Method} {c : Code} {A : Nat → Prop} {G : GT} {ad : Nat → Nat} (C : CX p0 l s m args meth c A G ad cL_leads RL 6 (some .boolean))    (n : Nat) (B : StB) (a1 : Int32) (a2 : Int32) (a3 : Int32) (a4 : Int32) (M : StM) (O : StO) : ∀ (R0 : Int32) (hR : R0 = f_L_leads_3_L3 n B a1 a2 a3 a4) (hok : ok_L_leads_3_L3 n B a1 a2 a3 a4), X p0 l e (rmd 6 0 0) s m args below meth c A G ad 6 0 0 (MQ below (QI G A ad R0 B M O) args s 0 0 A) B M O [(0, .ref (ad 176)), (1, .int a1), (2, .int a2), (3, .int a3), (4, .int a4)] 3 [] := by
  induction n generalizing B a1 a2 a3 a4 with
  | zero => intro R0 hR hok; exact False.elim hok
  | succ n ih =>
    intro R0 hR hok
    have hR : R0 = (nm (f_X6_transferCount B) (fun (r1 : Int32) => (if r1 ≤ a4 then 0 else (nm (f_X6_transferAt_n B a4) (fun (r4 : Int32) => (nm (f_X6_senderOf_n B r4) (fun (r6 : Int32) => (if r6 = a1 then (nm (f_X6_receiverOf_n B r4) (fun (r9 : Int32) => (if r9 = a2 then 1 else (if a3 ≤ 1 then (f_L_leads_3_L3 n B a1 a2 a3 (a4 + 1)) else (nm (f_X6_receiverOf_n B r4) (fun (r13 : Int32) => (nm (f_L_leads_2 B r13 a2 (a3 - 1)) (fun (r15 : Int32) => (if r15 = 0 then (f_L_leads_3_L3 n B a1 a2 a3 (a4 + 1)) else 1))))))))) else (f_L_leads_3_L3 n B a1 a2 a3 (a4 + 1)))))))))) := hR
    have hok : (∀ r1 : Int32, r1 = (f_X6_transferCount B) → ((r1 ≤ a4 → True) ∧ (¬ r1 ≤ a4 → ((ok_X6_transferAt_n B a4) ∧ (∀ r4 : Int32, r4 = (f_X6_transferAt_n B a4) → ((ok_X6_senderOf_n B r4) ∧ (∀ r6 : Int32, r6 = (f_X6_senderOf_n B r4) → ((r6 = a1 → ((ok_X6_receiverOf_n B r4) ∧ (∀ r9 : Int32, r9 = (f_X6_receiverOf_n B r4) → ((r9 = a2 → True) ∧ (¬ r9 = a2 → ((a3 ≤ 1 → (ok_L_leads_3_L3 n B a1 a2 a3 (a4 + 1))) ∧ (¬ a3 ≤ 1 → ((ok_X6_receiverOf_n B r4) ∧ (∀ r13 : Int32, r13 = (f_X6_receiverOf_n B r4) → ((ok_L_leads_2 B r13 a2 (a3 - 1)) ∧ (∀ r15 : Int32, r15 = (f_L_leads_2 B r13 a2 (a3 - 1)) → ((r15 = 0 → (ok_L_leads_3_L3 n B a1 a2 a3 (a4 + 1))) ∧ (¬ r15 = 0 → True))))))))))))) ∧ (¬ r6 = a1 → (ok_L_leads_3_L3 n B a1 a2 a3 (a4 + 1))))))))))) := hok
    refine x_iload (pc := 3) (i := 4) C 4 dL_leads_3 rfl ?_
    refine x_aload_n (pc := 5) (i := 0) C 0 dL_leads_5 rfl rfl ?_
    refine x_cIV (pc := 6) (as := []) (q := 176) C (c_X6_transferCount C.2.2.2.2.2.2.2.1  B M O ) (fs := _) e_I rfl cv_X6_transferCount cd_X6_transferCount wd_4_119 ⟨Nat.le_of_ble_eq_true rfl, Nat.le_of_ble_eq_true rfl⟩ ⟨Nat.le_of_ble_eq_true rfl, Nat.le_of_ble_eq_true rfl⟩ rfl rfl (Nat.le_of_ble_eq_true rfl) dL_leads_6 ?_
    refine x_nmI (fun r1 er1 => ?_)
    have hR := nmE hR er1
    have hok := hok r1 er1
    refine x_icmp_ge (pc := 9) (tgt := 70) C dL_leads_9 (by decide) (fun c2 => ?_) (fun c2 => ?_)
    · have hR := hR.trans (if_pos c2)
      refine x_iconst (pc := 70) (v := 0) C dL_leads_70 (by decide) ?_
      exact x_zret (pc := 71) C rfl (by decide) hR dL_leads_71
    · have hR := hR.trans (if_neg c2)
      have hok := hok.2 c2
      refine x_aload_n (pc := 12) (i := 0) C 0 dL_leads_12 rfl rfl ?_
      refine x_iload (pc := 13) (i := 4) C 4 dL_leads_13 rfl ?_
      have h3 := hok.1
      have hok := hok.2
      refine x_cIV (pc := 15) (as := [.int a4]) (q := 176) C (c_X6_transferAt_n C.2.2.2.2.2.2.2.1  B M O a4 h3) (fs := _) e_I rfl cv_X6_transferAt cd_X6_transferAt wd_4_123 ⟨Nat.le_of_ble_eq_true rfl, Nat.le_of_ble_eq_true rfl⟩ ⟨Nat.le_of_ble_eq_true rfl, Nat.le_of_ble_eq_true rfl⟩ rfl rfl (Nat.le_of_ble_eq_true rfl) dL_leads_15 ?_
      refine x_nmI (fun r4 er4 => ?_)
      have hR := nmE hR er4
      have hok := hok r4 er4
      refine x_istore (pc := 18) (i := 5) (ls2 := [(5, .int r4), (0, .ref (ad 176)), (1, .int a1), (2, .int a2), (3, .int a3), (4, .int a4)]) C dL_leads_18 (by decide) rfl ?_
      refine x_aload_n (pc := 20) (i := 0) C 1 dL_leads_20 rfl rfl ?_
      refine x_iload (pc := 21) (i := 5) C 0 dL_leads_21 rfl ?_
      have h5 := hok.1
      have hok := hok.2
      refine x_cIV (pc := 23) (as := [.int r4]) (q := 176) C (c_X6_senderOf_n C.2.2.2.2.2.2.2.1  B M O r4 h5) (fs := _) e_I rfl cv_X6_senderOf cd_X6_senderOf wd_6_108 ⟨Nat.le_of_ble_eq_true rfl, Nat.le_of_ble_eq_true rfl⟩ ⟨Nat.le_of_ble_eq_true rfl, Nat.le_of_ble_eq_true rfl⟩ rfl rfl (Nat.le_of_ble_eq_true rfl) dL_leads_23 ?_
      refine x_nmI (fun r6 er6 => ?_)
      have hR := nmE hR er6
      have hok := hok r6 er6
      refine x_iload_n (pc := 26) (i := 1) C 2 dL_leads_26 rfl rfl ?_
      refine x_icmp_ne (pc := 27) (tgt := 64) C dL_leads_27 (by decide) (fun c7 => ?_) (fun c7 => ?_)
      · have hR := hR.trans (if_neg c7)
        have hok := hok.2 c7
        refine x_iinc (pc := 64) (i := 4) (v := (a4 + 1)) (ls2 := [(4, .int (a4 + 1)), (5, .int r4), (0, .ref (ad 176)), (1, .int a1), (2, .int a2), (3, .int a3)]) C 5 dL_leads_64 rfl rfl (by decide) rfl ?_
        refine x_goto (pc := 67) (tgt := 3) C dL_leads_67 (by decide) ?_
        refine x_sub [2, 3, 4, 5, 0] (ls2 := [(0, .ref (ad 176)), (1, .int a1), (2, .int a2), (3, .int a3), (4, .int (a4 + 1))]) rfl ?_
        exact ih B a1 a2 a3 (a4 + 1) R0 hR hok
      · have hR := hR.trans (if_pos c7)
        have hok := hok.1 c7
        refine x_aload_n (pc := 30) (i := 0) C 1 dL_leads_30 rfl rfl ?_
        refine x_iload (pc := 31) (i := 5) C 0 dL_leads_31 rfl ?_
        have h8 := hok.1
        have hok := hok.2
        refine x_cIV (pc := 33) (as := [.int r4]) (q := 176) C (c_X6_receiverOf_n C.2.2.2.2.2.2.2.1  B M O r4 h8) (fs := _) e_I rfl cv_X6_receiverOf cd_X6_receiverOf wd_6_104 ⟨Nat.le_of_ble_eq_true rfl, Nat.le_of_ble_eq_true rfl⟩ ⟨Nat.le_of_ble_eq_true rfl, Nat.le_of_ble_eq_true rfl⟩ rfl rfl (Nat.le_of_ble_eq_true rfl) dL_leads_33 ?_
        refine x_nmI (fun r9 er9 => ?_)
        have hR := nmE hR er9
        have hok := hok r9 er9
        refine x_iload_n (pc := 36) (i := 2) C 3 dL_leads_36 rfl rfl ?_
        refine x_icmp_eq (pc := 37) (tgt := 62) C dL_leads_37 (by decide) (fun c10 => ?_) (fun c10 => ?_)
        · have hR := hR.trans (if_pos c10)
          refine x_iconst (pc := 62) (v := 1) C dL_leads_62 (by decide) ?_
          exact x_zret (pc := 63) C rfl (by decide) hR dL_leads_63
        · have hR := hR.trans (if_neg c10)
          have hok := hok.2 c10
          refine x_iload_n (pc := 40) (i := 3) C 4 dL_leads_40 rfl rfl ?_
          refine x_iconst (pc := 41) (v := 1) C dL_leads_41 (by decide) ?_
          refine x_icmp_le (pc := 42) (tgt := 64) C dL_leads_42 (by decide) (fun c11 => ?_) (fun c11 => ?_)
          · have hR := hR.trans (if_pos c11)
            have hok := hok.1 c11
            refine x_iinc (pc := 64) (i := 4) (v := (a4 + 1)) (ls2 := [(4, .int (a4 + 1)), (5, .int r4), (0, .ref (ad 176)), (1, .int a1), (2, .int a2), (3, .int a3)]) C 5 dL_leads_64 rfl rfl (by decide) rfl ?_
            refine x_goto (pc := 67) (tgt := 3) C dL_leads_67 (by decide) ?_
            refine x_sub [2, 3, 4, 5, 0] (ls2 := [(0, .ref (ad 176)), (1, .int a1), (2, .int a2), (3, .int a3), (4, .int (a4 + 1))]) rfl ?_
            exact ih B a1 a2 a3 (a4 + 1) R0 hR hok
          · have hR := hR.trans (if_neg c11)
            have hok := hok.2 c11
            refine x_aload_n (pc := 45) (i := 0) C 1 dL_leads_45 rfl rfl ?_
            refine x_aload_n (pc := 46) (i := 0) C 1 dL_leads_46 rfl rfl ?_
            refine x_iload (pc := 47) (i := 5) C 0 dL_leads_47 rfl ?_
            have h12 := hok.1
            have hok := hok.2
            refine x_cIV (pc := 49) (as := [.int r4]) (q := 176) C (c_X6_receiverOf_n C.2.2.2.2.2.2.2.1  B M O r4 h12) (fs := _) e_I rfl cv_X6_receiverOf cd_X6_receiverOf wd_6_104 ⟨Nat.le_of_ble_eq_true rfl, Nat.le_of_ble_eq_true rfl⟩ ⟨Nat.le_of_ble_eq_true rfl, Nat.le_of_ble_eq_true rfl⟩ rfl rfl (Nat.le_of_ble_eq_true rfl) dL_leads_49 ?_
            refine x_nmI (fun r13 er13 => ?_)
            have hR := nmE hR er13
            have hok := hok r13 er13
            refine x_iload_n (pc := 52) (i := 2) C 3 dL_leads_52 rfl rfl ?_
            refine x_iload_n (pc := 53) (i := 3) C 4 dL_leads_53 rfl rfl ?_
            refine x_iconst (pc := 54) (v := 1) C dL_leads_54 (by decide) ?_
            refine x_isub (pc := 55) C dL_leads_55 ?_
            have h14 := hok.1
            have hok := hok.2
            refine x_cIS (pc := 56) (as := [.ref (ad 176), .int r13, .int a2, .int (a3 - 1)]) C (c_L_leads_2 C.2.2.2.2.2.2.2.1  B M O r13 a2 (a3 - 1) h14) wd_6_121 cd_L_leads wd_6_120 ⟨Nat.le_of_ble_eq_true rfl, Nat.le_of_ble_eq_true rfl⟩ ⟨Nat.le_of_ble_eq_true rfl, Nat.le_of_ble_eq_true rfl⟩ rfl rfl (Nat.le_of_ble_eq_true rfl) dL_leads_56 ?_
            refine x_nmI (fun r15 er15 => ?_)
            have hR := nmE hR er15
            have hok := hok r15 er15
            refine x_if_eq (pc := 59) (tgt := 64) C dL_leads_59 (by decide) (fun c16 => ?_) (fun c16 => ?_)
            · have hR := hR.trans (if_pos c16)
              have hok := hok.1 c16
              refine x_iinc (pc := 64) (i := 4) (v := (a4 + 1)) (ls2 := [(4, .int (a4 + 1)), (5, .int r4), (0, .ref (ad 176)), (1, .int a1), (2, .int a2), (3, .int a3)]) C 5 dL_leads_64 rfl rfl (by decide) rfl ?_
              refine x_goto (pc := 67) (tgt := 3) C dL_leads_67 (by decide) ?_
              refine x_sub [2, 3, 4, 5, 0] (ls2 := [(0, .ref (ad 176)), (1, .int a1), (2, .int a2), (3, .int a3), (4, .int (a4 + 1))]) rfl ?_
              exact ih B a1 a2 a3 (a4 + 1) R0 hR hok
            · have hR := hR.trans (if_neg c16)
              refine x_iconst (pc := 62) (v := 1) C dL_leads_62 (by decide) ?_
              exact x_zret (pc := 63) C rfl (by decide) hR dL_leads_63
set_option maxHeartbeats 4000000 in
set_option maxRecDepth 100000 in
theorem c_L_leads_3 {l : Launch} {A : Nat → Prop} {G : GT} {ad : Nat → Nat} (gl : Gl l A G ad)  (B : StB) (M : StM) (O : StO) (x1 : Int32) (x2 : Int32) (x3 : Int32) (hok : ok_L_leads_3 B x1 x2 x3) : Met l yL_leads (wof yL_leads cL_leads 6 (some .boolean)) (rmd 6 0 0) (va_Pc [.ref (ad 176), .int x1, .int x2, .int x3] (PW G A ad B M O)) (QI G A ad (f_L_leads_3 B x1 x2 x3) B M O) 0 0 A := by
  refine x_body (own := RL) (by decide +kernel) rfl gl (Nat.le_of_ble_eq_true rfl) (ls := [(0, .ref (ad 176)), (1, .int x1), (2, .int x2), (3, .int x3)]) rfl ?_
  intro p0 e s m args below meth c C
  have hR : (f_L_leads_3 B x1 x2 x3) = (f_L_leads_3_L3 20 B x1 x2 x3 0) := rfl
  have hok : (ok_L_leads_3_L3 20 B x1 x2 x3 0) := hok
  refine x_iconst (pc := 0) (v := 0) C dL_leads_0 (by decide) ?_
  refine x_istore (pc := 1) (i := 4) (ls2 := [(4, .int 0), (0, .ref (ad 176)), (1, .int x1), (2, .int x2), (3, .int x3)]) C dL_leads_1 (by decide) rfl ?_
  refine x_sub [1, 2, 3, 4, 0] (ls2 := [(0, .ref (ad 176)), (1, .int x1), (2, .int x2), (3, .int x3), (4, .int 0)]) rfl ?_
  exact t_L_leads_3_L3 C 20 B x1 x2 x3 0 M O _ hR hok
set_option maxHeartbeats 4000000 in
set_option maxRecDepth 100000 in
theorem t_L_leads_4_L3 {p0 : Program} {l : Launch} {e : Env} {s : State} {m : MethodId} {args : Array Value} {below : List Frame} {meth : Method} {c : Code} {A : Nat → Prop} {G : GT} {ad : Nat → Nat} (C : CX p0 l s m args meth c A G ad cL_leads RL 6 (some .boolean))    (n : Nat) (B : StB) (a1 : Int32) (a2 : Int32) (a3 : Int32) (a4 : Int32) (M : StM) (O : StO) : ∀ (R0 : Int32) (hR : R0 = f_L_leads_4_L3 n B a1 a2 a3 a4) (hok : ok_L_leads_4_L3 n B a1 a2 a3 a4), X p0 l e (rmd 7 0 0) s m args below meth c A G ad 6 0 0 (MQ below (QI G A ad R0 B M O) args s 0 0 A) B M O [(0, .ref (ad 176)), (1, .int a1), (2, .int a2), (3, .int a3), (4, .int a4)] 3 [] := by
  induction n generalizing B a1 a2 a3 a4 with
  | zero => intro R0 hR hok; exact False.elim hok
  | succ n ih =>
    intro R0 hR hok
    have hR : R0 = (nm (f_X6_transferCount B) (fun (r1 : Int32) => (if r1 ≤ a4 then 0 else (nm (f_X6_transferAt_n B a4) (fun (r4 : Int32) => (nm (f_X6_senderOf_n B r4) (fun (r6 : Int32) => (if r6 = a1 then (nm (f_X6_receiverOf_n B r4) (fun (r9 : Int32) => (if r9 = a2 then 1 else (if a3 ≤ 1 then (f_L_leads_4_L3 n B a1 a2 a3 (a4 + 1)) else (nm (f_X6_receiverOf_n B r4) (fun (r13 : Int32) => (nm (f_L_leads_3 B r13 a2 (a3 - 1)) (fun (r15 : Int32) => (if r15 = 0 then (f_L_leads_4_L3 n B a1 a2 a3 (a4 + 1)) else 1))))))))) else (f_L_leads_4_L3 n B a1 a2 a3 (a4 + 1)))))))))) := hR
    have hok : (∀ r1 : Int32, r1 = (f_X6_transferCount B) → ((r1 ≤ a4 → True) ∧ (¬ r1 ≤ a4 → ((ok_X6_transferAt_n B a4) ∧ (∀ r4 : Int32, r4 = (f_X6_transferAt_n B a4) → ((ok_X6_senderOf_n B r4) ∧ (∀ r6 : Int32, r6 = (f_X6_senderOf_n B r4) → ((r6 = a1 → ((ok_X6_receiverOf_n B r4) ∧ (∀ r9 : Int32, r9 = (f_X6_receiverOf_n B r4) → ((r9 = a2 → True) ∧ (¬ r9 = a2 → ((a3 ≤ 1 → (ok_L_leads_4_L3 n B a1 a2 a3 (a4 + 1))) ∧ (¬ a3 ≤ 1 → ((ok_X6_receiverOf_n B r4) ∧ (∀ r13 : Int32, r13 = (f_X6_receiverOf_n B r4) → ((ok_L_leads_3 B r13 a2 (a3 - 1)) ∧ (∀ r15 : Int32, r15 = (f_L_leads_3 B r13 a2 (a3 - 1)) → ((r15 = 0 → (ok_L_leads_4_L3 n B a1 a2 a3 (a4 + 1))) ∧ (¬ r15 = 0 → True))))))))))))) ∧ (¬ r6 = a1 → (ok_L_leads_4_L3 n B a1 a2 a3 (a4 + 1))))))))))) := hok
    refine x_iload (pc := 3) (i := 4) C 4 dL_leads_3 rfl ?_
    refine x_aload_n (pc := 5) (i := 0) C 0 dL_leads_5 rfl rfl ?_
    refine x_cIV (pc := 6) (as := []) (q := 176) C (c_X6_transferCount C.2.2.2.2.2.2.2.1  B M O ) (fs := _) e_I rfl cv_X6_transferCount cd_X6_transferCount wd_4_119 ⟨Nat.le_of_ble_eq_true rfl, Nat.le_of_ble_eq_true rfl⟩ ⟨Nat.le_of_ble_eq_true rfl, Nat.le_of_ble_eq_true rfl⟩ rfl rfl (Nat.le_of_ble_eq_true rfl) dL_leads_6 ?_
    refine x_nmI (fun r1 er1 => ?_)
    have hR := nmE hR er1
    have hok := hok r1 er1
    refine x_icmp_ge (pc := 9) (tgt := 70) C dL_leads_9 (by decide) (fun c2 => ?_) (fun c2 => ?_)
    · have hR := hR.trans (if_pos c2)
      refine x_iconst (pc := 70) (v := 0) C dL_leads_70 (by decide) ?_
      exact x_zret (pc := 71) C rfl (by decide) hR dL_leads_71
    · have hR := hR.trans (if_neg c2)
      have hok := hok.2 c2
      refine x_aload_n (pc := 12) (i := 0) C 0 dL_leads_12 rfl rfl ?_
      refine x_iload (pc := 13) (i := 4) C 4 dL_leads_13 rfl ?_
      have h3 := hok.1
      have hok := hok.2
      refine x_cIV (pc := 15) (as := [.int a4]) (q := 176) C (c_X6_transferAt_n C.2.2.2.2.2.2.2.1  B M O a4 h3) (fs := _) e_I rfl cv_X6_transferAt cd_X6_transferAt wd_4_123 ⟨Nat.le_of_ble_eq_true rfl, Nat.le_of_ble_eq_true rfl⟩ ⟨Nat.le_of_ble_eq_true rfl, Nat.le_of_ble_eq_true rfl⟩ rfl rfl (Nat.le_of_ble_eq_true rfl) dL_leads_15 ?_
      refine x_nmI (fun r4 er4 => ?_)
      have hR := nmE hR er4
      have hok := hok r4 er4
      refine x_istore (pc := 18) (i := 5) (ls2 := [(5, .int r4), (0, .ref (ad 176)), (1, .int a1), (2, .int a2), (3, .int a3), (4, .int a4)]) C dL_leads_18 (by decide) rfl ?_
      refine x_aload_n (pc := 20) (i := 0) C 1 dL_leads_20 rfl rfl ?_
      refine x_iload (pc := 21) (i := 5) C 0 dL_leads_21 rfl ?_
      have h5 := hok.1
      have hok := hok.2
      refine x_cIV (pc := 23) (as := [.int r4]) (q := 176) C (c_X6_senderOf_n C.2.2.2.2.2.2.2.1  B M O r4 h5) (fs := _) e_I rfl cv_X6_senderOf cd_X6_senderOf wd_6_108 ⟨Nat.le_of_ble_eq_true rfl, Nat.le_of_ble_eq_true rfl⟩ ⟨Nat.le_of_ble_eq_true rfl, Nat.le_of_ble_eq_true rfl⟩ rfl rfl (Nat.le_of_ble_eq_true rfl) dL_leads_23 ?_
      refine x_nmI (fun r6 er6 => ?_)
      have hR := nmE hR er6
      have hok := hok r6 er6
      refine x_iload_n (pc := 26) (i := 1) C 2 dL_leads_26 rfl rfl ?_
      refine x_icmp_ne (pc := 27) (tgt := 64) C dL_leads_27 (by decide) (fun c7 => ?_) (fun c7 => ?_)
      · have hR := hR.trans (if_neg c7)
        have hok := hok.2 c7
        refine x_iinc (pc := 64) (i := 4) (v := (a4 + 1)) (ls2 := [(4, .int (a4 + 1)), (5, .int r4), (0, .ref (ad 176)), (1, .int a1), (2, .int a2), (3, .int a3)]) C 5 dL_leads_64 rfl rfl (by decide) rfl ?_
        refine x_goto (pc := 67) (tgt := 3) C dL_leads_67 (by decide) ?_
        refine x_sub [2, 3, 4, 5, 0] (ls2 := [(0, .ref (ad 176)), (1, .int a1), (2, .int a2), (3, .int a3), (4, .int (a4 + 1))]) rfl ?_
        exact ih B a1 a2 a3 (a4 + 1) R0 hR hok
      · have hR := hR.trans (if_pos c7)
        have hok := hok.1 c7
        refine x_aload_n (pc := 30) (i := 0) C 1 dL_leads_30 rfl rfl ?_
        refine x_iload (pc := 31) (i := 5) C 0 dL_leads_31 rfl ?_
        have h8 := hok.1
        have hok := hok.2
        refine x_cIV (pc := 33) (as := [.int r4]) (q := 176) C (c_X6_receiverOf_n C.2.2.2.2.2.2.2.1  B M O r4 h8) (fs := _) e_I rfl cv_X6_receiverOf cd_X6_receiverOf wd_6_104 ⟨Nat.le_of_ble_eq_true rfl, Nat.le_of_ble_eq_true rfl⟩ ⟨Nat.le_of_ble_eq_true rfl, Nat.le_of_ble_eq_true rfl⟩ rfl rfl (Nat.le_of_ble_eq_true rfl) dL_leads_33 ?_
        refine x_nmI (fun r9 er9 => ?_)
        have hR := nmE hR er9
        have hok := hok r9 er9
        refine x_iload_n (pc := 36) (i := 2) C 3 dL_leads_36 rfl rfl ?_
        refine x_icmp_eq (pc := 37) (tgt := 62) C dL_leads_37 (by decide) (fun c10 => ?_) (fun c10 => ?_)
        · have hR := hR.trans (if_pos c10)
          refine x_iconst (pc := 62) (v := 1) C dL_leads_62 (by decide) ?_
          exact x_zret (pc := 63) C rfl (by decide) hR dL_leads_63
        · have hR := hR.trans (if_neg c10)
          have hok := hok.2 c10
          refine x_iload_n (pc := 40) (i := 3) C 4 dL_leads_40 rfl rfl ?_
          refine x_iconst (pc := 41) (v := 1) C dL_leads_41 (by decide) ?_
          refine x_icmp_le (pc := 42) (tgt := 64) C dL_leads_42 (by decide) (fun c11 => ?_) (fun c11 => ?_)
          · have hR := hR.trans (if_pos c11)
            have hok := hok.1 c11
            refine x_iinc (pc := 64) (i := 4) (v := (a4 + 1)) (ls2 := [(4, .int (a4 + 1)), (5, .int r4), (0, .ref (ad 176)), (1, .int a1), (2, .int a2), (3, .int a3)]) C 5 dL_leads_64 rfl rfl (by decide) rfl ?_
            refine x_goto (pc := 67) (tgt := 3) C dL_leads_67 (by decide) ?_
            refine x_sub [2, 3, 4, 5, 0] (ls2 := [(0, .ref (ad 176)), (1, .int a1), (2, .int a2), (3, .int a3), (4, .int (a4 + 1))]) rfl ?_
            exact ih B a1 a2 a3 (a4 + 1) R0 hR hok
          · have hR := hR.trans (if_neg c11)
            have hok := hok.2 c11
            refine x_aload_n (pc := 45) (i := 0) C 1 dL_leads_45 rfl rfl ?_
            refine x_aload_n (pc := 46) (i := 0) C 1 dL_leads_46 rfl rfl ?_
            refine x_iload (pc := 47) (i := 5) C 0 dL_leads_47 rfl ?_
            have h12 := hok.1
            have hok := hok.2
            refine x_cIV (pc := 49) (as := [.int r4]) (q := 176) C (c_X6_receiverOf_n C.2.2.2.2.2.2.2.1  B M O r4 h12) (fs := _) e_I rfl cv_X6_receiverOf cd_X6_receiverOf wd_6_104 ⟨Nat.le_of_ble_eq_true rfl, Nat.le_of_ble_eq_true rfl⟩ ⟨Nat.le_of_ble_eq_true rfl, Nat.le_of_ble_eq_true rfl⟩ rfl rfl (Nat.le_of_ble_eq_true rfl) dL_leads_49 ?_
            refine x_nmI (fun r13 er13 => ?_)
            have hR := nmE hR er13
            have hok := hok r13 er13
            refine x_iload_n (pc := 52) (i := 2) C 3 dL_leads_52 rfl rfl ?_
            refine x_iload_n (pc := 53) (i := 3) C 4 dL_leads_53 rfl rfl ?_
            refine x_iconst (pc := 54) (v := 1) C dL_leads_54 (by decide) ?_
            refine x_isub (pc := 55) C dL_leads_55 ?_
            have h14 := hok.1
            have hok := hok.2
            refine x_cIS (pc := 56) (as := [.ref (ad 176), .int r13, .int a2, .int (a3 - 1)]) C (c_L_leads_3 C.2.2.2.2.2.2.2.1  B M O r13 a2 (a3 - 1) h14) wd_6_121 cd_L_leads wd_6_120 ⟨Nat.le_of_ble_eq_true rfl, Nat.le_of_ble_eq_true rfl⟩ ⟨Nat.le_of_ble_eq_true rfl, Nat.le_of_ble_eq_true rfl⟩ rfl rfl (Nat.le_of_ble_eq_true rfl) dL_leads_56 ?_
            refine x_nmI (fun r15 er15 => ?_)
            have hR := nmE hR er15
            have hok := hok r15 er15
            refine x_if_eq (pc := 59) (tgt := 64) C dL_leads_59 (by decide) (fun c16 => ?_) (fun c16 => ?_)
            · have hR := hR.trans (if_pos c16)
              have hok := hok.1 c16
              refine x_iinc (pc := 64) (i := 4) (v := (a4 + 1)) (ls2 := [(4, .int (a4 + 1)), (5, .int r4), (0, .ref (ad 176)), (1, .int a1), (2, .int a2), (3, .int a3)]) C 5 dL_leads_64 rfl rfl (by decide) rfl ?_
              refine x_goto (pc := 67) (tgt := 3) C dL_leads_67 (by decide) ?_
              refine x_sub [2, 3, 4, 5, 0] (ls2 := [(0, .ref (ad 176)), (1, .int a1), (2, .int a2), (3, .int a3), (4, .int (a4 + 1))]) rfl ?_
              exact ih B a1 a2 a3 (a4 + 1) R0 hR hok
            · have hR := hR.trans (if_neg c16)
              refine x_iconst (pc := 62) (v := 1) C dL_leads_62 (by decide) ?_
              exact x_zret (pc := 63) C rfl (by decide) hR dL_leads_63
set_option maxHeartbeats 4000000 in
set_option maxRecDepth 100000 in
theorem c_L_leads_4 {l : Launch} {A : Nat → Prop} {G : GT} {ad : Nat → Nat} (gl : Gl l A G ad)  (B : StB) (M : StM) (O : StO) (x1 : Int32) (x2 : Int32) (x3 : Int32) (hok : ok_L_leads_4 B x1 x2 x3) : Met l yL_leads (wof yL_leads cL_leads 6 (some .boolean)) (rmd 7 0 0) (va_Pc [.ref (ad 176), .int x1, .int x2, .int x3] (PW G A ad B M O)) (QI G A ad (f_L_leads_4 B x1 x2 x3) B M O) 0 0 A := by
  refine x_body (own := RL) (by decide +kernel) rfl gl (Nat.le_of_ble_eq_true rfl) (ls := [(0, .ref (ad 176)), (1, .int x1), (2, .int x2), (3, .int x3)]) rfl ?_
  intro p0 e s m args below meth c C
  have hR : (f_L_leads_4 B x1 x2 x3) = (f_L_leads_4_L3 20 B x1 x2 x3 0) := rfl
  have hok : (ok_L_leads_4_L3 20 B x1 x2 x3 0) := hok
  refine x_iconst (pc := 0) (v := 0) C dL_leads_0 (by decide) ?_
  refine x_istore (pc := 1) (i := 4) (ls2 := [(4, .int 0), (0, .ref (ad 176)), (1, .int x1), (2, .int x2), (3, .int x3)]) C dL_leads_1 (by decide) rfl ?_
  refine x_sub [1, 2, 3, 4, 0] (ls2 := [(0, .ref (ad 176)), (1, .int x1), (2, .int x2), (3, .int x3), (4, .int 0)]) rfl ?_
  exact t_L_leads_4_L3 C 20 B x1 x2 x3 0 M O _ hR hok
set_option maxHeartbeats 4000000 in
set_option maxRecDepth 100000 in
theorem c_L_plain {l : Launch} {A : Nat → Prop} {G : GT} {ad : Nat → Nat} (gl : Gl l A G ad)  (B : StB) (M : StM) (O : StO) (x1 : Int32) (x2 : Int32) (x3 : Int32) (x4 : Int32) (x5 : Int32) (hok : ok_L_plain B x1 x2 x3 x4 x5) : TMet l yL_plain (wof yL_plain cL_plain 6 (some .int)) (rmd 18 4 24) [.ref (ad 176), .int x1, .int x2, .int x3, .int x4, .int x5] G A ad B M O (f_L_plain B x1 x2 x3 x4 x5) 4 24 := by
  refine xt_body (own := RL) (by decide +kernel) rfl gl (Nat.le_of_ble_eq_true rfl) (ls := [(0, .ref (ad 176)), (1, .int x1), (2, .int x2), (3, .int x3), (4, .int x4), (5, .int x5)]) rfl ?_
  intro p0 e s m args below meth c hE C
  have hR : (f_L_plain B x1 x2 x3 x4 x5) = (if x1 = 0 then (nm (f_X6_open B x2) (fun (z2 : Nat × Int32 × StB) => (if z2.1 = 0 then (0, z2.2.1, z2.2.2) else (z2.1, 0, z2.2.2)))) else (if x1 = 1 then (nm (f_X6_deposit B x2 x3) (fun (z4 : Nat × Int32 × StB) => (if z4.1 = 0 then (0, z4.2.1, z4.2.2) else (z4.1, 0, z4.2.2)))) else (if x1 = 2 then (nm (f_X6_withdraw B x2 x3) (fun (z6 : Nat × Int32 × StB) => (if z6.1 = 0 then (0, z6.2.1, z6.2.2) else (z6.1, 0, z6.2.2)))) else (if x1 = 3 then (nm (f_X6_setLimit B x2 x3) (fun (z8 : Nat × Int32 × StB) => (if z8.1 = 0 then (0, z8.2.1, z8.2.2) else (z8.1, 0, z8.2.2)))) else (if x1 = 4 then (nm (f_X6_seal B x2 x3 x4 x5) (fun (z10 : Nat × Int32 × StB) => (if z10.1 = 0 then (0, z10.2.1, z10.2.2) else (z10.1, 0, z10.2.2)))) else (if x1 = 5 then (nm (f_X6_cancel B x2) (fun (z12 : Nat × Int32 × StB) => (if z12.1 = 0 then (0, z12.2.1, z12.2.2) else (z12.1, 0, z12.2.2)))) else (if x1 = 6 then (nm (f_X6_endDays B x2) (fun (z14 : Nat × Int32 × StB) => (if z14.1 = 0 then (0, z14.2.1, z14.2.2) else (z14.1, 0, z14.2.2)))) else (0, 0, B)))))))) := rfl
  have hok : ((x1 = 0 → ((ok_X6_open B x2))) ∧ (¬ x1 = 0 → ((x1 = 1 → ((ok_X6_deposit B x2 x3))) ∧ (¬ x1 = 1 → ((x1 = 2 → ((ok_X6_withdraw B x2 x3))) ∧ (¬ x1 = 2 → ((x1 = 3 → ((ok_X6_setLimit B x2 x3))) ∧ (¬ x1 = 3 → ((x1 = 4 → ((ok_X6_seal B x2 x3 x4 x5))) ∧ (¬ x1 = 4 → ((x1 = 5 → ((ok_X6_cancel B x2))) ∧ (¬ x1 = 5 → ((x1 = 6 → ((ok_X6_endDays B x2))) ∧ (¬ x1 = 6 → False)))))))))))))) := hok
  refine x_iload_n (pc := 0) (i := 1) C 1 dL_plain_0 rfl rfl ?_
  by_cases c15_0 : x1 = 0
  · have hR := hR.trans (if_pos c15_0)
    have hok := hok.1 c15_0
    refine x_tabIn (pc := 1) (tgt := 44) (off := 43) C dL_plain_1 c15_0 (by decide) (by decide) (by decide) (by decide) ?_
    refine x_aload_n (pc := 44) (i := 0) C 0 dL_plain_44 rfl rfl ?_
    refine x_iload_n (pc := 45) (i := 2) C 2 dL_plain_45 rfl rfl ?_
    have h1 := hok
    refine xt_cIV (pc := 46) (as := [.int x2]) (q := 176) C hE (c_X6_open C.2.2.2.2.2.2.2.1  B M O x2 h1) (fs := _) e_I rfl cv_X6_open cd_X6_open wd_2_166 ⟨Nat.le_of_ble_eq_true rfl, Nat.le_of_ble_eq_true rfl⟩ ⟨Nat.le_of_ble_eq_true rfl, Nat.le_of_ble_eq_true rfl⟩ ⟨Nat.le_of_ble_eq_true rfl, Nat.le_of_ble_eq_true rfl⟩ rfl rfl (Nat.le_of_ble_eq_true rfl) dL_plain_46 (fun z2 ez2 hz => (nmE hR ez2).trans (if_neg hz)) (fun z2 ez2 hzz2 => ?_)
    have hR := (nmE hR ez2).trans (if_pos hzz2)
    exact xt_zret (pc := 49) C rfl rfl hR (Nat.le_of_ble_eq_true rfl) (Nat.le_of_ble_eq_true rfl) dL_plain_49
  have hR := hR.trans (if_neg c15_0)
  have hok := hok.2 c15_0
  by_cases c15_1 : x1 = 1
  · have hR := hR.trans (if_pos c15_1)
    have hok := hok.1 c15_1
    refine x_tabIn (pc := 1) (tgt := 50) (off := 49) C dL_plain_1 c15_1 (by decide) (by decide) (by decide) (by decide) ?_
    refine x_aload_n (pc := 50) (i := 0) C 0 dL_plain_50 rfl rfl ?_
    refine x_iload_n (pc := 51) (i := 2) C 2 dL_plain_51 rfl rfl ?_
    refine x_iload_n (pc := 52) (i := 3) C 3 dL_plain_52 rfl rfl ?_
    have h3 := hok
    refine xt_cIV (pc := 53) (as := [.int x2, .int x3]) (q := 176) C hE (c_X6_deposit C.2.2.2.2.2.2.2.1  B M O x2 x3 h3) (fs := _) e_I rfl cv_X6_deposit cd_X6_deposit wd_3_55 ⟨Nat.le_of_ble_eq_true rfl, Nat.le_of_ble_eq_true rfl⟩ ⟨Nat.le_of_ble_eq_true rfl, Nat.le_of_ble_eq_true rfl⟩ ⟨Nat.le_of_ble_eq_true rfl, Nat.le_of_ble_eq_true rfl⟩ rfl rfl (Nat.le_of_ble_eq_true rfl) dL_plain_53 (fun z4 ez4 hz => (nmE hR ez4).trans (if_neg hz)) (fun z4 ez4 hzz4 => ?_)
    have hR := (nmE hR ez4).trans (if_pos hzz4)
    exact xt_zret (pc := 56) C rfl rfl hR (Nat.le_of_ble_eq_true rfl) (Nat.le_of_ble_eq_true rfl) dL_plain_56
  have hR := hR.trans (if_neg c15_1)
  have hok := hok.2 c15_1
  by_cases c15_2 : x1 = 2
  · have hR := hR.trans (if_pos c15_2)
    have hok := hok.1 c15_2
    refine x_tabIn (pc := 1) (tgt := 57) (off := 56) C dL_plain_1 c15_2 (by decide) (by decide) (by decide) (by decide) ?_
    refine x_aload_n (pc := 57) (i := 0) C 0 dL_plain_57 rfl rfl ?_
    refine x_iload_n (pc := 58) (i := 2) C 2 dL_plain_58 rfl rfl ?_
    refine x_iload_n (pc := 59) (i := 3) C 3 dL_plain_59 rfl rfl ?_
    have h5 := hok
    refine xt_cIV (pc := 60) (as := [.int x2, .int x3]) (q := 176) C hE (c_X6_withdraw C.2.2.2.2.2.2.2.1  B M O x2 x3 h5) (fs := _) e_I rfl cv_X6_withdraw cd_X6_withdraw wd_3_81 ⟨Nat.le_of_ble_eq_true rfl, Nat.le_of_ble_eq_true rfl⟩ ⟨Nat.le_of_ble_eq_true rfl, Nat.le_of_ble_eq_true rfl⟩ ⟨Nat.le_of_ble_eq_true rfl, Nat.le_of_ble_eq_true rfl⟩ rfl rfl (Nat.le_of_ble_eq_true rfl) dL_plain_60 (fun z6 ez6 hz => (nmE hR ez6).trans (if_neg hz)) (fun z6 ez6 hzz6 => ?_)
    have hR := (nmE hR ez6).trans (if_pos hzz6)
    exact xt_zret (pc := 63) C rfl rfl hR (Nat.le_of_ble_eq_true rfl) (Nat.le_of_ble_eq_true rfl) dL_plain_63
  have hR := hR.trans (if_neg c15_2)
  have hok := hok.2 c15_2
  by_cases c15_3 : x1 = 3
  · have hR := hR.trans (if_pos c15_3)
    have hok := hok.1 c15_3
    refine x_tabIn (pc := 1) (tgt := 64) (off := 63) C dL_plain_1 c15_3 (by decide) (by decide) (by decide) (by decide) ?_
    refine x_aload_n (pc := 64) (i := 0) C 0 dL_plain_64 rfl rfl ?_
    refine x_iload_n (pc := 65) (i := 2) C 2 dL_plain_65 rfl rfl ?_
    refine x_iload_n (pc := 66) (i := 3) C 3 dL_plain_66 rfl rfl ?_
    have h7 := hok
    refine xt_cIV (pc := 67) (as := [.int x2, .int x3]) (q := 176) C hE (c_X6_setLimit C.2.2.2.2.2.2.2.1  B M O x2 x3 h7) (fs := _) e_I rfl cv_X6_setLimit cd_X6_setLimit wd_3_97 ⟨Nat.le_of_ble_eq_true rfl, Nat.le_of_ble_eq_true rfl⟩ ⟨Nat.le_of_ble_eq_true rfl, Nat.le_of_ble_eq_true rfl⟩ ⟨Nat.le_of_ble_eq_true rfl, Nat.le_of_ble_eq_true rfl⟩ rfl rfl (Nat.le_of_ble_eq_true rfl) dL_plain_67 (fun z8 ez8 hz => (nmE hR ez8).trans (if_neg hz)) (fun z8 ez8 hzz8 => ?_)
    have hR := (nmE hR ez8).trans (if_pos hzz8)
    exact xt_zret (pc := 70) C rfl rfl hR (Nat.le_of_ble_eq_true rfl) (Nat.le_of_ble_eq_true rfl) dL_plain_70
  have hR := hR.trans (if_neg c15_3)
  have hok := hok.2 c15_3
  by_cases c15_4 : x1 = 4
  · have hR := hR.trans (if_pos c15_4)
    have hok := hok.1 c15_4
    refine x_tabIn (pc := 1) (tgt := 71) (off := 70) C dL_plain_1 c15_4 (by decide) (by decide) (by decide) (by decide) ?_
    refine x_aload_n (pc := 71) (i := 0) C 0 dL_plain_71 rfl rfl ?_
    refine x_iload_n (pc := 72) (i := 2) C 2 dL_plain_72 rfl rfl ?_
    refine x_iload_n (pc := 73) (i := 3) C 3 dL_plain_73 rfl rfl ?_
    refine x_iload (pc := 74) (i := 4) C 4 dL_plain_74 rfl ?_
    refine x_iload (pc := 76) (i := 5) C 5 dL_plain_76 rfl ?_
    have h9 := hok
    refine xt_cIV (pc := 78) (as := [.int x2, .int x3, .int x4, .int x5]) (q := 176) C hE (c_X6_seal C.2.2.2.2.2.2.2.1  B M O x2 x3 x4 x5 h9) (fs := _) e_I rfl cv_X6_seal cd_X6_seal wd_3_109 ⟨Nat.le_of_ble_eq_true rfl, Nat.le_of_ble_eq_true rfl⟩ ⟨Nat.le_of_ble_eq_true rfl, Nat.le_of_ble_eq_true rfl⟩ ⟨Nat.le_of_ble_eq_true rfl, Nat.le_of_ble_eq_true rfl⟩ rfl rfl (Nat.le_of_ble_eq_true rfl) dL_plain_78 (fun z10 ez10 hz => (nmE hR ez10).trans (if_neg hz)) (fun z10 ez10 hzz10 => ?_)
    have hR := (nmE hR ez10).trans (if_pos hzz10)
    exact xt_zret (pc := 81) C rfl rfl hR (Nat.le_of_ble_eq_true rfl) (Nat.le_of_ble_eq_true rfl) dL_plain_81
  have hR := hR.trans (if_neg c15_4)
  have hok := hok.2 c15_4
  by_cases c15_5 : x1 = 5
  · have hR := hR.trans (if_pos c15_5)
    have hok := hok.1 c15_5
    refine x_tabIn (pc := 1) (tgt := 82) (off := 81) C dL_plain_1 c15_5 (by decide) (by decide) (by decide) (by decide) ?_
    refine x_aload_n (pc := 82) (i := 0) C 0 dL_plain_82 rfl rfl ?_
    refine x_iload_n (pc := 83) (i := 2) C 2 dL_plain_83 rfl rfl ?_
    have h11 := hok
    refine xt_cIV (pc := 84) (as := [.int x2]) (q := 176) C hE (c_X6_cancel C.2.2.2.2.2.2.2.1  B M O x2 h11) (fs := _) e_I rfl cv_X6_cancel cd_X6_cancel wd_3_121 ⟨Nat.le_of_ble_eq_true rfl, Nat.le_of_ble_eq_true rfl⟩ ⟨Nat.le_of_ble_eq_true rfl, Nat.le_of_ble_eq_true rfl⟩ ⟨Nat.le_of_ble_eq_true rfl, Nat.le_of_ble_eq_true rfl⟩ rfl rfl (Nat.le_of_ble_eq_true rfl) dL_plain_84 (fun z12 ez12 hz => (nmE hR ez12).trans (if_neg hz)) (fun z12 ez12 hzz12 => ?_)
    have hR := (nmE hR ez12).trans (if_pos hzz12)
    exact xt_zret (pc := 87) C rfl rfl hR (Nat.le_of_ble_eq_true rfl) (Nat.le_of_ble_eq_true rfl) dL_plain_87
  have hR := hR.trans (if_neg c15_5)
  have hok := hok.2 c15_5
  by_cases c15_6 : x1 = 6
  · have hR := hR.trans (if_pos c15_6)
    have hok := hok.1 c15_6
    refine x_tabIn (pc := 1) (tgt := 88) (off := 87) C dL_plain_1 c15_6 (by decide) (by decide) (by decide) (by decide) ?_
    refine x_aload_n (pc := 88) (i := 0) C 0 dL_plain_88 rfl rfl ?_
    refine x_iload_n (pc := 89) (i := 2) C 2 dL_plain_89 rfl rfl ?_
    have h13 := hok
    refine xt_cIV (pc := 90) (as := [.int x2]) (q := 176) C hE (c_X6_endDays C.2.2.2.2.2.2.2.1  B M O x2 h13) (fs := _) e_I rfl cv_X6_endDays cd_X6_endDays wd_3_137 ⟨Nat.le_of_ble_eq_true rfl, Nat.le_of_ble_eq_true rfl⟩ ⟨Nat.le_of_ble_eq_true rfl, Nat.le_of_ble_eq_true rfl⟩ ⟨Nat.le_of_ble_eq_true rfl, Nat.le_of_ble_eq_true rfl⟩ rfl rfl (Nat.le_of_ble_eq_true rfl) dL_plain_90 (fun z14 ez14 hz => (nmE hR ez14).trans (if_neg hz)) (fun z14 ez14 hzz14 => ?_)
    have hR := (nmE hR ez14).trans (if_pos hzz14)
    exact xt_zret (pc := 93) C rfl rfl hR (Nat.le_of_ble_eq_true rfl) (Nat.le_of_ble_eq_true rfl) dL_plain_93
  have hR := hR.trans (if_neg c15_6)
  have hok := hok.2 c15_6
  refine x_tabOut (pc := 1) (tgt := 94) C dL_plain_1 (by
    have c15_0 : ¬ Int32.toInt x1 = 0 := sw_no c15_0
    have c15_1 : ¬ Int32.toInt x1 = 1 := sw_no c15_1
    have c15_2 : ¬ Int32.toInt x1 = 2 := sw_no c15_2
    have c15_3 : ¬ Int32.toInt x1 = 3 := sw_no c15_3
    have c15_4 : ¬ Int32.toInt x1 = 4 := sw_no c15_4
    have c15_5 : ¬ Int32.toInt x1 = 5 := sw_no c15_5
    have c15_6 : ¬ Int32.toInt x1 = 6 := sw_no c15_6
    omega) (by decide) ?_
  refine x_aload_n (pc := 94) (i := 0) C 0 dL_plain_94 rfl rfl ?_
  exact False.elim hok
set_option maxHeartbeats 4000000 in
set_option maxRecDepth 100000 in
theorem c_L_asked {l : Launch} {A : Nat → Prop} {G : GT} {ad : Nat → Nat} (gl : Gl l A G ad)  (B : StB) (M : StM) (O : StO) (x1 : Int32) (x2 : Int32) (x3 : Int32) (hok : ok_L_asked B x1 x2 x3) : TMet l yL_asked (wof yL_asked cL_asked 4 (some .int)) (rmd 20 4 24) [.ref (ad 176), .int x1, .int x2, .int x3] G A ad B M O (f_L_asked B x1 x2 x3) 4 24 := by
  refine xt_body (own := RL) (by decide +kernel) rfl gl (Nat.le_of_ble_eq_true rfl) (ls := [(0, .ref (ad 176)), (1, .int x1), (2, .int x2), (3, .int x3)]) rfl ?_
  intro p0 e s m args below meth c hE C
  have hR : (f_L_asked B x1 x2 x3) = (if x1 = 0 then (nm (f_X6_balanceOf B x2) (fun (z2 : Nat × Int32 × StB) => (if z2.1 = 0 then (0, z2.2.1, z2.2.2) else (z2.1, 0, z2.2.2)))) else (if x1 = 1 then (nm (f_X6_accountAtRank B x2) (fun (z4 : Nat × Int32 × StB) => (if z4.1 = 0 then (0, z4.2.1, z4.2.2) else (z4.1, 0, z4.2.2)))) else (if x1 = 2 then (nm (f_X6_balanceAfter B x2 x3) (fun (z6 : Nat × Int32 × StB) => (if z6.1 = 0 then (0, z6.2.1, z6.2.2) else (z6.1, 0, z6.2.2)))) else (if x1 = 3 then (nm (f_X6_transferAt B x2) (fun (z8 : Nat × Int32 × StB) => (if z8.1 = 0 then (0, z8.2.1, z8.2.2) else (z8.1, 0, z8.2.2)))) else (if x1 = 4 then (nm (f_X6_amountOf B x2) (fun (z10 : Nat × Int32 × StB) => (if z10.1 = 0 then (0, z10.2.1, z10.2.2) else (z10.1, 0, z10.2.2)))) else (if x1 = 5 then (nm (f_X6_wouldBounce B x2) (fun (z12 : Nat × Int32 × StB) => (if z12.1 = 0 then (nm (f_L_told z12.2.1) (fun (r13 : Int32) => (0, r13, z12.2.2))) else (z12.1, 0, z12.2.2)))) else (if x1 = 6 then (nm (f_X6_netOf B x2) (fun (z15 : Nat × Int32 × StB) => (if z15.1 = 0 then (0, z15.2.1, z15.2.2) else (z15.1, 0, z15.2.2)))) else (if x1 = 7 then (nm (f_X6_leadsTo B x2 x3) (fun (z17 : Nat × Int32 × StB) => (if z17.1 = 0 then (nm (f_L_told z17.2.1) (fun (r18 : Int32) => (0, r18, z17.2.2))) else (z17.1, 0, z17.2.2)))) else (if x1 = 8 then (nm (f_X6_movementAmount B x2) (fun (z20 : Nat × Int32 × StB) => (if z20.1 = 0 then (0, z20.2.1, z20.2.2) else (z20.1, 0, z20.2.2)))) else (if x1 = 9 then (nm (f_X6_errorPosition B) (fun (z21 : Nat × Int32 × StB) => (if z21.1 = 0 then (0, z21.2.1, z21.2.2) else (z21.1, 0, z21.2.2)))) else (if x1 = 10 then (nm (f_X6_failedCommand B) (fun (z22 : Nat × Int32 × StB) => (if z22.1 = 0 then (0, z22.2.1, z22.2.2) else (z22.1, 0, z22.2.2)))) else (nm (f_X6_daysUntilDue B x2) (fun (z24 : Nat × Int32 × StB) => (if z24.1 = 0 then (0, z24.2.1, z24.2.2) else (z24.1, 0, z24.2.2))))))))))))))) := rfl
  have hok : ((x1 = 0 → ((ok_X6_balanceOf B x2))) ∧ (¬ x1 = 0 → ((x1 = 1 → ((ok_X6_accountAtRank B x2))) ∧ (¬ x1 = 1 → ((x1 = 2 → ((ok_X6_balanceAfter B x2 x3))) ∧ (¬ x1 = 2 → ((x1 = 3 → ((ok_X6_transferAt B x2))) ∧ (¬ x1 = 3 → ((x1 = 4 → ((ok_X6_amountOf B x2))) ∧ (¬ x1 = 4 → ((x1 = 5 → ((ok_X6_wouldBounce B x2))) ∧ (¬ x1 = 5 → ((x1 = 6 → ((ok_X6_netOf B x2))) ∧ (¬ x1 = 6 → ((x1 = 7 → ((ok_X6_leadsTo B x2 x3))) ∧ (¬ x1 = 7 → ((x1 = 8 → ((ok_X6_movementAmount B x2))) ∧ (¬ x1 = 8 → ((x1 = 9 → True) ∧ (¬ x1 = 9 → ((x1 = 10 → True) ∧ (¬ x1 = 10 → ((ok_X6_daysUntilDue B x2)))))))))))))))))))))))) := hok
  refine x_iload_n (pc := 0) (i := 1) C 1 dL_asked_0 rfl rfl ?_
  by_cases c25_0 : x1 = 0
  · have hR := hR.trans (if_pos c25_0)
    have hok := hok.1 c25_0
    refine x_tabIn (pc := 1) (tgt := 60) (off := 59) C dL_asked_1 c25_0 (by decide) (by decide) (by decide) (by decide) ?_
    refine x_aload_n (pc := 60) (i := 0) C 0 dL_asked_60 rfl rfl ?_
    refine x_iload_n (pc := 61) (i := 2) C 2 dL_asked_61 rfl rfl ?_
    have h1 := hok
    refine xt_cIV (pc := 62) (as := [.int x2]) (q := 176) C hE (c_X6_balanceOf C.2.2.2.2.2.2.2.1  B M O x2 h1) (fs := _) e_I rfl cv_X6_balanceOf cd_X6_balanceOf wd_4_144 ⟨Nat.le_of_ble_eq_true rfl, Nat.le_of_ble_eq_true rfl⟩ ⟨Nat.le_of_ble_eq_true rfl, Nat.le_of_ble_eq_true rfl⟩ ⟨Nat.le_of_ble_eq_true rfl, Nat.le_of_ble_eq_true rfl⟩ rfl rfl (Nat.le_of_ble_eq_true rfl) dL_asked_62 (fun z2 ez2 hz => (nmE hR ez2).trans (if_neg hz)) (fun z2 ez2 hzz2 => ?_)
    have hR := (nmE hR ez2).trans (if_pos hzz2)
    exact xt_zret (pc := 65) C rfl rfl hR (Nat.le_of_ble_eq_true rfl) (Nat.le_of_ble_eq_true rfl) dL_asked_65
  have hR := hR.trans (if_neg c25_0)
  have hok := hok.2 c25_0
  by_cases c25_1 : x1 = 1
  · have hR := hR.trans (if_pos c25_1)
    have hok := hok.1 c25_1
    refine x_tabIn (pc := 1) (tgt := 66) (off := 65) C dL_asked_1 c25_1 (by decide) (by decide) (by decide) (by decide) ?_
    refine x_aload_n (pc := 66) (i := 0) C 0 dL_asked_66 rfl rfl ?_
    refine x_iload_n (pc := 67) (i := 2) C 2 dL_asked_67 rfl rfl ?_
    have h3 := hok
    refine xt_cIV (pc := 68) (as := [.int x2]) (q := 176) C hE (c_X6_accountAtRank C.2.2.2.2.2.2.2.1  B M O x2 h3) (fs := _) e_I rfl cv_X6_accountAtRank cd_X6_accountAtRank wd_4_153 ⟨Nat.le_of_ble_eq_true rfl, Nat.le_of_ble_eq_true rfl⟩ ⟨Nat.le_of_ble_eq_true rfl, Nat.le_of_ble_eq_true rfl⟩ ⟨Nat.le_of_ble_eq_true rfl, Nat.le_of_ble_eq_true rfl⟩ rfl rfl (Nat.le_of_ble_eq_true rfl) dL_asked_68 (fun z4 ez4 hz => (nmE hR ez4).trans (if_neg hz)) (fun z4 ez4 hzz4 => ?_)
    have hR := (nmE hR ez4).trans (if_pos hzz4)
    exact xt_zret (pc := 71) C rfl rfl hR (Nat.le_of_ble_eq_true rfl) (Nat.le_of_ble_eq_true rfl) dL_asked_71
  have hR := hR.trans (if_neg c25_1)
  have hok := hok.2 c25_1
  by_cases c25_2 : x1 = 2
  · have hR := hR.trans (if_pos c25_2)
    have hok := hok.1 c25_2
    refine x_tabIn (pc := 1) (tgt := 72) (off := 71) C dL_asked_1 c25_2 (by decide) (by decide) (by decide) (by decide) ?_
    refine x_aload_n (pc := 72) (i := 0) C 0 dL_asked_72 rfl rfl ?_
    refine x_iload_n (pc := 73) (i := 2) C 2 dL_asked_73 rfl rfl ?_
    refine x_iload_n (pc := 74) (i := 3) C 3 dL_asked_74 rfl rfl ?_
    have h5 := hok
    refine xt_cIV (pc := 75) (as := [.int x2, .int x3]) (q := 176) C hE (c_X6_balanceAfter C.2.2.2.2.2.2.2.1  B M O x2 x3 h5) (fs := _) e_I rfl cv_X6_balanceAfter cd_X6_balanceAfter wd_4_165 ⟨Nat.le_of_ble_eq_true rfl, Nat.le_of_ble_eq_true rfl⟩ ⟨Nat.le_of_ble_eq_true rfl, Nat.le_of_ble_eq_true rfl⟩ ⟨Nat.le_of_ble_eq_true rfl, Nat.le_of_ble_eq_true rfl⟩ rfl rfl (Nat.le_of_ble_eq_true rfl) dL_asked_75 (fun z6 ez6 hz => (nmE hR ez6).trans (if_neg hz)) (fun z6 ez6 hzz6 => ?_)
    have hR := (nmE hR ez6).trans (if_pos hzz6)
    exact xt_zret (pc := 78) C rfl rfl hR (Nat.le_of_ble_eq_true rfl) (Nat.le_of_ble_eq_true rfl) dL_asked_78
  have hR := hR.trans (if_neg c25_2)
  have hok := hok.2 c25_2
  by_cases c25_3 : x1 = 3
  · have hR := hR.trans (if_pos c25_3)
    have hok := hok.1 c25_3
    refine x_tabIn (pc := 1) (tgt := 79) (off := 78) C dL_asked_1 c25_3 (by decide) (by decide) (by decide) (by decide) ?_
    refine x_aload_n (pc := 79) (i := 0) C 0 dL_asked_79 rfl rfl ?_
    refine x_iload_n (pc := 80) (i := 2) C 2 dL_asked_80 rfl rfl ?_
    have h7 := hok
    refine xt_cIV (pc := 81) (as := [.int x2]) (q := 176) C hE (c_X6_transferAt C.2.2.2.2.2.2.2.1  B M O x2 h7) (fs := _) e_I rfl cv_X6_transferAt cd_X6_transferAt wd_4_123 ⟨Nat.le_of_ble_eq_true rfl, Nat.le_of_ble_eq_true rfl⟩ ⟨Nat.le_of_ble_eq_true rfl, Nat.le_of_ble_eq_true rfl⟩ ⟨Nat.le_of_ble_eq_true rfl, Nat.le_of_ble_eq_true rfl⟩ rfl rfl (Nat.le_of_ble_eq_true rfl) dL_asked_81 (fun z8 ez8 hz => (nmE hR ez8).trans (if_neg hz)) (fun z8 ez8 hzz8 => ?_)
    have hR := (nmE hR ez8).trans (if_pos hzz8)
    exact xt_zret (pc := 84) C rfl rfl hR (Nat.le_of_ble_eq_true rfl) (Nat.le_of_ble_eq_true rfl) dL_asked_84
  have hR := hR.trans (if_neg c25_3)
  have hok := hok.2 c25_3
  by_cases c25_4 : x1 = 4
  · have hR := hR.trans (if_pos c25_4)
    have hok := hok.1 c25_4
    refine x_tabIn (pc := 1) (tgt := 85) (off := 84) C dL_asked_1 c25_4 (by decide) (by decide) (by decide) (by decide) ?_
    refine x_aload_n (pc := 85) (i := 0) C 0 dL_asked_85 rfl rfl ?_
    refine x_iload_n (pc := 86) (i := 2) C 2 dL_asked_86 rfl rfl ?_
    have h9 := hok
    refine xt_cIV (pc := 87) (as := [.int x2]) (q := 176) C hE (c_X6_amountOf C.2.2.2.2.2.2.2.1  B M O x2 h9) (fs := _) e_I rfl cv_X6_amountOf cd_X6_amountOf wd_4_173 ⟨Nat.le_of_ble_eq_true rfl, Nat.le_of_ble_eq_true rfl⟩ ⟨Nat.le_of_ble_eq_true rfl, Nat.le_of_ble_eq_true rfl⟩ ⟨Nat.le_of_ble_eq_true rfl, Nat.le_of_ble_eq_true rfl⟩ rfl rfl (Nat.le_of_ble_eq_true rfl) dL_asked_87 (fun z10 ez10 hz => (nmE hR ez10).trans (if_neg hz)) (fun z10 ez10 hzz10 => ?_)
    have hR := (nmE hR ez10).trans (if_pos hzz10)
    exact xt_zret (pc := 90) C rfl rfl hR (Nat.le_of_ble_eq_true rfl) (Nat.le_of_ble_eq_true rfl) dL_asked_90
  have hR := hR.trans (if_neg c25_4)
  have hok := hok.2 c25_4
  by_cases c25_5 : x1 = 5
  · have hR := hR.trans (if_pos c25_5)
    have hok := hok.1 c25_5
    refine x_tabIn (pc := 1) (tgt := 91) (off := 90) C dL_asked_1 c25_5 (by decide) (by decide) (by decide) (by decide) ?_
    refine x_aload_n (pc := 91) (i := 0) C 0 dL_asked_91 rfl rfl ?_
    refine x_iload_n (pc := 92) (i := 2) C 2 dL_asked_92 rfl rfl ?_
    have h11 := hok
    refine xt_cIV (pc := 93) (as := [.int x2]) (q := 176) C hE (c_X6_wouldBounce C.2.2.2.2.2.2.2.1  B M O x2 h11) (fs := _) e_I rfl cv_X6_wouldBounce cd_X6_wouldBounce wd_4_182 ⟨Nat.le_of_ble_eq_true rfl, Nat.le_of_ble_eq_true rfl⟩ ⟨Nat.le_of_ble_eq_true rfl, Nat.le_of_ble_eq_true rfl⟩ ⟨Nat.le_of_ble_eq_true rfl, Nat.le_of_ble_eq_true rfl⟩ rfl rfl (Nat.le_of_ble_eq_true rfl) dL_asked_93 (fun z12 ez12 hz => (nmE hR ez12).trans (if_neg hz)) (fun z12 ez12 hzz12 => ?_)
    have hR := (nmE hR ez12).trans (if_pos hzz12)
    refine x_cIS (pc := 96) (as := [.int z12.2.1]) C (c_L_told C.2.2.2.2.2.2.2.1  z12.2.2 M O z12.2.1) wd_4_192 cd_L_told wd_4_191 ⟨Nat.le_of_ble_eq_true rfl, Nat.le_of_ble_eq_true rfl⟩ ⟨Nat.le_of_ble_eq_true rfl, Nat.le_of_ble_eq_true rfl⟩ rfl rfl (Nat.le_of_ble_eq_true rfl) dL_asked_96 ?_
    refine x_nmI (fun r13 er13 => ?_)
    have hR := nmE hR er13
    exact xt_zret (pc := 99) C rfl rfl hR (Nat.le_of_ble_eq_true rfl) (Nat.le_of_ble_eq_true rfl) dL_asked_99
  have hR := hR.trans (if_neg c25_5)
  have hok := hok.2 c25_5
  by_cases c25_6 : x1 = 6
  · have hR := hR.trans (if_pos c25_6)
    have hok := hok.1 c25_6
    refine x_tabIn (pc := 1) (tgt := 100) (off := 99) C dL_asked_1 c25_6 (by decide) (by decide) (by decide) (by decide) ?_
    refine x_aload_n (pc := 100) (i := 0) C 0 dL_asked_100 rfl rfl ?_
    refine x_iload_n (pc := 101) (i := 2) C 2 dL_asked_101 rfl rfl ?_
    have h14 := hok
    refine xt_cIV (pc := 102) (as := [.int x2]) (q := 176) C hE (c_X6_netOf C.2.2.2.2.2.2.2.1  B M O x2 h14) (fs := _) e_I rfl cv_X6_netOf cd_X6_netOf wd_4_194 ⟨Nat.le_of_ble_eq_true rfl, Nat.le_of_ble_eq_true rfl⟩ ⟨Nat.le_of_ble_eq_true rfl, Nat.le_of_ble_eq_true rfl⟩ ⟨Nat.le_of_ble_eq_true rfl, Nat.le_of_ble_eq_true rfl⟩ rfl rfl (Nat.le_of_ble_eq_true rfl) dL_asked_102 (fun z15 ez15 hz => (nmE hR ez15).trans (if_neg hz)) (fun z15 ez15 hzz15 => ?_)
    have hR := (nmE hR ez15).trans (if_pos hzz15)
    exact xt_zret (pc := 105) C rfl rfl hR (Nat.le_of_ble_eq_true rfl) (Nat.le_of_ble_eq_true rfl) dL_asked_105
  have hR := hR.trans (if_neg c25_6)
  have hok := hok.2 c25_6
  by_cases c25_7 : x1 = 7
  · have hR := hR.trans (if_pos c25_7)
    have hok := hok.1 c25_7
    refine x_tabIn (pc := 1) (tgt := 106) (off := 105) C dL_asked_1 c25_7 (by decide) (by decide) (by decide) (by decide) ?_
    refine x_aload_n (pc := 106) (i := 0) C 0 dL_asked_106 rfl rfl ?_
    refine x_iload_n (pc := 107) (i := 2) C 2 dL_asked_107 rfl rfl ?_
    refine x_iload_n (pc := 108) (i := 3) C 3 dL_asked_108 rfl rfl ?_
    have h16 := hok
    refine xt_cIV (pc := 109) (as := [.int x2, .int x3]) (q := 176) C hE (c_X6_leadsTo C.2.2.2.2.2.2.2.1  B M O x2 x3 h16) (fs := _) e_I rfl cv_X6_leadsTo cd_X6_leadsTo wd_4_202 ⟨Nat.le_of_ble_eq_true rfl, Nat.le_of_ble_eq_true rfl⟩ ⟨Nat.le_of_ble_eq_true rfl, Nat.le_of_ble_eq_true rfl⟩ ⟨Nat.le_of_ble_eq_true rfl, Nat.le_of_ble_eq_true rfl⟩ rfl rfl (Nat.le_of_ble_eq_true rfl) dL_asked_109 (fun z17 ez17 hz => (nmE hR ez17).trans (if_neg hz)) (fun z17 ez17 hzz17 => ?_)
    have hR := (nmE hR ez17).trans (if_pos hzz17)
    refine x_cIS (pc := 112) (as := [.int z17.2.1]) C (c_L_told C.2.2.2.2.2.2.2.1  z17.2.2 M O z17.2.1) wd_4_192 cd_L_told wd_4_191 ⟨Nat.le_of_ble_eq_true rfl, Nat.le_of_ble_eq_true rfl⟩ ⟨Nat.le_of_ble_eq_true rfl, Nat.le_of_ble_eq_true rfl⟩ rfl rfl (Nat.le_of_ble_eq_true rfl) dL_asked_112 ?_
    refine x_nmI (fun r18 er18 => ?_)
    have hR := nmE hR er18
    exact xt_zret (pc := 115) C rfl rfl hR (Nat.le_of_ble_eq_true rfl) (Nat.le_of_ble_eq_true rfl) dL_asked_115
  have hR := hR.trans (if_neg c25_7)
  have hok := hok.2 c25_7
  by_cases c25_8 : x1 = 8
  · have hR := hR.trans (if_pos c25_8)
    have hok := hok.1 c25_8
    refine x_tabIn (pc := 1) (tgt := 116) (off := 115) C dL_asked_1 c25_8 (by decide) (by decide) (by decide) (by decide) ?_
    refine x_aload_n (pc := 116) (i := 0) C 0 dL_asked_116 rfl rfl ?_
    refine x_iload_n (pc := 117) (i := 2) C 2 dL_asked_117 rfl rfl ?_
    have h19 := hok
    refine xt_cIV (pc := 118) (as := [.int x2]) (q := 176) C hE (c_X6_movementAmount C.2.2.2.2.2.2.2.1  B M O x2 h19) (fs := _) e_I rfl cv_X6_movementAmount cd_X6_movementAmount wd_4_210 ⟨Nat.le_of_ble_eq_true rfl, Nat.le_of_ble_eq_true rfl⟩ ⟨Nat.le_of_ble_eq_true rfl, Nat.le_of_ble_eq_true rfl⟩ ⟨Nat.le_of_ble_eq_true rfl, Nat.le_of_ble_eq_true rfl⟩ rfl rfl (Nat.le_of_ble_eq_true rfl) dL_asked_118 (fun z20 ez20 hz => (nmE hR ez20).trans (if_neg hz)) (fun z20 ez20 hzz20 => ?_)
    have hR := (nmE hR ez20).trans (if_pos hzz20)
    exact xt_zret (pc := 121) C rfl rfl hR (Nat.le_of_ble_eq_true rfl) (Nat.le_of_ble_eq_true rfl) dL_asked_121
  have hR := hR.trans (if_neg c25_8)
  have hok := hok.2 c25_8
  by_cases c25_9 : x1 = 9
  · have hR := hR.trans (if_pos c25_9)
    have hok := hok.1 c25_9
    refine x_tabIn (pc := 1) (tgt := 122) (off := 121) C dL_asked_1 c25_9 (by decide) (by decide) (by decide) (by decide) ?_
    refine x_aload_n (pc := 122) (i := 0) C 0 dL_asked_122 rfl rfl ?_
    refine xt_cIV (pc := 123) (as := []) (q := 176) C hE (c_X6_errorPosition C.2.2.2.2.2.2.2.1  B M O ) (fs := _) e_I rfl cv_X6_errorPosition cd_X6_errorPosition wd_4_222 ⟨Nat.le_of_ble_eq_true rfl, Nat.le_of_ble_eq_true rfl⟩ ⟨Nat.le_of_ble_eq_true rfl, Nat.le_of_ble_eq_true rfl⟩ ⟨Nat.le_of_ble_eq_true rfl, Nat.le_of_ble_eq_true rfl⟩ rfl rfl (Nat.le_of_ble_eq_true rfl) dL_asked_123 (fun z21 ez21 hz => (nmE hR ez21).trans (if_neg hz)) (fun z21 ez21 hzz21 => ?_)
    have hR := (nmE hR ez21).trans (if_pos hzz21)
    exact xt_zret (pc := 126) C rfl rfl hR (Nat.le_of_ble_eq_true rfl) (Nat.le_of_ble_eq_true rfl) dL_asked_126
  have hR := hR.trans (if_neg c25_9)
  have hok := hok.2 c25_9
  by_cases c25_10 : x1 = 10
  · have hR := hR.trans (if_pos c25_10)
    have hok := hok.1 c25_10
    refine x_tabIn (pc := 1) (tgt := 127) (off := 126) C dL_asked_1 c25_10 (by decide) (by decide) (by decide) (by decide) ?_
    refine x_aload_n (pc := 127) (i := 0) C 0 dL_asked_127 rfl rfl ?_
    refine xt_cIV (pc := 128) (as := []) (q := 176) C hE (c_X6_failedCommand C.2.2.2.2.2.2.2.1  B M O ) (fs := _) e_I rfl cv_X6_failedCommand cd_X6_failedCommand wd_4_226 ⟨Nat.le_of_ble_eq_true rfl, Nat.le_of_ble_eq_true rfl⟩ ⟨Nat.le_of_ble_eq_true rfl, Nat.le_of_ble_eq_true rfl⟩ ⟨Nat.le_of_ble_eq_true rfl, Nat.le_of_ble_eq_true rfl⟩ rfl rfl (Nat.le_of_ble_eq_true rfl) dL_asked_128 (fun z22 ez22 hz => (nmE hR ez22).trans (if_neg hz)) (fun z22 ez22 hzz22 => ?_)
    have hR := (nmE hR ez22).trans (if_pos hzz22)
    exact xt_zret (pc := 131) C rfl rfl hR (Nat.le_of_ble_eq_true rfl) (Nat.le_of_ble_eq_true rfl) dL_asked_131
  have hR := hR.trans (if_neg c25_10)
  have hok := hok.2 c25_10
  refine x_tabOut (pc := 1) (tgt := 132) C dL_asked_1 (by
    have c25_0 : ¬ Int32.toInt x1 = 0 := sw_no c25_0
    have c25_1 : ¬ Int32.toInt x1 = 1 := sw_no c25_1
    have c25_2 : ¬ Int32.toInt x1 = 2 := sw_no c25_2
    have c25_3 : ¬ Int32.toInt x1 = 3 := sw_no c25_3
    have c25_4 : ¬ Int32.toInt x1 = 4 := sw_no c25_4
    have c25_5 : ¬ Int32.toInt x1 = 5 := sw_no c25_5
    have c25_6 : ¬ Int32.toInt x1 = 6 := sw_no c25_6
    have c25_7 : ¬ Int32.toInt x1 = 7 := sw_no c25_7
    have c25_8 : ¬ Int32.toInt x1 = 8 := sw_no c25_8
    have c25_9 : ¬ Int32.toInt x1 = 9 := sw_no c25_9
    have c25_10 : ¬ Int32.toInt x1 = 10 := sw_no c25_10
    omega) (by decide) ?_
  refine x_aload_n (pc := 132) (i := 0) C 0 dL_asked_132 rfl rfl ?_
  refine x_iload_n (pc := 133) (i := 2) C 2 dL_asked_133 rfl rfl ?_
  have h23 := hok
  refine xt_cIV (pc := 134) (as := [.int x2]) (q := 176) C hE (c_X6_daysUntilDue C.2.2.2.2.2.2.2.1  B M O x2 h23) (fs := _) e_I rfl cv_X6_daysUntilDue cd_X6_daysUntilDue wd_4_230 ⟨Nat.le_of_ble_eq_true rfl, Nat.le_of_ble_eq_true rfl⟩ ⟨Nat.le_of_ble_eq_true rfl, Nat.le_of_ble_eq_true rfl⟩ ⟨Nat.le_of_ble_eq_true rfl, Nat.le_of_ble_eq_true rfl⟩ rfl rfl (Nat.le_of_ble_eq_true rfl) dL_asked_134 (fun z24 ez24 hz => (nmE hR ez24).trans (if_neg hz)) (fun z24 ez24 hzz24 => ?_)
  have hR := (nmE hR ez24).trans (if_pos hzz24)
  exact xt_zret (pc := 137) C rfl rfl hR (Nat.le_of_ble_eq_true rfl) (Nat.le_of_ble_eq_true rfl) dL_asked_137
set_option maxHeartbeats 4000000 in
set_option maxRecDepth 100000 in
theorem c_L_deed {l : Launch} {A : Nat → Prop} {G : GT} {ad : Nat → Nat} (gl : Gl l A G ad) (B : StB) (M : StM) (O : StO) (x1 x2 x3 x4 x5 : Int32) (hok : ok_L_deed B x1 x2 x3 x4 x5) : Met l yL_deed (wofH yL_deed cL_deed 7 (some .int) [(0, 11, 12, 49), (0, 11, 18, 51), (0, 11, 24, 53), (0, 11, 30, 55), (0, 11, 36, 57)]) (rmd 19 4 24) (va_Pc [.ref (ad 176), .int x1, .int x2, .int x3, .int x4, .int x5] (PW G A ad B M O)) (QI G A ad (f_L_deed B x1 x2 x3 x4 x5).1 (f_L_deed B x1 x2 x3 x4 x5).2 M O) 4 24 A := by
  obtain ⟨z, ez⟩ : ∃ z : Nat × Int32 × StB, z = f_L_plain B x1 x2 x3 x4 x5 := ⟨_, rfl⟩
  have hM := c_L_plain gl B M O x1 x2 x3 x4 x5 hok.1
  rw [← ez] at hM
  have hx := hok.2 z ez
  obtain ⟨R0, hR⟩ : ∃ R0 : Int32 × StB, R0 = (f_L_deed B x1 x2 x3 x4 x5) := ⟨_, rfl⟩
  rw [← hR]
  have hR : R0 = (code_deed z.1 z.2.1, z.2.2) := by rw [hR, ez]; rfl
  refine xw_body (own := RL) (by decide +kernel) rfl gl (Nat.le_of_ble_eq_true rfl) (ls := [(0, .ref (ad 176)), (1, .int x1), (2, .int x2), (3, .int x3), (4, .int x4), (5, .int x5)]) rfl ?_
  intro p e s m args below meth c C htab
  refine x_aload_n C 0 dL_deed_0 rfl rfl ?_
  refine x_iload_n C 1 dL_deed_1 rfl rfl ?_
  refine x_iload_n C 2 dL_deed_2 rfl rfl ?_
  refine x_iload_n C 3 dL_deed_3 rfl rfl ?_
  refine x_iload C 4 dL_deed_4 rfl ?_
  refine x_iload C 5 dL_deed_6 rfl ?_
  refine xw_cIS C (as := [.ref (ad 176), .int x1, .int x2, .int x3, .int x4, .int x5]) (rest := []) hM wd_2_164 cd_L_plain wd_2_163 ⟨(Nat.le_of_ble_eq_true rfl), (Nat.le_of_ble_eq_true rfl)⟩ ⟨(Nat.le_of_ble_eq_true rfl), (Nat.le_of_ble_eq_true rfl)⟩ rfl rfl (Nat.le_of_ble_eq_true rfl) dL_deed_8 (fun hne q => ?_) (fun h0 => ?_)
  · rcases hx with h | h | h | h | h | h
    · exact absurd h hne
    · have e1 : R0 = ((-20002), z.2.2) := by rw [hR, h]; rfl
      subst e1
      rw [h]
      refine xc_catch C (name := "java/lang/IndexOutOfBoundsException") [] { startPc := 0, endPc := 11, handlerPc := 12, catchType := 49 } [{ startPc := 0, endPc := 11, handlerPc := 18, catchType := 51 }, { startPc := 0, endPc := 11, handlerPc := 24, catchType := 53 }, { startPc := 0, endPc := 11, handlerPc := 30, catchType := 55 }, { startPc := 0, endPc := 11, handlerPc := 36, catchType := 57 }] (htab.trans rfl) (fun _ h9 => by cases h9) (by decide) (by decide) wd_2_79 (by decide) ?_
      refine x_astore C dL_deed_12 (by decide) rfl ?_
      refine x_sipush C (v := (-20002)) dL_deed_14 (by decide) ?_
      exact x_iret C rfl rfl dL_deed_17
    · have e1 : R0 = ((-20003), z.2.2) := by rw [hR, h]; rfl
      subst e1
      rw [h]
      refine xc_catch C (name := "java/lang/IllegalArgumentException") [{ startPc := 0, endPc := 11, handlerPc := 12, catchType := 49 }] { startPc := 0, endPc := 11, handlerPc := 18, catchType := 51 } [{ startPc := 0, endPc := 11, handlerPc := 24, catchType := 53 }, { startPc := 0, endPc := 11, handlerPc := 30, catchType := 55 }, { startPc := 0, endPc := 11, handlerPc := 36, catchType := 57 }] (htab.trans rfl) (List.forall_mem_cons.mpr ⟨⟨by decide, "java/lang/IndexOutOfBoundsException", wd_2_79, by decide⟩, (fun _ h9 => by cases h9)⟩) (by decide) (by decide) wd_2_159 (by decide) ?_
      refine x_astore C dL_deed_18 (by decide) rfl ?_
      refine x_sipush C (v := (-20003)) dL_deed_20 (by decide) ?_
      exact x_iret C rfl rfl dL_deed_23
    · have e1 : R0 = ((-20001), z.2.2) := by rw [hR, h]; rfl
      subst e1
      rw [h]
      refine xc_catch C (name := "java/lang/UnsupportedOperationException") [{ startPc := 0, endPc := 11, handlerPc := 12, catchType := 49 }, { startPc := 0, endPc := 11, handlerPc := 18, catchType := 51 }] { startPc := 0, endPc := 11, handlerPc := 24, catchType := 53 } [{ startPc := 0, endPc := 11, handlerPc := 30, catchType := 55 }, { startPc := 0, endPc := 11, handlerPc := 36, catchType := 57 }] (htab.trans rfl) (List.forall_mem_cons.mpr ⟨⟨by decide, "java/lang/IndexOutOfBoundsException", wd_2_79, by decide⟩, (List.forall_mem_cons.mpr ⟨⟨by decide, "java/lang/IllegalArgumentException", wd_2_159, by decide⟩, (fun _ h9 => by cases h9)⟩)⟩) (by decide) (by decide) wd_2_160 (by decide) ?_
      refine x_astore C dL_deed_24 (by decide) rfl ?_
      refine x_sipush C (v := (-20001)) dL_deed_26 (by decide) ?_
      exact x_iret C rfl rfl dL_deed_29
    · have e1 : R0 = ((-20005), z.2.2) := by rw [hR, h]; rfl
      subst e1
      rw [h]
      refine xc_catch C (name := "java/lang/IllegalStateException") [{ startPc := 0, endPc := 11, handlerPc := 12, catchType := 49 }, { startPc := 0, endPc := 11, handlerPc := 18, catchType := 51 }, { startPc := 0, endPc := 11, handlerPc := 24, catchType := 53 }] { startPc := 0, endPc := 11, handlerPc := 30, catchType := 55 } [{ startPc := 0, endPc := 11, handlerPc := 36, catchType := 57 }] (htab.trans rfl) (List.forall_mem_cons.mpr ⟨⟨by decide, "java/lang/IndexOutOfBoundsException", wd_2_79, by decide⟩, (List.forall_mem_cons.mpr ⟨⟨by decide, "java/lang/IllegalArgumentException", wd_2_159, by decide⟩, (List.forall_mem_cons.mpr ⟨⟨by decide, "java/lang/UnsupportedOperationException", wd_2_160, by decide⟩, (fun _ h9 => by cases h9)⟩)⟩)⟩) (by decide) (by decide) wd_2_161 (by decide) ?_
      refine x_astore C dL_deed_30 (by decide) rfl ?_
      refine x_sipush C (v := (-20005)) dL_deed_32 (by decide) ?_
      exact x_iret C rfl rfl dL_deed_35
    · have e1 : R0 = ((-20004), z.2.2) := by rw [hR, h]; rfl
      subst e1
      rw [h]
      refine xc_catch C (name := "java/util/NoSuchElementException") [{ startPc := 0, endPc := 11, handlerPc := 12, catchType := 49 }, { startPc := 0, endPc := 11, handlerPc := 18, catchType := 51 }, { startPc := 0, endPc := 11, handlerPc := 24, catchType := 53 }, { startPc := 0, endPc := 11, handlerPc := 30, catchType := 55 }] { startPc := 0, endPc := 11, handlerPc := 36, catchType := 57 } [] (htab.trans rfl) (List.forall_mem_cons.mpr ⟨⟨by decide, "java/lang/IndexOutOfBoundsException", wd_2_79, by decide⟩, (List.forall_mem_cons.mpr ⟨⟨by decide, "java/lang/IllegalArgumentException", wd_2_159, by decide⟩, (List.forall_mem_cons.mpr ⟨⟨by decide, "java/lang/UnsupportedOperationException", wd_2_160, by decide⟩, (List.forall_mem_cons.mpr ⟨⟨by decide, "java/lang/IllegalStateException", wd_2_161, by decide⟩, (fun _ h9 => by cases h9)⟩)⟩)⟩)⟩) (by decide) (by decide) wd_2_162 (by decide) ?_
      refine x_astore C dL_deed_36 (by decide) rfl ?_
      refine x_sipush C (v := (-20004)) dL_deed_38 (by decide) ?_
      exact x_iret C rfl rfl dL_deed_41
  · have e1 : R0 = (z.2.1, z.2.2) := by rw [hR]; unfold code_deed; rw [if_pos h0]
    subst e1
    exact x_iret C rfl rfl dL_deed_11
set_option maxHeartbeats 4000000 in
set_option maxRecDepth 100000 in
theorem c_L_ask {l : Launch} {A : Nat → Prop} {G : GT} {ad : Nat → Nat} (gl : Gl l A G ad) (B : StB) (M : StM) (O : StO) (x1 x2 x3 : Int32) (hok : ok_L_ask B x1 x2 x3) : Met l yL_ask (wofH yL_ask cL_ask 5 (some .int) [(0, 7, 8, 49), (0, 7, 14, 51), (0, 7, 20, 57)]) (rmd 21 4 24) (va_Pc [.ref (ad 176), .int x1, .int x2, .int x3] (PW G A ad B M O)) (QI G A ad (f_L_ask B x1 x2 x3).1 (f_L_ask B x1 x2 x3).2 M O) 4 24 A := by
  obtain ⟨z, ez⟩ : ∃ z : Nat × Int32 × StB, z = f_L_asked B x1 x2 x3 := ⟨_, rfl⟩
  have hM := c_L_asked gl B M O x1 x2 x3 hok.1
  rw [← ez] at hM
  have hx := hok.2 z ez
  obtain ⟨R0, hR⟩ : ∃ R0 : Int32 × StB, R0 = (f_L_ask B x1 x2 x3) := ⟨_, rfl⟩
  rw [← hR]
  have hR : R0 = (code_ask z.1 z.2.1, z.2.2) := by rw [hR, ez]; rfl
  refine xw_body (own := RL) (by decide +kernel) rfl gl (Nat.le_of_ble_eq_true rfl) (ls := [(0, .ref (ad 176)), (1, .int x1), (2, .int x2), (3, .int x3)]) rfl ?_
  intro p e s m args below meth c C htab
  refine x_aload_n C 0 dL_ask_0 rfl rfl ?_
  refine x_iload_n C 1 dL_ask_1 rfl rfl ?_
  refine x_iload_n C 2 dL_ask_2 rfl rfl ?_
  refine x_iload_n C 3 dL_ask_3 rfl rfl ?_
  refine xw_cIS C (as := [.ref (ad 176), .int x1, .int x2, .int x3]) (rest := []) hM wd_4_142 cd_L_asked wd_4_141 ⟨(Nat.le_of_ble_eq_true rfl), (Nat.le_of_ble_eq_true rfl)⟩ ⟨(Nat.le_of_ble_eq_true rfl), (Nat.le_of_ble_eq_true rfl)⟩ rfl rfl (Nat.le_of_ble_eq_true rfl) dL_ask_4 (fun hne q => ?_) (fun h0 => ?_)
  · rcases hx with h | h | h | h
    · exact absurd h hne
    · have e1 : R0 = ((-20002), z.2.2) := by rw [hR, h]; rfl
      subst e1
      rw [h]
      refine xc_catch C (name := "java/lang/IndexOutOfBoundsException") [] { startPc := 0, endPc := 7, handlerPc := 8, catchType := 49 } [{ startPc := 0, endPc := 7, handlerPc := 14, catchType := 51 }, { startPc := 0, endPc := 7, handlerPc := 20, catchType := 57 }] (htab.trans rfl) (fun _ h9 => by cases h9) (by decide) (by decide) wd_2_79 (by decide) ?_
      refine x_astore C dL_ask_8 (by decide) rfl ?_
      refine x_sipush C (v := (-20002)) dL_ask_10 (by decide) ?_
      exact x_iret C rfl rfl dL_ask_13
    · have e1 : R0 = ((-20003), z.2.2) := by rw [hR, h]; rfl
      subst e1
      rw [h]
      refine xc_catch C (name := "java/lang/IllegalArgumentException") [{ startPc := 0, endPc := 7, handlerPc := 8, catchType := 49 }] { startPc := 0, endPc := 7, handlerPc := 14, catchType := 51 } [{ startPc := 0, endPc := 7, handlerPc := 20, catchType := 57 }] (htab.trans rfl) (List.forall_mem_cons.mpr ⟨⟨by decide, "java/lang/IndexOutOfBoundsException", wd_2_79, by decide⟩, (fun _ h9 => by cases h9)⟩) (by decide) (by decide) wd_2_159 (by decide) ?_
      refine x_astore C dL_ask_14 (by decide) rfl ?_
      refine x_sipush C (v := (-20003)) dL_ask_16 (by decide) ?_
      exact x_iret C rfl rfl dL_ask_19
    · have e1 : R0 = ((-20004), z.2.2) := by rw [hR, h]; rfl
      subst e1
      rw [h]
      refine xc_catch C (name := "java/util/NoSuchElementException") [{ startPc := 0, endPc := 7, handlerPc := 8, catchType := 49 }, { startPc := 0, endPc := 7, handlerPc := 14, catchType := 51 }] { startPc := 0, endPc := 7, handlerPc := 20, catchType := 57 } [] (htab.trans rfl) (List.forall_mem_cons.mpr ⟨⟨by decide, "java/lang/IndexOutOfBoundsException", wd_2_79, by decide⟩, (List.forall_mem_cons.mpr ⟨⟨by decide, "java/lang/IllegalArgumentException", wd_2_159, by decide⟩, (fun _ h9 => by cases h9)⟩)⟩) (by decide) (by decide) wd_2_162 (by decide) ?_
      refine x_astore C dL_ask_20 (by decide) rfl ?_
      refine x_sipush C (v := (-20004)) dL_ask_22 (by decide) ?_
      exact x_iret C rfl rfl dL_ask_25
  · have e1 : R0 = (z.2.1, z.2.2) := by rw [hR]; unfold code_ask; rw [if_pos h0]
    subst e1
    exact x_iret C rfl rfl dL_ask_7
set_option maxHeartbeats 4000000 in
set_option maxRecDepth 100000 in
theorem t_L_any_J167 {p0 : Program} {l : Launch} {e : Env} {s : State} {m : MethodId} {args : Array Value} {below : List Frame} {meth : Method} {c : Code} {A : Nat → Prop} {G : GT} {ad : Nat → Nat} (C : CX p0 l s m args meth c A G ad cL_any RL 5 (some .int)) {S : Nat → Int32} {N : Nat} (hsc : S = scx G ∧ N = G.2.2.2.2 5) (B : StB) (s0 : Int32) (s1 : Int32) (s3 : Int32) (s4 : Int32) (s5 : Int32) (M : StM) (O : StO) (cs0 ss0 : Nat) (hcs : cs0 + 4 ≤ 4 ∧ ss0 + 24 ≤ 24) (R0 : Int32 × StB) (hR : R0 = f_L_any_J167 S N B s0 s1 s3 s4 s5) (hok : ok_L_any_J167 S N B s0 s1 s3 s4 s5) : X p0 l e (rmd 20 4 24) s m args below meth c A G ad 5 cs0 ss0 (MQ below (QI G A ad R0.1 R0.2 M O) args s 4 24 A) B M O [] 167 [.int s0, .int s1, .ref (G.2.2.2.2 4), .int s3, .int s4, .int s5, .ref (ad 176)] := by
  have hR : R0 = (nm (f_L_pick S N s1 s0) (fun (r27 : Int32) => (nm (f_L_deed B s5 s4 (s3 + r27) 0 0) (fun (z29 : Int32 × StB) => (z29.1, z29.2))))) := hR
  have hok : ((ok_L_pick S N s1 s0) ∧ (∀ r27 : Int32, r27 = (f_L_pick S N s1 s0) → ((ok_L_deed B s5 s4 (s3 + r27) 0 0)))) := hok
  have h26 := hok.1
  have hok := hok.2
  refine x_cIS (pc := 167) (as := [.ref (G.2.2.2.2 4), .int s1, .int s0]) C (c_L_pick C.2.2.2.2.2.2.2.1 S N hsc B M O s1 s0 h26) wd_2_66 cd_L_pick wd_2_65 ⟨Nat.le_of_ble_eq_true rfl, Nat.le_of_ble_eq_true rfl⟩ ⟨by simp only [rmd]; omega, by simp only [rmd]; omega⟩ rfl rfl (Nat.le_of_ble_eq_true rfl) dL_any_167 ?_
  refine x_nmI (fun r27 er27 => ?_)
  have hR := nmE hR er27
  have hok := hok r27 er27
  refine x_iadd (pc := 170) C dL_any_170 ?_
  refine x_iconst (pc := 171) (v := 0) C dL_any_171 (by decide) ?_
  refine x_iconst (pc := 172) (v := 0) C dL_any_172 (by decide) ?_
  have h28 := hok
  refine x_cWS (pc := 173) (as := [.ref (ad 176), .int s5, .int s4, .int (s3 + r27), .int 0, .int 0]) (n := 6) C (c_L_deed C.2.2.2.2.2.2.2.1  B M O s5 s4 (s3 + r27) 0 0 h28) wd_2_76 wd_2_77 wd_1_0 wd_2_78 ⟨by decide, by decide, by decide +kernel⟩ ⟨Nat.le_of_ble_eq_true rfl, Nat.le_of_ble_eq_true rfl⟩ ⟨by simp only [rmd]; omega, by simp only [rmd]; omega⟩ rfl rfl (Nat.le_of_ble_eq_true rfl) dL_any_173 ?_
  refine x_nmIB (fun z29 ez29 => ?_)
  have hR := nmE hR ez29
  refine x_wid (k0 := 4) (n0 := 24) (by omega) (by omega) ?_
  exact x_iretB (pc := 176) C rfl hR dL_any_176
set_option maxHeartbeats 4000000 in
set_option maxRecDepth 100000 in
theorem t_L_any_J233 {p0 : Program} {l : Launch} {e : Env} {s : State} {m : MethodId} {args : Array Value} {below : List Frame} {meth : Method} {c : Code} {A : Nat → Prop} {G : GT} {ad : Nat → Nat} (C : CX p0 l s m args meth c A G ad cL_any RL 5 (some .int)) {S : Nat → Int32} {N : Nat} (hsc : S = scx G ∧ N = G.2.2.2.2 5) (B : StB) (a2 : Int32) (s0 : Int32) (s1 : Int32) (s3 : Int32) (s4 : Int32) (s5 : Int32) (s6 : Int32) (M : StM) (O : StO) (cs0 ss0 : Nat) (hcs : cs0 + 4 ≤ 4 ∧ ss0 + 24 ≤ 24) (R0 : Int32 × StB) (hR : R0 = f_L_any_J233 S N B a2 s0 s1 s3 s4 s5 s6) (hok : ok_L_any_J233 S N B a2 s0 s1 s3 s4 s5 s6) : X p0 l e (rmd 20 4 24) s m args below meth c A G ad 5 cs0 ss0 (MQ below (QI G A ad R0.1 R0.2 M O) args s 4 24 A) B M O [(1, .ref (G.2.2.2.2 4)), (2, .int a2)] 233 [.int s0, .int s1, .ref (G.2.2.2.2 4), .int s3, .int s4, .int s5, .int s6, .ref (ad 176)] := by
  have hR : R0 = (nm (f_L_pick S N s1 s0) (fun (r50 : Int32) => (nm (f_L_pick S N (a2 + 5) 6) (fun (r52 : Int32) => (nm (f_L_deed B s6 s5 s4 (s3 + r50) r52) (fun (z54 : Int32 × StB) => (z54.1, z54.2))))))) := hR
  have hok : ((ok_L_pick S N s1 s0) ∧ (∀ r50 : Int32, r50 = (f_L_pick S N s1 s0) → ((ok_L_pick S N (a2 + 5) 6) ∧ (∀ r52 : Int32, r52 = (f_L_pick S N (a2 + 5) 6) → ((ok_L_deed B s6 s5 s4 (s3 + r50) r52)))))) := hok
  have h49 := hok.1
  have hok := hok.2
  refine x_cIS (pc := 233) (as := [.ref (G.2.2.2.2 4), .int s1, .int s0]) C (c_L_pick C.2.2.2.2.2.2.2.1 S N hsc B M O s1 s0 h49) wd_2_66 cd_L_pick wd_2_65 ⟨Nat.le_of_ble_eq_true rfl, Nat.le_of_ble_eq_true rfl⟩ ⟨by simp only [rmd]; omega, by simp only [rmd]; omega⟩ rfl rfl (Nat.le_of_ble_eq_true rfl) dL_any_233 ?_
  refine x_nmI (fun r50 er50 => ?_)
  have hR := nmE hR er50
  have hok := hok r50 er50
  refine x_iadd (pc := 236) C dL_any_236 ?_
  refine x_aload_n (pc := 237) (i := 1) C 0 dL_any_237 rfl rfl ?_
  refine x_iload_n (pc := 238) (i := 2) C 1 dL_any_238 rfl rfl ?_
  refine x_iconst (pc := 239) (v := 5) C dL_any_239 (by decide) ?_
  refine x_iadd (pc := 240) C dL_any_240 ?_
  refine x_bipush (pc := 241) (v := 6) C dL_any_241 (by decide) ?_
  have h51 := hok.1
  have hok := hok.2
  refine x_cIS (pc := 243) (as := [.ref (G.2.2.2.2 4), .int (a2 + 5), .int 6]) C (c_L_pick C.2.2.2.2.2.2.2.1 S N hsc B M O (a2 + 5) 6 h51) wd_2_66 cd_L_pick wd_2_65 ⟨Nat.le_of_ble_eq_true rfl, Nat.le_of_ble_eq_true rfl⟩ ⟨by simp only [rmd]; omega, by simp only [rmd]; omega⟩ rfl rfl (Nat.le_of_ble_eq_true rfl) dL_any_243 ?_
  refine x_nmI (fun r52 er52 => ?_)
  have hR := nmE hR er52
  have hok := hok r52 er52
  have h53 := hok
  refine x_cWS (pc := 246) (as := [.ref (ad 176), .int s6, .int s5, .int s4, .int (s3 + r50), .int r52]) (n := 6) C (c_L_deed C.2.2.2.2.2.2.2.1  B M O s6 s5 s4 (s3 + r50) r52 h53) wd_2_76 wd_2_77 wd_1_0 wd_2_78 ⟨by decide, by decide, by decide +kernel⟩ ⟨Nat.le_of_ble_eq_true rfl, Nat.le_of_ble_eq_true rfl⟩ ⟨by simp only [rmd]; omega, by simp only [rmd]; omega⟩ rfl rfl (Nat.le_of_ble_eq_true rfl) dL_any_246 ?_
  refine x_nmIB (fun z54 ez54 => ?_)
  have hR := nmE hR ez54
  refine x_wid (k0 := 4) (n0 := 24) (by omega) (by omega) ?_
  exact x_iretB (pc := 249) C rfl hR dL_any_249
set_option maxHeartbeats 4000000 in
set_option maxRecDepth 100000 in
theorem t_L_any_J297 {p0 : Program} {l : Launch} {e : Env} {s : State} {m : MethodId} {args : Array Value} {below : List Frame} {meth : Method} {c : Code} {A : Nat → Prop} {G : GT} {ad : Nat → Nat} (C : CX p0 l s m args meth c A G ad cL_any RL 5 (some .int)) {S : Nat → Int32} {N : Nat} (hsc : S = scx G ∧ N = G.2.2.2.2 5) (B : StB) (s0 : Int32) (s1 : Int32) (s3 : Int32) (s4 : Int32) (M : StM) (O : StO) (cs0 ss0 : Nat) (hcs : cs0 + 4 ≤ 4 ∧ ss0 + 24 ≤ 24) (R0 : Int32 × StB) (hR : R0 = f_L_any_J297 S N B s0 s1 s3 s4) (hok : ok_L_any_J297 S N B s0 s1 s3 s4) : X p0 l e (rmd 20 4 24) s m args below meth c A G ad 5 cs0 ss0 (MQ below (QI G A ad R0.1 R0.2 M O) args s 4 24 A) B M O [] 297 [.int s0, .int s1, .ref (G.2.2.2.2 4), .int s3, .int s4, .ref (ad 176)] := by
  have hR : R0 = (nm (f_L_pick S N s1 s0) (fun (r85 : Int32) => (nm (f_L_deed B s4 (s3 + r85) 0 0 0) (fun (z87 : Int32 × StB) => (z87.1, z87.2))))) := hR
  have hok : ((ok_L_pick S N s1 s0) ∧ (∀ r85 : Int32, r85 = (f_L_pick S N s1 s0) → ((ok_L_deed B s4 (s3 + r85) 0 0 0)))) := hok
  have h84 := hok.1
  have hok := hok.2
  refine x_cIS (pc := 297) (as := [.ref (G.2.2.2.2 4), .int s1, .int s0]) C (c_L_pick C.2.2.2.2.2.2.2.1 S N hsc B M O s1 s0 h84) wd_2_66 cd_L_pick wd_2_65 ⟨Nat.le_of_ble_eq_true rfl, Nat.le_of_ble_eq_true rfl⟩ ⟨by simp only [rmd]; omega, by simp only [rmd]; omega⟩ rfl rfl (Nat.le_of_ble_eq_true rfl) dL_any_297 ?_
  refine x_nmI (fun r85 er85 => ?_)
  have hR := nmE hR er85
  have hok := hok r85 er85
  refine x_iadd (pc := 300) C dL_any_300 ?_
  refine x_iconst (pc := 301) (v := 0) C dL_any_301 (by decide) ?_
  refine x_iconst (pc := 302) (v := 0) C dL_any_302 (by decide) ?_
  refine x_iconst (pc := 303) (v := 0) C dL_any_303 (by decide) ?_
  have h86 := hok
  refine x_cWS (pc := 304) (as := [.ref (ad 176), .int s4, .int (s3 + r85), .int 0, .int 0, .int 0]) (n := 6) C (c_L_deed C.2.2.2.2.2.2.2.1  B M O s4 (s3 + r85) 0 0 0 h86) wd_2_76 wd_2_77 wd_1_0 wd_2_78 ⟨by decide, by decide, by decide +kernel⟩ ⟨Nat.le_of_ble_eq_true rfl, Nat.le_of_ble_eq_true rfl⟩ ⟨by simp only [rmd]; omega, by simp only [rmd]; omega⟩ rfl rfl (Nat.le_of_ble_eq_true rfl) dL_any_304 ?_
  refine x_nmIB (fun z87 ez87 => ?_)
  have hR := nmE hR ez87
  refine x_wid (k0 := 4) (n0 := 24) (by omega) (by omega) ?_
  exact x_iretB (pc := 307) C rfl hR dL_any_307
set_option maxHeartbeats 4000000 in
set_option maxRecDepth 100000 in
theorem c_L_any {l : Launch} {A : Nat → Prop} {G : GT} {ad : Nat → Nat} (gl : Gl l A G ad) (S : Nat → Int32) (N : Nat) (hsc : S = scx G ∧ N = G.2.2.2.2 5) (B : StB) (M : StM) (O : StO) (x2 : Int32) (hok : ok_L_any S N B x2) : Met l yL_any (wof yL_any cL_any 5 (some .int)) (rmd 20 4 24) (va_Pc [.ref (ad 176), .ref (G.2.2.2.2 4), .int x2] (PW G A ad B M O)) (QI G A ad (f_L_any S N B x2).1 (f_L_any S N B x2).2 M O) 4 24 A := by
  refine x_body (own := RL) (by decide +kernel) rfl gl (Nat.le_of_ble_eq_true rfl) (ls := [(0, .ref (ad 176)), (1, .ref (G.2.2.2.2 4)), (2, .int x2)]) rfl ?_
  intro p0 e s m args below meth c C
  have hR : (f_L_any S N B x2) = (nm (f_X6_accountCount B) (fun (r1 : Int32) => (nm (mx 1 r1) (fun (v2 : Int32) => (nm (f_L_pick S N (x2 + 1) v2) (fun (r4 : Int32) => (nm (f_L_pick S N x2 20) (fun (r6 : Int32) => (if r6 = 0 then (nm (f_L_pick S N (x2 + 2) 4) (fun (r8 : Int32) => (nm (f_L_deed B 0 r8 0 0 0) (fun (z10 : Int32 × StB) => (z10.1, z10.2))))) else (if r6 = 1 then (nm (f_L_pick S N (x2 + 2) 999) (fun (r12 : Int32) => (nm (f_L_deed B 1 r4 (1 + r12) 0 0) (fun (z14 : Int32 × StB) => (z14.1, z14.2))))) else (if r6 = 2 then (nm (f_L_pick S N (x2 + 2) 999) (fun (r16 : Int32) => (nm (f_L_deed B 1 r4 (1 + r16) 0 0) (fun (z18 : Int32 × StB) => (z18.1, z18.2))))) else (if r6 = 3 then (nm (f_L_pick S N (x2 + 2) 999) (fun (r20 : Int32) => (nm (f_L_deed B 1 r4 (1 + r20) 0 0) (fun (z22 : Int32 × StB) => (z22.1, z22.2))))) else (if r6 = 4 then (nm (f_L_pick S N (x2 + 3) 2) (fun (r24 : Int32) => (if r24 = 0 then (f_L_any_J167 S N B 60 (x2 + 2) 1 r4 2) else (f_L_any_J167 S N B 999 (x2 + 2) 1 r4 2)))) else (if r6 = 5 then (nm (f_L_pick S N (x2 + 3) 2) (fun (r31 : Int32) => (if r31 = 0 then (f_L_any_J167 S N B 60 (x2 + 2) 1 r4 2) else (f_L_any_J167 S N B 999 (x2 + 2) 1 r4 2)))) else (if r6 = 6 then (nm (f_L_pick S N (x2 + 3) 2) (fun (r34 : Int32) => (if r34 = 0 then (f_L_any_J167 S N B 60 (x2 + 2) 1 r4 2) else (f_L_any_J167 S N B 999 (x2 + 2) 1 r4 2)))) else (if r6 = 7 then (nm (f_L_pick S N (x2 + 2) 501) (fun (r37 : Int32) => (nm (f_L_deed B 3 r4 r37 0 0) (fun (z39 : Int32 × StB) => (z39.1, z39.2))))) else (if r6 = 8 then (nm (f_L_pick S N (x2 + 2) 501) (fun (r41 : Int32) => (nm (f_L_deed B 3 r4 r41 0 0) (fun (z43 : Int32 × StB) => (z43.1, z43.2))))) else (if r6 = 9 then (nm (f_L_pick S N (x2 + 2) v2) (fun (r45 : Int32) => (nm (f_L_pick S N (x2 + 4) 2) (fun (r47 : Int32) => (if r47 = 0 then (f_L_any_J233 S N B x2 60 (x2 + 3) 1 r45 r4 4) else (f_L_any_J233 S N B x2 999 (x2 + 3) 1 r45 r4 4)))))) else (if r6 = 10 then (nm (f_L_pick S N (x2 + 2) v2) (fun (r56 : Int32) => (nm (f_L_pick S N (x2 + 4) 2) (fun (r58 : Int32) => (if r58 = 0 then (f_L_any_J233 S N B x2 60 (x2 + 3) 1 r56 r4 4) else (f_L_any_J233 S N B x2 999 (x2 + 3) 1 r56 r4 4)))))) else (if r6 = 11 then (nm (f_L_pick S N (x2 + 2) v2) (fun (r61 : Int32) => (nm (f_L_pick S N (x2 + 4) 2) (fun (r63 : Int32) => (if r63 = 0 then (f_L_any_J233 S N B x2 60 (x2 + 3) 1 r61 r4 4) else (f_L_any_J233 S N B x2 999 (x2 + 3) 1 r61 r4 4)))))) else (if r6 = 12 then (nm (f_L_pick S N (x2 + 2) v2) (fun (r66 : Int32) => (nm (f_L_pick S N (x2 + 4) 2) (fun (r68 : Int32) => (if r68 = 0 then (f_L_any_J233 S N B x2 60 (x2 + 3) 1 r66 r4 4) else (f_L_any_J233 S N B x2 999 (x2 + 3) 1 r66 r4 4)))))) else (if r6 = 13 then (nm (f_L_pick S N (x2 + 2) v2) (fun (r71 : Int32) => (nm (f_L_pick S N (x2 + 4) 2) (fun (r73 : Int32) => (if r73 = 0 then (f_L_any_J233 S N B x2 60 (x2 + 3) 1 r71 r4 4) else (f_L_any_J233 S N B x2 999 (x2 + 3) 1 r71 r4 4)))))) else (if r6 = 14 then (nm (f_L_pick S N (x2 + 2) 10) (fun (r76 : Int32) => (nm (f_L_id B r76) (fun (r78 : Int32) => (nm (f_L_deed B 5 r78 0 0 0) (fun (z80 : Int32 × StB) => (z80.1, z80.2))))))) else (nm (f_L_pick S N (x2 + 3) 2) (fun (r82 : Int32) => (if r82 = 0 then (f_L_any_J297 S N B 3 (x2 + 2) 1 6) else (f_L_any_J297 S N B 60 (x2 + 2) 1 6))))))))))))))))))))))))))) := rfl
  have hok : (∀ r1 : Int32, r1 = (f_X6_accountCount B) → (∀ v2 : Int32, v2 = (mx 1 r1) → ((ok_L_pick S N (x2 + 1) v2) ∧ (∀ r4 : Int32, r4 = (f_L_pick S N (x2 + 1) v2) → ((ok_L_pick S N x2 20) ∧ (∀ r6 : Int32, r6 = (f_L_pick S N x2 20) → ((r6 = 0 → ((ok_L_pick S N (x2 + 2) 4) ∧ (∀ r8 : Int32, r8 = (f_L_pick S N (x2 + 2) 4) → ((ok_L_deed B 0 r8 0 0 0))))) ∧ (¬ r6 = 0 → ((r6 = 1 → ((ok_L_pick S N (x2 + 2) 999) ∧ (∀ r12 : Int32, r12 = (f_L_pick S N (x2 + 2) 999) → ((ok_L_deed B 1 r4 (1 + r12) 0 0))))) ∧ (¬ r6 = 1 → ((r6 = 2 → ((ok_L_pick S N (x2 + 2) 999) ∧ (∀ r16 : Int32, r16 = (f_L_pick S N (x2 + 2) 999) → ((ok_L_deed B 1 r4 (1 + r16) 0 0))))) ∧ (¬ r6 = 2 → ((r6 = 3 → ((ok_L_pick S N (x2 + 2) 999) ∧ (∀ r20 : Int32, r20 = (f_L_pick S N (x2 + 2) 999) → ((ok_L_deed B 1 r4 (1 + r20) 0 0))))) ∧ (¬ r6 = 3 → ((r6 = 4 → ((ok_L_pick S N (x2 + 3) 2) ∧ (∀ r24 : Int32, r24 = (f_L_pick S N (x2 + 3) 2) → ((r24 = 0 → (ok_L_any_J167 S N B 60 (x2 + 2) 1 r4 2)) ∧ (¬ r24 = 0 → (ok_L_any_J167 S N B 999 (x2 + 2) 1 r4 2)))))) ∧ (¬ r6 = 4 → ((r6 = 5 → ((ok_L_pick S N (x2 + 3) 2) ∧ (∀ r31 : Int32, r31 = (f_L_pick S N (x2 + 3) 2) → ((r31 = 0 → (ok_L_any_J167 S N B 60 (x2 + 2) 1 r4 2)) ∧ (¬ r31 = 0 → (ok_L_any_J167 S N B 999 (x2 + 2) 1 r4 2)))))) ∧ (¬ r6 = 5 → ((r6 = 6 → ((ok_L_pick S N (x2 + 3) 2) ∧ (∀ r34 : Int32, r34 = (f_L_pick S N (x2 + 3) 2) → ((r34 = 0 → (ok_L_any_J167 S N B 60 (x2 + 2) 1 r4 2)) ∧ (¬ r34 = 0 → (ok_L_any_J167 S N B 999 (x2 + 2) 1 r4 2)))))) ∧ (¬ r6 = 6 → ((r6 = 7 → ((ok_L_pick S N (x2 + 2) 501) ∧ (∀ r37 : Int32, r37 = (f_L_pick S N (x2 + 2) 501) → ((ok_L_deed B 3 r4 r37 0 0))))) ∧ (¬ r6 = 7 → ((r6 = 8 → ((ok_L_pick S N (x2 + 2) 501) ∧ (∀ r41 : Int32, r41 = (f_L_pick S N (x2 + 2) 501) → ((ok_L_deed B 3 r4 r41 0 0))))) ∧ (¬ r6 = 8 → ((r6 = 9 → ((ok_L_pick S N (x2 + 2) v2) ∧ (∀ r45 : Int32, r45 = (f_L_pick S N (x2 + 2) v2) → ((ok_L_pick S N (x2 + 4) 2) ∧ (∀ r47 : Int32, r47 = (f_L_pick S N (x2 + 4) 2) → ((r47 = 0 → (ok_L_any_J233 S N B x2 60 (x2 + 3) 1 r45 r4 4)) ∧ (¬ r47 = 0 → (ok_L_any_J233 S N B x2 999 (x2 + 3) 1 r45 r4 4)))))))) ∧ (¬ r6 = 9 → ((r6 = 10 → ((ok_L_pick S N (x2 + 2) v2) ∧ (∀ r56 : Int32, r56 = (f_L_pick S N (x2 + 2) v2) → ((ok_L_pick S N (x2 + 4) 2) ∧ (∀ r58 : Int32, r58 = (f_L_pick S N (x2 + 4) 2) → ((r58 = 0 → (ok_L_any_J233 S N B x2 60 (x2 + 3) 1 r56 r4 4)) ∧ (¬ r58 = 0 → (ok_L_any_J233 S N B x2 999 (x2 + 3) 1 r56 r4 4)))))))) ∧ (¬ r6 = 10 → ((r6 = 11 → ((ok_L_pick S N (x2 + 2) v2) ∧ (∀ r61 : Int32, r61 = (f_L_pick S N (x2 + 2) v2) → ((ok_L_pick S N (x2 + 4) 2) ∧ (∀ r63 : Int32, r63 = (f_L_pick S N (x2 + 4) 2) → ((r63 = 0 → (ok_L_any_J233 S N B x2 60 (x2 + 3) 1 r61 r4 4)) ∧ (¬ r63 = 0 → (ok_L_any_J233 S N B x2 999 (x2 + 3) 1 r61 r4 4)))))))) ∧ (¬ r6 = 11 → ((r6 = 12 → ((ok_L_pick S N (x2 + 2) v2) ∧ (∀ r66 : Int32, r66 = (f_L_pick S N (x2 + 2) v2) → ((ok_L_pick S N (x2 + 4) 2) ∧ (∀ r68 : Int32, r68 = (f_L_pick S N (x2 + 4) 2) → ((r68 = 0 → (ok_L_any_J233 S N B x2 60 (x2 + 3) 1 r66 r4 4)) ∧ (¬ r68 = 0 → (ok_L_any_J233 S N B x2 999 (x2 + 3) 1 r66 r4 4)))))))) ∧ (¬ r6 = 12 → ((r6 = 13 → ((ok_L_pick S N (x2 + 2) v2) ∧ (∀ r71 : Int32, r71 = (f_L_pick S N (x2 + 2) v2) → ((ok_L_pick S N (x2 + 4) 2) ∧ (∀ r73 : Int32, r73 = (f_L_pick S N (x2 + 4) 2) → ((r73 = 0 → (ok_L_any_J233 S N B x2 60 (x2 + 3) 1 r71 r4 4)) ∧ (¬ r73 = 0 → (ok_L_any_J233 S N B x2 999 (x2 + 3) 1 r71 r4 4)))))))) ∧ (¬ r6 = 13 → ((r6 = 14 → ((ok_L_pick S N (x2 + 2) 10) ∧ (∀ r76 : Int32, r76 = (f_L_pick S N (x2 + 2) 10) → ((ok_L_id B r76) ∧ (∀ r78 : Int32, r78 = (f_L_id B r76) → ((ok_L_deed B 5 r78 0 0 0))))))) ∧ (¬ r6 = 14 → ((ok_L_pick S N (x2 + 3) 2) ∧ (∀ r82 : Int32, r82 = (f_L_pick S N (x2 + 3) 2) → ((r82 = 0 → (ok_L_any_J297 S N B 3 (x2 + 2) 1 6)) ∧ (¬ r82 = 0 → (ok_L_any_J297 S N B 60 (x2 + 2) 1 6))))))))))))))))))))))))))))))))))))))))) := hok
  refine x_iconst (pc := 0) (v := 1) C dL_any_0 (by decide) ?_
  refine x_aload_n (pc := 1) (i := 0) C 0 dL_any_1 rfl rfl ?_
  refine x_cIV (pc := 2) (as := []) (q := 176) C (c_X6_accountCount C.2.2.2.2.2.2.2.1  B M O ) (fs := _) e_I rfl cv_X6_accountCount cd_X6_accountCount wd_2_61 ⟨Nat.le_of_ble_eq_true rfl, Nat.le_of_ble_eq_true rfl⟩ ⟨by simp only [rmd]; omega, by simp only [rmd]; omega⟩ rfl rfl (Nat.le_of_ble_eq_true rfl) dL_any_2 ?_
  refine x_nmI (fun r1 er1 => ?_)
  have hR := nmE hR er1
  have hok := hok r1 er1
  refine x_mmax (pc := 5) C wd_4_115 wd_3_180 wd_1_21 wd_3_181 ⟨Nat.le_of_ble_eq_true rfl, Nat.le_of_ble_eq_true rfl⟩ ⟨Nat.le_of_ble_eq_true rfl, Nat.le_of_ble_eq_true rfl⟩ dL_any_5 ?_
  refine x_nmI (fun v2 ev2 => ?_)
  have hR := nmE hR ev2
  have hok := hok v2 ev2
  refine x_istore_n (pc := 8) (i := 3) (ls2 := [(3, .int v2), (0, .ref (ad 176)), (1, .ref (G.2.2.2.2 4)), (2, .int x2)]) C dL_any_8 rfl (by decide) rfl ?_
  refine x_aload_n (pc := 9) (i := 1) C 2 dL_any_9 rfl rfl ?_
  refine x_iload_n (pc := 10) (i := 2) C 3 dL_any_10 rfl rfl ?_
  refine x_iconst (pc := 11) (v := 1) C dL_any_11 (by decide) ?_
  refine x_iadd (pc := 12) C dL_any_12 ?_
  refine x_iload_n (pc := 13) (i := 3) C 0 dL_any_13 rfl rfl ?_
  have h3 := hok.1
  have hok := hok.2
  refine x_cIS (pc := 14) (as := [.ref (G.2.2.2.2 4), .int (x2 + 1), .int v2]) C (c_L_pick C.2.2.2.2.2.2.2.1 S N hsc B M O (x2 + 1) v2 h3) wd_2_66 cd_L_pick wd_2_65 ⟨Nat.le_of_ble_eq_true rfl, Nat.le_of_ble_eq_true rfl⟩ ⟨by simp only [rmd]; omega, by simp only [rmd]; omega⟩ rfl rfl (Nat.le_of_ble_eq_true rfl) dL_any_14 ?_
  refine x_nmI (fun r4 er4 => ?_)
  have hR := nmE hR er4
  have hok := hok r4 er4
  refine x_istore (pc := 17) (i := 4) (ls2 := [(4, .int r4), (3, .int v2), (0, .ref (ad 176)), (1, .ref (G.2.2.2.2 4)), (2, .int x2)]) C dL_any_17 (by decide) rfl ?_
  refine x_aload_n (pc := 19) (i := 1) C 3 dL_any_19 rfl rfl ?_
  refine x_iload_n (pc := 20) (i := 2) C 4 dL_any_20 rfl rfl ?_
  refine x_bipush (pc := 21) (v := 20) C dL_any_21 (by decide) ?_
  have h5 := hok.1
  have hok := hok.2
  refine x_cIS (pc := 23) (as := [.ref (G.2.2.2.2 4), .int x2, .int 20]) C (c_L_pick C.2.2.2.2.2.2.2.1 S N hsc B M O x2 20 h5) wd_2_66 cd_L_pick wd_2_65 ⟨Nat.le_of_ble_eq_true rfl, Nat.le_of_ble_eq_true rfl⟩ ⟨by simp only [rmd]; omega, by simp only [rmd]; omega⟩ rfl rfl (Nat.le_of_ble_eq_true rfl) dL_any_23 ?_
  refine x_nmI (fun r6 er6 => ?_)
  have hR := nmE hR er6
  have hok := hok r6 er6
  by_cases c88_0 : r6 = 0
  · have hR := hR.trans (if_pos c88_0)
    have hok := hok.1 c88_0
    refine x_tabIn (pc := 26) (tgt := 100) (off := 74) C dL_any_26 c88_0 (by decide) (by decide) (by decide) (by decide) ?_
    refine x_aload_n (pc := 100) (i := 0) C 2 dL_any_100 rfl rfl ?_
    refine x_iconst (pc := 101) (v := 0) C dL_any_101 (by decide) ?_
    refine x_aload_n (pc := 102) (i := 1) C 3 dL_any_102 rfl rfl ?_
    refine x_iload_n (pc := 103) (i := 2) C 4 dL_any_103 rfl rfl ?_
    refine x_iconst (pc := 104) (v := 2) C dL_any_104 (by decide) ?_
    refine x_iadd (pc := 105) C dL_any_105 ?_
    refine x_iconst (pc := 106) (v := 4) C dL_any_106 (by decide) ?_
    have h7 := hok.1
    have hok := hok.2
    refine x_cIS (pc := 107) (as := [.ref (G.2.2.2.2 4), .int (x2 + 2), .int 4]) C (c_L_pick C.2.2.2.2.2.2.2.1 S N hsc B M O (x2 + 2) 4 h7) wd_2_66 cd_L_pick wd_2_65 ⟨Nat.le_of_ble_eq_true rfl, Nat.le_of_ble_eq_true rfl⟩ ⟨by simp only [rmd]; omega, by simp only [rmd]; omega⟩ rfl rfl (Nat.le_of_ble_eq_true rfl) dL_any_107 ?_
    refine x_nmI (fun r8 er8 => ?_)
    have hR := nmE hR er8
    have hok := hok r8 er8
    refine x_iconst (pc := 110) (v := 0) C dL_any_110 (by decide) ?_
    refine x_iconst (pc := 111) (v := 0) C dL_any_111 (by decide) ?_
    refine x_iconst (pc := 112) (v := 0) C dL_any_112 (by decide) ?_
    have h9 := hok
    refine x_cWS (pc := 113) (as := [.ref (ad 176), .int 0, .int r8, .int 0, .int 0, .int 0]) (n := 6) C (c_L_deed C.2.2.2.2.2.2.2.1  B M O 0 r8 0 0 0 h9) wd_2_76 wd_2_77 wd_1_0 wd_2_78 ⟨by decide, by decide, by decide +kernel⟩ ⟨Nat.le_of_ble_eq_true rfl, Nat.le_of_ble_eq_true rfl⟩ ⟨by simp only [rmd]; omega, by simp only [rmd]; omega⟩ rfl rfl (Nat.le_of_ble_eq_true rfl) dL_any_113 ?_
    refine x_nmIB (fun z10 ez10 => ?_)
    have hR := nmE hR ez10
    refine x_wid (k0 := 4) (n0 := 24) (by omega) (by omega) ?_
    exact x_iretB (pc := 116) C rfl hR dL_any_116
  have hR := hR.trans (if_neg c88_0)
  have hok := hok.2 c88_0
  by_cases c88_1 : r6 = 1
  · have hR := hR.trans (if_pos c88_1)
    have hok := hok.1 c88_1
    refine x_tabIn (pc := 26) (tgt := 117) (off := 91) C dL_any_26 c88_1 (by decide) (by decide) (by decide) (by decide) ?_
    refine x_aload_n (pc := 117) (i := 0) C 2 dL_any_117 rfl rfl ?_
    refine x_iconst (pc := 118) (v := 1) C dL_any_118 (by decide) ?_
    refine x_iload (pc := 119) (i := 4) C 0 dL_any_119 rfl ?_
    refine x_iconst (pc := 121) (v := 1) C dL_any_121 (by decide) ?_
    refine x_aload_n (pc := 122) (i := 1) C 3 dL_any_122 rfl rfl ?_
    refine x_iload_n (pc := 123) (i := 2) C 4 dL_any_123 rfl rfl ?_
    refine x_iconst (pc := 124) (v := 2) C dL_any_124 (by decide) ?_
    refine x_iadd (pc := 125) C dL_any_125 ?_
    refine x_sipush (pc := 126) (v := 999) C dL_any_126 (by decide) ?_
    have h11 := hok.1
    have hok := hok.2
    refine x_cIS (pc := 129) (as := [.ref (G.2.2.2.2 4), .int (x2 + 2), .int 999]) C (c_L_pick C.2.2.2.2.2.2.2.1 S N hsc B M O (x2 + 2) 999 h11) wd_2_66 cd_L_pick wd_2_65 ⟨Nat.le_of_ble_eq_true rfl, Nat.le_of_ble_eq_true rfl⟩ ⟨by simp only [rmd]; omega, by simp only [rmd]; omega⟩ rfl rfl (Nat.le_of_ble_eq_true rfl) dL_any_129 ?_
    refine x_nmI (fun r12 er12 => ?_)
    have hR := nmE hR er12
    have hok := hok r12 er12
    refine x_iadd (pc := 132) C dL_any_132 ?_
    refine x_iconst (pc := 133) (v := 0) C dL_any_133 (by decide) ?_
    refine x_iconst (pc := 134) (v := 0) C dL_any_134 (by decide) ?_
    have h13 := hok
    refine x_cWS (pc := 135) (as := [.ref (ad 176), .int 1, .int r4, .int (1 + r12), .int 0, .int 0]) (n := 6) C (c_L_deed C.2.2.2.2.2.2.2.1  B M O 1 r4 (1 + r12) 0 0 h13) wd_2_76 wd_2_77 wd_1_0 wd_2_78 ⟨by decide, by decide, by decide +kernel⟩ ⟨Nat.le_of_ble_eq_true rfl, Nat.le_of_ble_eq_true rfl⟩ ⟨by simp only [rmd]; omega, by simp only [rmd]; omega⟩ rfl rfl (Nat.le_of_ble_eq_true rfl) dL_any_135 ?_
    refine x_nmIB (fun z14 ez14 => ?_)
    have hR := nmE hR ez14
    refine x_wid (k0 := 4) (n0 := 24) (by omega) (by omega) ?_
    exact x_iretB (pc := 138) C rfl hR dL_any_138
  have hR := hR.trans (if_neg c88_1)
  have hok := hok.2 c88_1
  by_cases c88_2 : r6 = 2
  · have hR := hR.trans (if_pos c88_2)
    have hok := hok.1 c88_2
    refine x_tabIn (pc := 26) (tgt := 117) (off := 91) C dL_any_26 c88_2 (by decide) (by decide) (by decide) (by decide) ?_
    refine x_aload_n (pc := 117) (i := 0) C 2 dL_any_117 rfl rfl ?_
    refine x_iconst (pc := 118) (v := 1) C dL_any_118 (by decide) ?_
    refine x_iload (pc := 119) (i := 4) C 0 dL_any_119 rfl ?_
    refine x_iconst (pc := 121) (v := 1) C dL_any_121 (by decide) ?_
    refine x_aload_n (pc := 122) (i := 1) C 3 dL_any_122 rfl rfl ?_
    refine x_iload_n (pc := 123) (i := 2) C 4 dL_any_123 rfl rfl ?_
    refine x_iconst (pc := 124) (v := 2) C dL_any_124 (by decide) ?_
    refine x_iadd (pc := 125) C dL_any_125 ?_
    refine x_sipush (pc := 126) (v := 999) C dL_any_126 (by decide) ?_
    have h15 := hok.1
    have hok := hok.2
    refine x_cIS (pc := 129) (as := [.ref (G.2.2.2.2 4), .int (x2 + 2), .int 999]) C (c_L_pick C.2.2.2.2.2.2.2.1 S N hsc B M O (x2 + 2) 999 h15) wd_2_66 cd_L_pick wd_2_65 ⟨Nat.le_of_ble_eq_true rfl, Nat.le_of_ble_eq_true rfl⟩ ⟨by simp only [rmd]; omega, by simp only [rmd]; omega⟩ rfl rfl (Nat.le_of_ble_eq_true rfl) dL_any_129 ?_
    refine x_nmI (fun r16 er16 => ?_)
    have hR := nmE hR er16
    have hok := hok r16 er16
    refine x_iadd (pc := 132) C dL_any_132 ?_
    refine x_iconst (pc := 133) (v := 0) C dL_any_133 (by decide) ?_
    refine x_iconst (pc := 134) (v := 0) C dL_any_134 (by decide) ?_
    have h17 := hok
    refine x_cWS (pc := 135) (as := [.ref (ad 176), .int 1, .int r4, .int (1 + r16), .int 0, .int 0]) (n := 6) C (c_L_deed C.2.2.2.2.2.2.2.1  B M O 1 r4 (1 + r16) 0 0 h17) wd_2_76 wd_2_77 wd_1_0 wd_2_78 ⟨by decide, by decide, by decide +kernel⟩ ⟨Nat.le_of_ble_eq_true rfl, Nat.le_of_ble_eq_true rfl⟩ ⟨by simp only [rmd]; omega, by simp only [rmd]; omega⟩ rfl rfl (Nat.le_of_ble_eq_true rfl) dL_any_135 ?_
    refine x_nmIB (fun z18 ez18 => ?_)
    have hR := nmE hR ez18
    refine x_wid (k0 := 4) (n0 := 24) (by omega) (by omega) ?_
    exact x_iretB (pc := 138) C rfl hR dL_any_138
  have hR := hR.trans (if_neg c88_2)
  have hok := hok.2 c88_2
  by_cases c88_3 : r6 = 3
  · have hR := hR.trans (if_pos c88_3)
    have hok := hok.1 c88_3
    refine x_tabIn (pc := 26) (tgt := 117) (off := 91) C dL_any_26 c88_3 (by decide) (by decide) (by decide) (by decide) ?_
    refine x_aload_n (pc := 117) (i := 0) C 2 dL_any_117 rfl rfl ?_
    refine x_iconst (pc := 118) (v := 1) C dL_any_118 (by decide) ?_
    refine x_iload (pc := 119) (i := 4) C 0 dL_any_119 rfl ?_
    refine x_iconst (pc := 121) (v := 1) C dL_any_121 (by decide) ?_
    refine x_aload_n (pc := 122) (i := 1) C 3 dL_any_122 rfl rfl ?_
    refine x_iload_n (pc := 123) (i := 2) C 4 dL_any_123 rfl rfl ?_
    refine x_iconst (pc := 124) (v := 2) C dL_any_124 (by decide) ?_
    refine x_iadd (pc := 125) C dL_any_125 ?_
    refine x_sipush (pc := 126) (v := 999) C dL_any_126 (by decide) ?_
    have h19 := hok.1
    have hok := hok.2
    refine x_cIS (pc := 129) (as := [.ref (G.2.2.2.2 4), .int (x2 + 2), .int 999]) C (c_L_pick C.2.2.2.2.2.2.2.1 S N hsc B M O (x2 + 2) 999 h19) wd_2_66 cd_L_pick wd_2_65 ⟨Nat.le_of_ble_eq_true rfl, Nat.le_of_ble_eq_true rfl⟩ ⟨by simp only [rmd]; omega, by simp only [rmd]; omega⟩ rfl rfl (Nat.le_of_ble_eq_true rfl) dL_any_129 ?_
    refine x_nmI (fun r20 er20 => ?_)
    have hR := nmE hR er20
    have hok := hok r20 er20
    refine x_iadd (pc := 132) C dL_any_132 ?_
    refine x_iconst (pc := 133) (v := 0) C dL_any_133 (by decide) ?_
    refine x_iconst (pc := 134) (v := 0) C dL_any_134 (by decide) ?_
    have h21 := hok
    refine x_cWS (pc := 135) (as := [.ref (ad 176), .int 1, .int r4, .int (1 + r20), .int 0, .int 0]) (n := 6) C (c_L_deed C.2.2.2.2.2.2.2.1  B M O 1 r4 (1 + r20) 0 0 h21) wd_2_76 wd_2_77 wd_1_0 wd_2_78 ⟨by decide, by decide, by decide +kernel⟩ ⟨Nat.le_of_ble_eq_true rfl, Nat.le_of_ble_eq_true rfl⟩ ⟨by simp only [rmd]; omega, by simp only [rmd]; omega⟩ rfl rfl (Nat.le_of_ble_eq_true rfl) dL_any_135 ?_
    refine x_nmIB (fun z22 ez22 => ?_)
    have hR := nmE hR ez22
    refine x_wid (k0 := 4) (n0 := 24) (by omega) (by omega) ?_
    exact x_iretB (pc := 138) C rfl hR dL_any_138
  have hR := hR.trans (if_neg c88_3)
  have hok := hok.2 c88_3
  by_cases c88_4 : r6 = 4
  · have hR := hR.trans (if_pos c88_4)
    have hok := hok.1 c88_4
    refine x_tabIn (pc := 26) (tgt := 139) (off := 113) C dL_any_26 c88_4 (by decide) (by decide) (by decide) (by decide) ?_
    refine x_aload_n (pc := 139) (i := 0) C 2 dL_any_139 rfl rfl ?_
    refine x_iconst (pc := 140) (v := 2) C dL_any_140 (by decide) ?_
    refine x_iload (pc := 141) (i := 4) C 0 dL_any_141 rfl ?_
    refine x_iconst (pc := 143) (v := 1) C dL_any_143 (by decide) ?_
    refine x_aload_n (pc := 144) (i := 1) C 3 dL_any_144 rfl rfl ?_
    refine x_iload_n (pc := 145) (i := 2) C 4 dL_any_145 rfl rfl ?_
    refine x_iconst (pc := 146) (v := 2) C dL_any_146 (by decide) ?_
    refine x_iadd (pc := 147) C dL_any_147 ?_
    refine x_aload_n (pc := 148) (i := 1) C 3 dL_any_148 rfl rfl ?_
    refine x_iload_n (pc := 149) (i := 2) C 4 dL_any_149 rfl rfl ?_
    refine x_iconst (pc := 150) (v := 3) C dL_any_150 (by decide) ?_
    refine x_iadd (pc := 151) C dL_any_151 ?_
    refine x_iconst (pc := 152) (v := 2) C dL_any_152 (by decide) ?_
    have h23 := hok.1
    have hok := hok.2
    refine x_cIS (pc := 153) (as := [.ref (G.2.2.2.2 4), .int (x2 + 3), .int 2]) C (c_L_pick C.2.2.2.2.2.2.2.1 S N hsc B M O (x2 + 3) 2 h23) wd_2_66 cd_L_pick wd_2_65 ⟨Nat.le_of_ble_eq_true rfl, Nat.le_of_ble_eq_true rfl⟩ ⟨by simp only [rmd]; omega, by simp only [rmd]; omega⟩ rfl rfl (Nat.le_of_ble_eq_true rfl) dL_any_153 ?_
    refine x_nmI (fun r24 er24 => ?_)
    have hR := nmE hR er24
    have hok := hok r24 er24
    refine x_if_ne (pc := 156) (tgt := 164) C dL_any_156 (by decide) (fun c25 => ?_) (fun c25 => ?_)
    · have hR := hR.trans (if_neg c25)
      have hok := hok.2 c25
      refine x_sipush (pc := 164) (v := 999) C dL_any_164 (by decide) ?_
      refine x_sub [] (ls2 := []) rfl ?_
      exact t_L_any_J167 C hsc B 999 (x2 + 2) 1 r4 2 M O _ _ ⟨by omega, by omega⟩ _ hR hok
    · have hR := hR.trans (if_pos c25)
      have hok := hok.1 c25
      refine x_bipush (pc := 159) (v := 60) C dL_any_159 (by decide) ?_
      refine x_goto (pc := 161) (tgt := 167) C dL_any_161 (by decide) ?_
      refine x_sub [] (ls2 := []) rfl ?_
      exact t_L_any_J167 C hsc B 60 (x2 + 2) 1 r4 2 M O _ _ ⟨by omega, by omega⟩ _ hR hok
  have hR := hR.trans (if_neg c88_4)
  have hok := hok.2 c88_4
  by_cases c88_5 : r6 = 5
  · have hR := hR.trans (if_pos c88_5)
    have hok := hok.1 c88_5
    refine x_tabIn (pc := 26) (tgt := 139) (off := 113) C dL_any_26 c88_5 (by decide) (by decide) (by decide) (by decide) ?_
    refine x_aload_n (pc := 139) (i := 0) C 2 dL_any_139 rfl rfl ?_
    refine x_iconst (pc := 140) (v := 2) C dL_any_140 (by decide) ?_
    refine x_iload (pc := 141) (i := 4) C 0 dL_any_141 rfl ?_
    refine x_iconst (pc := 143) (v := 1) C dL_any_143 (by decide) ?_
    refine x_aload_n (pc := 144) (i := 1) C 3 dL_any_144 rfl rfl ?_
    refine x_iload_n (pc := 145) (i := 2) C 4 dL_any_145 rfl rfl ?_
    refine x_iconst (pc := 146) (v := 2) C dL_any_146 (by decide) ?_
    refine x_iadd (pc := 147) C dL_any_147 ?_
    refine x_aload_n (pc := 148) (i := 1) C 3 dL_any_148 rfl rfl ?_
    refine x_iload_n (pc := 149) (i := 2) C 4 dL_any_149 rfl rfl ?_
    refine x_iconst (pc := 150) (v := 3) C dL_any_150 (by decide) ?_
    refine x_iadd (pc := 151) C dL_any_151 ?_
    refine x_iconst (pc := 152) (v := 2) C dL_any_152 (by decide) ?_
    have h30 := hok.1
    have hok := hok.2
    refine x_cIS (pc := 153) (as := [.ref (G.2.2.2.2 4), .int (x2 + 3), .int 2]) C (c_L_pick C.2.2.2.2.2.2.2.1 S N hsc B M O (x2 + 3) 2 h30) wd_2_66 cd_L_pick wd_2_65 ⟨Nat.le_of_ble_eq_true rfl, Nat.le_of_ble_eq_true rfl⟩ ⟨by simp only [rmd]; omega, by simp only [rmd]; omega⟩ rfl rfl (Nat.le_of_ble_eq_true rfl) dL_any_153 ?_
    refine x_nmI (fun r31 er31 => ?_)
    have hR := nmE hR er31
    have hok := hok r31 er31
    refine x_if_ne (pc := 156) (tgt := 164) C dL_any_156 (by decide) (fun c32 => ?_) (fun c32 => ?_)
    · have hR := hR.trans (if_neg c32)
      have hok := hok.2 c32
      refine x_sipush (pc := 164) (v := 999) C dL_any_164 (by decide) ?_
      refine x_sub [] (ls2 := []) rfl ?_
      exact t_L_any_J167 C hsc B 999 (x2 + 2) 1 r4 2 M O _ _ ⟨by omega, by omega⟩ _ hR hok
    · have hR := hR.trans (if_pos c32)
      have hok := hok.1 c32
      refine x_bipush (pc := 159) (v := 60) C dL_any_159 (by decide) ?_
      refine x_goto (pc := 161) (tgt := 167) C dL_any_161 (by decide) ?_
      refine x_sub [] (ls2 := []) rfl ?_
      exact t_L_any_J167 C hsc B 60 (x2 + 2) 1 r4 2 M O _ _ ⟨by omega, by omega⟩ _ hR hok
  have hR := hR.trans (if_neg c88_5)
  have hok := hok.2 c88_5
  by_cases c88_6 : r6 = 6
  · have hR := hR.trans (if_pos c88_6)
    have hok := hok.1 c88_6
    refine x_tabIn (pc := 26) (tgt := 139) (off := 113) C dL_any_26 c88_6 (by decide) (by decide) (by decide) (by decide) ?_
    refine x_aload_n (pc := 139) (i := 0) C 2 dL_any_139 rfl rfl ?_
    refine x_iconst (pc := 140) (v := 2) C dL_any_140 (by decide) ?_
    refine x_iload (pc := 141) (i := 4) C 0 dL_any_141 rfl ?_
    refine x_iconst (pc := 143) (v := 1) C dL_any_143 (by decide) ?_
    refine x_aload_n (pc := 144) (i := 1) C 3 dL_any_144 rfl rfl ?_
    refine x_iload_n (pc := 145) (i := 2) C 4 dL_any_145 rfl rfl ?_
    refine x_iconst (pc := 146) (v := 2) C dL_any_146 (by decide) ?_
    refine x_iadd (pc := 147) C dL_any_147 ?_
    refine x_aload_n (pc := 148) (i := 1) C 3 dL_any_148 rfl rfl ?_
    refine x_iload_n (pc := 149) (i := 2) C 4 dL_any_149 rfl rfl ?_
    refine x_iconst (pc := 150) (v := 3) C dL_any_150 (by decide) ?_
    refine x_iadd (pc := 151) C dL_any_151 ?_
    refine x_iconst (pc := 152) (v := 2) C dL_any_152 (by decide) ?_
    have h33 := hok.1
    have hok := hok.2
    refine x_cIS (pc := 153) (as := [.ref (G.2.2.2.2 4), .int (x2 + 3), .int 2]) C (c_L_pick C.2.2.2.2.2.2.2.1 S N hsc B M O (x2 + 3) 2 h33) wd_2_66 cd_L_pick wd_2_65 ⟨Nat.le_of_ble_eq_true rfl, Nat.le_of_ble_eq_true rfl⟩ ⟨by simp only [rmd]; omega, by simp only [rmd]; omega⟩ rfl rfl (Nat.le_of_ble_eq_true rfl) dL_any_153 ?_
    refine x_nmI (fun r34 er34 => ?_)
    have hR := nmE hR er34
    have hok := hok r34 er34
    refine x_if_ne (pc := 156) (tgt := 164) C dL_any_156 (by decide) (fun c35 => ?_) (fun c35 => ?_)
    · have hR := hR.trans (if_neg c35)
      have hok := hok.2 c35
      refine x_sipush (pc := 164) (v := 999) C dL_any_164 (by decide) ?_
      refine x_sub [] (ls2 := []) rfl ?_
      exact t_L_any_J167 C hsc B 999 (x2 + 2) 1 r4 2 M O _ _ ⟨by omega, by omega⟩ _ hR hok
    · have hR := hR.trans (if_pos c35)
      have hok := hok.1 c35
      refine x_bipush (pc := 159) (v := 60) C dL_any_159 (by decide) ?_
      refine x_goto (pc := 161) (tgt := 167) C dL_any_161 (by decide) ?_
      refine x_sub [] (ls2 := []) rfl ?_
      exact t_L_any_J167 C hsc B 60 (x2 + 2) 1 r4 2 M O _ _ ⟨by omega, by omega⟩ _ hR hok
  have hR := hR.trans (if_neg c88_6)
  have hok := hok.2 c88_6
  by_cases c88_7 : r6 = 7
  · have hR := hR.trans (if_pos c88_7)
    have hok := hok.1 c88_7
    refine x_tabIn (pc := 26) (tgt := 177) (off := 151) C dL_any_26 c88_7 (by decide) (by decide) (by decide) (by decide) ?_
    refine x_aload_n (pc := 177) (i := 0) C 2 dL_any_177 rfl rfl ?_
    refine x_iconst (pc := 178) (v := 3) C dL_any_178 (by decide) ?_
    refine x_iload (pc := 179) (i := 4) C 0 dL_any_179 rfl ?_
    refine x_aload_n (pc := 181) (i := 1) C 3 dL_any_181 rfl rfl ?_
    refine x_iload_n (pc := 182) (i := 2) C 4 dL_any_182 rfl rfl ?_
    refine x_iconst (pc := 183) (v := 2) C dL_any_183 (by decide) ?_
    refine x_iadd (pc := 184) C dL_any_184 ?_
    refine x_sipush (pc := 185) (v := 501) C dL_any_185 (by decide) ?_
    have h36 := hok.1
    have hok := hok.2
    refine x_cIS (pc := 188) (as := [.ref (G.2.2.2.2 4), .int (x2 + 2), .int 501]) C (c_L_pick C.2.2.2.2.2.2.2.1 S N hsc B M O (x2 + 2) 501 h36) wd_2_66 cd_L_pick wd_2_65 ⟨Nat.le_of_ble_eq_true rfl, Nat.le_of_ble_eq_true rfl⟩ ⟨by simp only [rmd]; omega, by simp only [rmd]; omega⟩ rfl rfl (Nat.le_of_ble_eq_true rfl) dL_any_188 ?_
    refine x_nmI (fun r37 er37 => ?_)
    have hR := nmE hR er37
    have hok := hok r37 er37
    refine x_iconst (pc := 191) (v := 0) C dL_any_191 (by decide) ?_
    refine x_iconst (pc := 192) (v := 0) C dL_any_192 (by decide) ?_
    have h38 := hok
    refine x_cWS (pc := 193) (as := [.ref (ad 176), .int 3, .int r4, .int r37, .int 0, .int 0]) (n := 6) C (c_L_deed C.2.2.2.2.2.2.2.1  B M O 3 r4 r37 0 0 h38) wd_2_76 wd_2_77 wd_1_0 wd_2_78 ⟨by decide, by decide, by decide +kernel⟩ ⟨Nat.le_of_ble_eq_true rfl, Nat.le_of_ble_eq_true rfl⟩ ⟨by simp only [rmd]; omega, by simp only [rmd]; omega⟩ rfl rfl (Nat.le_of_ble_eq_true rfl) dL_any_193 ?_
    refine x_nmIB (fun z39 ez39 => ?_)
    have hR := nmE hR ez39
    refine x_wid (k0 := 4) (n0 := 24) (by omega) (by omega) ?_
    exact x_iretB (pc := 196) C rfl hR dL_any_196
  have hR := hR.trans (if_neg c88_7)
  have hok := hok.2 c88_7
  by_cases c88_8 : r6 = 8
  · have hR := hR.trans (if_pos c88_8)
    have hok := hok.1 c88_8
    refine x_tabIn (pc := 26) (tgt := 177) (off := 151) C dL_any_26 c88_8 (by decide) (by decide) (by decide) (by decide) ?_
    refine x_aload_n (pc := 177) (i := 0) C 2 dL_any_177 rfl rfl ?_
    refine x_iconst (pc := 178) (v := 3) C dL_any_178 (by decide) ?_
    refine x_iload (pc := 179) (i := 4) C 0 dL_any_179 rfl ?_
    refine x_aload_n (pc := 181) (i := 1) C 3 dL_any_181 rfl rfl ?_
    refine x_iload_n (pc := 182) (i := 2) C 4 dL_any_182 rfl rfl ?_
    refine x_iconst (pc := 183) (v := 2) C dL_any_183 (by decide) ?_
    refine x_iadd (pc := 184) C dL_any_184 ?_
    refine x_sipush (pc := 185) (v := 501) C dL_any_185 (by decide) ?_
    have h40 := hok.1
    have hok := hok.2
    refine x_cIS (pc := 188) (as := [.ref (G.2.2.2.2 4), .int (x2 + 2), .int 501]) C (c_L_pick C.2.2.2.2.2.2.2.1 S N hsc B M O (x2 + 2) 501 h40) wd_2_66 cd_L_pick wd_2_65 ⟨Nat.le_of_ble_eq_true rfl, Nat.le_of_ble_eq_true rfl⟩ ⟨by simp only [rmd]; omega, by simp only [rmd]; omega⟩ rfl rfl (Nat.le_of_ble_eq_true rfl) dL_any_188 ?_
    refine x_nmI (fun r41 er41 => ?_)
    have hR := nmE hR er41
    have hok := hok r41 er41
    refine x_iconst (pc := 191) (v := 0) C dL_any_191 (by decide) ?_
    refine x_iconst (pc := 192) (v := 0) C dL_any_192 (by decide) ?_
    have h42 := hok
    refine x_cWS (pc := 193) (as := [.ref (ad 176), .int 3, .int r4, .int r41, .int 0, .int 0]) (n := 6) C (c_L_deed C.2.2.2.2.2.2.2.1  B M O 3 r4 r41 0 0 h42) wd_2_76 wd_2_77 wd_1_0 wd_2_78 ⟨by decide, by decide, by decide +kernel⟩ ⟨Nat.le_of_ble_eq_true rfl, Nat.le_of_ble_eq_true rfl⟩ ⟨by simp only [rmd]; omega, by simp only [rmd]; omega⟩ rfl rfl (Nat.le_of_ble_eq_true rfl) dL_any_193 ?_
    refine x_nmIB (fun z43 ez43 => ?_)
    have hR := nmE hR ez43
    refine x_wid (k0 := 4) (n0 := 24) (by omega) (by omega) ?_
    exact x_iretB (pc := 196) C rfl hR dL_any_196
  have hR := hR.trans (if_neg c88_8)
  have hok := hok.2 c88_8
  by_cases c88_9 : r6 = 9
  · have hR := hR.trans (if_pos c88_9)
    have hok := hok.1 c88_9
    refine x_tabIn (pc := 26) (tgt := 197) (off := 171) C dL_any_26 c88_9 (by decide) (by decide) (by decide) (by decide) ?_
    refine x_aload_n (pc := 197) (i := 0) C 2 dL_any_197 rfl rfl ?_
    refine x_iconst (pc := 198) (v := 4) C dL_any_198 (by decide) ?_
    refine x_iload (pc := 199) (i := 4) C 0 dL_any_199 rfl ?_
    refine x_aload_n (pc := 201) (i := 1) C 3 dL_any_201 rfl rfl ?_
    refine x_iload_n (pc := 202) (i := 2) C 4 dL_any_202 rfl rfl ?_
    refine x_iconst (pc := 203) (v := 2) C dL_any_203 (by decide) ?_
    refine x_iadd (pc := 204) C dL_any_204 ?_
    refine x_iload_n (pc := 205) (i := 3) C 1 dL_any_205 rfl rfl ?_
    have h44 := hok.1
    have hok := hok.2
    refine x_cIS (pc := 206) (as := [.ref (G.2.2.2.2 4), .int (x2 + 2), .int v2]) C (c_L_pick C.2.2.2.2.2.2.2.1 S N hsc B M O (x2 + 2) v2 h44) wd_2_66 cd_L_pick wd_2_65 ⟨Nat.le_of_ble_eq_true rfl, Nat.le_of_ble_eq_true rfl⟩ ⟨by simp only [rmd]; omega, by simp only [rmd]; omega⟩ rfl rfl (Nat.le_of_ble_eq_true rfl) dL_any_206 ?_
    refine x_nmI (fun r45 er45 => ?_)
    have hR := nmE hR er45
    have hok := hok r45 er45
    refine x_iconst (pc := 209) (v := 1) C dL_any_209 (by decide) ?_
    refine x_aload_n (pc := 210) (i := 1) C 3 dL_any_210 rfl rfl ?_
    refine x_iload_n (pc := 211) (i := 2) C 4 dL_any_211 rfl rfl ?_
    refine x_iconst (pc := 212) (v := 3) C dL_any_212 (by decide) ?_
    refine x_iadd (pc := 213) C dL_any_213 ?_
    refine x_aload_n (pc := 214) (i := 1) C 3 dL_any_214 rfl rfl ?_
    refine x_iload_n (pc := 215) (i := 2) C 4 dL_any_215 rfl rfl ?_
    refine x_iconst (pc := 216) (v := 4) C dL_any_216 (by decide) ?_
    refine x_iadd (pc := 217) C dL_any_217 ?_
    refine x_iconst (pc := 218) (v := 2) C dL_any_218 (by decide) ?_
    have h46 := hok.1
    have hok := hok.2
    refine x_cIS (pc := 219) (as := [.ref (G.2.2.2.2 4), .int (x2 + 4), .int 2]) C (c_L_pick C.2.2.2.2.2.2.2.1 S N hsc B M O (x2 + 4) 2 h46) wd_2_66 cd_L_pick wd_2_65 ⟨Nat.le_of_ble_eq_true rfl, Nat.le_of_ble_eq_true rfl⟩ ⟨by simp only [rmd]; omega, by simp only [rmd]; omega⟩ rfl rfl (Nat.le_of_ble_eq_true rfl) dL_any_219 ?_
    refine x_nmI (fun r47 er47 => ?_)
    have hR := nmE hR er47
    have hok := hok r47 er47
    refine x_if_ne (pc := 222) (tgt := 230) C dL_any_222 (by decide) (fun c48 => ?_) (fun c48 => ?_)
    · have hR := hR.trans (if_neg c48)
      have hok := hok.2 c48
      refine x_sipush (pc := 230) (v := 999) C dL_any_230 (by decide) ?_
      refine x_sub [3, 4] (ls2 := [(1, .ref (G.2.2.2.2 4)), (2, .int x2)]) rfl ?_
      exact t_L_any_J233 C hsc B x2 999 (x2 + 3) 1 r45 r4 4 M O _ _ ⟨by omega, by omega⟩ _ hR hok
    · have hR := hR.trans (if_pos c48)
      have hok := hok.1 c48
      refine x_bipush (pc := 225) (v := 60) C dL_any_225 (by decide) ?_
      refine x_goto (pc := 227) (tgt := 233) C dL_any_227 (by decide) ?_
      refine x_sub [3, 4] (ls2 := [(1, .ref (G.2.2.2.2 4)), (2, .int x2)]) rfl ?_
      exact t_L_any_J233 C hsc B x2 60 (x2 + 3) 1 r45 r4 4 M O _ _ ⟨by omega, by omega⟩ _ hR hok
  have hR := hR.trans (if_neg c88_9)
  have hok := hok.2 c88_9
  by_cases c88_10 : r6 = 10
  · have hR := hR.trans (if_pos c88_10)
    have hok := hok.1 c88_10
    refine x_tabIn (pc := 26) (tgt := 197) (off := 171) C dL_any_26 c88_10 (by decide) (by decide) (by decide) (by decide) ?_
    refine x_aload_n (pc := 197) (i := 0) C 2 dL_any_197 rfl rfl ?_
    refine x_iconst (pc := 198) (v := 4) C dL_any_198 (by decide) ?_
    refine x_iload (pc := 199) (i := 4) C 0 dL_any_199 rfl ?_
    refine x_aload_n (pc := 201) (i := 1) C 3 dL_any_201 rfl rfl ?_
    refine x_iload_n (pc := 202) (i := 2) C 4 dL_any_202 rfl rfl ?_
    refine x_iconst (pc := 203) (v := 2) C dL_any_203 (by decide) ?_
    refine x_iadd (pc := 204) C dL_any_204 ?_
    refine x_iload_n (pc := 205) (i := 3) C 1 dL_any_205 rfl rfl ?_
    have h55 := hok.1
    have hok := hok.2
    refine x_cIS (pc := 206) (as := [.ref (G.2.2.2.2 4), .int (x2 + 2), .int v2]) C (c_L_pick C.2.2.2.2.2.2.2.1 S N hsc B M O (x2 + 2) v2 h55) wd_2_66 cd_L_pick wd_2_65 ⟨Nat.le_of_ble_eq_true rfl, Nat.le_of_ble_eq_true rfl⟩ ⟨by simp only [rmd]; omega, by simp only [rmd]; omega⟩ rfl rfl (Nat.le_of_ble_eq_true rfl) dL_any_206 ?_
    refine x_nmI (fun r56 er56 => ?_)
    have hR := nmE hR er56
    have hok := hok r56 er56
    refine x_iconst (pc := 209) (v := 1) C dL_any_209 (by decide) ?_
    refine x_aload_n (pc := 210) (i := 1) C 3 dL_any_210 rfl rfl ?_
    refine x_iload_n (pc := 211) (i := 2) C 4 dL_any_211 rfl rfl ?_
    refine x_iconst (pc := 212) (v := 3) C dL_any_212 (by decide) ?_
    refine x_iadd (pc := 213) C dL_any_213 ?_
    refine x_aload_n (pc := 214) (i := 1) C 3 dL_any_214 rfl rfl ?_
    refine x_iload_n (pc := 215) (i := 2) C 4 dL_any_215 rfl rfl ?_
    refine x_iconst (pc := 216) (v := 4) C dL_any_216 (by decide) ?_
    refine x_iadd (pc := 217) C dL_any_217 ?_
    refine x_iconst (pc := 218) (v := 2) C dL_any_218 (by decide) ?_
    have h57 := hok.1
    have hok := hok.2
    refine x_cIS (pc := 219) (as := [.ref (G.2.2.2.2 4), .int (x2 + 4), .int 2]) C (c_L_pick C.2.2.2.2.2.2.2.1 S N hsc B M O (x2 + 4) 2 h57) wd_2_66 cd_L_pick wd_2_65 ⟨Nat.le_of_ble_eq_true rfl, Nat.le_of_ble_eq_true rfl⟩ ⟨by simp only [rmd]; omega, by simp only [rmd]; omega⟩ rfl rfl (Nat.le_of_ble_eq_true rfl) dL_any_219 ?_
    refine x_nmI (fun r58 er58 => ?_)
    have hR := nmE hR er58
    have hok := hok r58 er58
    refine x_if_ne (pc := 222) (tgt := 230) C dL_any_222 (by decide) (fun c59 => ?_) (fun c59 => ?_)
    · have hR := hR.trans (if_neg c59)
      have hok := hok.2 c59
      refine x_sipush (pc := 230) (v := 999) C dL_any_230 (by decide) ?_
      refine x_sub [3, 4] (ls2 := [(1, .ref (G.2.2.2.2 4)), (2, .int x2)]) rfl ?_
      exact t_L_any_J233 C hsc B x2 999 (x2 + 3) 1 r56 r4 4 M O _ _ ⟨by omega, by omega⟩ _ hR hok
    · have hR := hR.trans (if_pos c59)
      have hok := hok.1 c59
      refine x_bipush (pc := 225) (v := 60) C dL_any_225 (by decide) ?_
      refine x_goto (pc := 227) (tgt := 233) C dL_any_227 (by decide) ?_
      refine x_sub [3, 4] (ls2 := [(1, .ref (G.2.2.2.2 4)), (2, .int x2)]) rfl ?_
      exact t_L_any_J233 C hsc B x2 60 (x2 + 3) 1 r56 r4 4 M O _ _ ⟨by omega, by omega⟩ _ hR hok
  have hR := hR.trans (if_neg c88_10)
  have hok := hok.2 c88_10
  by_cases c88_11 : r6 = 11
  · have hR := hR.trans (if_pos c88_11)
    have hok := hok.1 c88_11
    refine x_tabIn (pc := 26) (tgt := 197) (off := 171) C dL_any_26 c88_11 (by decide) (by decide) (by decide) (by decide) ?_
    refine x_aload_n (pc := 197) (i := 0) C 2 dL_any_197 rfl rfl ?_
    refine x_iconst (pc := 198) (v := 4) C dL_any_198 (by decide) ?_
    refine x_iload (pc := 199) (i := 4) C 0 dL_any_199 rfl ?_
    refine x_aload_n (pc := 201) (i := 1) C 3 dL_any_201 rfl rfl ?_
    refine x_iload_n (pc := 202) (i := 2) C 4 dL_any_202 rfl rfl ?_
    refine x_iconst (pc := 203) (v := 2) C dL_any_203 (by decide) ?_
    refine x_iadd (pc := 204) C dL_any_204 ?_
    refine x_iload_n (pc := 205) (i := 3) C 1 dL_any_205 rfl rfl ?_
    have h60 := hok.1
    have hok := hok.2
    refine x_cIS (pc := 206) (as := [.ref (G.2.2.2.2 4), .int (x2 + 2), .int v2]) C (c_L_pick C.2.2.2.2.2.2.2.1 S N hsc B M O (x2 + 2) v2 h60) wd_2_66 cd_L_pick wd_2_65 ⟨Nat.le_of_ble_eq_true rfl, Nat.le_of_ble_eq_true rfl⟩ ⟨by simp only [rmd]; omega, by simp only [rmd]; omega⟩ rfl rfl (Nat.le_of_ble_eq_true rfl) dL_any_206 ?_
    refine x_nmI (fun r61 er61 => ?_)
    have hR := nmE hR er61
    have hok := hok r61 er61
    refine x_iconst (pc := 209) (v := 1) C dL_any_209 (by decide) ?_
    refine x_aload_n (pc := 210) (i := 1) C 3 dL_any_210 rfl rfl ?_
    refine x_iload_n (pc := 211) (i := 2) C 4 dL_any_211 rfl rfl ?_
    refine x_iconst (pc := 212) (v := 3) C dL_any_212 (by decide) ?_
    refine x_iadd (pc := 213) C dL_any_213 ?_
    refine x_aload_n (pc := 214) (i := 1) C 3 dL_any_214 rfl rfl ?_
    refine x_iload_n (pc := 215) (i := 2) C 4 dL_any_215 rfl rfl ?_
    refine x_iconst (pc := 216) (v := 4) C dL_any_216 (by decide) ?_
    refine x_iadd (pc := 217) C dL_any_217 ?_
    refine x_iconst (pc := 218) (v := 2) C dL_any_218 (by decide) ?_
    have h62 := hok.1
    have hok := hok.2
    refine x_cIS (pc := 219) (as := [.ref (G.2.2.2.2 4), .int (x2 + 4), .int 2]) C (c_L_pick C.2.2.2.2.2.2.2.1 S N hsc B M O (x2 + 4) 2 h62) wd_2_66 cd_L_pick wd_2_65 ⟨Nat.le_of_ble_eq_true rfl, Nat.le_of_ble_eq_true rfl⟩ ⟨by simp only [rmd]; omega, by simp only [rmd]; omega⟩ rfl rfl (Nat.le_of_ble_eq_true rfl) dL_any_219 ?_
    refine x_nmI (fun r63 er63 => ?_)
    have hR := nmE hR er63
    have hok := hok r63 er63
    refine x_if_ne (pc := 222) (tgt := 230) C dL_any_222 (by decide) (fun c64 => ?_) (fun c64 => ?_)
    · have hR := hR.trans (if_neg c64)
      have hok := hok.2 c64
      refine x_sipush (pc := 230) (v := 999) C dL_any_230 (by decide) ?_
      refine x_sub [3, 4] (ls2 := [(1, .ref (G.2.2.2.2 4)), (2, .int x2)]) rfl ?_
      exact t_L_any_J233 C hsc B x2 999 (x2 + 3) 1 r61 r4 4 M O _ _ ⟨by omega, by omega⟩ _ hR hok
    · have hR := hR.trans (if_pos c64)
      have hok := hok.1 c64
      refine x_bipush (pc := 225) (v := 60) C dL_any_225 (by decide) ?_
      refine x_goto (pc := 227) (tgt := 233) C dL_any_227 (by decide) ?_
      refine x_sub [3, 4] (ls2 := [(1, .ref (G.2.2.2.2 4)), (2, .int x2)]) rfl ?_
      exact t_L_any_J233 C hsc B x2 60 (x2 + 3) 1 r61 r4 4 M O _ _ ⟨by omega, by omega⟩ _ hR hok
  have hR := hR.trans (if_neg c88_11)
  have hok := hok.2 c88_11
  by_cases c88_12 : r6 = 12
  · have hR := hR.trans (if_pos c88_12)
    have hok := hok.1 c88_12
    refine x_tabIn (pc := 26) (tgt := 197) (off := 171) C dL_any_26 c88_12 (by decide) (by decide) (by decide) (by decide) ?_
    refine x_aload_n (pc := 197) (i := 0) C 2 dL_any_197 rfl rfl ?_
    refine x_iconst (pc := 198) (v := 4) C dL_any_198 (by decide) ?_
    refine x_iload (pc := 199) (i := 4) C 0 dL_any_199 rfl ?_
    refine x_aload_n (pc := 201) (i := 1) C 3 dL_any_201 rfl rfl ?_
    refine x_iload_n (pc := 202) (i := 2) C 4 dL_any_202 rfl rfl ?_
    refine x_iconst (pc := 203) (v := 2) C dL_any_203 (by decide) ?_
    refine x_iadd (pc := 204) C dL_any_204 ?_
    refine x_iload_n (pc := 205) (i := 3) C 1 dL_any_205 rfl rfl ?_
    have h65 := hok.1
    have hok := hok.2
    refine x_cIS (pc := 206) (as := [.ref (G.2.2.2.2 4), .int (x2 + 2), .int v2]) C (c_L_pick C.2.2.2.2.2.2.2.1 S N hsc B M O (x2 + 2) v2 h65) wd_2_66 cd_L_pick wd_2_65 ⟨Nat.le_of_ble_eq_true rfl, Nat.le_of_ble_eq_true rfl⟩ ⟨by simp only [rmd]; omega, by simp only [rmd]; omega⟩ rfl rfl (Nat.le_of_ble_eq_true rfl) dL_any_206 ?_
    refine x_nmI (fun r66 er66 => ?_)
    have hR := nmE hR er66
    have hok := hok r66 er66
    refine x_iconst (pc := 209) (v := 1) C dL_any_209 (by decide) ?_
    refine x_aload_n (pc := 210) (i := 1) C 3 dL_any_210 rfl rfl ?_
    refine x_iload_n (pc := 211) (i := 2) C 4 dL_any_211 rfl rfl ?_
    refine x_iconst (pc := 212) (v := 3) C dL_any_212 (by decide) ?_
    refine x_iadd (pc := 213) C dL_any_213 ?_
    refine x_aload_n (pc := 214) (i := 1) C 3 dL_any_214 rfl rfl ?_
    refine x_iload_n (pc := 215) (i := 2) C 4 dL_any_215 rfl rfl ?_
    refine x_iconst (pc := 216) (v := 4) C dL_any_216 (by decide) ?_
    refine x_iadd (pc := 217) C dL_any_217 ?_
    refine x_iconst (pc := 218) (v := 2) C dL_any_218 (by decide) ?_
    have h67 := hok.1
    have hok := hok.2
    refine x_cIS (pc := 219) (as := [.ref (G.2.2.2.2 4), .int (x2 + 4), .int 2]) C (c_L_pick C.2.2.2.2.2.2.2.1 S N hsc B M O (x2 + 4) 2 h67) wd_2_66 cd_L_pick wd_2_65 ⟨Nat.le_of_ble_eq_true rfl, Nat.le_of_ble_eq_true rfl⟩ ⟨by simp only [rmd]; omega, by simp only [rmd]; omega⟩ rfl rfl (Nat.le_of_ble_eq_true rfl) dL_any_219 ?_
    refine x_nmI (fun r68 er68 => ?_)
    have hR := nmE hR er68
    have hok := hok r68 er68
    refine x_if_ne (pc := 222) (tgt := 230) C dL_any_222 (by decide) (fun c69 => ?_) (fun c69 => ?_)
    · have hR := hR.trans (if_neg c69)
      have hok := hok.2 c69
      refine x_sipush (pc := 230) (v := 999) C dL_any_230 (by decide) ?_
      refine x_sub [3, 4] (ls2 := [(1, .ref (G.2.2.2.2 4)), (2, .int x2)]) rfl ?_
      exact t_L_any_J233 C hsc B x2 999 (x2 + 3) 1 r66 r4 4 M O _ _ ⟨by omega, by omega⟩ _ hR hok
    · have hR := hR.trans (if_pos c69)
      have hok := hok.1 c69
      refine x_bipush (pc := 225) (v := 60) C dL_any_225 (by decide) ?_
      refine x_goto (pc := 227) (tgt := 233) C dL_any_227 (by decide) ?_
      refine x_sub [3, 4] (ls2 := [(1, .ref (G.2.2.2.2 4)), (2, .int x2)]) rfl ?_
      exact t_L_any_J233 C hsc B x2 60 (x2 + 3) 1 r66 r4 4 M O _ _ ⟨by omega, by omega⟩ _ hR hok
  have hR := hR.trans (if_neg c88_12)
  have hok := hok.2 c88_12
  by_cases c88_13 : r6 = 13
  · have hR := hR.trans (if_pos c88_13)
    have hok := hok.1 c88_13
    refine x_tabIn (pc := 26) (tgt := 197) (off := 171) C dL_any_26 c88_13 (by decide) (by decide) (by decide) (by decide) ?_
    refine x_aload_n (pc := 197) (i := 0) C 2 dL_any_197 rfl rfl ?_
    refine x_iconst (pc := 198) (v := 4) C dL_any_198 (by decide) ?_
    refine x_iload (pc := 199) (i := 4) C 0 dL_any_199 rfl ?_
    refine x_aload_n (pc := 201) (i := 1) C 3 dL_any_201 rfl rfl ?_
    refine x_iload_n (pc := 202) (i := 2) C 4 dL_any_202 rfl rfl ?_
    refine x_iconst (pc := 203) (v := 2) C dL_any_203 (by decide) ?_
    refine x_iadd (pc := 204) C dL_any_204 ?_
    refine x_iload_n (pc := 205) (i := 3) C 1 dL_any_205 rfl rfl ?_
    have h70 := hok.1
    have hok := hok.2
    refine x_cIS (pc := 206) (as := [.ref (G.2.2.2.2 4), .int (x2 + 2), .int v2]) C (c_L_pick C.2.2.2.2.2.2.2.1 S N hsc B M O (x2 + 2) v2 h70) wd_2_66 cd_L_pick wd_2_65 ⟨Nat.le_of_ble_eq_true rfl, Nat.le_of_ble_eq_true rfl⟩ ⟨by simp only [rmd]; omega, by simp only [rmd]; omega⟩ rfl rfl (Nat.le_of_ble_eq_true rfl) dL_any_206 ?_
    refine x_nmI (fun r71 er71 => ?_)
    have hR := nmE hR er71
    have hok := hok r71 er71
    refine x_iconst (pc := 209) (v := 1) C dL_any_209 (by decide) ?_
    refine x_aload_n (pc := 210) (i := 1) C 3 dL_any_210 rfl rfl ?_
    refine x_iload_n (pc := 211) (i := 2) C 4 dL_any_211 rfl rfl ?_
    refine x_iconst (pc := 212) (v := 3) C dL_any_212 (by decide) ?_
    refine x_iadd (pc := 213) C dL_any_213 ?_
    refine x_aload_n (pc := 214) (i := 1) C 3 dL_any_214 rfl rfl ?_
    refine x_iload_n (pc := 215) (i := 2) C 4 dL_any_215 rfl rfl ?_
    refine x_iconst (pc := 216) (v := 4) C dL_any_216 (by decide) ?_
    refine x_iadd (pc := 217) C dL_any_217 ?_
    refine x_iconst (pc := 218) (v := 2) C dL_any_218 (by decide) ?_
    have h72 := hok.1
    have hok := hok.2
    refine x_cIS (pc := 219) (as := [.ref (G.2.2.2.2 4), .int (x2 + 4), .int 2]) C (c_L_pick C.2.2.2.2.2.2.2.1 S N hsc B M O (x2 + 4) 2 h72) wd_2_66 cd_L_pick wd_2_65 ⟨Nat.le_of_ble_eq_true rfl, Nat.le_of_ble_eq_true rfl⟩ ⟨by simp only [rmd]; omega, by simp only [rmd]; omega⟩ rfl rfl (Nat.le_of_ble_eq_true rfl) dL_any_219 ?_
    refine x_nmI (fun r73 er73 => ?_)
    have hR := nmE hR er73
    have hok := hok r73 er73
    refine x_if_ne (pc := 222) (tgt := 230) C dL_any_222 (by decide) (fun c74 => ?_) (fun c74 => ?_)
    · have hR := hR.trans (if_neg c74)
      have hok := hok.2 c74
      refine x_sipush (pc := 230) (v := 999) C dL_any_230 (by decide) ?_
      refine x_sub [3, 4] (ls2 := [(1, .ref (G.2.2.2.2 4)), (2, .int x2)]) rfl ?_
      exact t_L_any_J233 C hsc B x2 999 (x2 + 3) 1 r71 r4 4 M O _ _ ⟨by omega, by omega⟩ _ hR hok
    · have hR := hR.trans (if_pos c74)
      have hok := hok.1 c74
      refine x_bipush (pc := 225) (v := 60) C dL_any_225 (by decide) ?_
      refine x_goto (pc := 227) (tgt := 233) C dL_any_227 (by decide) ?_
      refine x_sub [3, 4] (ls2 := [(1, .ref (G.2.2.2.2 4)), (2, .int x2)]) rfl ?_
      exact t_L_any_J233 C hsc B x2 60 (x2 + 3) 1 r71 r4 4 M O _ _ ⟨by omega, by omega⟩ _ hR hok
  have hR := hR.trans (if_neg c88_13)
  have hok := hok.2 c88_13
  by_cases c88_14 : r6 = 14
  · have hR := hR.trans (if_pos c88_14)
    have hok := hok.1 c88_14
    refine x_tabIn (pc := 26) (tgt := 250) (off := 224) C dL_any_26 c88_14 (by decide) (by decide) (by decide) (by decide) ?_
    refine x_aload_n (pc := 250) (i := 0) C 2 dL_any_250 rfl rfl ?_
    refine x_iconst (pc := 251) (v := 5) C dL_any_251 (by decide) ?_
    refine x_aload_n (pc := 252) (i := 0) C 2 dL_any_252 rfl rfl ?_
    refine x_aload_n (pc := 253) (i := 1) C 3 dL_any_253 rfl rfl ?_
    refine x_iload_n (pc := 254) (i := 2) C 4 dL_any_254 rfl rfl ?_
    refine x_iconst (pc := 255) (v := 2) C dL_any_255 (by decide) ?_
    refine x_iadd (pc := 256) C dL_any_256 ?_
    refine x_bipush (pc := 257) (v := 10) C dL_any_257 (by decide) ?_
    have h75 := hok.1
    have hok := hok.2
    refine x_cIS (pc := 259) (as := [.ref (G.2.2.2.2 4), .int (x2 + 2), .int 10]) C (c_L_pick C.2.2.2.2.2.2.2.1 S N hsc B M O (x2 + 2) 10 h75) wd_2_66 cd_L_pick wd_2_65 ⟨Nat.le_of_ble_eq_true rfl, Nat.le_of_ble_eq_true rfl⟩ ⟨by simp only [rmd]; omega, by simp only [rmd]; omega⟩ rfl rfl (Nat.le_of_ble_eq_true rfl) dL_any_259 ?_
    refine x_nmI (fun r76 er76 => ?_)
    have hR := nmE hR er76
    have hok := hok r76 er76
    have h77 := hok.1
    have hok := hok.2
    refine x_cIS (pc := 262) (as := [.ref (ad 176), .int r76]) C (c_L_id C.2.2.2.2.2.2.2.1  B M O r76 h77) wd_4_117 cd_L_id wd_4_116 ⟨Nat.le_of_ble_eq_true rfl, Nat.le_of_ble_eq_true rfl⟩ ⟨by simp only [rmd]; omega, by simp only [rmd]; omega⟩ rfl rfl (Nat.le_of_ble_eq_true rfl) dL_any_262 ?_
    refine x_nmI (fun r78 er78 => ?_)
    have hR := nmE hR er78
    have hok := hok r78 er78
    refine x_iconst (pc := 265) (v := 0) C dL_any_265 (by decide) ?_
    refine x_iconst (pc := 266) (v := 0) C dL_any_266 (by decide) ?_
    refine x_iconst (pc := 267) (v := 0) C dL_any_267 (by decide) ?_
    have h79 := hok
    refine x_cWS (pc := 268) (as := [.ref (ad 176), .int 5, .int r78, .int 0, .int 0, .int 0]) (n := 6) C (c_L_deed C.2.2.2.2.2.2.2.1  B M O 5 r78 0 0 0 h79) wd_2_76 wd_2_77 wd_1_0 wd_2_78 ⟨by decide, by decide, by decide +kernel⟩ ⟨Nat.le_of_ble_eq_true rfl, Nat.le_of_ble_eq_true rfl⟩ ⟨by simp only [rmd]; omega, by simp only [rmd]; omega⟩ rfl rfl (Nat.le_of_ble_eq_true rfl) dL_any_268 ?_
    refine x_nmIB (fun z80 ez80 => ?_)
    have hR := nmE hR ez80
    refine x_wid (k0 := 4) (n0 := 24) (by omega) (by omega) ?_
    exact x_iretB (pc := 271) C rfl hR dL_any_271
  have hR := hR.trans (if_neg c88_14)
  have hok := hok.2 c88_14
  refine x_tabOut (pc := 26) (tgt := 272) C dL_any_26 (by
    have c88_0 : ¬ Int32.toInt r6 = 0 := sw_no c88_0
    have c88_1 : ¬ Int32.toInt r6 = 1 := sw_no c88_1
    have c88_2 : ¬ Int32.toInt r6 = 2 := sw_no c88_2
    have c88_3 : ¬ Int32.toInt r6 = 3 := sw_no c88_3
    have c88_4 : ¬ Int32.toInt r6 = 4 := sw_no c88_4
    have c88_5 : ¬ Int32.toInt r6 = 5 := sw_no c88_5
    have c88_6 : ¬ Int32.toInt r6 = 6 := sw_no c88_6
    have c88_7 : ¬ Int32.toInt r6 = 7 := sw_no c88_7
    have c88_8 : ¬ Int32.toInt r6 = 8 := sw_no c88_8
    have c88_9 : ¬ Int32.toInt r6 = 9 := sw_no c88_9
    have c88_10 : ¬ Int32.toInt r6 = 10 := sw_no c88_10
    have c88_11 : ¬ Int32.toInt r6 = 11 := sw_no c88_11
    have c88_12 : ¬ Int32.toInt r6 = 12 := sw_no c88_12
    have c88_13 : ¬ Int32.toInt r6 = 13 := sw_no c88_13
    have c88_14 : ¬ Int32.toInt r6 = 14 := sw_no c88_14
    omega) (by decide) ?_
  refine x_aload_n (pc := 272) (i := 0) C 2 dL_any_272 rfl rfl ?_
  refine x_bipush (pc := 273) (v := 6) C dL_any_273 (by decide) ?_
  refine x_iconst (pc := 275) (v := 1) C dL_any_275 (by decide) ?_
  refine x_aload_n (pc := 276) (i := 1) C 3 dL_any_276 rfl rfl ?_
  refine x_iload_n (pc := 277) (i := 2) C 4 dL_any_277 rfl rfl ?_
  refine x_iconst (pc := 278) (v := 2) C dL_any_278 (by decide) ?_
  refine x_iadd (pc := 279) C dL_any_279 ?_
  refine x_aload_n (pc := 280) (i := 1) C 3 dL_any_280 rfl rfl ?_
  refine x_iload_n (pc := 281) (i := 2) C 4 dL_any_281 rfl rfl ?_
  refine x_iconst (pc := 282) (v := 3) C dL_any_282 (by decide) ?_
  refine x_iadd (pc := 283) C dL_any_283 ?_
  refine x_iconst (pc := 284) (v := 2) C dL_any_284 (by decide) ?_
  have h81 := hok.1
  have hok := hok.2
  refine x_cIS (pc := 285) (as := [.ref (G.2.2.2.2 4), .int (x2 + 3), .int 2]) C (c_L_pick C.2.2.2.2.2.2.2.1 S N hsc B M O (x2 + 3) 2 h81) wd_2_66 cd_L_pick wd_2_65 ⟨Nat.le_of_ble_eq_true rfl, Nat.le_of_ble_eq_true rfl⟩ ⟨by simp only [rmd]; omega, by simp only [rmd]; omega⟩ rfl rfl (Nat.le_of_ble_eq_true rfl) dL_any_285 ?_
  refine x_nmI (fun r82 er82 => ?_)
  have hR := nmE hR er82
  have hok := hok r82 er82
  refine x_if_ne (pc := 288) (tgt := 295) C dL_any_288 (by decide) (fun c83 => ?_) (fun c83 => ?_)
  · have hR := hR.trans (if_neg c83)
    have hok := hok.2 c83
    refine x_bipush (pc := 295) (v := 60) C dL_any_295 (by decide) ?_
    refine x_sub [] (ls2 := []) rfl ?_
    exact t_L_any_J297 C hsc B 60 (x2 + 2) 1 6 M O _ _ ⟨by omega, by omega⟩ _ hR hok
  · have hR := hR.trans (if_pos c83)
    have hok := hok.1 c83
    refine x_iconst (pc := 291) (v := 3) C dL_any_291 (by decide) ?_
    refine x_goto (pc := 292) (tgt := 297) C dL_any_292 (by decide) ?_
    refine x_sub [] (ls2 := []) rfl ?_
    exact t_L_any_J297 C hsc B 3 (x2 + 2) 1 6 M O _ _ ⟨by omega, by omega⟩ _ hR hok
set_option maxHeartbeats 4000000 in
set_option maxRecDepth 100000 in
theorem t_L_lay_L13 {p0 : Program} {l : Launch} {e : Env} {s : State} {m : MethodId} {args : Array Value} {below : List Frame} {meth : Method} {c : Code} {A : Nat → Prop} {G : GT} {ad : Nat → Nat} {Q : State → Prop} (C : CX p0 l s m args meth c A G ad cL_lay RL 5 none) {S : Nat → Int32} {N : Nat} (hsc : S = scx G ∧ N = G.2.2.2.2 5)   (n : Nat) (B : StB) (a2 : Int32) (a3 : Int32) (a4 : Int32) (M : StM) (O : StO) : ∀ (cs0 ss0 : Nat) (hcs : cs0 + n * 16 ≤ 404 ∧ ss0 + n * 96 ≤ 2424) (R0 : Int32 × StB) (hR : R0 = f_L_lay_L13 n S N B a2 a3 a4) (hok : ok_L_lay_L13 n S N B a2 a3 a4) (k : X p0 l e (rmd 20 404 2424) s m args below meth c A G ad 5 (cs0 + n * 16) (ss0 + n * 96) Q R0.2 M O [(0, .ref (ad 176)), (1, .ref (G.2.2.2.2 4)), (2, .int R0.1), (3, .int a3)] 148 []), X p0 l e (rmd 20 404 2424) s m args below meth c A G ad 5 cs0 ss0 Q B M O [(0, .ref (ad 176)), (1, .ref (G.2.2.2.2 4)), (2, .int a2), (3, .int a3), (4, .int a4)] 13 [] := by
  induction n generalizing B a2 a3 a4 with
  | zero => intro cs0 ss0 hcs R0 hR hok k; exact False.elim hok
  | succ n ih =>
    intro cs0 ss0 hcs R0 hR hok k
    have hR : R0 = (if a3 ≤ a4 then (a2, B) else (nm (f_L_pick S N (11 + a4) 4) (fun (r5 : Int32) => (nm (f_L_deed B 0 r5 0 0 0) (fun (z7 : Int32 × StB) => (nm (a2 + z7.1) (fun (v8 : Int32) => (nm (f_L_pick S N (21 + a4) 999) (fun (r10 : Int32) => (nm (f_L_deed z7.2 1 a4 (1 + r10) 0 0) (fun (z12 : Int32 × StB) => (nm (f_L_pick S N (31 + a4) 2) (fun (r14 : Int32) => (nm (f_L_pick S N (41 + a4) 501) (fun (r16 : Int32) => (nm (f_L_deed z12.2 3 a4 r16 0 0) (fun (z18 : Int32 × StB) => (nm (v8 + (z12.1 + (r14 * z18.1))) (fun (v19 : Int32) => (nm (f_L_pick S N (51 + a4) 3) (fun (r21 : Int32) => (if r21 = 0 then (nm (f_L_pick S N (61 + a4) 999) (fun (r25 : Int32) => (nm (f_L_deed z18.2 2 a4 (1 + r25) 0 0) (fun (z27 : Int32 × StB) => (nm (v19 + z27.1) (fun (v28 : Int32) => (f_L_lay_L13 n S N z27.2 v28 a3 (a4 + 1)))))))) else (nm (v19 + 0) (fun (v23 : Int32) => (f_L_lay_L13 n S N z18.2 v23 a3 (a4 + 1)))))))))))))))))))))))))) := hR
    have hok : ((a3 ≤ a4 → True) ∧ (¬ a3 ≤ a4 → ((ok_L_pick S N (11 + a4) 4) ∧ (∀ r5 : Int32, r5 = (f_L_pick S N (11 + a4) 4) → ((ok_L_deed B 0 r5 0 0 0) ∧ (∀ z7 : Int32 × StB, z7 = (f_L_deed B 0 r5 0 0 0) → (∀ v8 : Int32, v8 = (a2 + z7.1) → ((ok_L_pick S N (21 + a4) 999) ∧ (∀ r10 : Int32, r10 = (f_L_pick S N (21 + a4) 999) → ((ok_L_deed z7.2 1 a4 (1 + r10) 0 0) ∧ (∀ z12 : Int32 × StB, z12 = (f_L_deed z7.2 1 a4 (1 + r10) 0 0) → ((ok_L_pick S N (31 + a4) 2) ∧ (∀ r14 : Int32, r14 = (f_L_pick S N (31 + a4) 2) → ((ok_L_pick S N (41 + a4) 501) ∧ (∀ r16 : Int32, r16 = (f_L_pick S N (41 + a4) 501) → ((ok_L_deed z12.2 3 a4 r16 0 0) ∧ (∀ z18 : Int32 × StB, z18 = (f_L_deed z12.2 3 a4 r16 0 0) → (∀ v19 : Int32, v19 = (v8 + (z12.1 + (r14 * z18.1))) → ((ok_L_pick S N (51 + a4) 3) ∧ (∀ r21 : Int32, r21 = (f_L_pick S N (51 + a4) 3) → ((r21 = 0 → ((ok_L_pick S N (61 + a4) 999) ∧ (∀ r25 : Int32, r25 = (f_L_pick S N (61 + a4) 999) → ((ok_L_deed z18.2 2 a4 (1 + r25) 0 0) ∧ (∀ z27 : Int32 × StB, z27 = (f_L_deed z18.2 2 a4 (1 + r25) 0 0) → (∀ v28 : Int32, v28 = (v19 + z27.1) → (ok_L_lay_L13 n S N z27.2 v28 a3 (a4 + 1)))))))) ∧ (¬ r21 = 0 → (∀ v23 : Int32, v23 = (v19 + 0) → (ok_L_lay_L13 n S N z18.2 v23 a3 (a4 + 1))))))))))))))))))))))))) := hok
    refine x_iload (pc := 13) (i := 4) C 4 dL_lay_13 rfl ?_
    refine x_iload_n (pc := 15) (i := 3) C 3 dL_lay_15 rfl rfl ?_
    refine x_icmp_ge (pc := 16) (tgt := 148) C dL_lay_16 (by decide) (fun c3 => ?_) (fun c3 => ?_)
    · have hR := hR.trans (if_pos c3)
      refine x_sub [0, 1, 2, 3] (ls2 := [(0, .ref (ad 176)), (1, .ref (G.2.2.2.2 4)), (2, .int a2), (3, .int a3)]) rfl ?_
      subst hR
      exact x_wid (by omega) (by omega) k
    · have hR := hR.trans (if_neg c3)
      have hok := hok.2 c3
      refine x_iload_n (pc := 19) (i := 2) C 2 dL_lay_19 rfl rfl ?_
      refine x_aload_n (pc := 20) (i := 0) C 0 dL_lay_20 rfl rfl ?_
      refine x_iconst (pc := 21) (v := 0) C dL_lay_21 (by decide) ?_
      refine x_aload_n (pc := 22) (i := 1) C 1 dL_lay_22 rfl rfl ?_
      refine x_bipush (pc := 23) (v := 11) C dL_lay_23 (by decide) ?_
      refine x_iload (pc := 25) (i := 4) C 4 dL_lay_25 rfl ?_
      refine x_iadd (pc := 27) C dL_lay_27 ?_
      refine x_iconst (pc := 28) (v := 4) C dL_lay_28 (by decide) ?_
      have h4 := hok.1
      have hok := hok.2
      refine x_cIS (pc := 29) (as := [.ref (G.2.2.2.2 4), .int (11 + a4), .int 4]) C (c_L_pick C.2.2.2.2.2.2.2.1 S N hsc B M O (11 + a4) 4 h4) wd_2_66 cd_L_pick wd_2_65 ⟨Nat.le_of_ble_eq_true rfl, Nat.le_of_ble_eq_true rfl⟩ ⟨by simp only [rmd]; omega, by simp only [rmd]; omega⟩ rfl rfl (Nat.le_of_ble_eq_true rfl) dL_lay_29 ?_
      refine x_nmI (fun r5 er5 => ?_)
      have hR := nmE hR er5
      have hok := hok r5 er5
      refine x_iconst (pc := 32) (v := 0) C dL_lay_32 (by decide) ?_
      refine x_iconst (pc := 33) (v := 0) C dL_lay_33 (by decide) ?_
      refine x_iconst (pc := 34) (v := 0) C dL_lay_34 (by decide) ?_
      have h6 := hok.1
      have hok := hok.2
      refine x_cWS (pc := 35) (as := [.ref (ad 176), .int 0, .int r5, .int 0, .int 0, .int 0]) (n := 6) C (c_L_deed C.2.2.2.2.2.2.2.1  B M O 0 r5 0 0 0 h6) wd_2_76 wd_2_77 wd_1_0 wd_2_78 ⟨by decide, by decide, by decide +kernel⟩ ⟨Nat.le_of_ble_eq_true rfl, Nat.le_of_ble_eq_true rfl⟩ ⟨by simp only [rmd]; omega, by simp only [rmd]; omega⟩ rfl rfl (Nat.le_of_ble_eq_true rfl) dL_lay_35 ?_
      refine x_nmIB (fun z7 ez7 => ?_)
      have hR := nmE hR ez7
      have hok := hok z7 ez7
      refine x_iadd (pc := 38) C dL_lay_38 ?_
      refine x_nmI (fun v8 ev8 => ?_)
      have hR := nmE hR ev8
      have hok := hok v8 ev8
      refine x_istore_n (pc := 39) (i := 2) (ls2 := [(2, .int v8), (0, .ref (ad 176)), (1, .ref (G.2.2.2.2 4)), (3, .int a3), (4, .int a4)]) C dL_lay_39 rfl (by decide) rfl ?_
      refine x_iload_n (pc := 40) (i := 2) C 0 dL_lay_40 rfl rfl ?_
      refine x_aload_n (pc := 41) (i := 0) C 1 dL_lay_41 rfl rfl ?_
      refine x_iconst (pc := 42) (v := 1) C dL_lay_42 (by decide) ?_
      refine x_iload (pc := 43) (i := 4) C 4 dL_lay_43 rfl ?_
      refine x_iconst (pc := 45) (v := 1) C dL_lay_45 (by decide) ?_
      refine x_aload_n (pc := 46) (i := 1) C 2 dL_lay_46 rfl rfl ?_
      refine x_bipush (pc := 47) (v := 21) C dL_lay_47 (by decide) ?_
      refine x_iload (pc := 49) (i := 4) C 4 dL_lay_49 rfl ?_
      refine x_iadd (pc := 51) C dL_lay_51 ?_
      refine x_sipush (pc := 52) (v := 999) C dL_lay_52 (by decide) ?_
      have h9 := hok.1
      have hok := hok.2
      refine x_cIS (pc := 55) (as := [.ref (G.2.2.2.2 4), .int (21 + a4), .int 999]) C (c_L_pick C.2.2.2.2.2.2.2.1 S N hsc z7.2 M O (21 + a4) 999 h9) wd_2_66 cd_L_pick wd_2_65 ⟨Nat.le_of_ble_eq_true rfl, Nat.le_of_ble_eq_true rfl⟩ ⟨by simp only [rmd]; omega, by simp only [rmd]; omega⟩ rfl rfl (Nat.le_of_ble_eq_true rfl) dL_lay_55 ?_
      refine x_nmI (fun r10 er10 => ?_)
      have hR := nmE hR er10
      have hok := hok r10 er10
      refine x_iadd (pc := 58) C dL_lay_58 ?_
      refine x_iconst (pc := 59) (v := 0) C dL_lay_59 (by decide) ?_
      refine x_iconst (pc := 60) (v := 0) C dL_lay_60 (by decide) ?_
      have h11 := hok.1
      have hok := hok.2
      refine x_cWS (pc := 61) (as := [.ref (ad 176), .int 1, .int a4, .int (1 + r10), .int 0, .int 0]) (n := 6) C (c_L_deed C.2.2.2.2.2.2.2.1  z7.2 M O 1 a4 (1 + r10) 0 0 h11) wd_2_76 wd_2_77 wd_1_0 wd_2_78 ⟨by decide, by decide, by decide +kernel⟩ ⟨Nat.le_of_ble_eq_true rfl, Nat.le_of_ble_eq_true rfl⟩ ⟨by simp only [rmd]; omega, by simp only [rmd]; omega⟩ rfl rfl (Nat.le_of_ble_eq_true rfl) dL_lay_61 ?_
      refine x_nmIB (fun z12 ez12 => ?_)
      have hR := nmE hR ez12
      have hok := hok z12 ez12
      refine x_aload_n (pc := 64) (i := 1) C 2 dL_lay_64 rfl rfl ?_
      refine x_bipush (pc := 65) (v := 31) C dL_lay_65 (by decide) ?_
      refine x_iload (pc := 67) (i := 4) C 4 dL_lay_67 rfl ?_
      refine x_iadd (pc := 69) C dL_lay_69 ?_
      refine x_iconst (pc := 70) (v := 2) C dL_lay_70 (by decide) ?_
      have h13 := hok.1
      have hok := hok.2
      refine x_cIS (pc := 71) (as := [.ref (G.2.2.2.2 4), .int (31 + a4), .int 2]) C (c_L_pick C.2.2.2.2.2.2.2.1 S N hsc z12.2 M O (31 + a4) 2 h13) wd_2_66 cd_L_pick wd_2_65 ⟨Nat.le_of_ble_eq_true rfl, Nat.le_of_ble_eq_true rfl⟩ ⟨by simp only [rmd]; omega, by simp only [rmd]; omega⟩ rfl rfl (Nat.le_of_ble_eq_true rfl) dL_lay_71 ?_
      refine x_nmI (fun r14 er14 => ?_)
      have hR := nmE hR er14
      have hok := hok r14 er14
      refine x_aload_n (pc := 74) (i := 0) C 1 dL_lay_74 rfl rfl ?_
      refine x_iconst (pc := 75) (v := 3) C dL_lay_75 (by decide) ?_
      refine x_iload (pc := 76) (i := 4) C 4 dL_lay_76 rfl ?_
      refine x_aload_n (pc := 78) (i := 1) C 2 dL_lay_78 rfl rfl ?_
      refine x_bipush (pc := 79) (v := 41) C dL_lay_79 (by decide) ?_
      refine x_iload (pc := 81) (i := 4) C 4 dL_lay_81 rfl ?_
      refine x_iadd (pc := 83) C dL_lay_83 ?_
      refine x_sipush (pc := 84) (v := 501) C dL_lay_84 (by decide) ?_
      have h15 := hok.1
      have hok := hok.2
      refine x_cIS (pc := 87) (as := [.ref (G.2.2.2.2 4), .int (41 + a4), .int 501]) C (c_L_pick C.2.2.2.2.2.2.2.1 S N hsc z12.2 M O (41 + a4) 501 h15) wd_2_66 cd_L_pick wd_2_65 ⟨Nat.le_of_ble_eq_true rfl, Nat.le_of_ble_eq_true rfl⟩ ⟨by simp only [rmd]; omega, by simp only [rmd]; omega⟩ rfl rfl (Nat.le_of_ble_eq_true rfl) dL_lay_87 ?_
      refine x_nmI (fun r16 er16 => ?_)
      have hR := nmE hR er16
      have hok := hok r16 er16
      refine x_iconst (pc := 90) (v := 0) C dL_lay_90 (by decide) ?_
      refine x_iconst (pc := 91) (v := 0) C dL_lay_91 (by decide) ?_
      have h17 := hok.1
      have hok := hok.2
      refine x_cWS (pc := 92) (as := [.ref (ad 176), .int 3, .int a4, .int r16, .int 0, .int 0]) (n := 6) C (c_L_deed C.2.2.2.2.2.2.2.1  z12.2 M O 3 a4 r16 0 0 h17) wd_2_76 wd_2_77 wd_1_0 wd_2_78 ⟨by decide, by decide, by decide +kernel⟩ ⟨Nat.le_of_ble_eq_true rfl, Nat.le_of_ble_eq_true rfl⟩ ⟨by simp only [rmd]; omega, by simp only [rmd]; omega⟩ rfl rfl (Nat.le_of_ble_eq_true rfl) dL_lay_92 ?_
      refine x_nmIB (fun z18 ez18 => ?_)
      have hR := nmE hR ez18
      have hok := hok z18 ez18
      refine x_imul (pc := 95) C dL_lay_95 ?_
      refine x_iadd (pc := 96) C dL_lay_96 ?_
      refine x_iadd (pc := 97) C dL_lay_97 ?_
      refine x_nmI (fun v19 ev19 => ?_)
      have hR := nmE hR ev19
      have hok := hok v19 ev19
      refine x_istore_n (pc := 98) (i := 2) (ls2 := [(2, .int v19), (0, .ref (ad 176)), (1, .ref (G.2.2.2.2 4)), (3, .int a3), (4, .int a4)]) C dL_lay_98 rfl (by decide) rfl ?_
      refine x_iload_n (pc := 99) (i := 2) C 0 dL_lay_99 rfl rfl ?_
      refine x_aload_n (pc := 100) (i := 1) C 2 dL_lay_100 rfl rfl ?_
      refine x_bipush (pc := 101) (v := 51) C dL_lay_101 (by decide) ?_
      refine x_iload (pc := 103) (i := 4) C 4 dL_lay_103 rfl ?_
      refine x_iadd (pc := 105) C dL_lay_105 ?_
      refine x_iconst (pc := 106) (v := 3) C dL_lay_106 (by decide) ?_
      have h20 := hok.1
      have hok := hok.2
      refine x_cIS (pc := 107) (as := [.ref (G.2.2.2.2 4), .int (51 + a4), .int 3]) C (c_L_pick C.2.2.2.2.2.2.2.1 S N hsc z18.2 M O (51 + a4) 3 h20) wd_2_66 cd_L_pick wd_2_65 ⟨Nat.le_of_ble_eq_true rfl, Nat.le_of_ble_eq_true rfl⟩ ⟨by simp only [rmd]; omega, by simp only [rmd]; omega⟩ rfl rfl (Nat.le_of_ble_eq_true rfl) dL_lay_107 ?_
      refine x_nmI (fun r21 er21 => ?_)
      have hR := nmE hR er21
      have hok := hok r21 er21
      refine x_if_ne (pc := 110) (tgt := 139) C dL_lay_110 (by decide) (fun c22 => ?_) (fun c22 => ?_)
      · have hR := hR.trans (if_neg c22)
        have hok := hok.2 c22
        refine x_iconst (pc := 139) (v := 0) C dL_lay_139 (by decide) ?_
        refine x_iadd (pc := 140) C dL_lay_140 ?_
        refine x_nmI (fun v23 ev23 => ?_)
        have hR := nmE hR ev23
        have hok := hok v23 ev23
        refine x_istore_n (pc := 141) (i := 2) (ls2 := [(2, .int v23), (0, .ref (ad 176)), (1, .ref (G.2.2.2.2 4)), (3, .int a3), (4, .int a4)]) C dL_lay_141 rfl (by decide) rfl ?_
        refine x_iinc (pc := 142) (i := 4) (v := (a4 + 1)) (ls2 := [(4, .int (a4 + 1)), (2, .int v23), (0, .ref (ad 176)), (1, .ref (G.2.2.2.2 4)), (3, .int a3)]) C 4 dL_lay_142 rfl rfl (by decide) rfl ?_
        refine x_goto (pc := 145) (tgt := 13) C dL_lay_145 (by decide) ?_
        refine x_sub [2, 3, 1, 4, 0] (ls2 := [(0, .ref (ad 176)), (1, .ref (G.2.2.2.2 4)), (2, .int v23), (3, .int a3), (4, .int (a4 + 1))]) rfl ?_
        refine x_wid (k0 := cs0 + 16) (n0 := ss0 + 96) (by omega) (by omega) ?_
        exact ih z18.2 v23 a3 (a4 + 1) _ _ ⟨by omega, by omega⟩ R0 hR hok (x_wid (by omega) (by omega) k)
      · have hR := hR.trans (if_pos c22)
        have hok := hok.1 c22
        refine x_aload_n (pc := 113) (i := 0) C 1 dL_lay_113 rfl rfl ?_
        refine x_iconst (pc := 114) (v := 2) C dL_lay_114 (by decide) ?_
        refine x_iload (pc := 115) (i := 4) C 4 dL_lay_115 rfl ?_
        refine x_iconst (pc := 117) (v := 1) C dL_lay_117 (by decide) ?_
        refine x_aload_n (pc := 118) (i := 1) C 2 dL_lay_118 rfl rfl ?_
        refine x_bipush (pc := 119) (v := 61) C dL_lay_119 (by decide) ?_
        refine x_iload (pc := 121) (i := 4) C 4 dL_lay_121 rfl ?_
        refine x_iadd (pc := 123) C dL_lay_123 ?_
        refine x_sipush (pc := 124) (v := 999) C dL_lay_124 (by decide) ?_
        have h24 := hok.1
        have hok := hok.2
        refine x_cIS (pc := 127) (as := [.ref (G.2.2.2.2 4), .int (61 + a4), .int 999]) C (c_L_pick C.2.2.2.2.2.2.2.1 S N hsc z18.2 M O (61 + a4) 999 h24) wd_2_66 cd_L_pick wd_2_65 ⟨Nat.le_of_ble_eq_true rfl, Nat.le_of_ble_eq_true rfl⟩ ⟨by simp only [rmd]; omega, by simp only [rmd]; omega⟩ rfl rfl (Nat.le_of_ble_eq_true rfl) dL_lay_127 ?_
        refine x_nmI (fun r25 er25 => ?_)
        have hR := nmE hR er25
        have hok := hok r25 er25
        refine x_iadd (pc := 130) C dL_lay_130 ?_
        refine x_iconst (pc := 131) (v := 0) C dL_lay_131 (by decide) ?_
        refine x_iconst (pc := 132) (v := 0) C dL_lay_132 (by decide) ?_
        have h26 := hok.1
        have hok := hok.2
        refine x_cWS (pc := 133) (as := [.ref (ad 176), .int 2, .int a4, .int (1 + r25), .int 0, .int 0]) (n := 6) C (c_L_deed C.2.2.2.2.2.2.2.1  z18.2 M O 2 a4 (1 + r25) 0 0 h26) wd_2_76 wd_2_77 wd_1_0 wd_2_78 ⟨by decide, by decide, by decide +kernel⟩ ⟨Nat.le_of_ble_eq_true rfl, Nat.le_of_ble_eq_true rfl⟩ ⟨by simp only [rmd]; omega, by simp only [rmd]; omega⟩ rfl rfl (Nat.le_of_ble_eq_true rfl) dL_lay_133 ?_
        refine x_nmIB (fun z27 ez27 => ?_)
        have hR := nmE hR ez27
        have hok := hok z27 ez27
        refine x_goto (pc := 136) (tgt := 140) C dL_lay_136 (by decide) ?_
        refine x_iadd (pc := 140) C dL_lay_140 ?_
        refine x_nmI (fun v28 ev28 => ?_)
        have hR := nmE hR ev28
        have hok := hok v28 ev28
        refine x_istore_n (pc := 141) (i := 2) (ls2 := [(2, .int v28), (0, .ref (ad 176)), (1, .ref (G.2.2.2.2 4)), (3, .int a3), (4, .int a4)]) C dL_lay_141 rfl (by decide) rfl ?_
        refine x_iinc (pc := 142) (i := 4) (v := (a4 + 1)) (ls2 := [(4, .int (a4 + 1)), (2, .int v28), (0, .ref (ad 176)), (1, .ref (G.2.2.2.2 4)), (3, .int a3)]) C 4 dL_lay_142 rfl rfl (by decide) rfl ?_
        refine x_goto (pc := 145) (tgt := 13) C dL_lay_145 (by decide) ?_
        refine x_sub [2, 3, 1, 4, 0] (ls2 := [(0, .ref (ad 176)), (1, .ref (G.2.2.2.2 4)), (2, .int v28), (3, .int a3), (4, .int (a4 + 1))]) rfl ?_
        refine x_wid (k0 := cs0 + 16) (n0 := ss0 + 96) (by omega) (by omega) ?_
        exact ih z27.2 v28 a3 (a4 + 1) _ _ ⟨by omega, by omega⟩ R0 hR hok (x_wid (by omega) (by omega) k)
set_option maxHeartbeats 4000000 in
set_option maxRecDepth 100000 in
theorem t_L_lay_L151 {p0 : Program} {l : Launch} {e : Env} {s : State} {m : MethodId} {args : Array Value} {below : List Frame} {meth : Method} {c : Code} {A : Nat → Prop} {G : GT} {ad : Nat → Nat} {Q : State → Prop} (C : CX p0 l s m args meth c A G ad cL_lay RL 5 none) {S : Nat → Int32} {N : Nat} (hsc : S = scx G ∧ N = G.2.2.2.2 5)   (n : Nat) (B : StB) (a2 : Int32) (a3 : Int32) (a4 : Int32) (M : StM) (O : StO) : ∀ (cs0 ss0 : Nat) (hcs : cs0 + n * 4 ≤ 404 ∧ ss0 + n * 24 ≤ 2424) (R0 : Int32 × StB) (hR : R0 = f_L_lay_L151 n S N B a2 a3 a4) (hok : ok_L_lay_L151 n S N B a2 a3 a4) (k : X p0 l e (rmd 20 404 2424) s m args below meth c A G ad 5 (cs0 + n * 4) (ss0 + n * 24) Q R0.2 M O [(0, .ref (ad 176)), (1, .ref (G.2.2.2.2 4)), (2, .int R0.1)] 226 []), X p0 l e (rmd 20 404 2424) s m args below meth c A G ad 5 cs0 ss0 Q B M O [(0, .ref (ad 176)), (1, .ref (G.2.2.2.2 4)), (2, .int a2), (3, .int a3), (4, .int a4)] 151 [] := by
  induction n generalizing B a2 a3 a4 with
  | zero => intro cs0 ss0 hcs R0 hR hok k; exact False.elim hok
  | succ n ih =>
    intro cs0 ss0 hcs R0 hR hok k
    have hR : R0 = (nm (f_L_pick S N 1 12) (fun (r31 : Int32) => (if r31 ≤ a4 then (a2, B) else (if a3 ≤ 0 then (a2, B) else (nm (f_L_pick S N (71 + a4) a3) (fun (r35 : Int32) => (nm (f_L_pick S N (91 + a4) a3) (fun (r37 : Int32) => (nm (f_L_pick S N (111 + a4) 700) (fun (r39 : Int32) => (nm (f_L_pick S N (131 + a4) 5) (fun (r41 : Int32) => (nm (f_L_deed B 4 r35 r37 (1 + r39) r41) (fun (z43 : Int32 × StB) => (nm (a2 + z43.1) (fun (v44 : Int32) => (f_L_lay_L151 n S N z43.2 v44 a3 (a4 + 1)))))))))))))))))) := hR
    have hok : ((ok_L_pick S N 1 12) ∧ (∀ r31 : Int32, r31 = (f_L_pick S N 1 12) → ((r31 ≤ a4 → True) ∧ (¬ r31 ≤ a4 → ((a3 ≤ 0 → True) ∧ (¬ a3 ≤ 0 → ((ok_L_pick S N (71 + a4) a3) ∧ (∀ r35 : Int32, r35 = (f_L_pick S N (71 + a4) a3) → ((ok_L_pick S N (91 + a4) a3) ∧ (∀ r37 : Int32, r37 = (f_L_pick S N (91 + a4) a3) → ((ok_L_pick S N (111 + a4) 700) ∧ (∀ r39 : Int32, r39 = (f_L_pick S N (111 + a4) 700) → ((ok_L_pick S N (131 + a4) 5) ∧ (∀ r41 : Int32, r41 = (f_L_pick S N (131 + a4) 5) → ((ok_L_deed B 4 r35 r37 (1 + r39) r41) ∧ (∀ z43 : Int32 × StB, z43 = (f_L_deed B 4 r35 r37 (1 + r39) r41) → (∀ v44 : Int32, v44 = (a2 + z43.1) → (ok_L_lay_L151 n S N z43.2 v44 a3 (a4 + 1))))))))))))))))))) := hok
    refine x_iload (pc := 151) (i := 4) C 4 dL_lay_151 rfl ?_
    refine x_aload_n (pc := 153) (i := 1) C 1 dL_lay_153 rfl rfl ?_
    refine x_iconst (pc := 154) (v := 1) C dL_lay_154 (by decide) ?_
    refine x_bipush (pc := 155) (v := 12) C dL_lay_155 (by decide) ?_
    have h30 := hok.1
    have hok := hok.2
    refine x_cIS (pc := 157) (as := [.ref (G.2.2.2.2 4), .int 1, .int 12]) C (c_L_pick C.2.2.2.2.2.2.2.1 S N hsc B M O 1 12 h30) wd_2_66 cd_L_pick wd_2_65 ⟨Nat.le_of_ble_eq_true rfl, Nat.le_of_ble_eq_true rfl⟩ ⟨by simp only [rmd]; omega, by simp only [rmd]; omega⟩ rfl rfl (Nat.le_of_ble_eq_true rfl) dL_lay_157 ?_
    refine x_nmI (fun r31 er31 => ?_)
    have hR := nmE hR er31
    have hok := hok r31 er31
    refine x_icmp_ge (pc := 160) (tgt := 226) C dL_lay_160 (by decide) (fun c32 => ?_) (fun c32 => ?_)
    · have hR := hR.trans (if_pos c32)
      refine x_sub [0, 1, 2] (ls2 := [(0, .ref (ad 176)), (1, .ref (G.2.2.2.2 4)), (2, .int a2)]) rfl ?_
      subst hR
      exact x_wid (by omega) (by omega) k
    · have hR := hR.trans (if_neg c32)
      have hok := hok.2 c32
      refine x_iload_n (pc := 163) (i := 3) C 3 dL_lay_163 rfl rfl ?_
      refine x_if_le (pc := 164) (tgt := 226) C dL_lay_164 (by decide) (fun c33 => ?_) (fun c33 => ?_)
      · have hR := hR.trans (if_pos c33)
        refine x_sub [0, 1, 2] (ls2 := [(0, .ref (ad 176)), (1, .ref (G.2.2.2.2 4)), (2, .int a2)]) rfl ?_
        subst hR
        exact x_wid (by omega) (by omega) k
      · have hR := hR.trans (if_neg c33)
        have hok := hok.2 c33
        refine x_iload_n (pc := 167) (i := 2) C 2 dL_lay_167 rfl rfl ?_
        refine x_aload_n (pc := 168) (i := 0) C 0 dL_lay_168 rfl rfl ?_
        refine x_iconst (pc := 169) (v := 4) C dL_lay_169 (by decide) ?_
        refine x_aload_n (pc := 170) (i := 1) C 1 dL_lay_170 rfl rfl ?_
        refine x_bipush (pc := 171) (v := 71) C dL_lay_171 (by decide) ?_
        refine x_iload (pc := 173) (i := 4) C 4 dL_lay_173 rfl ?_
        refine x_iadd (pc := 175) C dL_lay_175 ?_
        refine x_iload_n (pc := 176) (i := 3) C 3 dL_lay_176 rfl rfl ?_
        have h34 := hok.1
        have hok := hok.2
        refine x_cIS (pc := 177) (as := [.ref (G.2.2.2.2 4), .int (71 + a4), .int a3]) C (c_L_pick C.2.2.2.2.2.2.2.1 S N hsc B M O (71 + a4) a3 h34) wd_2_66 cd_L_pick wd_2_65 ⟨Nat.le_of_ble_eq_true rfl, Nat.le_of_ble_eq_true rfl⟩ ⟨by simp only [rmd]; omega, by simp only [rmd]; omega⟩ rfl rfl (Nat.le_of_ble_eq_true rfl) dL_lay_177 ?_
        refine x_nmI (fun r35 er35 => ?_)
        have hR := nmE hR er35
        have hok := hok r35 er35
        refine x_aload_n (pc := 180) (i := 1) C 1 dL_lay_180 rfl rfl ?_
        refine x_bipush (pc := 181) (v := 91) C dL_lay_181 (by decide) ?_
        refine x_iload (pc := 183) (i := 4) C 4 dL_lay_183 rfl ?_
        refine x_iadd (pc := 185) C dL_lay_185 ?_
        refine x_iload_n (pc := 186) (i := 3) C 3 dL_lay_186 rfl rfl ?_
        have h36 := hok.1
        have hok := hok.2
        refine x_cIS (pc := 187) (as := [.ref (G.2.2.2.2 4), .int (91 + a4), .int a3]) C (c_L_pick C.2.2.2.2.2.2.2.1 S N hsc B M O (91 + a4) a3 h36) wd_2_66 cd_L_pick wd_2_65 ⟨Nat.le_of_ble_eq_true rfl, Nat.le_of_ble_eq_true rfl⟩ ⟨by simp only [rmd]; omega, by simp only [rmd]; omega⟩ rfl rfl (Nat.le_of_ble_eq_true rfl) dL_lay_187 ?_
        refine x_nmI (fun r37 er37 => ?_)
        have hR := nmE hR er37
        have hok := hok r37 er37
        refine x_iconst (pc := 190) (v := 1) C dL_lay_190 (by decide) ?_
        refine x_aload_n (pc := 191) (i := 1) C 1 dL_lay_191 rfl rfl ?_
        refine x_bipush (pc := 192) (v := 111) C dL_lay_192 (by decide) ?_
        refine x_iload (pc := 194) (i := 4) C 4 dL_lay_194 rfl ?_
        refine x_iadd (pc := 196) C dL_lay_196 ?_
        refine x_sipush (pc := 197) (v := 700) C dL_lay_197 (by decide) ?_
        have h38 := hok.1
        have hok := hok.2
        refine x_cIS (pc := 200) (as := [.ref (G.2.2.2.2 4), .int (111 + a4), .int 700]) C (c_L_pick C.2.2.2.2.2.2.2.1 S N hsc B M O (111 + a4) 700 h38) wd_2_66 cd_L_pick wd_2_65 ⟨Nat.le_of_ble_eq_true rfl, Nat.le_of_ble_eq_true rfl⟩ ⟨by simp only [rmd]; omega, by simp only [rmd]; omega⟩ rfl rfl (Nat.le_of_ble_eq_true rfl) dL_lay_200 ?_
        refine x_nmI (fun r39 er39 => ?_)
        have hR := nmE hR er39
        have hok := hok r39 er39
        refine x_iadd (pc := 203) C dL_lay_203 ?_
        refine x_aload_n (pc := 204) (i := 1) C 1 dL_lay_204 rfl rfl ?_
        refine x_sipush (pc := 205) (v := 131) C dL_lay_205 (by decide) ?_
        refine x_iload (pc := 208) (i := 4) C 4 dL_lay_208 rfl ?_
        refine x_iadd (pc := 210) C dL_lay_210 ?_
        refine x_iconst (pc := 211) (v := 5) C dL_lay_211 (by decide) ?_
        have h40 := hok.1
        have hok := hok.2
        refine x_cIS (pc := 212) (as := [.ref (G.2.2.2.2 4), .int (131 + a4), .int 5]) C (c_L_pick C.2.2.2.2.2.2.2.1 S N hsc B M O (131 + a4) 5 h40) wd_2_66 cd_L_pick wd_2_65 ⟨Nat.le_of_ble_eq_true rfl, Nat.le_of_ble_eq_true rfl⟩ ⟨by simp only [rmd]; omega, by simp only [rmd]; omega⟩ rfl rfl (Nat.le_of_ble_eq_true rfl) dL_lay_212 ?_
        refine x_nmI (fun r41 er41 => ?_)
        have hR := nmE hR er41
        have hok := hok r41 er41
        have h42 := hok.1
        have hok := hok.2
        refine x_cWS (pc := 215) (as := [.ref (ad 176), .int 4, .int r35, .int r37, .int (1 + r39), .int r41]) (n := 6) C (c_L_deed C.2.2.2.2.2.2.2.1  B M O 4 r35 r37 (1 + r39) r41 h42) wd_2_76 wd_2_77 wd_1_0 wd_2_78 ⟨by decide, by decide, by decide +kernel⟩ ⟨Nat.le_of_ble_eq_true rfl, Nat.le_of_ble_eq_true rfl⟩ ⟨by simp only [rmd]; omega, by simp only [rmd]; omega⟩ rfl rfl (Nat.le_of_ble_eq_true rfl) dL_lay_215 ?_
        refine x_nmIB (fun z43 ez43 => ?_)
        have hR := nmE hR ez43
        have hok := hok z43 ez43
        refine x_iadd (pc := 218) C dL_lay_218 ?_
        refine x_nmI (fun v44 ev44 => ?_)
        have hR := nmE hR ev44
        have hok := hok v44 ev44
        refine x_istore_n (pc := 219) (i := 2) (ls2 := [(2, .int v44), (0, .ref (ad 176)), (1, .ref (G.2.2.2.2 4)), (3, .int a3), (4, .int a4)]) C dL_lay_219 rfl (by decide) rfl ?_
        refine x_iinc (pc := 220) (i := 4) (v := (a4 + 1)) (ls2 := [(4, .int (a4 + 1)), (2, .int v44), (0, .ref (ad 176)), (1, .ref (G.2.2.2.2 4)), (3, .int a3)]) C 4 dL_lay_220 rfl rfl (by decide) rfl ?_
        refine x_goto (pc := 223) (tgt := 151) C dL_lay_223 (by decide) ?_
        refine x_sub [2, 3, 1, 4, 0] (ls2 := [(0, .ref (ad 176)), (1, .ref (G.2.2.2.2 4)), (2, .int v44), (3, .int a3), (4, .int (a4 + 1))]) rfl ?_
        refine x_wid (k0 := cs0 + 4) (n0 := ss0 + 24) (by omega) (by omega) ?_
        exact ih z43.2 v44 a3 (a4 + 1) _ _ ⟨by omega, by omega⟩ R0 hR hok (x_wid (by omega) (by omega) k)
set_option maxHeartbeats 4000000 in
set_option maxRecDepth 100000 in
theorem t_L_lay_J226 {p0 : Program} {l : Launch} {e : Env} {s : State} {m : MethodId} {args : Array Value} {below : List Frame} {meth : Method} {c : Code} {A : Nat → Prop} {G : GT} {ad : Nat → Nat} (C : CX p0 l s m args meth c A G ad cL_lay RL 5 none) {S : Nat → Int32} {N : Nat} (hsc : S = scx G ∧ N = G.2.2.2.2 5) (B : StB) (a2 : Int32) (M : StM) (O : StO) (cs0 ss0 : Nat) (hcs : cs0 + 4 ≤ 404 ∧ ss0 + 24 ≤ 2424) (R0 : StB) (hR : R0 = f_L_lay_J226 S N B a2) (hok : ok_L_lay_J226 S N B a2) : X p0 l e (rmd 20 404 2424) s m args below meth c A G ad 5 cs0 ss0 (MQ below (QV G A ad R0 M O) args s 404 2424 A) B M O [(0, .ref (ad 176)), (1, .ref (G.2.2.2.2 4)), (2, .int a2)] 226 [] := by
  have hR : R0 = (nm (f_L_pick S N 2 2) (fun (r47 : Int32) => (if r47 = 0 then (nm (f_L_pick S N 3 4) (fun (r51 : Int32) => (nm (f_L_deed B 6 (1 + r51) 0 0 0) (fun (z53 : Int32 × StB) => (nm (a2 + z53.1) (fun (v54 : Int32) => z53.2)))))) else (nm (a2 + 0) (fun (v49 : Int32) => B))))) := hR
  have hok : ((ok_L_pick S N 2 2) ∧ (∀ r47 : Int32, r47 = (f_L_pick S N 2 2) → ((r47 = 0 → ((ok_L_pick S N 3 4) ∧ (∀ r51 : Int32, r51 = (f_L_pick S N 3 4) → ((ok_L_deed B 6 (1 + r51) 0 0 0))))) ∧ (¬ r47 = 0 → True)))) := hok
  refine x_iload_n (pc := 226) (i := 2) C 2 dL_lay_226 rfl rfl ?_
  refine x_aload_n (pc := 227) (i := 1) C 1 dL_lay_227 rfl rfl ?_
  refine x_iconst (pc := 228) (v := 2) C dL_lay_228 (by decide) ?_
  refine x_iconst (pc := 229) (v := 2) C dL_lay_229 (by decide) ?_
  have h46 := hok.1
  have hok := hok.2
  refine x_cIS (pc := 230) (as := [.ref (G.2.2.2.2 4), .int 2, .int 2]) C (c_L_pick C.2.2.2.2.2.2.2.1 S N hsc B M O 2 2 h46) wd_2_66 cd_L_pick wd_2_65 ⟨Nat.le_of_ble_eq_true rfl, Nat.le_of_ble_eq_true rfl⟩ ⟨by simp only [rmd]; omega, by simp only [rmd]; omega⟩ rfl rfl (Nat.le_of_ble_eq_true rfl) dL_lay_230 ?_
  refine x_nmI (fun r47 er47 => ?_)
  have hR := nmE hR er47
  have hok := hok r47 er47
  refine x_if_ne (pc := 233) (tgt := 256) C dL_lay_233 (by decide) (fun c48 => ?_) (fun c48 => ?_)
  · have hR := hR.trans (if_neg c48)
    refine x_iconst (pc := 256) (v := 0) C dL_lay_256 (by decide) ?_
    refine x_iadd (pc := 257) C dL_lay_257 ?_
    refine x_nmI (fun v49 ev49 => ?_)
    have hR := nmE hR ev49
    refine x_istore_n (pc := 258) (i := 2) (ls2 := [(2, .int v49), (0, .ref (ad 176)), (1, .ref (G.2.2.2.2 4))]) C dL_lay_258 rfl (by decide) rfl ?_
    refine x_wid (k0 := 404) (n0 := 2424) (by omega) (by omega) ?_
    exact x_vretB (pc := 259) C rfl hR dL_lay_259
  · have hR := hR.trans (if_pos c48)
    have hok := hok.1 c48
    refine x_aload_n (pc := 236) (i := 0) C 0 dL_lay_236 rfl rfl ?_
    refine x_bipush (pc := 237) (v := 6) C dL_lay_237 (by decide) ?_
    refine x_iconst (pc := 239) (v := 1) C dL_lay_239 (by decide) ?_
    refine x_aload_n (pc := 240) (i := 1) C 1 dL_lay_240 rfl rfl ?_
    refine x_iconst (pc := 241) (v := 3) C dL_lay_241 (by decide) ?_
    refine x_iconst (pc := 242) (v := 4) C dL_lay_242 (by decide) ?_
    have h50 := hok.1
    have hok := hok.2
    refine x_cIS (pc := 243) (as := [.ref (G.2.2.2.2 4), .int 3, .int 4]) C (c_L_pick C.2.2.2.2.2.2.2.1 S N hsc B M O 3 4 h50) wd_2_66 cd_L_pick wd_2_65 ⟨Nat.le_of_ble_eq_true rfl, Nat.le_of_ble_eq_true rfl⟩ ⟨by simp only [rmd]; omega, by simp only [rmd]; omega⟩ rfl rfl (Nat.le_of_ble_eq_true rfl) dL_lay_243 ?_
    refine x_nmI (fun r51 er51 => ?_)
    have hR := nmE hR er51
    have hok := hok r51 er51
    refine x_iadd (pc := 246) C dL_lay_246 ?_
    refine x_iconst (pc := 247) (v := 0) C dL_lay_247 (by decide) ?_
    refine x_iconst (pc := 248) (v := 0) C dL_lay_248 (by decide) ?_
    refine x_iconst (pc := 249) (v := 0) C dL_lay_249 (by decide) ?_
    have h52 := hok
    refine x_cWS (pc := 250) (as := [.ref (ad 176), .int 6, .int (1 + r51), .int 0, .int 0, .int 0]) (n := 6) C (c_L_deed C.2.2.2.2.2.2.2.1  B M O 6 (1 + r51) 0 0 0 h52) wd_2_76 wd_2_77 wd_1_0 wd_2_78 ⟨by decide, by decide, by decide +kernel⟩ ⟨Nat.le_of_ble_eq_true rfl, Nat.le_of_ble_eq_true rfl⟩ ⟨by simp only [rmd]; omega, by simp only [rmd]; omega⟩ rfl rfl (Nat.le_of_ble_eq_true rfl) dL_lay_250 ?_
    refine x_nmIB (fun z53 ez53 => ?_)
    have hR := nmE hR ez53
    refine x_goto (pc := 253) (tgt := 257) C dL_lay_253 (by decide) ?_
    refine x_iadd (pc := 257) C dL_lay_257 ?_
    refine x_nmI (fun v54 ev54 => ?_)
    have hR := nmE hR ev54
    refine x_istore_n (pc := 258) (i := 2) (ls2 := [(2, .int v54), (0, .ref (ad 176)), (1, .ref (G.2.2.2.2 4))]) C dL_lay_258 rfl (by decide) rfl ?_
    refine x_wid (k0 := 404) (n0 := 2424) (by omega) (by omega) ?_
    exact x_vretB (pc := 259) C rfl hR dL_lay_259
set_option maxHeartbeats 4000000 in
set_option maxRecDepth 100000 in
theorem c_L_lay {l : Launch} {A : Nat → Prop} {G : GT} {ad : Nat → Nat} (gl : Gl l A G ad) (S : Nat → Int32) (N : Nat) (hsc : S = scx G ∧ N = G.2.2.2.2 5) (B : StB) (M : StM) (O : StO)  (hok : ok_L_lay S N B) : Met l yL_lay (wof yL_lay cL_lay 5 none) (rmd 20 404 2424) (va_Pc [.ref (ad 176), .ref (G.2.2.2.2 4)] (PW G A ad B M O)) (QV G A ad (f_L_lay S N B) M O) 404 2424 A := by
  refine x_body (own := RL) (by decide +kernel) rfl gl (Nat.le_of_ble_eq_true rfl) (ls := [(0, .ref (ad 176)), (1, .ref (G.2.2.2.2 4))]) rfl ?_
  intro p0 e s m args below meth c C
  have hR : (f_L_lay S N B) = (nm (f_L_pick S N 0 9) (fun (r2 : Int32) => (nm (f_L_lay_L13 20 S N B 0 r2 0) (fun (z29 : Int32 × StB) => (nm (f_L_lay_L151 20 S N z29.2 z29.1 r2 0) (fun (z45 : Int32 × StB) => (f_L_lay_J226 S N z45.2 z45.1))))))) := rfl
  have hok : ((ok_L_pick S N 0 9) ∧ (∀ r2 : Int32, r2 = (f_L_pick S N 0 9) → ((ok_L_lay_L13 20 S N B 0 r2 0) ∧ ∀ z29 : Int32 × StB, z29 = f_L_lay_L13 20 S N B 0 r2 0 → ((ok_L_lay_L151 20 S N z29.2 z29.1 r2 0) ∧ ∀ z45 : Int32 × StB, z45 = f_L_lay_L151 20 S N z29.2 z29.1 r2 0 → (ok_L_lay_J226 S N z45.2 z45.1))))) := hok
  refine x_iconst (pc := 0) (v := 0) C dL_lay_0 (by decide) ?_
  refine x_istore_n (pc := 1) (i := 2) (ls2 := [(2, .int 0), (0, .ref (ad 176)), (1, .ref (G.2.2.2.2 4))]) C dL_lay_1 rfl (by decide) rfl ?_
  refine x_aload_n (pc := 2) (i := 1) C 2 dL_lay_2 rfl rfl ?_
  refine x_iconst (pc := 3) (v := 0) C dL_lay_3 (by decide) ?_
  refine x_bipush (pc := 4) (v := 9) C dL_lay_4 (by decide) ?_
  have h1 := hok.1
  have hok := hok.2
  refine x_cIS (pc := 6) (as := [.ref (G.2.2.2.2 4), .int 0, .int 9]) C (c_L_pick C.2.2.2.2.2.2.2.1 S N hsc B M O 0 9 h1) wd_2_66 cd_L_pick wd_2_65 ⟨Nat.le_of_ble_eq_true rfl, Nat.le_of_ble_eq_true rfl⟩ ⟨by simp only [rmd]; omega, by simp only [rmd]; omega⟩ rfl rfl (Nat.le_of_ble_eq_true rfl) dL_lay_6 ?_
  refine x_nmI (fun r2 er2 => ?_)
  have hR := nmE hR er2
  have hok := hok r2 er2
  refine x_istore_n (pc := 9) (i := 3) (ls2 := [(3, .int r2), (2, .int 0), (0, .ref (ad 176)), (1, .ref (G.2.2.2.2 4))]) C dL_lay_9 rfl (by decide) rfl ?_
  refine x_iconst (pc := 10) (v := 0) C dL_lay_10 (by decide) ?_
  refine x_istore (pc := 11) (i := 4) (ls2 := [(4, .int 0), (3, .int r2), (2, .int 0), (0, .ref (ad 176)), (1, .ref (G.2.2.2.2 4))]) C dL_lay_11 (by decide) rfl ?_
  refine x_sub [3, 4, 2, 1, 0] (ls2 := [(0, .ref (ad 176)), (1, .ref (G.2.2.2.2 4)), (2, .int 0), (3, .int r2), (4, .int 0)]) rfl ?_
  obtain ⟨z29, ez29⟩ : ∃ z : Int32 × StB, z = f_L_lay_L13 20 S N B 0 r2 0 := ⟨_, rfl⟩
  refine t_L_lay_L13 C hsc 20 B 0 r2 0 M O _ _ ⟨by omega, by omega⟩ z29 ez29 hok.1 ?_
  have hR := nmE hR ez29
  have hok := hok.2 z29 ez29
  refine x_iconst (pc := 148) (v := 0) C dL_lay_148 (by decide) ?_
  refine x_istore (pc := 149) (i := 4) (ls2 := [(4, .int 0), (0, .ref (ad 176)), (1, .ref (G.2.2.2.2 4)), (2, .int z29.1), (3, .int r2)]) C dL_lay_149 (by decide) rfl ?_
  refine x_sub [1, 2, 3, 4, 0] (ls2 := [(0, .ref (ad 176)), (1, .ref (G.2.2.2.2 4)), (2, .int z29.1), (3, .int r2), (4, .int 0)]) rfl ?_
  obtain ⟨z45, ez45⟩ : ∃ z : Int32 × StB, z = f_L_lay_L151 20 S N z29.2 z29.1 r2 0 := ⟨_, rfl⟩
  refine t_L_lay_L151 C hsc 20 z29.2 z29.1 r2 0 M O _ _ ⟨by omega, by omega⟩ z45 ez45 hok.1 ?_
  have hR := nmE hR ez45
  have hok := hok.2 z45 ez45
  refine x_sub [0, 1, 2] (ls2 := [(0, .ref (ad 176)), (1, .ref (G.2.2.2.2 4)), (2, .int z45.1)]) rfl ?_
  exact t_L_lay_J226 C hsc z45.2 z45.1 M O _ _ ⟨by omega, by omega⟩ _ hR hok
set_option maxHeartbeats 4000000 in
set_option maxRecDepth 100000 in
theorem t_L_areTransfersRight_L98 {p0 : Program} {l : Launch} {e : Env} {s : State} {m : MethodId} {args : Array Value} {below : List Frame} {meth : Method} {c : Code} {A : Nat → Prop} {G : GT} {ad : Nat → Nat} {Q : State → Prop} (C : CX p0 l s m args meth c A G ad cL_areTransfersRight RL 9 (some .boolean))    (n : Nat) (B : StB) (a1 : Int32) (a2 : Int32) (a3 : Int32) (a4 : Int32) (a5 : Int32) (M : StM) (O : StO) : ∀ (cs0 ss0 : Nat) (hcs : cs0 + n * 0 ≤ 24 ∧ ss0 + n * 0 ≤ 144) (R0 : Int32) (hR : R0 = f_L_areTransfersRight_L98 n B a1 a2 a3 a4 a5) (hok : ok_L_areTransfersRight_L98 n B a1 a2 a3 a4 a5) (k : X p0 l e (rmd 22 24 144) s m args below meth c A G ad 9 (cs0 + n * 0) (ss0 + n * 0) Q B M O [(0, .ref (ad 176)), (1, .int a1), (2, .int a2), (3, .int a3), (4, .int R0)] 186 []), X p0 l e (rmd 22 24 144) s m args below meth c A G ad 9 cs0 ss0 Q B M O [(0, .ref (ad 176)), (1, .int a1), (2, .int a2), (3, .int a3), (4, .int a4), (5, .int a5)] 98 [] := by
  induction n generalizing B a1 a2 a3 a4 a5 with
  | zero => intro cs0 ss0 hcs R0 hR hok k; exact False.elim hok
  | succ n ih =>
    intro cs0 ss0 hcs R0 hR hok k
    have hR : R0 = (nm (f_X6_transferCount B) (fun (r6 : Int32) => (if r6 ≤ (a5 + 1) then a4 else (nm (f_X6_transferAt_n B a5) (fun (r9 : Int32) => (nm (f_X6_transferAt_n B (a5 + 1)) (fun (r11 : Int32) => (nm (f_X6_daysUntilDue_n B r11) (fun (r13 : Int32) => (nm (f_X6_daysUntilDue_n B r9) (fun (r15 : Int32) => (nm (r13 - r15) (fun (v16 : Int32) => (if a4 = 0 then (f_L_areTransfersRight_L98 n B a1 a2 a3 0 (a5 + 1)) else (if 0 < v16 then (nm (f_X6_daysUntilDue_n B r9) (fun (r20 : Int32) => (if r20 < 0 then (f_L_areTransfersRight_L98 n B a1 a2 a3 0 (a5 + 1)) else (f_L_areTransfersRight_L98 n B a1 a2 a3 1 (a5 + 1))))) else (if v16 = 0 then (if r11 ≤ r9 then (f_L_areTransfersRight_L98 n B a1 a2 a3 0 (a5 + 1)) else (nm (f_X6_daysUntilDue_n B r9) (fun (r25 : Int32) => (if r25 < 0 then (f_L_areTransfersRight_L98 n B a1 a2 a3 0 (a5 + 1)) else (f_L_areTransfersRight_L98 n B a1 a2 a3 1 (a5 + 1)))))) else (f_L_areTransfersRight_L98 n B a1 a2 a3 0 (a5 + 1)))))))))))))))))) := hR
    have hok : (∀ r6 : Int32, r6 = (f_X6_transferCount B) → ((r6 ≤ (a5 + 1) → True) ∧ (¬ r6 ≤ (a5 + 1) → ((ok_X6_transferAt_n B a5) ∧ (∀ r9 : Int32, r9 = (f_X6_transferAt_n B a5) → ((ok_X6_transferAt_n B (a5 + 1)) ∧ (∀ r11 : Int32, r11 = (f_X6_transferAt_n B (a5 + 1)) → ((ok_X6_daysUntilDue_n B r11) ∧ (∀ r13 : Int32, r13 = (f_X6_daysUntilDue_n B r11) → ((ok_X6_daysUntilDue_n B r9) ∧ (∀ r15 : Int32, r15 = (f_X6_daysUntilDue_n B r9) → (∀ v16 : Int32, v16 = (r13 - r15) → ((a4 = 0 → (ok_L_areTransfersRight_L98 n B a1 a2 a3 0 (a5 + 1))) ∧ (¬ a4 = 0 → ((0 < v16 → ((ok_X6_daysUntilDue_n B r9) ∧ (∀ r20 : Int32, r20 = (f_X6_daysUntilDue_n B r9) → ((r20 < 0 → (ok_L_areTransfersRight_L98 n B a1 a2 a3 0 (a5 + 1))) ∧ (¬ r20 < 0 → (ok_L_areTransfersRight_L98 n B a1 a2 a3 1 (a5 + 1))))))) ∧ (¬ 0 < v16 → ((v16 = 0 → ((r11 ≤ r9 → (ok_L_areTransfersRight_L98 n B a1 a2 a3 0 (a5 + 1))) ∧ (¬ r11 ≤ r9 → ((ok_X6_daysUntilDue_n B r9) ∧ (∀ r25 : Int32, r25 = (f_X6_daysUntilDue_n B r9) → ((r25 < 0 → (ok_L_areTransfersRight_L98 n B a1 a2 a3 0 (a5 + 1))) ∧ (¬ r25 < 0 → (ok_L_areTransfersRight_L98 n B a1 a2 a3 1 (a5 + 1))))))))) ∧ (¬ v16 = 0 → (ok_L_areTransfersRight_L98 n B a1 a2 a3 0 (a5 + 1)))))))))))))))))))) := hok
    refine x_iload (pc := 98) (i := 5) C 5 dL_areTransfersRight_98 rfl ?_
    refine x_iconst (pc := 100) (v := 1) C dL_areTransfersRight_100 (by decide) ?_
    refine x_iadd (pc := 101) C dL_areTransfersRight_101 ?_
    refine x_aload_n (pc := 102) (i := 0) C 0 dL_areTransfersRight_102 rfl rfl ?_
    refine x_cIV (pc := 103) (as := []) (q := 176) C (c_X6_transferCount C.2.2.2.2.2.2.2.1  B M O ) (fs := _) e_I rfl cv_X6_transferCount cd_X6_transferCount wd_4_119 ⟨Nat.le_of_ble_eq_true rfl, Nat.le_of_ble_eq_true rfl⟩ ⟨by simp only [rmd]; omega, by simp only [rmd]; omega⟩ rfl rfl (Nat.le_of_ble_eq_true rfl) dL_areTransfersRight_103 ?_
    refine x_nmI (fun r6 er6 => ?_)
    have hR := nmE hR er6
    have hok := hok r6 er6
    refine x_icmp_ge (pc := 106) (tgt := 186) C dL_areTransfersRight_106 (by decide) (fun c7 => ?_) (fun c7 => ?_)
    · have hR := hR.trans (if_pos c7)
      refine x_sub [0, 1, 2, 3, 4] (ls2 := [(0, .ref (ad 176)), (1, .int a1), (2, .int a2), (3, .int a3), (4, .int a4)]) rfl ?_
      subst hR
      exact x_wid (by omega) (by omega) k
    · have hR := hR.trans (if_neg c7)
      have hok := hok.2 c7
      refine x_aload_n (pc := 109) (i := 0) C 0 dL_areTransfersRight_109 rfl rfl ?_
      refine x_iload (pc := 110) (i := 5) C 5 dL_areTransfersRight_110 rfl ?_
      have h8 := hok.1
      have hok := hok.2
      refine x_cIV (pc := 112) (as := [.int a5]) (q := 176) C (c_X6_transferAt_n C.2.2.2.2.2.2.2.1  B M O a5 h8) (fs := _) e_I rfl cv_X6_transferAt cd_X6_transferAt wd_4_123 ⟨Nat.le_of_ble_eq_true rfl, Nat.le_of_ble_eq_true rfl⟩ ⟨by simp only [rmd]; omega, by simp only [rmd]; omega⟩ rfl rfl (Nat.le_of_ble_eq_true rfl) dL_areTransfersRight_112 ?_
      refine x_nmI (fun r9 er9 => ?_)
      have hR := nmE hR er9
      have hok := hok r9 er9
      refine x_istore (pc := 115) (i := 6) (ls2 := [(6, .int r9), (0, .ref (ad 176)), (1, .int a1), (2, .int a2), (3, .int a3), (4, .int a4), (5, .int a5)]) C dL_areTransfersRight_115 (by decide) rfl ?_
      refine x_aload_n (pc := 117) (i := 0) C 1 dL_areTransfersRight_117 rfl rfl ?_
      refine x_iload (pc := 118) (i := 5) C 6 dL_areTransfersRight_118 rfl ?_
      refine x_iconst (pc := 120) (v := 1) C dL_areTransfersRight_120 (by decide) ?_
      refine x_iadd (pc := 121) C dL_areTransfersRight_121 ?_
      have h10 := hok.1
      have hok := hok.2
      refine x_cIV (pc := 122) (as := [.int (a5 + 1)]) (q := 176) C (c_X6_transferAt_n C.2.2.2.2.2.2.2.1  B M O (a5 + 1) h10) (fs := _) e_I rfl cv_X6_transferAt cd_X6_transferAt wd_4_123 ⟨Nat.le_of_ble_eq_true rfl, Nat.le_of_ble_eq_true rfl⟩ ⟨by simp only [rmd]; omega, by simp only [rmd]; omega⟩ rfl rfl (Nat.le_of_ble_eq_true rfl) dL_areTransfersRight_122 ?_
      refine x_nmI (fun r11 er11 => ?_)
      have hR := nmE hR er11
      have hok := hok r11 er11
      refine x_istore (pc := 125) (i := 7) (ls2 := [(7, .int r11), (6, .int r9), (0, .ref (ad 176)), (1, .int a1), (2, .int a2), (3, .int a3), (4, .int a4), (5, .int a5)]) C dL_areTransfersRight_125 (by decide) rfl ?_
      refine x_aload_n (pc := 127) (i := 0) C 2 dL_areTransfersRight_127 rfl rfl ?_
      refine x_iload (pc := 128) (i := 7) C 0 dL_areTransfersRight_128 rfl ?_
      have h12 := hok.1
      have hok := hok.2
      refine x_cIV (pc := 130) (as := [.int r11]) (q := 176) C (c_X6_daysUntilDue_n C.2.2.2.2.2.2.2.1  B M O r11 h12) (fs := _) e_I rfl cv_X6_daysUntilDue cd_X6_daysUntilDue wd_4_230 ⟨Nat.le_of_ble_eq_true rfl, Nat.le_of_ble_eq_true rfl⟩ ⟨by simp only [rmd]; omega, by simp only [rmd]; omega⟩ rfl rfl (Nat.le_of_ble_eq_true rfl) dL_areTransfersRight_130 ?_
      refine x_nmI (fun r13 er13 => ?_)
      have hR := nmE hR er13
      have hok := hok r13 er13
      refine x_aload_n (pc := 133) (i := 0) C 2 dL_areTransfersRight_133 rfl rfl ?_
      refine x_iload (pc := 134) (i := 6) C 1 dL_areTransfersRight_134 rfl ?_
      have h14 := hok.1
      have hok := hok.2
      refine x_cIV (pc := 136) (as := [.int r9]) (q := 176) C (c_X6_daysUntilDue_n C.2.2.2.2.2.2.2.1  B M O r9 h14) (fs := _) e_I rfl cv_X6_daysUntilDue cd_X6_daysUntilDue wd_4_230 ⟨Nat.le_of_ble_eq_true rfl, Nat.le_of_ble_eq_true rfl⟩ ⟨by simp only [rmd]; omega, by simp only [rmd]; omega⟩ rfl rfl (Nat.le_of_ble_eq_true rfl) dL_areTransfersRight_136 ?_
      refine x_nmI (fun r15 er15 => ?_)
      have hR := nmE hR er15
      have hok := hok r15 er15
      refine x_isub (pc := 139) C dL_areTransfersRight_139 ?_
      refine x_nmI (fun v16 ev16 => ?_)
      have hR := nmE hR ev16
      have hok := hok v16 ev16
      refine x_istore (pc := 140) (i := 8) (ls2 := [(8, .int v16), (7, .int r11), (6, .int r9), (0, .ref (ad 176)), (1, .int a1), (2, .int a2), (3, .int a3), (4, .int a4), (5, .int a5)]) C dL_areTransfersRight_140 (by decide) rfl ?_
      refine x_iload (pc := 142) (i := 4) C 7 dL_areTransfersRight_142 rfl ?_
      refine x_if_eq (pc := 144) (tgt := 177) C dL_areTransfersRight_144 (by decide) (fun c17 => ?_) (fun c17 => ?_)
      · have hR := hR.trans (if_pos c17)
        have hok := hok.1 c17
        refine x_iconst (pc := 177) (v := 0) C dL_areTransfersRight_177 (by decide) ?_
        refine x_istore (pc := 178) (i := 4) (ls2 := [(4, .int 0), (8, .int v16), (7, .int r11), (6, .int r9), (0, .ref (ad 176)), (1, .int a1), (2, .int a2), (3, .int a3), (5, .int a5)]) C dL_areTransfersRight_178 (by decide) rfl ?_
        refine x_iinc (pc := 180) (i := 5) (v := (a5 + 1)) (ls2 := [(5, .int (a5 + 1)), (4, .int 0), (8, .int v16), (7, .int r11), (6, .int r9), (0, .ref (ad 176)), (1, .int a1), (2, .int a2), (3, .int a3)]) C 8 dL_areTransfersRight_180 rfl rfl (by decide) rfl ?_
        refine x_goto (pc := 183) (tgt := 98) C dL_areTransfersRight_183 (by decide) ?_
        refine x_sub [5, 6, 7, 8, 1, 0] (ls2 := [(0, .ref (ad 176)), (1, .int a1), (2, .int a2), (3, .int a3), (4, .int 0), (5, .int (a5 + 1))]) rfl ?_
        refine x_wid (k0 := cs0 + 0) (n0 := ss0 + 0) (by omega) (by omega) ?_
        exact ih B a1 a2 a3 0 (a5 + 1) _ _ ⟨by omega, by omega⟩ R0 hR hok (x_wid (by omega) (by omega) k)
      · have hR := hR.trans (if_neg c17)
        have hok := hok.2 c17
        refine x_iload (pc := 147) (i := 8) C 0 dL_areTransfersRight_147 rfl ?_
        refine x_if_gt (pc := 149) (tgt := 164) C dL_areTransfersRight_149 (by decide) (fun c18 => ?_) (fun c18 => ?_)
        · have hR := hR.trans (if_pos c18)
          have hok := hok.1 c18
          refine x_aload_n (pc := 164) (i := 0) C 3 dL_areTransfersRight_164 rfl rfl ?_
          refine x_iload (pc := 165) (i := 6) C 2 dL_areTransfersRight_165 rfl ?_
          have h19 := hok.1
          have hok := hok.2
          refine x_cIV (pc := 167) (as := [.int r9]) (q := 176) C (c_X6_daysUntilDue_n C.2.2.2.2.2.2.2.1  B M O r9 h19) (fs := _) e_I rfl cv_X6_daysUntilDue cd_X6_daysUntilDue wd_4_230 ⟨Nat.le_of_ble_eq_true rfl, Nat.le_of_ble_eq_true rfl⟩ ⟨by simp only [rmd]; omega, by simp only [rmd]; omega⟩ rfl rfl (Nat.le_of_ble_eq_true rfl) dL_areTransfersRight_167 ?_
          refine x_nmI (fun r20 er20 => ?_)
          have hR := nmE hR er20
          have hok := hok r20 er20
          refine x_if_lt (pc := 170) (tgt := 177) C dL_areTransfersRight_170 (by decide) (fun c21 => ?_) (fun c21 => ?_)
          · have hR := hR.trans (if_pos c21)
            have hok := hok.1 c21
            refine x_iconst (pc := 177) (v := 0) C dL_areTransfersRight_177 (by decide) ?_
            refine x_istore (pc := 178) (i := 4) (ls2 := [(4, .int 0), (8, .int v16), (7, .int r11), (6, .int r9), (0, .ref (ad 176)), (1, .int a1), (2, .int a2), (3, .int a3), (5, .int a5)]) C dL_areTransfersRight_178 (by decide) rfl ?_
            refine x_iinc (pc := 180) (i := 5) (v := (a5 + 1)) (ls2 := [(5, .int (a5 + 1)), (4, .int 0), (8, .int v16), (7, .int r11), (6, .int r9), (0, .ref (ad 176)), (1, .int a1), (2, .int a2), (3, .int a3)]) C 8 dL_areTransfersRight_180 rfl rfl (by decide) rfl ?_
            refine x_goto (pc := 183) (tgt := 98) C dL_areTransfersRight_183 (by decide) ?_
            refine x_sub [5, 6, 7, 8, 1, 0] (ls2 := [(0, .ref (ad 176)), (1, .int a1), (2, .int a2), (3, .int a3), (4, .int 0), (5, .int (a5 + 1))]) rfl ?_
            refine x_wid (k0 := cs0 + 0) (n0 := ss0 + 0) (by omega) (by omega) ?_
            exact ih B a1 a2 a3 0 (a5 + 1) _ _ ⟨by omega, by omega⟩ R0 hR hok (x_wid (by omega) (by omega) k)
          · have hR := hR.trans (if_neg c21)
            have hok := hok.2 c21
            refine x_iconst (pc := 173) (v := 1) C dL_areTransfersRight_173 (by decide) ?_
            refine x_goto (pc := 174) (tgt := 178) C dL_areTransfersRight_174 (by decide) ?_
            refine x_istore (pc := 178) (i := 4) (ls2 := [(4, .int 1), (8, .int v16), (7, .int r11), (6, .int r9), (0, .ref (ad 176)), (1, .int a1), (2, .int a2), (3, .int a3), (5, .int a5)]) C dL_areTransfersRight_178 (by decide) rfl ?_
            refine x_iinc (pc := 180) (i := 5) (v := (a5 + 1)) (ls2 := [(5, .int (a5 + 1)), (4, .int 1), (8, .int v16), (7, .int r11), (6, .int r9), (0, .ref (ad 176)), (1, .int a1), (2, .int a2), (3, .int a3)]) C 8 dL_areTransfersRight_180 rfl rfl (by decide) rfl ?_
            refine x_goto (pc := 183) (tgt := 98) C dL_areTransfersRight_183 (by decide) ?_
            refine x_sub [5, 6, 7, 8, 1, 0] (ls2 := [(0, .ref (ad 176)), (1, .int a1), (2, .int a2), (3, .int a3), (4, .int 1), (5, .int (a5 + 1))]) rfl ?_
            refine x_wid (k0 := cs0 + 0) (n0 := ss0 + 0) (by omega) (by omega) ?_
            exact ih B a1 a2 a3 1 (a5 + 1) _ _ ⟨by omega, by omega⟩ R0 hR hok (x_wid (by omega) (by omega) k)
        · have hR := hR.trans (if_neg c18)
          have hok := hok.2 c18
          refine x_iload (pc := 152) (i := 8) C 0 dL_areTransfersRight_152 rfl ?_
          refine x_if_ne (pc := 154) (tgt := 177) C dL_areTransfersRight_154 (by decide) (fun c22 => ?_) (fun c22 => ?_)
          · have hR := hR.trans (if_neg c22)
            have hok := hok.2 c22
            refine x_iconst (pc := 177) (v := 0) C dL_areTransfersRight_177 (by decide) ?_
            refine x_istore (pc := 178) (i := 4) (ls2 := [(4, .int 0), (8, .int v16), (7, .int r11), (6, .int r9), (0, .ref (ad 176)), (1, .int a1), (2, .int a2), (3, .int a3), (5, .int a5)]) C dL_areTransfersRight_178 (by decide) rfl ?_
            refine x_iinc (pc := 180) (i := 5) (v := (a5 + 1)) (ls2 := [(5, .int (a5 + 1)), (4, .int 0), (8, .int v16), (7, .int r11), (6, .int r9), (0, .ref (ad 176)), (1, .int a1), (2, .int a2), (3, .int a3)]) C 8 dL_areTransfersRight_180 rfl rfl (by decide) rfl ?_
            refine x_goto (pc := 183) (tgt := 98) C dL_areTransfersRight_183 (by decide) ?_
            refine x_sub [5, 6, 7, 8, 1, 0] (ls2 := [(0, .ref (ad 176)), (1, .int a1), (2, .int a2), (3, .int a3), (4, .int 0), (5, .int (a5 + 1))]) rfl ?_
            refine x_wid (k0 := cs0 + 0) (n0 := ss0 + 0) (by omega) (by omega) ?_
            exact ih B a1 a2 a3 0 (a5 + 1) _ _ ⟨by omega, by omega⟩ R0 hR hok (x_wid (by omega) (by omega) k)
          · have hR := hR.trans (if_pos c22)
            have hok := hok.1 c22
            refine x_iload (pc := 157) (i := 6) C 2 dL_areTransfersRight_157 rfl ?_
            refine x_iload (pc := 159) (i := 7) C 1 dL_areTransfersRight_159 rfl ?_
            refine x_icmp_ge (pc := 161) (tgt := 177) C dL_areTransfersRight_161 (by decide) (fun c23 => ?_) (fun c23 => ?_)
            · have hR := hR.trans (if_pos c23)
              have hok := hok.1 c23
              refine x_iconst (pc := 177) (v := 0) C dL_areTransfersRight_177 (by decide) ?_
              refine x_istore (pc := 178) (i := 4) (ls2 := [(4, .int 0), (8, .int v16), (7, .int r11), (6, .int r9), (0, .ref (ad 176)), (1, .int a1), (2, .int a2), (3, .int a3), (5, .int a5)]) C dL_areTransfersRight_178 (by decide) rfl ?_
              refine x_iinc (pc := 180) (i := 5) (v := (a5 + 1)) (ls2 := [(5, .int (a5 + 1)), (4, .int 0), (8, .int v16), (7, .int r11), (6, .int r9), (0, .ref (ad 176)), (1, .int a1), (2, .int a2), (3, .int a3)]) C 8 dL_areTransfersRight_180 rfl rfl (by decide) rfl ?_
              refine x_goto (pc := 183) (tgt := 98) C dL_areTransfersRight_183 (by decide) ?_
              refine x_sub [5, 6, 7, 8, 1, 0] (ls2 := [(0, .ref (ad 176)), (1, .int a1), (2, .int a2), (3, .int a3), (4, .int 0), (5, .int (a5 + 1))]) rfl ?_
              refine x_wid (k0 := cs0 + 0) (n0 := ss0 + 0) (by omega) (by omega) ?_
              exact ih B a1 a2 a3 0 (a5 + 1) _ _ ⟨by omega, by omega⟩ R0 hR hok (x_wid (by omega) (by omega) k)
            · have hR := hR.trans (if_neg c23)
              have hok := hok.2 c23
              refine x_aload_n (pc := 164) (i := 0) C 3 dL_areTransfersRight_164 rfl rfl ?_
              refine x_iload (pc := 165) (i := 6) C 2 dL_areTransfersRight_165 rfl ?_
              have h24 := hok.1
              have hok := hok.2
              refine x_cIV (pc := 167) (as := [.int r9]) (q := 176) C (c_X6_daysUntilDue_n C.2.2.2.2.2.2.2.1  B M O r9 h24) (fs := _) e_I rfl cv_X6_daysUntilDue cd_X6_daysUntilDue wd_4_230 ⟨Nat.le_of_ble_eq_true rfl, Nat.le_of_ble_eq_true rfl⟩ ⟨by simp only [rmd]; omega, by simp only [rmd]; omega⟩ rfl rfl (Nat.le_of_ble_eq_true rfl) dL_areTransfersRight_167 ?_
              refine x_nmI (fun r25 er25 => ?_)
              have hR := nmE hR er25
              have hok := hok r25 er25
              refine x_if_lt (pc := 170) (tgt := 177) C dL_areTransfersRight_170 (by decide) (fun c26 => ?_) (fun c26 => ?_)
              · have hR := hR.trans (if_pos c26)
                have hok := hok.1 c26
                refine x_iconst (pc := 177) (v := 0) C dL_areTransfersRight_177 (by decide) ?_
                refine x_istore (pc := 178) (i := 4) (ls2 := [(4, .int 0), (8, .int v16), (7, .int r11), (6, .int r9), (0, .ref (ad 176)), (1, .int a1), (2, .int a2), (3, .int a3), (5, .int a5)]) C dL_areTransfersRight_178 (by decide) rfl ?_
                refine x_iinc (pc := 180) (i := 5) (v := (a5 + 1)) (ls2 := [(5, .int (a5 + 1)), (4, .int 0), (8, .int v16), (7, .int r11), (6, .int r9), (0, .ref (ad 176)), (1, .int a1), (2, .int a2), (3, .int a3)]) C 8 dL_areTransfersRight_180 rfl rfl (by decide) rfl ?_
                refine x_goto (pc := 183) (tgt := 98) C dL_areTransfersRight_183 (by decide) ?_
                refine x_sub [5, 6, 7, 8, 1, 0] (ls2 := [(0, .ref (ad 176)), (1, .int a1), (2, .int a2), (3, .int a3), (4, .int 0), (5, .int (a5 + 1))]) rfl ?_
                refine x_wid (k0 := cs0 + 0) (n0 := ss0 + 0) (by omega) (by omega) ?_
                exact ih B a1 a2 a3 0 (a5 + 1) _ _ ⟨by omega, by omega⟩ R0 hR hok (x_wid (by omega) (by omega) k)
              · have hR := hR.trans (if_neg c26)
                have hok := hok.2 c26
                refine x_iconst (pc := 173) (v := 1) C dL_areTransfersRight_173 (by decide) ?_
                refine x_goto (pc := 174) (tgt := 178) C dL_areTransfersRight_174 (by decide) ?_
                refine x_istore (pc := 178) (i := 4) (ls2 := [(4, .int 1), (8, .int v16), (7, .int r11), (6, .int r9), (0, .ref (ad 176)), (1, .int a1), (2, .int a2), (3, .int a3), (5, .int a5)]) C dL_areTransfersRight_178 (by decide) rfl ?_
                refine x_iinc (pc := 180) (i := 5) (v := (a5 + 1)) (ls2 := [(5, .int (a5 + 1)), (4, .int 1), (8, .int v16), (7, .int r11), (6, .int r9), (0, .ref (ad 176)), (1, .int a1), (2, .int a2), (3, .int a3)]) C 8 dL_areTransfersRight_180 rfl rfl (by decide) rfl ?_
                refine x_goto (pc := 183) (tgt := 98) C dL_areTransfersRight_183 (by decide) ?_
                refine x_sub [5, 6, 7, 8, 1, 0] (ls2 := [(0, .ref (ad 176)), (1, .int a1), (2, .int a2), (3, .int a3), (4, .int 1), (5, .int (a5 + 1))]) rfl ?_
                refine x_wid (k0 := cs0 + 0) (n0 := ss0 + 0) (by omega) (by omega) ?_
                exact ih B a1 a2 a3 1 (a5 + 1) _ _ ⟨by omega, by omega⟩ R0 hR hok (x_wid (by omega) (by omega) k)
set_option maxHeartbeats 4000000 in
set_option maxRecDepth 100000 in
theorem t_L_areTransfersRight_L201 {p0 : Program} {l : Launch} {e : Env} {s : State} {m : MethodId} {args : Array Value} {below : List Frame} {meth : Method} {c : Code} {A : Nat → Prop} {G : GT} {ad : Nat → Nat} {Q : State → Prop} (C : CX p0 l s m args meth c A G ad cL_areTransfersRight RL 9 (some .boolean))    (n : Nat) (B : StB) (a1 : Int32) (a2 : Int32) (a3 : Int32) (a4 : Int32) (a5 : Int32) (a6 : Int32) (a7 : Int32) (M : StM) (O : StO) : ∀ (cs0 ss0 : Nat) (hcs : cs0 + n * 0 ≤ 24 ∧ ss0 + n * 0 ≤ 144) (R0 : Int32) (hR : R0 = f_L_areTransfersRight_L201 n B a1 a2 a3 a4 a5 a6 a7) (hok : ok_L_areTransfersRight_L201 n B a1 a2 a3 a4 a5 a6 a7) (k : X p0 l e (rmd 22 24 144) s m args below meth c A G ad 9 (cs0 + n * 0) (ss0 + n * 0) Q B M O [(0, .ref (ad 176)), (1, .int a1), (2, .int a2), (3, .int a3), (4, .int a4), (5, .int a5), (6, .int R0)] 276 []), X p0 l e (rmd 22 24 144) s m args below meth c A G ad 9 cs0 ss0 Q B M O [(0, .ref (ad 176)), (1, .int a1), (2, .int a2), (3, .int a3), (4, .int a4), (5, .int a5), (6, .int a6), (7, .int a7)] 201 [] := by
  induction n generalizing B a1 a2 a3 a4 a5 a6 a7 with
  | zero => intro cs0 ss0 hcs R0 hR hok k; exact False.elim hok
  | succ n ih =>
    intro cs0 ss0 hcs R0 hR hok k
    have hR : R0 = (nm (f_X6_transferCount B) (fun (r29 : Int32) => (if r29 ≤ a7 then a6 else (nm (f_X6_transferAt_n B a7) (fun (r32 : Int32) => (nm (f_X6_receiverOf_n B r32) (fun (r34 : Int32) => (if r34 = a5 then (nm (f_X6_amountOf_n B r32) (fun (r45 : Int32) => (nm (a6 + r45) (fun (v46 : Int32) => (nm (f_X6_senderOf_n B r32) (fun (r48 : Int32) => (if r48 = a5 then (nm (f_X6_amountOf_n B r32) (fun (r52 : Int32) => (nm (v46 - r52) (fun (v53 : Int32) => (f_L_areTransfersRight_L201 n B a1 a2 a3 a4 a5 v53 (a7 + 1)))))) else (nm (v46 - 0) (fun (v50 : Int32) => (f_L_areTransfersRight_L201 n B a1 a2 a3 a4 a5 v50 (a7 + 1))))))))))) else (nm (a6 + 0) (fun (v36 : Int32) => (nm (f_X6_senderOf_n B r32) (fun (r38 : Int32) => (if r38 = a5 then (nm (f_X6_amountOf_n B r32) (fun (r42 : Int32) => (nm (v36 - r42) (fun (v43 : Int32) => (f_L_areTransfersRight_L201 n B a1 a2 a3 a4 a5 v43 (a7 + 1)))))) else (nm (v36 - 0) (fun (v40 : Int32) => (f_L_areTransfersRight_L201 n B a1 a2 a3 a4 a5 v40 (a7 + 1))))))))))))))))) := hR
    have hok : (∀ r29 : Int32, r29 = (f_X6_transferCount B) → ((r29 ≤ a7 → True) ∧ (¬ r29 ≤ a7 → ((ok_X6_transferAt_n B a7) ∧ (∀ r32 : Int32, r32 = (f_X6_transferAt_n B a7) → ((ok_X6_receiverOf_n B r32) ∧ (∀ r34 : Int32, r34 = (f_X6_receiverOf_n B r32) → ((r34 = a5 → ((ok_X6_amountOf_n B r32) ∧ (∀ r45 : Int32, r45 = (f_X6_amountOf_n B r32) → (∀ v46 : Int32, v46 = (a6 + r45) → ((ok_X6_senderOf_n B r32) ∧ (∀ r48 : Int32, r48 = (f_X6_senderOf_n B r32) → ((r48 = a5 → ((ok_X6_amountOf_n B r32) ∧ (∀ r52 : Int32, r52 = (f_X6_amountOf_n B r32) → (∀ v53 : Int32, v53 = (v46 - r52) → (ok_L_areTransfersRight_L201 n B a1 a2 a3 a4 a5 v53 (a7 + 1)))))) ∧ (¬ r48 = a5 → (∀ v50 : Int32, v50 = (v46 - 0) → (ok_L_areTransfersRight_L201 n B a1 a2 a3 a4 a5 v50 (a7 + 1))))))))))) ∧ (¬ r34 = a5 → (∀ v36 : Int32, v36 = (a6 + 0) → ((ok_X6_senderOf_n B r32) ∧ (∀ r38 : Int32, r38 = (f_X6_senderOf_n B r32) → ((r38 = a5 → ((ok_X6_amountOf_n B r32) ∧ (∀ r42 : Int32, r42 = (f_X6_amountOf_n B r32) → (∀ v43 : Int32, v43 = (v36 - r42) → (ok_L_areTransfersRight_L201 n B a1 a2 a3 a4 a5 v43 (a7 + 1)))))) ∧ (¬ r38 = a5 → (∀ v40 : Int32, v40 = (v36 - 0) → (ok_L_areTransfersRight_L201 n B a1 a2 a3 a4 a5 v40 (a7 + 1))))))))))))))))) := hok
    refine x_iload (pc := 201) (i := 7) C 7 dL_areTransfersRight_201 rfl ?_
    refine x_aload_n (pc := 203) (i := 0) C 0 dL_areTransfersRight_203 rfl rfl ?_
    refine x_cIV (pc := 204) (as := []) (q := 176) C (c_X6_transferCount C.2.2.2.2.2.2.2.1  B M O ) (fs := _) e_I rfl cv_X6_transferCount cd_X6_transferCount wd_4_119 ⟨Nat.le_of_ble_eq_true rfl, Nat.le_of_ble_eq_true rfl⟩ ⟨by simp only [rmd]; omega, by simp only [rmd]; omega⟩ rfl rfl (Nat.le_of_ble_eq_true rfl) dL_areTransfersRight_204 ?_
    refine x_nmI (fun r29 er29 => ?_)
    have hR := nmE hR er29
    have hok := hok r29 er29
    refine x_icmp_ge (pc := 207) (tgt := 276) C dL_areTransfersRight_207 (by decide) (fun c30 => ?_) (fun c30 => ?_)
    · have hR := hR.trans (if_pos c30)
      refine x_sub [0, 1, 2, 3, 4, 5, 6] (ls2 := [(0, .ref (ad 176)), (1, .int a1), (2, .int a2), (3, .int a3), (4, .int a4), (5, .int a5), (6, .int a6)]) rfl ?_
      subst hR
      exact x_wid (by omega) (by omega) k
    · have hR := hR.trans (if_neg c30)
      have hok := hok.2 c30
      refine x_aload_n (pc := 210) (i := 0) C 0 dL_areTransfersRight_210 rfl rfl ?_
      refine x_iload (pc := 211) (i := 7) C 7 dL_areTransfersRight_211 rfl ?_
      have h31 := hok.1
      have hok := hok.2
      refine x_cIV (pc := 213) (as := [.int a7]) (q := 176) C (c_X6_transferAt_n C.2.2.2.2.2.2.2.1  B M O a7 h31) (fs := _) e_I rfl cv_X6_transferAt cd_X6_transferAt wd_4_123 ⟨Nat.le_of_ble_eq_true rfl, Nat.le_of_ble_eq_true rfl⟩ ⟨by simp only [rmd]; omega, by simp only [rmd]; omega⟩ rfl rfl (Nat.le_of_ble_eq_true rfl) dL_areTransfersRight_213 ?_
      refine x_nmI (fun r32 er32 => ?_)
      have hR := nmE hR er32
      have hok := hok r32 er32
      refine x_istore (pc := 216) (i := 8) (ls2 := [(8, .int r32), (0, .ref (ad 176)), (1, .int a1), (2, .int a2), (3, .int a3), (4, .int a4), (5, .int a5), (6, .int a6), (7, .int a7)]) C dL_areTransfersRight_216 (by decide) rfl ?_
      refine x_iload (pc := 218) (i := 6) C 7 dL_areTransfersRight_218 rfl ?_
      refine x_aload_n (pc := 220) (i := 0) C 1 dL_areTransfersRight_220 rfl rfl ?_
      refine x_iload (pc := 221) (i := 8) C 0 dL_areTransfersRight_221 rfl ?_
      have h33 := hok.1
      have hok := hok.2
      refine x_cIV (pc := 223) (as := [.int r32]) (q := 176) C (c_X6_receiverOf_n C.2.2.2.2.2.2.2.1  B M O r32 h33) (fs := _) e_I rfl cv_X6_receiverOf cd_X6_receiverOf wd_6_104 ⟨Nat.le_of_ble_eq_true rfl, Nat.le_of_ble_eq_true rfl⟩ ⟨by simp only [rmd]; omega, by simp only [rmd]; omega⟩ rfl rfl (Nat.le_of_ble_eq_true rfl) dL_areTransfersRight_223 ?_
      refine x_nmI (fun r34 er34 => ?_)
      have hR := nmE hR er34
      have hok := hok r34 er34
      refine x_iload (pc := 226) (i := 5) C 6 dL_areTransfersRight_226 rfl ?_
      refine x_icmp_ne (pc := 228) (tgt := 240) C dL_areTransfersRight_228 (by decide) (fun c35 => ?_) (fun c35 => ?_)
      · have hR := hR.trans (if_neg c35)
        have hok := hok.2 c35
        refine x_iconst (pc := 240) (v := 0) C dL_areTransfersRight_240 (by decide) ?_
        refine x_iadd (pc := 241) C dL_areTransfersRight_241 ?_
        refine x_nmI (fun v36 ev36 => ?_)
        have hR := nmE hR ev36
        have hok := hok v36 ev36
        refine x_istore (pc := 242) (i := 6) (ls2 := [(6, .int v36), (8, .int r32), (0, .ref (ad 176)), (1, .int a1), (2, .int a2), (3, .int a3), (4, .int a4), (5, .int a5), (7, .int a7)]) C dL_areTransfersRight_242 (by decide) rfl ?_
        refine x_iload (pc := 244) (i := 6) C 0 dL_areTransfersRight_244 rfl ?_
        refine x_aload_n (pc := 246) (i := 0) C 2 dL_areTransfersRight_246 rfl rfl ?_
        refine x_iload (pc := 247) (i := 8) C 1 dL_areTransfersRight_247 rfl ?_
        have h37 := hok.1
        have hok := hok.2
        refine x_cIV (pc := 249) (as := [.int r32]) (q := 176) C (c_X6_senderOf_n C.2.2.2.2.2.2.2.1  B M O r32 h37) (fs := _) e_I rfl cv_X6_senderOf cd_X6_senderOf wd_6_108 ⟨Nat.le_of_ble_eq_true rfl, Nat.le_of_ble_eq_true rfl⟩ ⟨by simp only [rmd]; omega, by simp only [rmd]; omega⟩ rfl rfl (Nat.le_of_ble_eq_true rfl) dL_areTransfersRight_249 ?_
        refine x_nmI (fun r38 er38 => ?_)
        have hR := nmE hR er38
        have hok := hok r38 er38
        refine x_iload (pc := 252) (i := 5) C 7 dL_areTransfersRight_252 rfl ?_
        refine x_icmp_ne (pc := 254) (tgt := 266) C dL_areTransfersRight_254 (by decide) (fun c39 => ?_) (fun c39 => ?_)
        · have hR := hR.trans (if_neg c39)
          have hok := hok.2 c39
          refine x_iconst (pc := 266) (v := 0) C dL_areTransfersRight_266 (by decide) ?_
          refine x_isub (pc := 267) C dL_areTransfersRight_267 ?_
          refine x_nmI (fun v40 ev40 => ?_)
          have hR := nmE hR ev40
          have hok := hok v40 ev40
          refine x_istore (pc := 268) (i := 6) (ls2 := [(6, .int v40), (8, .int r32), (0, .ref (ad 176)), (1, .int a1), (2, .int a2), (3, .int a3), (4, .int a4), (5, .int a5), (7, .int a7)]) C dL_areTransfersRight_268 (by decide) rfl ?_
          refine x_iinc (pc := 270) (i := 7) (v := (a7 + 1)) (ls2 := [(7, .int (a7 + 1)), (6, .int v40), (8, .int r32), (0, .ref (ad 176)), (1, .int a1), (2, .int a2), (3, .int a3), (4, .int a4), (5, .int a5)]) C 8 dL_areTransfersRight_270 rfl rfl (by decide) rfl ?_
          refine x_goto (pc := 273) (tgt := 201) C dL_areTransfersRight_273 (by decide) ?_
          refine x_sub [3, 4, 5, 6, 7, 8, 1, 0] (ls2 := [(0, .ref (ad 176)), (1, .int a1), (2, .int a2), (3, .int a3), (4, .int a4), (5, .int a5), (6, .int v40), (7, .int (a7 + 1))]) rfl ?_
          refine x_wid (k0 := cs0 + 0) (n0 := ss0 + 0) (by omega) (by omega) ?_
          exact ih B a1 a2 a3 a4 a5 v40 (a7 + 1) _ _ ⟨by omega, by omega⟩ R0 hR hok (x_wid (by omega) (by omega) k)
        · have hR := hR.trans (if_pos c39)
          have hok := hok.1 c39
          refine x_aload_n (pc := 257) (i := 0) C 2 dL_areTransfersRight_257 rfl rfl ?_
          refine x_iload (pc := 258) (i := 8) C 1 dL_areTransfersRight_258 rfl ?_
          have h41 := hok.1
          have hok := hok.2
          refine x_cIV (pc := 260) (as := [.int r32]) (q := 176) C (c_X6_amountOf_n C.2.2.2.2.2.2.2.1  B M O r32 h41) (fs := _) e_I rfl cv_X6_amountOf cd_X6_amountOf wd_4_173 ⟨Nat.le_of_ble_eq_true rfl, Nat.le_of_ble_eq_true rfl⟩ ⟨by simp only [rmd]; omega, by simp only [rmd]; omega⟩ rfl rfl (Nat.le_of_ble_eq_true rfl) dL_areTransfersRight_260 ?_
          refine x_nmI (fun r42 er42 => ?_)
          have hR := nmE hR er42
          have hok := hok r42 er42
          refine x_goto (pc := 263) (tgt := 267) C dL_areTransfersRight_263 (by decide) ?_
          refine x_isub (pc := 267) C dL_areTransfersRight_267 ?_
          refine x_nmI (fun v43 ev43 => ?_)
          have hR := nmE hR ev43
          have hok := hok v43 ev43
          refine x_istore (pc := 268) (i := 6) (ls2 := [(6, .int v43), (8, .int r32), (0, .ref (ad 176)), (1, .int a1), (2, .int a2), (3, .int a3), (4, .int a4), (5, .int a5), (7, .int a7)]) C dL_areTransfersRight_268 (by decide) rfl ?_
          refine x_iinc (pc := 270) (i := 7) (v := (a7 + 1)) (ls2 := [(7, .int (a7 + 1)), (6, .int v43), (8, .int r32), (0, .ref (ad 176)), (1, .int a1), (2, .int a2), (3, .int a3), (4, .int a4), (5, .int a5)]) C 8 dL_areTransfersRight_270 rfl rfl (by decide) rfl ?_
          refine x_goto (pc := 273) (tgt := 201) C dL_areTransfersRight_273 (by decide) ?_
          refine x_sub [3, 4, 5, 6, 7, 8, 1, 0] (ls2 := [(0, .ref (ad 176)), (1, .int a1), (2, .int a2), (3, .int a3), (4, .int a4), (5, .int a5), (6, .int v43), (7, .int (a7 + 1))]) rfl ?_
          refine x_wid (k0 := cs0 + 0) (n0 := ss0 + 0) (by omega) (by omega) ?_
          exact ih B a1 a2 a3 a4 a5 v43 (a7 + 1) _ _ ⟨by omega, by omega⟩ R0 hR hok (x_wid (by omega) (by omega) k)
      · have hR := hR.trans (if_pos c35)
        have hok := hok.1 c35
        refine x_aload_n (pc := 231) (i := 0) C 1 dL_areTransfersRight_231 rfl rfl ?_
        refine x_iload (pc := 232) (i := 8) C 0 dL_areTransfersRight_232 rfl ?_
        have h44 := hok.1
        have hok := hok.2
        refine x_cIV (pc := 234) (as := [.int r32]) (q := 176) C (c_X6_amountOf_n C.2.2.2.2.2.2.2.1  B M O r32 h44) (fs := _) e_I rfl cv_X6_amountOf cd_X6_amountOf wd_4_173 ⟨Nat.le_of_ble_eq_true rfl, Nat.le_of_ble_eq_true rfl⟩ ⟨by simp only [rmd]; omega, by simp only [rmd]; omega⟩ rfl rfl (Nat.le_of_ble_eq_true rfl) dL_areTransfersRight_234 ?_
        refine x_nmI (fun r45 er45 => ?_)
        have hR := nmE hR er45
        have hok := hok r45 er45
        refine x_goto (pc := 237) (tgt := 241) C dL_areTransfersRight_237 (by decide) ?_
        refine x_iadd (pc := 241) C dL_areTransfersRight_241 ?_
        refine x_nmI (fun v46 ev46 => ?_)
        have hR := nmE hR ev46
        have hok := hok v46 ev46
        refine x_istore (pc := 242) (i := 6) (ls2 := [(6, .int v46), (8, .int r32), (0, .ref (ad 176)), (1, .int a1), (2, .int a2), (3, .int a3), (4, .int a4), (5, .int a5), (7, .int a7)]) C dL_areTransfersRight_242 (by decide) rfl ?_
        refine x_iload (pc := 244) (i := 6) C 0 dL_areTransfersRight_244 rfl ?_
        refine x_aload_n (pc := 246) (i := 0) C 2 dL_areTransfersRight_246 rfl rfl ?_
        refine x_iload (pc := 247) (i := 8) C 1 dL_areTransfersRight_247 rfl ?_
        have h47 := hok.1
        have hok := hok.2
        refine x_cIV (pc := 249) (as := [.int r32]) (q := 176) C (c_X6_senderOf_n C.2.2.2.2.2.2.2.1  B M O r32 h47) (fs := _) e_I rfl cv_X6_senderOf cd_X6_senderOf wd_6_108 ⟨Nat.le_of_ble_eq_true rfl, Nat.le_of_ble_eq_true rfl⟩ ⟨by simp only [rmd]; omega, by simp only [rmd]; omega⟩ rfl rfl (Nat.le_of_ble_eq_true rfl) dL_areTransfersRight_249 ?_
        refine x_nmI (fun r48 er48 => ?_)
        have hR := nmE hR er48
        have hok := hok r48 er48
        refine x_iload (pc := 252) (i := 5) C 7 dL_areTransfersRight_252 rfl ?_
        refine x_icmp_ne (pc := 254) (tgt := 266) C dL_areTransfersRight_254 (by decide) (fun c49 => ?_) (fun c49 => ?_)
        · have hR := hR.trans (if_neg c49)
          have hok := hok.2 c49
          refine x_iconst (pc := 266) (v := 0) C dL_areTransfersRight_266 (by decide) ?_
          refine x_isub (pc := 267) C dL_areTransfersRight_267 ?_
          refine x_nmI (fun v50 ev50 => ?_)
          have hR := nmE hR ev50
          have hok := hok v50 ev50
          refine x_istore (pc := 268) (i := 6) (ls2 := [(6, .int v50), (8, .int r32), (0, .ref (ad 176)), (1, .int a1), (2, .int a2), (3, .int a3), (4, .int a4), (5, .int a5), (7, .int a7)]) C dL_areTransfersRight_268 (by decide) rfl ?_
          refine x_iinc (pc := 270) (i := 7) (v := (a7 + 1)) (ls2 := [(7, .int (a7 + 1)), (6, .int v50), (8, .int r32), (0, .ref (ad 176)), (1, .int a1), (2, .int a2), (3, .int a3), (4, .int a4), (5, .int a5)]) C 8 dL_areTransfersRight_270 rfl rfl (by decide) rfl ?_
          refine x_goto (pc := 273) (tgt := 201) C dL_areTransfersRight_273 (by decide) ?_
          refine x_sub [3, 4, 5, 6, 7, 8, 1, 0] (ls2 := [(0, .ref (ad 176)), (1, .int a1), (2, .int a2), (3, .int a3), (4, .int a4), (5, .int a5), (6, .int v50), (7, .int (a7 + 1))]) rfl ?_
          refine x_wid (k0 := cs0 + 0) (n0 := ss0 + 0) (by omega) (by omega) ?_
          exact ih B a1 a2 a3 a4 a5 v50 (a7 + 1) _ _ ⟨by omega, by omega⟩ R0 hR hok (x_wid (by omega) (by omega) k)
        · have hR := hR.trans (if_pos c49)
          have hok := hok.1 c49
          refine x_aload_n (pc := 257) (i := 0) C 2 dL_areTransfersRight_257 rfl rfl ?_
          refine x_iload (pc := 258) (i := 8) C 1 dL_areTransfersRight_258 rfl ?_
          have h51 := hok.1
          have hok := hok.2
          refine x_cIV (pc := 260) (as := [.int r32]) (q := 176) C (c_X6_amountOf_n C.2.2.2.2.2.2.2.1  B M O r32 h51) (fs := _) e_I rfl cv_X6_amountOf cd_X6_amountOf wd_4_173 ⟨Nat.le_of_ble_eq_true rfl, Nat.le_of_ble_eq_true rfl⟩ ⟨by simp only [rmd]; omega, by simp only [rmd]; omega⟩ rfl rfl (Nat.le_of_ble_eq_true rfl) dL_areTransfersRight_260 ?_
          refine x_nmI (fun r52 er52 => ?_)
          have hR := nmE hR er52
          have hok := hok r52 er52
          refine x_goto (pc := 263) (tgt := 267) C dL_areTransfersRight_263 (by decide) ?_
          refine x_isub (pc := 267) C dL_areTransfersRight_267 ?_
          refine x_nmI (fun v53 ev53 => ?_)
          have hR := nmE hR ev53
          have hok := hok v53 ev53
          refine x_istore (pc := 268) (i := 6) (ls2 := [(6, .int v53), (8, .int r32), (0, .ref (ad 176)), (1, .int a1), (2, .int a2), (3, .int a3), (4, .int a4), (5, .int a5), (7, .int a7)]) C dL_areTransfersRight_268 (by decide) rfl ?_
          refine x_iinc (pc := 270) (i := 7) (v := (a7 + 1)) (ls2 := [(7, .int (a7 + 1)), (6, .int v53), (8, .int r32), (0, .ref (ad 176)), (1, .int a1), (2, .int a2), (3, .int a3), (4, .int a4), (5, .int a5)]) C 8 dL_areTransfersRight_270 rfl rfl (by decide) rfl ?_
          refine x_goto (pc := 273) (tgt := 201) C dL_areTransfersRight_273 (by decide) ?_
          refine x_sub [3, 4, 5, 6, 7, 8, 1, 0] (ls2 := [(0, .ref (ad 176)), (1, .int a1), (2, .int a2), (3, .int a3), (4, .int a4), (5, .int a5), (6, .int v53), (7, .int (a7 + 1))]) rfl ?_
          refine x_wid (k0 := cs0 + 0) (n0 := ss0 + 0) (by omega) (by omega) ?_
          exact ih B a1 a2 a3 a4 a5 v53 (a7 + 1) _ _ ⟨by omega, by omega⟩ R0 hR hok (x_wid (by omega) (by omega) k)
set_option maxHeartbeats 4000000 in
set_option maxRecDepth 100000 in
theorem t_L_areTransfersRight_L189 {p0 : Program} {l : Launch} {e : Env} {s : State} {m : MethodId} {args : Array Value} {below : List Frame} {meth : Method} {c : Code} {A : Nat → Prop} {G : GT} {ad : Nat → Nat} {Q : State → Prop} (C : CX p0 l s m args meth c A G ad cL_areTransfersRight RL 9 (some .boolean))    (n : Nat) (B : StB) (a1 : Int32) (a2 : Int32) (a3 : Int32) (a4 : Int32) (a5 : Int32) (M : StM) (O : StO) : ∀ (cs0 ss0 : Nat) (hcs : cs0 + n * 0 ≤ 24 ∧ ss0 + n * 0 ≤ 144) (R0 : Int32 × StB) (hR : R0 = f_L_areTransfersRight_L189 n B a1 a2 a3 a4 a5) (hok : ok_L_areTransfersRight_L189 n B a1 a2 a3 a4 a5) (k : X p0 l e (rmd 22 24 144) s m args below meth c A G ad 9 (cs0 + n * 0) (ss0 + n * 0) Q R0.2 M O [(0, .ref (ad 176)), (1, .int a1), (2, .int a2), (3, .int a3), (4, .int R0.1)] 316 []), X p0 l e (rmd 22 24 144) s m args below meth c A G ad 9 cs0 ss0 Q B M O [(0, .ref (ad 176)), (1, .int a1), (2, .int a2), (3, .int a3), (4, .int a4), (5, .int a5)] 189 [] := by
  induction n generalizing B a1 a2 a3 a4 a5 with
  | zero => intro cs0 ss0 hcs R0 hR hok k; exact False.elim hok
  | succ n ih =>
    intro cs0 ss0 hcs R0 hR hok k
    have hR : R0 = (if a3 ≤ a5 then (a4, B) else (nm (f_L_areTransfersRight_L201 20 B a1 a2 a3 a4 a5 0 0) (fun (z54 : Int32) => (if a4 = 0 then (f_L_areTransfersRight_L189 n B a1 a2 a3 0 (a5 + 1)) else (nm (f_X6_netOf_n B a5) (fun (r57 : Int32) => (if r57 = z54 then (nm (f_X6_netByTable_n B a5) (fun (z60 : Int32 × StB) => (if z60.1 = z54 then (f_L_areTransfersRight_L189 n z60.2 a1 a2 a3 1 (a5 + 1)) else (f_L_areTransfersRight_L189 n z60.2 a1 a2 a3 0 (a5 + 1))))) else (f_L_areTransfersRight_L189 n B a1 a2 a3 0 (a5 + 1))))))))) := hR
    have hok : ((a3 ≤ a5 → True) ∧ (¬ a3 ≤ a5 → ((ok_L_areTransfersRight_L201 20 B a1 a2 a3 a4 a5 0 0) ∧ ∀ z54 : Int32, z54 = f_L_areTransfersRight_L201 20 B a1 a2 a3 a4 a5 0 0 → ((a4 = 0 → (ok_L_areTransfersRight_L189 n B a1 a2 a3 0 (a5 + 1))) ∧ (¬ a4 = 0 → ((ok_X6_netOf_n B a5) ∧ (∀ r57 : Int32, r57 = (f_X6_netOf_n B a5) → ((r57 = z54 → ((ok_X6_netByTable_n B a5) ∧ (∀ z60 : Int32 × StB, z60 = (f_X6_netByTable_n B a5) → ((z60.1 = z54 → (ok_L_areTransfersRight_L189 n z60.2 a1 a2 a3 1 (a5 + 1))) ∧ (¬ z60.1 = z54 → (ok_L_areTransfersRight_L189 n z60.2 a1 a2 a3 0 (a5 + 1))))))) ∧ (¬ r57 = z54 → (ok_L_areTransfersRight_L189 n B a1 a2 a3 0 (a5 + 1))))))))))) := hok
    refine x_iload (pc := 189) (i := 5) C 5 dL_areTransfersRight_189 rfl ?_
    refine x_iload_n (pc := 191) (i := 3) C 3 dL_areTransfersRight_191 rfl rfl ?_
    refine x_icmp_ge (pc := 192) (tgt := 316) C dL_areTransfersRight_192 (by decide) (fun c28 => ?_) (fun c28 => ?_)
    · have hR := hR.trans (if_pos c28)
      refine x_sub [0, 1, 2, 3, 4] (ls2 := [(0, .ref (ad 176)), (1, .int a1), (2, .int a2), (3, .int a3), (4, .int a4)]) rfl ?_
      subst hR
      exact x_wid (by omega) (by omega) k
    · have hR := hR.trans (if_neg c28)
      have hok := hok.2 c28
      refine x_iconst (pc := 195) (v := 0) C dL_areTransfersRight_195 (by decide) ?_
      refine x_istore (pc := 196) (i := 6) (ls2 := [(6, .int 0), (0, .ref (ad 176)), (1, .int a1), (2, .int a2), (3, .int a3), (4, .int a4), (5, .int a5)]) C dL_areTransfersRight_196 (by decide) rfl ?_
      refine x_iconst (pc := 198) (v := 0) C dL_areTransfersRight_198 (by decide) ?_
      refine x_istore (pc := 199) (i := 7) (ls2 := [(7, .int 0), (6, .int 0), (0, .ref (ad 176)), (1, .int a1), (2, .int a2), (3, .int a3), (4, .int a4), (5, .int a5)]) C dL_areTransfersRight_199 (by decide) rfl ?_
      refine x_sub [2, 3, 4, 5, 6, 7, 1, 0] (ls2 := [(0, .ref (ad 176)), (1, .int a1), (2, .int a2), (3, .int a3), (4, .int a4), (5, .int a5), (6, .int 0), (7, .int 0)]) rfl ?_
      obtain ⟨z54, ez54⟩ : ∃ z : Int32, z = f_L_areTransfersRight_L201 20 B a1 a2 a3 a4 a5 0 0 := ⟨_, rfl⟩
      refine t_L_areTransfersRight_L201 C 20 B a1 a2 a3 a4 a5 0 0 M O _ _ ⟨by omega, by omega⟩ z54 ez54 hok.1 ?_
      have hR := nmE hR ez54
      have hok := hok.2 z54 ez54
      refine x_iload (pc := 276) (i := 4) C 4 dL_areTransfersRight_276 rfl ?_
      refine x_if_eq (pc := 278) (tgt := 307) C dL_areTransfersRight_278 (by decide) (fun c55 => ?_) (fun c55 => ?_)
      · have hR := hR.trans (if_pos c55)
        have hok := hok.1 c55
        refine x_iconst (pc := 307) (v := 0) C dL_areTransfersRight_307 (by decide) ?_
        refine x_istore (pc := 308) (i := 4) (ls2 := [(4, .int 0), (0, .ref (ad 176)), (1, .int a1), (2, .int a2), (3, .int a3), (5, .int a5), (6, .int z54)]) C dL_areTransfersRight_308 (by decide) rfl ?_
        refine x_iinc (pc := 310) (i := 5) (v := (a5 + 1)) (ls2 := [(5, .int (a5 + 1)), (4, .int 0), (0, .ref (ad 176)), (1, .int a1), (2, .int a2), (3, .int a3), (6, .int z54)]) C 5 dL_areTransfersRight_310 rfl rfl (by decide) rfl ?_
        refine x_goto (pc := 313) (tgt := 189) C dL_areTransfersRight_313 (by decide) ?_
        refine x_sub [2, 3, 4, 5, 1, 0] (ls2 := [(0, .ref (ad 176)), (1, .int a1), (2, .int a2), (3, .int a3), (4, .int 0), (5, .int (a5 + 1))]) rfl ?_
        refine x_wid (k0 := cs0 + 0) (n0 := ss0 + 0) (by omega) (by omega) ?_
        exact ih B a1 a2 a3 0 (a5 + 1) _ _ ⟨by omega, by omega⟩ R0 hR hok (x_wid (by omega) (by omega) k)
      · have hR := hR.trans (if_neg c55)
        have hok := hok.2 c55
        refine x_aload_n (pc := 281) (i := 0) C 0 dL_areTransfersRight_281 rfl rfl ?_
        refine x_iload (pc := 282) (i := 5) C 5 dL_areTransfersRight_282 rfl ?_
        have h56 := hok.1
        have hok := hok.2
        refine x_cIV (pc := 284) (as := [.int a5]) (q := 176) C (c_X6_netOf_n C.2.2.2.2.2.2.2.1  B M O a5 h56) (fs := _) e_I rfl cv_X6_netOf cd_X6_netOf wd_4_194 ⟨Nat.le_of_ble_eq_true rfl, Nat.le_of_ble_eq_true rfl⟩ ⟨by simp only [rmd]; omega, by simp only [rmd]; omega⟩ rfl rfl (Nat.le_of_ble_eq_true rfl) dL_areTransfersRight_284 ?_
        refine x_nmI (fun r57 er57 => ?_)
        have hR := nmE hR er57
        have hok := hok r57 er57
        refine x_iload (pc := 287) (i := 6) C 6 dL_areTransfersRight_287 rfl ?_
        refine x_icmp_ne (pc := 289) (tgt := 307) C dL_areTransfersRight_289 (by decide) (fun c58 => ?_) (fun c58 => ?_)
        · have hR := hR.trans (if_neg c58)
          have hok := hok.2 c58
          refine x_iconst (pc := 307) (v := 0) C dL_areTransfersRight_307 (by decide) ?_
          refine x_istore (pc := 308) (i := 4) (ls2 := [(4, .int 0), (0, .ref (ad 176)), (1, .int a1), (2, .int a2), (3, .int a3), (5, .int a5), (6, .int z54)]) C dL_areTransfersRight_308 (by decide) rfl ?_
          refine x_iinc (pc := 310) (i := 5) (v := (a5 + 1)) (ls2 := [(5, .int (a5 + 1)), (4, .int 0), (0, .ref (ad 176)), (1, .int a1), (2, .int a2), (3, .int a3), (6, .int z54)]) C 5 dL_areTransfersRight_310 rfl rfl (by decide) rfl ?_
          refine x_goto (pc := 313) (tgt := 189) C dL_areTransfersRight_313 (by decide) ?_
          refine x_sub [2, 3, 4, 5, 1, 0] (ls2 := [(0, .ref (ad 176)), (1, .int a1), (2, .int a2), (3, .int a3), (4, .int 0), (5, .int (a5 + 1))]) rfl ?_
          refine x_wid (k0 := cs0 + 0) (n0 := ss0 + 0) (by omega) (by omega) ?_
          exact ih B a1 a2 a3 0 (a5 + 1) _ _ ⟨by omega, by omega⟩ R0 hR hok (x_wid (by omega) (by omega) k)
        · have hR := hR.trans (if_pos c58)
          have hok := hok.1 c58
          refine x_aload_n (pc := 292) (i := 0) C 0 dL_areTransfersRight_292 rfl rfl ?_
          refine x_iload (pc := 293) (i := 5) C 5 dL_areTransfersRight_293 rfl ?_
          have h59 := hok.1
          have hok := hok.2
          refine x_cIV (pc := 295) (as := [.int a5]) (q := 176) C (c_X6_netByTable_n C.2.2.2.2.2.2.2.1  B M O a5 h59) (fs := _) e_I rfl cv_X6_netByTable cd_X6_netByTable wd_6_112 ⟨Nat.le_of_ble_eq_true rfl, Nat.le_of_ble_eq_true rfl⟩ ⟨by simp only [rmd]; omega, by simp only [rmd]; omega⟩ rfl rfl (Nat.le_of_ble_eq_true rfl) dL_areTransfersRight_295 ?_
          refine x_nmIB (fun z60 ez60 => ?_)
          have hR := nmE hR ez60
          have hok := hok z60 ez60
          refine x_iload (pc := 298) (i := 6) C 6 dL_areTransfersRight_298 rfl ?_
          refine x_icmp_ne (pc := 300) (tgt := 307) C dL_areTransfersRight_300 (by decide) (fun c61 => ?_) (fun c61 => ?_)
          · have hR := hR.trans (if_neg c61)
            have hok := hok.2 c61
            refine x_iconst (pc := 307) (v := 0) C dL_areTransfersRight_307 (by decide) ?_
            refine x_istore (pc := 308) (i := 4) (ls2 := [(4, .int 0), (0, .ref (ad 176)), (1, .int a1), (2, .int a2), (3, .int a3), (5, .int a5), (6, .int z54)]) C dL_areTransfersRight_308 (by decide) rfl ?_
            refine x_iinc (pc := 310) (i := 5) (v := (a5 + 1)) (ls2 := [(5, .int (a5 + 1)), (4, .int 0), (0, .ref (ad 176)), (1, .int a1), (2, .int a2), (3, .int a3), (6, .int z54)]) C 5 dL_areTransfersRight_310 rfl rfl (by decide) rfl ?_
            refine x_goto (pc := 313) (tgt := 189) C dL_areTransfersRight_313 (by decide) ?_
            refine x_sub [2, 3, 4, 5, 1, 0] (ls2 := [(0, .ref (ad 176)), (1, .int a1), (2, .int a2), (3, .int a3), (4, .int 0), (5, .int (a5 + 1))]) rfl ?_
            refine x_wid (k0 := cs0 + 0) (n0 := ss0 + 0) (by omega) (by omega) ?_
            exact ih z60.2 a1 a2 a3 0 (a5 + 1) _ _ ⟨by omega, by omega⟩ R0 hR hok (x_wid (by omega) (by omega) k)
          · have hR := hR.trans (if_pos c61)
            have hok := hok.1 c61
            refine x_iconst (pc := 303) (v := 1) C dL_areTransfersRight_303 (by decide) ?_
            refine x_goto (pc := 304) (tgt := 308) C dL_areTransfersRight_304 (by decide) ?_
            refine x_istore (pc := 308) (i := 4) (ls2 := [(4, .int 1), (0, .ref (ad 176)), (1, .int a1), (2, .int a2), (3, .int a3), (5, .int a5), (6, .int z54)]) C dL_areTransfersRight_308 (by decide) rfl ?_
            refine x_iinc (pc := 310) (i := 5) (v := (a5 + 1)) (ls2 := [(5, .int (a5 + 1)), (4, .int 1), (0, .ref (ad 176)), (1, .int a1), (2, .int a2), (3, .int a3), (6, .int z54)]) C 5 dL_areTransfersRight_310 rfl rfl (by decide) rfl ?_
            refine x_goto (pc := 313) (tgt := 189) C dL_areTransfersRight_313 (by decide) ?_
            refine x_sub [2, 3, 4, 5, 1, 0] (ls2 := [(0, .ref (ad 176)), (1, .int a1), (2, .int a2), (3, .int a3), (4, .int 1), (5, .int (a5 + 1))]) rfl ?_
            refine x_wid (k0 := cs0 + 0) (n0 := ss0 + 0) (by omega) (by omega) ?_
            exact ih z60.2 a1 a2 a3 1 (a5 + 1) _ _ ⟨by omega, by omega⟩ R0 hR hok (x_wid (by omega) (by omega) k)
set_option maxHeartbeats 4000000 in
set_option maxRecDepth 100000 in
theorem t_L_areTransfersRight_J93 {p0 : Program} {l : Launch} {e : Env} {s : State} {m : MethodId} {args : Array Value} {below : List Frame} {meth : Method} {c : Code} {A : Nat → Prop} {G : GT} {ad : Nat → Nat} (C : CX p0 l s m args meth c A G ad cL_areTransfersRight RL 9 (some .boolean))  (B : StB) (a1 : Int32) (a2 : Int32) (a3 : Int32) (s0 : Int32) (M : StM) (O : StO) (cs0 ss0 : Nat) (hcs : cs0 + 0 ≤ 24 ∧ ss0 + 0 ≤ 144) (R0 : Int32 × StB) (hR : R0 = f_L_areTransfersRight_J93 B a1 a2 a3 s0) (hok : ok_L_areTransfersRight_J93 B a1 a2 a3 s0) : X p0 l e (rmd 22 24 144) s m args below meth c A G ad 9 cs0 ss0 (MQ below (QI G A ad R0.1 R0.2 M O) args s 24 144 A) B M O [(0, .ref (ad 176)), (1, .int a1), (2, .int a2), (3, .int a3)] 93 [.int s0] := by
  have hR : R0 = (nm (f_L_areTransfersRight_L98 20 B a1 a2 a3 s0 0) (fun (z27 : Int32) => (nm (f_L_areTransfersRight_L189 20 B a1 a2 a3 z27 0) (fun (z62 : Int32 × StB) => (if z62.1 = 0 then (0, z62.2) else (if a3 = 0 then (1, z62.2) else (nm (f_X6_leadsTo_n z62.2 a1 a2) (fun (r66 : Int32) => (nm (f_L_leads_4 z62.2 a1 a2 4) (fun (r68 : Int32) => (if r66 = r68 then (1, z62.2) else (nm (f_X6_transferCount z62.2) (fun (r70 : Int32) => (if r70 ≤ 4 then (0, z62.2) else (1, z62.2))))))))))))))) := hR
  have hok : ((ok_L_areTransfersRight_L98 20 B a1 a2 a3 s0 0) ∧ ∀ z27 : Int32, z27 = f_L_areTransfersRight_L98 20 B a1 a2 a3 s0 0 → ((ok_L_areTransfersRight_L189 20 B a1 a2 a3 z27 0) ∧ ∀ z62 : Int32 × StB, z62 = f_L_areTransfersRight_L189 20 B a1 a2 a3 z27 0 → ((z62.1 = 0 → True) ∧ (¬ z62.1 = 0 → ((a3 = 0 → True) ∧ (¬ a3 = 0 → ((ok_X6_leadsTo_n z62.2 a1 a2) ∧ (∀ r66 : Int32, r66 = (f_X6_leadsTo_n z62.2 a1 a2) → ((ok_L_leads_4 z62.2 a1 a2 4)))))))))) := hok
  refine x_istore (pc := 93) (i := 4) (ls2 := [(4, .int s0), (0, .ref (ad 176)), (1, .int a1), (2, .int a2), (3, .int a3)]) C dL_areTransfersRight_93 (by decide) rfl ?_
  refine x_iconst (pc := 95) (v := 0) C dL_areTransfersRight_95 (by decide) ?_
  refine x_istore (pc := 96) (i := 5) (ls2 := [(5, .int 0), (4, .int s0), (0, .ref (ad 176)), (1, .int a1), (2, .int a2), (3, .int a3)]) C dL_areTransfersRight_96 (by decide) rfl ?_
  refine x_sub [2, 3, 4, 5, 1, 0] (ls2 := [(0, .ref (ad 176)), (1, .int a1), (2, .int a2), (3, .int a3), (4, .int s0), (5, .int 0)]) rfl ?_
  obtain ⟨z27, ez27⟩ : ∃ z : Int32, z = f_L_areTransfersRight_L98 20 B a1 a2 a3 s0 0 := ⟨_, rfl⟩
  refine t_L_areTransfersRight_L98 C 20 B a1 a2 a3 s0 0 M O _ _ ⟨by omega, by omega⟩ z27 ez27 hok.1 ?_
  have hR := nmE hR ez27
  have hok := hok.2 z27 ez27
  refine x_iconst (pc := 186) (v := 0) C dL_areTransfersRight_186 (by decide) ?_
  refine x_istore (pc := 187) (i := 5) (ls2 := [(5, .int 0), (0, .ref (ad 176)), (1, .int a1), (2, .int a2), (3, .int a3), (4, .int z27)]) C dL_areTransfersRight_187 (by decide) rfl ?_
  refine x_sub [1, 2, 3, 4, 5, 0] (ls2 := [(0, .ref (ad 176)), (1, .int a1), (2, .int a2), (3, .int a3), (4, .int z27), (5, .int 0)]) rfl ?_
  obtain ⟨z62, ez62⟩ : ∃ z : Int32 × StB, z = f_L_areTransfersRight_L189 20 B a1 a2 a3 z27 0 := ⟨_, rfl⟩
  refine t_L_areTransfersRight_L189 C 20 B a1 a2 a3 z27 0 M O _ _ ⟨by omega, by omega⟩ z62 ez62 hok.1 ?_
  have hR := nmE hR ez62
  have hok := hok.2 z62 ez62
  refine x_iload (pc := 316) (i := 4) C 4 dL_areTransfersRight_316 rfl ?_
  refine x_if_eq (pc := 318) (tgt := 353) C dL_areTransfersRight_318 (by decide) (fun c63 => ?_) (fun c63 => ?_)
  · have hR := hR.trans (if_pos c63)
    refine x_iconst (pc := 353) (v := 0) C dL_areTransfersRight_353 (by decide) ?_
    refine x_wid (k0 := 24) (n0 := 144) (by omega) (by omega) ?_
    exact x_zretB (pc := 354) C rfl (by decide) hR dL_areTransfersRight_354
  · have hR := hR.trans (if_neg c63)
    have hok := hok.2 c63
    refine x_iload_n (pc := 321) (i := 3) C 3 dL_areTransfersRight_321 rfl rfl ?_
    refine x_if_eq (pc := 322) (tgt := 349) C dL_areTransfersRight_322 (by decide) (fun c64 => ?_) (fun c64 => ?_)
    · have hR := hR.trans (if_pos c64)
      refine x_iconst (pc := 349) (v := 1) C dL_areTransfersRight_349 (by decide) ?_
      refine x_goto (pc := 350) (tgt := 354) C dL_areTransfersRight_350 (by decide) ?_
      refine x_wid (k0 := 24) (n0 := 144) (by omega) (by omega) ?_
      exact x_zretB (pc := 354) C rfl (by decide) hR dL_areTransfersRight_354
    · have hR := hR.trans (if_neg c64)
      have hok := hok.2 c64
      refine x_aload_n (pc := 325) (i := 0) C 0 dL_areTransfersRight_325 rfl rfl ?_
      refine x_iload_n (pc := 326) (i := 1) C 1 dL_areTransfersRight_326 rfl rfl ?_
      refine x_iload_n (pc := 327) (i := 2) C 2 dL_areTransfersRight_327 rfl rfl ?_
      have h65 := hok.1
      have hok := hok.2
      refine x_cIV (pc := 328) (as := [.int a1, .int a2]) (q := 176) C (c_X6_leadsTo_n C.2.2.2.2.2.2.2.1  z62.2 M O a1 a2 h65) (fs := _) e_I rfl cv_X6_leadsTo cd_X6_leadsTo wd_4_202 ⟨Nat.le_of_ble_eq_true rfl, Nat.le_of_ble_eq_true rfl⟩ ⟨by simp only [rmd]; omega, by simp only [rmd]; omega⟩ rfl rfl (Nat.le_of_ble_eq_true rfl) dL_areTransfersRight_328 ?_
      refine x_nmI (fun r66 er66 => ?_)
      have hR := nmE hR er66
      have hok := hok r66 er66
      refine x_aload_n (pc := 331) (i := 0) C 0 dL_areTransfersRight_331 rfl rfl ?_
      refine x_iload_n (pc := 332) (i := 1) C 1 dL_areTransfersRight_332 rfl rfl ?_
      refine x_iload_n (pc := 333) (i := 2) C 2 dL_areTransfersRight_333 rfl rfl ?_
      refine x_iconst (pc := 334) (v := 4) C dL_areTransfersRight_334 (by decide) ?_
      have h67 := hok
      refine x_cIS (pc := 335) (as := [.ref (ad 176), .int a1, .int a2, .int 4]) C (c_L_leads_4 C.2.2.2.2.2.2.2.1  z62.2 M O a1 a2 4 h67) wd_6_121 cd_L_leads wd_6_120 ⟨Nat.le_of_ble_eq_true rfl, Nat.le_of_ble_eq_true rfl⟩ ⟨by simp only [rmd]; omega, by simp only [rmd]; omega⟩ rfl rfl (Nat.le_of_ble_eq_true rfl) dL_areTransfersRight_335 ?_
      refine x_nmI (fun r68 er68 => ?_)
      have hR := nmE hR er68
      refine x_icmp_eq (pc := 338) (tgt := 349) C dL_areTransfersRight_338 (by decide) (fun c69 => ?_) (fun c69 => ?_)
      · have hR := hR.trans (if_pos c69)
        refine x_iconst (pc := 349) (v := 1) C dL_areTransfersRight_349 (by decide) ?_
        refine x_goto (pc := 350) (tgt := 354) C dL_areTransfersRight_350 (by decide) ?_
        refine x_wid (k0 := 24) (n0 := 144) (by omega) (by omega) ?_
        exact x_zretB (pc := 354) C rfl (by decide) hR dL_areTransfersRight_354
      · have hR := hR.trans (if_neg c69)
        refine x_aload_n (pc := 341) (i := 0) C 0 dL_areTransfersRight_341 rfl rfl ?_
        refine x_cIV (pc := 342) (as := []) (q := 176) C (c_X6_transferCount C.2.2.2.2.2.2.2.1  z62.2 M O ) (fs := _) e_I rfl cv_X6_transferCount cd_X6_transferCount wd_4_119 ⟨Nat.le_of_ble_eq_true rfl, Nat.le_of_ble_eq_true rfl⟩ ⟨by simp only [rmd]; omega, by simp only [rmd]; omega⟩ rfl rfl (Nat.le_of_ble_eq_true rfl) dL_areTransfersRight_342 ?_
        refine x_nmI (fun r70 er70 => ?_)
        have hR := nmE hR er70
        refine x_iconst (pc := 345) (v := 4) C dL_areTransfersRight_345 (by decide) ?_
        refine x_icmp_le (pc := 346) (tgt := 353) C dL_areTransfersRight_346 (by decide) (fun c71 => ?_) (fun c71 => ?_)
        · have hR := hR.trans (if_pos c71)
          refine x_iconst (pc := 353) (v := 0) C dL_areTransfersRight_353 (by decide) ?_
          refine x_wid (k0 := 24) (n0 := 144) (by omega) (by omega) ?_
          exact x_zretB (pc := 354) C rfl (by decide) hR dL_areTransfersRight_354
        · have hR := hR.trans (if_neg c71)
          refine x_iconst (pc := 349) (v := 1) C dL_areTransfersRight_349 (by decide) ?_
          refine x_goto (pc := 350) (tgt := 354) C dL_areTransfersRight_350 (by decide) ?_
          refine x_wid (k0 := 24) (n0 := 144) (by omega) (by omega) ?_
          exact x_zretB (pc := 354) C rfl (by decide) hR dL_areTransfersRight_354
set_option maxHeartbeats 4000000 in
set_option maxRecDepth 100000 in
theorem t_L_areTransfersRight_J92 {p0 : Program} {l : Launch} {e : Env} {s : State} {m : MethodId} {args : Array Value} {below : List Frame} {meth : Method} {c : Code} {A : Nat → Prop} {G : GT} {ad : Nat → Nat} (C : CX p0 l s m args meth c A G ad cL_areTransfersRight RL 9 (some .boolean))  (B : StB) (a1 : Int32) (a2 : Int32) (a3 : Int32) (M : StM) (O : StO) (cs0 ss0 : Nat) (hcs : cs0 + 0 ≤ 24 ∧ ss0 + 0 ≤ 144) (R0 : Int32 × StB) (hR : R0 = f_L_areTransfersRight_J92 B a1 a2 a3) (hok : ok_L_areTransfersRight_J92 B a1 a2 a3) : X p0 l e (rmd 22 24 144) s m args below meth c A G ad 9 cs0 ss0 (MQ below (QI G A ad R0.1 R0.2 M O) args s 24 144 A) B M O [(0, .ref (ad 176)), (1, .int a1), (2, .int a2), (3, .int a3)] 92 [] := by
  have hR : R0 = (f_L_areTransfersRight_J93 B a1 a2 a3 0) := hR
  have hok : (ok_L_areTransfersRight_J93 B a1 a2 a3 0) := hok
  refine x_iconst (pc := 92) (v := 0) C dL_areTransfersRight_92 (by decide) ?_
  refine x_sub [0, 1, 2, 3] (ls2 := [(0, .ref (ad 176)), (1, .int a1), (2, .int a2), (3, .int a3)]) rfl ?_
  exact t_L_areTransfersRight_J93 C B a1 a2 a3 0 M O _ _ ⟨by omega, by omega⟩ _ hR hok
set_option maxHeartbeats 4000000 in
set_option maxRecDepth 100000 in
theorem c_L_areTransfersRight {l : Launch} {A : Nat → Prop} {G : GT} {ad : Nat → Nat} (gl : Gl l A G ad)  (B : StB) (M : StM) (O : StO) (x1 : Int32) (x2 : Int32) (hok : ok_L_areTransfersRight B x1 x2) : Met l yL_areTransfersRight (wof yL_areTransfersRight cL_areTransfersRight 9 (some .boolean)) (rmd 22 24 144) (va_Pc [.ref (ad 176), .int x1, .int x2] (PW G A ad B M O)) (QI G A ad (f_L_areTransfersRight B x1 x2).1 (f_L_areTransfersRight B x1 x2).2 M O) 24 144 A := by
  refine x_body (own := RL) (by decide +kernel) rfl gl (Nat.le_of_ble_eq_true rfl) (ls := [(0, .ref (ad 176)), (1, .int x1), (2, .int x2)]) rfl ?_
  intro p0 e s m args below meth c C
  have hR : (f_L_areTransfersRight B x1 x2) = (nm (f_X6_accountCount B) (fun (r1 : Int32) => (nm (f_X6_transferCount B) (fun (r2 : Int32) => (nm (f_L_ask B 3 r2 0) (fun (z4 : Int32 × StB) => (if z4.1 = (-20002) then (nm (f_L_ask z4.2 3 (-1) 0) (fun (z73 : Int32 × StB) => (if z73.1 = (-20002) then (nm (f_L_ask z73.2 4 (-1) 0) (fun (z76 : Int32 × StB) => (if z76.1 = (-20004) then (nm (f_L_ask z76.2 5 (-1) 0) (fun (z79 : Int32 × StB) => (if z79.1 = (-20004) then (nm (f_L_ask z79.2 6 r1 0) (fun (z82 : Int32 × StB) => (if z82.1 = (-20002) then (nm (f_L_ask z82.2 7 r1 0) (fun (z85 : Int32 × StB) => (if z85.1 = (-20002) then (f_L_areTransfersRight_J93 z85.2 x1 x2 r1 1) else (f_L_areTransfersRight_J92 z85.2 x1 x2 r1)))) else (f_L_areTransfersRight_J92 z82.2 x1 x2 r1)))) else (f_L_areTransfersRight_J92 z79.2 x1 x2 r1)))) else (f_L_areTransfersRight_J92 z76.2 x1 x2 r1)))) else (f_L_areTransfersRight_J92 z73.2 x1 x2 r1)))) else (f_L_areTransfersRight_J92 z4.2 x1 x2 r1)))))))) := rfl
  have hok : (∀ r1 : Int32, r1 = (f_X6_accountCount B) → (∀ r2 : Int32, r2 = (f_X6_transferCount B) → ((ok_L_ask B 3 r2 0) ∧ (∀ z4 : Int32 × StB, z4 = (f_L_ask B 3 r2 0) → ((z4.1 = (-20002) → ((ok_L_ask z4.2 3 (-1) 0) ∧ (∀ z73 : Int32 × StB, z73 = (f_L_ask z4.2 3 (-1) 0) → ((z73.1 = (-20002) → ((ok_L_ask z73.2 4 (-1) 0) ∧ (∀ z76 : Int32 × StB, z76 = (f_L_ask z73.2 4 (-1) 0) → ((z76.1 = (-20004) → ((ok_L_ask z76.2 5 (-1) 0) ∧ (∀ z79 : Int32 × StB, z79 = (f_L_ask z76.2 5 (-1) 0) → ((z79.1 = (-20004) → ((ok_L_ask z79.2 6 r1 0) ∧ (∀ z82 : Int32 × StB, z82 = (f_L_ask z79.2 6 r1 0) → ((z82.1 = (-20002) → ((ok_L_ask z82.2 7 r1 0) ∧ (∀ z85 : Int32 × StB, z85 = (f_L_ask z82.2 7 r1 0) → ((z85.1 = (-20002) → (ok_L_areTransfersRight_J93 z85.2 x1 x2 r1 1)) ∧ (¬ z85.1 = (-20002) → (ok_L_areTransfersRight_J92 z85.2 x1 x2 r1)))))) ∧ (¬ z82.1 = (-20002) → (ok_L_areTransfersRight_J92 z82.2 x1 x2 r1)))))) ∧ (¬ z79.1 = (-20004) → (ok_L_areTransfersRight_J92 z79.2 x1 x2 r1)))))) ∧ (¬ z76.1 = (-20004) → (ok_L_areTransfersRight_J92 z76.2 x1 x2 r1)))))) ∧ (¬ z73.1 = (-20002) → (ok_L_areTransfersRight_J92 z73.2 x1 x2 r1)))))) ∧ (¬ z4.1 = (-20002) → (ok_L_areTransfersRight_J92 z4.2 x1 x2 r1))))))) := hok
  refine x_aload_n (pc := 0) (i := 0) C 0 dL_areTransfersRight_0 rfl rfl ?_
  refine x_cIV (pc := 1) (as := []) (q := 176) C (c_X6_accountCount C.2.2.2.2.2.2.2.1  B M O ) (fs := _) e_I rfl cv_X6_accountCount cd_X6_accountCount wd_2_61 ⟨Nat.le_of_ble_eq_true rfl, Nat.le_of_ble_eq_true rfl⟩ ⟨by simp only [rmd]; omega, by simp only [rmd]; omega⟩ rfl rfl (Nat.le_of_ble_eq_true rfl) dL_areTransfersRight_1 ?_
  refine x_nmI (fun r1 er1 => ?_)
  have hR := nmE hR er1
  have hok := hok r1 er1
  refine x_istore_n (pc := 4) (i := 3) (ls2 := [(3, .int r1), (0, .ref (ad 176)), (1, .int x1), (2, .int x2)]) C dL_areTransfersRight_4 rfl (by decide) rfl ?_
  refine x_aload_n (pc := 5) (i := 0) C 1 dL_areTransfersRight_5 rfl rfl ?_
  refine x_iconst (pc := 6) (v := 3) C dL_areTransfersRight_6 (by decide) ?_
  refine x_aload_n (pc := 7) (i := 0) C 1 dL_areTransfersRight_7 rfl rfl ?_
  refine x_cIV (pc := 8) (as := []) (q := 176) C (c_X6_transferCount C.2.2.2.2.2.2.2.1  B M O ) (fs := _) e_I rfl cv_X6_transferCount cd_X6_transferCount wd_4_119 ⟨Nat.le_of_ble_eq_true rfl, Nat.le_of_ble_eq_true rfl⟩ ⟨by simp only [rmd]; omega, by simp only [rmd]; omega⟩ rfl rfl (Nat.le_of_ble_eq_true rfl) dL_areTransfersRight_8 ?_
  refine x_nmI (fun r2 er2 => ?_)
  have hR := nmE hR er2
  have hok := hok r2 er2
  refine x_iconst (pc := 11) (v := 0) C dL_areTransfersRight_11 (by decide) ?_
  have h3 := hok.1
  have hok := hok.2
  refine x_cWS (pc := 12) (as := [.ref (ad 176), .int 3, .int r2, .int 0]) (n := 4) C (c_L_ask C.2.2.2.2.2.2.2.1  B M O 3 r2 0 h3) wd_4_138 wd_4_139 wd_1_0 wd_4_140 ⟨by decide, by decide, by decide +kernel⟩ ⟨Nat.le_of_ble_eq_true rfl, Nat.le_of_ble_eq_true rfl⟩ ⟨by simp only [rmd]; omega, by simp only [rmd]; omega⟩ rfl rfl (Nat.le_of_ble_eq_true rfl) dL_areTransfersRight_12 ?_
  refine x_nmIB (fun z4 ez4 => ?_)
  have hR := nmE hR ez4
  have hok := hok z4 ez4
  refine x_sipush (pc := 15) (v := (-20002)) C dL_areTransfersRight_15 (by decide) ?_
  refine x_icmp_ne (pc := 18) (tgt := 92) C dL_areTransfersRight_18 (by decide) (fun c5 => ?_) (fun c5 => ?_)
  · have hR := hR.trans (if_neg c5)
    have hok := hok.2 c5
    refine x_sub [1, 2, 3, 0] (ls2 := [(0, .ref (ad 176)), (1, .int x1), (2, .int x2), (3, .int r1)]) rfl ?_
    exact t_L_areTransfersRight_J92 C z4.2 x1 x2 r1 M O _ _ ⟨by omega, by omega⟩ _ hR hok
  · have hR := hR.trans (if_pos c5)
    have hok := hok.1 c5
    refine x_aload_n (pc := 21) (i := 0) C 1 dL_areTransfersRight_21 rfl rfl ?_
    refine x_iconst (pc := 22) (v := 3) C dL_areTransfersRight_22 (by decide) ?_
    refine x_iconst (pc := 23) (v := (-1)) C dL_areTransfersRight_23 (by decide) ?_
    refine x_iconst (pc := 24) (v := 0) C dL_areTransfersRight_24 (by decide) ?_
    have h72 := hok.1
    have hok := hok.2
    refine x_cWS (pc := 25) (as := [.ref (ad 176), .int 3, .int (-1), .int 0]) (n := 4) C (c_L_ask C.2.2.2.2.2.2.2.1  z4.2 M O 3 (-1) 0 h72) wd_4_138 wd_4_139 wd_1_0 wd_4_140 ⟨by decide, by decide, by decide +kernel⟩ ⟨Nat.le_of_ble_eq_true rfl, Nat.le_of_ble_eq_true rfl⟩ ⟨by simp only [rmd]; omega, by simp only [rmd]; omega⟩ rfl rfl (Nat.le_of_ble_eq_true rfl) dL_areTransfersRight_25 ?_
    refine x_nmIB (fun z73 ez73 => ?_)
    have hR := nmE hR ez73
    have hok := hok z73 ez73
    refine x_sipush (pc := 28) (v := (-20002)) C dL_areTransfersRight_28 (by decide) ?_
    refine x_icmp_ne (pc := 31) (tgt := 92) C dL_areTransfersRight_31 (by decide) (fun c74 => ?_) (fun c74 => ?_)
    · have hR := hR.trans (if_neg c74)
      have hok := hok.2 c74
      refine x_sub [1, 2, 3, 0] (ls2 := [(0, .ref (ad 176)), (1, .int x1), (2, .int x2), (3, .int r1)]) rfl ?_
      exact t_L_areTransfersRight_J92 C z73.2 x1 x2 r1 M O _ _ ⟨by omega, by omega⟩ _ hR hok
    · have hR := hR.trans (if_pos c74)
      have hok := hok.1 c74
      refine x_aload_n (pc := 34) (i := 0) C 1 dL_areTransfersRight_34 rfl rfl ?_
      refine x_iconst (pc := 35) (v := 4) C dL_areTransfersRight_35 (by decide) ?_
      refine x_iconst (pc := 36) (v := (-1)) C dL_areTransfersRight_36 (by decide) ?_
      refine x_iconst (pc := 37) (v := 0) C dL_areTransfersRight_37 (by decide) ?_
      have h75 := hok.1
      have hok := hok.2
      refine x_cWS (pc := 38) (as := [.ref (ad 176), .int 4, .int (-1), .int 0]) (n := 4) C (c_L_ask C.2.2.2.2.2.2.2.1  z73.2 M O 4 (-1) 0 h75) wd_4_138 wd_4_139 wd_1_0 wd_4_140 ⟨by decide, by decide, by decide +kernel⟩ ⟨Nat.le_of_ble_eq_true rfl, Nat.le_of_ble_eq_true rfl⟩ ⟨by simp only [rmd]; omega, by simp only [rmd]; omega⟩ rfl rfl (Nat.le_of_ble_eq_true rfl) dL_areTransfersRight_38 ?_
      refine x_nmIB (fun z76 ez76 => ?_)
      have hR := nmE hR ez76
      have hok := hok z76 ez76
      refine x_sipush (pc := 41) (v := (-20004)) C dL_areTransfersRight_41 (by decide) ?_
      refine x_icmp_ne (pc := 44) (tgt := 92) C dL_areTransfersRight_44 (by decide) (fun c77 => ?_) (fun c77 => ?_)
      · have hR := hR.trans (if_neg c77)
        have hok := hok.2 c77
        refine x_sub [1, 2, 3, 0] (ls2 := [(0, .ref (ad 176)), (1, .int x1), (2, .int x2), (3, .int r1)]) rfl ?_
        exact t_L_areTransfersRight_J92 C z76.2 x1 x2 r1 M O _ _ ⟨by omega, by omega⟩ _ hR hok
      · have hR := hR.trans (if_pos c77)
        have hok := hok.1 c77
        refine x_aload_n (pc := 47) (i := 0) C 1 dL_areTransfersRight_47 rfl rfl ?_
        refine x_iconst (pc := 48) (v := 5) C dL_areTransfersRight_48 (by decide) ?_
        refine x_iconst (pc := 49) (v := (-1)) C dL_areTransfersRight_49 (by decide) ?_
        refine x_iconst (pc := 50) (v := 0) C dL_areTransfersRight_50 (by decide) ?_
        have h78 := hok.1
        have hok := hok.2
        refine x_cWS (pc := 51) (as := [.ref (ad 176), .int 5, .int (-1), .int 0]) (n := 4) C (c_L_ask C.2.2.2.2.2.2.2.1  z76.2 M O 5 (-1) 0 h78) wd_4_138 wd_4_139 wd_1_0 wd_4_140 ⟨by decide, by decide, by decide +kernel⟩ ⟨Nat.le_of_ble_eq_true rfl, Nat.le_of_ble_eq_true rfl⟩ ⟨by simp only [rmd]; omega, by simp only [rmd]; omega⟩ rfl rfl (Nat.le_of_ble_eq_true rfl) dL_areTransfersRight_51 ?_
        refine x_nmIB (fun z79 ez79 => ?_)
        have hR := nmE hR ez79
        have hok := hok z79 ez79
        refine x_sipush (pc := 54) (v := (-20004)) C dL_areTransfersRight_54 (by decide) ?_
        refine x_icmp_ne (pc := 57) (tgt := 92) C dL_areTransfersRight_57 (by decide) (fun c80 => ?_) (fun c80 => ?_)
        · have hR := hR.trans (if_neg c80)
          have hok := hok.2 c80
          refine x_sub [1, 2, 3, 0] (ls2 := [(0, .ref (ad 176)), (1, .int x1), (2, .int x2), (3, .int r1)]) rfl ?_
          exact t_L_areTransfersRight_J92 C z79.2 x1 x2 r1 M O _ _ ⟨by omega, by omega⟩ _ hR hok
        · have hR := hR.trans (if_pos c80)
          have hok := hok.1 c80
          refine x_aload_n (pc := 60) (i := 0) C 1 dL_areTransfersRight_60 rfl rfl ?_
          refine x_bipush (pc := 61) (v := 6) C dL_areTransfersRight_61 (by decide) ?_
          refine x_iload_n (pc := 63) (i := 3) C 0 dL_areTransfersRight_63 rfl rfl ?_
          refine x_iconst (pc := 64) (v := 0) C dL_areTransfersRight_64 (by decide) ?_
          have h81 := hok.1
          have hok := hok.2
          refine x_cWS (pc := 65) (as := [.ref (ad 176), .int 6, .int r1, .int 0]) (n := 4) C (c_L_ask C.2.2.2.2.2.2.2.1  z79.2 M O 6 r1 0 h81) wd_4_138 wd_4_139 wd_1_0 wd_4_140 ⟨by decide, by decide, by decide +kernel⟩ ⟨Nat.le_of_ble_eq_true rfl, Nat.le_of_ble_eq_true rfl⟩ ⟨by simp only [rmd]; omega, by simp only [rmd]; omega⟩ rfl rfl (Nat.le_of_ble_eq_true rfl) dL_areTransfersRight_65 ?_
          refine x_nmIB (fun z82 ez82 => ?_)
          have hR := nmE hR ez82
          have hok := hok z82 ez82
          refine x_sipush (pc := 68) (v := (-20002)) C dL_areTransfersRight_68 (by decide) ?_
          refine x_icmp_ne (pc := 71) (tgt := 92) C dL_areTransfersRight_71 (by decide) (fun c83 => ?_) (fun c83 => ?_)
          · have hR := hR.trans (if_neg c83)
            have hok := hok.2 c83
            refine x_sub [1, 2, 3, 0] (ls2 := [(0, .ref (ad 176)), (1, .int x1), (2, .int x2), (3, .int r1)]) rfl ?_
            exact t_L_areTransfersRight_J92 C z82.2 x1 x2 r1 M O _ _ ⟨by omega, by omega⟩ _ hR hok
          · have hR := hR.trans (if_pos c83)
            have hok := hok.1 c83
            refine x_aload_n (pc := 74) (i := 0) C 1 dL_areTransfersRight_74 rfl rfl ?_
            refine x_bipush (pc := 75) (v := 7) C dL_areTransfersRight_75 (by decide) ?_
            refine x_iload_n (pc := 77) (i := 3) C 0 dL_areTransfersRight_77 rfl rfl ?_
            refine x_iconst (pc := 78) (v := 0) C dL_areTransfersRight_78 (by decide) ?_
            have h84 := hok.1
            have hok := hok.2
            refine x_cWS (pc := 79) (as := [.ref (ad 176), .int 7, .int r1, .int 0]) (n := 4) C (c_L_ask C.2.2.2.2.2.2.2.1  z82.2 M O 7 r1 0 h84) wd_4_138 wd_4_139 wd_1_0 wd_4_140 ⟨by decide, by decide, by decide +kernel⟩ ⟨Nat.le_of_ble_eq_true rfl, Nat.le_of_ble_eq_true rfl⟩ ⟨by simp only [rmd]; omega, by simp only [rmd]; omega⟩ rfl rfl (Nat.le_of_ble_eq_true rfl) dL_areTransfersRight_79 ?_
            refine x_nmIB (fun z85 ez85 => ?_)
            have hR := nmE hR ez85
            have hok := hok z85 ez85
            refine x_sipush (pc := 82) (v := (-20002)) C dL_areTransfersRight_82 (by decide) ?_
            refine x_icmp_ne (pc := 85) (tgt := 92) C dL_areTransfersRight_85 (by decide) (fun c86 => ?_) (fun c86 => ?_)
            · have hR := hR.trans (if_neg c86)
              have hok := hok.2 c86
              refine x_sub [1, 2, 3, 0] (ls2 := [(0, .ref (ad 176)), (1, .int x1), (2, .int x2), (3, .int r1)]) rfl ?_
              exact t_L_areTransfersRight_J92 C z85.2 x1 x2 r1 M O _ _ ⟨by omega, by omega⟩ _ hR hok
            · have hR := hR.trans (if_pos c86)
              have hok := hok.1 c86
              refine x_iconst (pc := 88) (v := 1) C dL_areTransfersRight_88 (by decide) ?_
              refine x_goto (pc := 89) (tgt := 93) C dL_areTransfersRight_89 (by decide) ?_
              refine x_sub [1, 2, 3, 0] (ls2 := [(0, .ref (ad 176)), (1, .int x1), (2, .int x2), (3, .int r1)]) rfl ?_
              exact t_L_areTransfersRight_J93 C z85.2 x1 x2 r1 1 M O _ _ ⟨by omega, by omega⟩ _ hR hok
set_option maxHeartbeats 4000000 in
set_option maxRecDepth 100000 in
theorem t_L_isJournalRight_L47 {p0 : Program} {l : Launch} {e : Env} {s : State} {m : MethodId} {args : Array Value} {below : List Frame} {meth : Method} {c : Code} {A : Nat → Prop} {G : GT} {ad : Nat → Nat} {Q : State → Prop} (C : CX p0 l s m args meth c A G ad cL_isJournalRight RL 6 (some .boolean))    (n : Nat) (B : StB) (a1 : Int32) (a2 : Int32) (a3 : Int32) (M : StM) (O : StO) : ∀ (cs0 ss0 : Nat) (hcs : cs0 + n * 0 ≤ 8 ∧ ss0 + n * 0 ≤ 48) (R0 : Int32) (hR : R0 = f_L_isJournalRight_L47 n B a1 a2 a3) (hok : ok_L_isJournalRight_L47 n B a1 a2 a3) (k : X p0 l e (rmd 22 8 48) s m args below meth c A G ad 6 (cs0 + n * 0) (ss0 + n * 0) Q B M O [(2, .int R0)] 149 []), X p0 l e (rmd 22 8 48) s m args below meth c A G ad 6 cs0 ss0 Q B M O [(0, .ref (ad 176)), (1, .int a1), (2, .int a2), (3, .int a3)] 47 [] := by
  induction n generalizing B a1 a2 a3 with
  | zero => intro cs0 ss0 hcs R0 hR hok k; exact False.elim hok
  | succ n ih =>
    intro cs0 ss0 hcs R0 hR hok k
    have hR : R0 = (if a1 ≤ a3 then a2 else (nm (f_X6_movementKind_n B a3) (fun (r5 : Int32) => (if r5 = 100 then (if a2 = 0 then (f_L_isJournalRight_L47 n B a1 0 (a3 + 1)) else (nm (f_X6_movementAmount_n B a3) (fun (r10 : Int32) => (if r10 ≤ 0 then (f_L_isJournalRight_L47 n B a1 0 (a3 + 1)) else (nm (f_X6_movementAccount_n B a3) (fun (r13 : Int32) => (nm (f_X6_accountCount B) (fun (r14 : Int32) => (if r14 ≤ r13 then (f_L_isJournalRight_L47 n B a1 0 (a3 + 1)) else (f_L_isJournalRight_L47 n B a1 1 (a3 + 1))))))))))) else (if r5 = 119 then (if a2 = 0 then (f_L_isJournalRight_L47 n B a1 0 (a3 + 1)) else (nm (f_X6_movementAmount_n B a3) (fun (r20 : Int32) => (if r20 ≤ 0 then (f_L_isJournalRight_L47 n B a1 0 (a3 + 1)) else (nm (f_X6_movementAccount_n B a3) (fun (r23 : Int32) => (nm (f_X6_accountCount B) (fun (r24 : Int32) => (if r24 ≤ r23 then (f_L_isJournalRight_L47 n B a1 0 (a3 + 1)) else (f_L_isJournalRight_L47 n B a1 1 (a3 + 1))))))))))) else (if r5 = 116 then (if a2 = 0 then (f_L_isJournalRight_L47 n B a1 0 (a3 + 1)) else (nm (f_X6_movementAmount_n B a3) (fun (r30 : Int32) => (if r30 ≤ 0 then (f_L_isJournalRight_L47 n B a1 0 (a3 + 1)) else (nm (f_X6_movementAccount_n B a3) (fun (r33 : Int32) => (nm (f_X6_accountCount B) (fun (r34 : Int32) => (if r34 ≤ r33 then (f_L_isJournalRight_L47 n B a1 0 (a3 + 1)) else (f_L_isJournalRight_L47 n B a1 1 (a3 + 1))))))))))) else (if r5 = 105 then (if a2 = 0 then (f_L_isJournalRight_L47 n B a1 0 (a3 + 1)) else (nm (f_X6_movementAmount_n B a3) (fun (r40 : Int32) => (if r40 ≤ 0 then (f_L_isJournalRight_L47 n B a1 0 (a3 + 1)) else (nm (f_X6_movementAccount_n B a3) (fun (r43 : Int32) => (nm (f_X6_accountCount B) (fun (r44 : Int32) => (if r44 ≤ r43 then (f_L_isJournalRight_L47 n B a1 0 (a3 + 1)) else (f_L_isJournalRight_L47 n B a1 1 (a3 + 1))))))))))) else (if r5 = 99 then (if a2 = 0 then (f_L_isJournalRight_L47 n B a1 0 (a3 + 1)) else (nm (f_X6_movementAmount_n B a3) (fun (r50 : Int32) => (if r50 ≤ 0 then (f_L_isJournalRight_L47 n B a1 0 (a3 + 1)) else (nm (f_X6_movementAccount_n B a3) (fun (r53 : Int32) => (nm (f_X6_accountCount B) (fun (r54 : Int32) => (if r54 ≤ r53 then (f_L_isJournalRight_L47 n B a1 0 (a3 + 1)) else (f_L_isJournalRight_L47 n B a1 1 (a3 + 1))))))))))) else (if r5 = 102 then (if a2 = 0 then (f_L_isJournalRight_L47 n B a1 0 (a3 + 1)) else (nm (f_X6_movementAmount_n B a3) (fun (r62 : Int32) => (if r62 ≤ 0 then (f_L_isJournalRight_L47 n B a1 0 (a3 + 1)) else (nm (f_X6_movementAccount_n B a3) (fun (r65 : Int32) => (nm (f_X6_accountCount B) (fun (r66 : Int32) => (if r66 ≤ r65 then (f_L_isJournalRight_L47 n B a1 0 (a3 + 1)) else (f_L_isJournalRight_L47 n B a1 1 (a3 + 1))))))))))) else (if a2 = 0 then (f_L_isJournalRight_L47 n B a1 0 (a3 + 1)) else (f_L_isJournalRight_L47 n B a1 0 (a3 + 1)))))))))))) := hR
    have hok : ((a1 ≤ a3 → True) ∧ (¬ a1 ≤ a3 → ((ok_X6_movementKind_n B a3) ∧ (∀ r5 : Int32, r5 = (f_X6_movementKind_n B a3) → ((r5 = 100 → ((a2 = 0 → (ok_L_isJournalRight_L47 n B a1 0 (a3 + 1))) ∧ (¬ a2 = 0 → ((ok_X6_movementAmount_n B a3) ∧ (∀ r10 : Int32, r10 = (f_X6_movementAmount_n B a3) → ((r10 ≤ 0 → (ok_L_isJournalRight_L47 n B a1 0 (a3 + 1))) ∧ (¬ r10 ≤ 0 → ((ok_X6_movementAccount_n B a3) ∧ (∀ r13 : Int32, r13 = (f_X6_movementAccount_n B a3) → (∀ r14 : Int32, r14 = (f_X6_accountCount B) → ((r14 ≤ r13 → (ok_L_isJournalRight_L47 n B a1 0 (a3 + 1))) ∧ (¬ r14 ≤ r13 → (ok_L_isJournalRight_L47 n B a1 1 (a3 + 1)))))))))))))) ∧ (¬ r5 = 100 → ((r5 = 119 → ((a2 = 0 → (ok_L_isJournalRight_L47 n B a1 0 (a3 + 1))) ∧ (¬ a2 = 0 → ((ok_X6_movementAmount_n B a3) ∧ (∀ r20 : Int32, r20 = (f_X6_movementAmount_n B a3) → ((r20 ≤ 0 → (ok_L_isJournalRight_L47 n B a1 0 (a3 + 1))) ∧ (¬ r20 ≤ 0 → ((ok_X6_movementAccount_n B a3) ∧ (∀ r23 : Int32, r23 = (f_X6_movementAccount_n B a3) → (∀ r24 : Int32, r24 = (f_X6_accountCount B) → ((r24 ≤ r23 → (ok_L_isJournalRight_L47 n B a1 0 (a3 + 1))) ∧ (¬ r24 ≤ r23 → (ok_L_isJournalRight_L47 n B a1 1 (a3 + 1)))))))))))))) ∧ (¬ r5 = 119 → ((r5 = 116 → ((a2 = 0 → (ok_L_isJournalRight_L47 n B a1 0 (a3 + 1))) ∧ (¬ a2 = 0 → ((ok_X6_movementAmount_n B a3) ∧ (∀ r30 : Int32, r30 = (f_X6_movementAmount_n B a3) → ((r30 ≤ 0 → (ok_L_isJournalRight_L47 n B a1 0 (a3 + 1))) ∧ (¬ r30 ≤ 0 → ((ok_X6_movementAccount_n B a3) ∧ (∀ r33 : Int32, r33 = (f_X6_movementAccount_n B a3) → (∀ r34 : Int32, r34 = (f_X6_accountCount B) → ((r34 ≤ r33 → (ok_L_isJournalRight_L47 n B a1 0 (a3 + 1))) ∧ (¬ r34 ≤ r33 → (ok_L_isJournalRight_L47 n B a1 1 (a3 + 1)))))))))))))) ∧ (¬ r5 = 116 → ((r5 = 105 → ((a2 = 0 → (ok_L_isJournalRight_L47 n B a1 0 (a3 + 1))) ∧ (¬ a2 = 0 → ((ok_X6_movementAmount_n B a3) ∧ (∀ r40 : Int32, r40 = (f_X6_movementAmount_n B a3) → ((r40 ≤ 0 → (ok_L_isJournalRight_L47 n B a1 0 (a3 + 1))) ∧ (¬ r40 ≤ 0 → ((ok_X6_movementAccount_n B a3) ∧ (∀ r43 : Int32, r43 = (f_X6_movementAccount_n B a3) → (∀ r44 : Int32, r44 = (f_X6_accountCount B) → ((r44 ≤ r43 → (ok_L_isJournalRight_L47 n B a1 0 (a3 + 1))) ∧ (¬ r44 ≤ r43 → (ok_L_isJournalRight_L47 n B a1 1 (a3 + 1)))))))))))))) ∧ (¬ r5 = 105 → ((r5 = 99 → ((a2 = 0 → (ok_L_isJournalRight_L47 n B a1 0 (a3 + 1))) ∧ (¬ a2 = 0 → ((ok_X6_movementAmount_n B a3) ∧ (∀ r50 : Int32, r50 = (f_X6_movementAmount_n B a3) → ((r50 ≤ 0 → (ok_L_isJournalRight_L47 n B a1 0 (a3 + 1))) ∧ (¬ r50 ≤ 0 → ((ok_X6_movementAccount_n B a3) ∧ (∀ r53 : Int32, r53 = (f_X6_movementAccount_n B a3) → (∀ r54 : Int32, r54 = (f_X6_accountCount B) → ((r54 ≤ r53 → (ok_L_isJournalRight_L47 n B a1 0 (a3 + 1))) ∧ (¬ r54 ≤ r53 → (ok_L_isJournalRight_L47 n B a1 1 (a3 + 1)))))))))))))) ∧ (¬ r5 = 99 → ((r5 = 102 → ((a2 = 0 → (ok_L_isJournalRight_L47 n B a1 0 (a3 + 1))) ∧ (¬ a2 = 0 → ((ok_X6_movementAmount_n B a3) ∧ (∀ r62 : Int32, r62 = (f_X6_movementAmount_n B a3) → ((r62 ≤ 0 → (ok_L_isJournalRight_L47 n B a1 0 (a3 + 1))) ∧ (¬ r62 ≤ 0 → ((ok_X6_movementAccount_n B a3) ∧ (∀ r65 : Int32, r65 = (f_X6_movementAccount_n B a3) → (∀ r66 : Int32, r66 = (f_X6_accountCount B) → ((r66 ≤ r65 → (ok_L_isJournalRight_L47 n B a1 0 (a3 + 1))) ∧ (¬ r66 ≤ r65 → (ok_L_isJournalRight_L47 n B a1 1 (a3 + 1)))))))))))))) ∧ (¬ r5 = 102 → ((a2 = 0 → (ok_L_isJournalRight_L47 n B a1 0 (a3 + 1))) ∧ (¬ a2 = 0 → (ok_L_isJournalRight_L47 n B a1 0 (a3 + 1)))))))))))))))))))) := hok
    refine x_iload_n (pc := 47) (i := 3) C 3 dL_isJournalRight_47 rfl rfl ?_
    refine x_iload_n (pc := 48) (i := 1) C 1 dL_isJournalRight_48 rfl rfl ?_
    refine x_icmp_ge (pc := 49) (tgt := 149) C dL_isJournalRight_49 (by decide) (fun c3 => ?_) (fun c3 => ?_)
    · have hR := hR.trans (if_pos c3)
      refine x_sub [2] (ls2 := [(2, .int a2)]) rfl ?_
      subst hR
      exact x_wid (by omega) (by omega) k
    · have hR := hR.trans (if_neg c3)
      have hok := hok.2 c3
      refine x_aload_n (pc := 52) (i := 0) C 0 dL_isJournalRight_52 rfl rfl ?_
      refine x_iload_n (pc := 53) (i := 3) C 3 dL_isJournalRight_53 rfl rfl ?_
      have h4 := hok.1
      have hok := hok.2
      refine x_cIV (pc := 54) (as := [.int a3]) (q := 176) C (c_X6_movementKind_n C.2.2.2.2.2.2.2.1  B M O a3 h4) (fs := _) e_I rfl cv_X6_movementKind cd_X6_movementKind wd_6_145 ⟨Nat.le_of_ble_eq_true rfl, Nat.le_of_ble_eq_true rfl⟩ ⟨by simp only [rmd]; omega, by simp only [rmd]; omega⟩ rfl rfl (Nat.le_of_ble_eq_true rfl) dL_isJournalRight_54 ?_
      refine x_nmI (fun r5 er5 => ?_)
      have hR := nmE hR er5
      have hok := hok r5 er5
      refine x_istore (pc := 57) (i := 4) (ls2 := [(4, .int r5), (0, .ref (ad 176)), (1, .int a1), (2, .int a2), (3, .int a3)]) C dL_isJournalRight_57 (by decide) rfl ?_
      refine x_iload (pc := 59) (i := 4) C 0 dL_isJournalRight_59 rfl ?_
      refine x_bipush (pc := 61) (v := 100) C dL_isJournalRight_61 (by decide) ?_
      refine x_icmp_eq (pc := 63) (tgt := 101) C dL_isJournalRight_63 (by decide) (fun c6 => ?_) (fun c6 => ?_)
      · have hR := hR.trans (if_pos c6)
        have hok := hok.1 c6
        refine x_iconst (pc := 101) (v := 1) C dL_isJournalRight_101 (by decide) ?_
        refine x_goto (pc := 102) (tgt := 106) C dL_isJournalRight_102 (by decide) ?_
        refine x_istore (pc := 106) (i := 5) (ls2 := [(5, .int 1), (4, .int r5), (0, .ref (ad 176)), (1, .int a1), (2, .int a2), (3, .int a3)]) C dL_isJournalRight_106 (by decide) rfl ?_
        refine x_iload_n (pc := 108) (i := 2) C 4 dL_isJournalRight_108 rfl rfl ?_
        refine x_if_eq (pc := 109) (tgt := 141) C dL_isJournalRight_109 (by decide) (fun c7 => ?_) (fun c7 => ?_)
        · have hR := hR.trans (if_pos c7)
          have hok := hok.1 c7
          refine x_iconst (pc := 141) (v := 0) C dL_isJournalRight_141 (by decide) ?_
          refine x_istore_n (pc := 142) (i := 2) (ls2 := [(2, .int 0), (5, .int 1), (4, .int r5), (0, .ref (ad 176)), (1, .int a1), (3, .int a3)]) C dL_isJournalRight_142 rfl (by decide) rfl ?_
          refine x_iinc (pc := 143) (i := 3) (v := (a3 + 1)) (ls2 := [(3, .int (a3 + 1)), (2, .int 0), (5, .int 1), (4, .int r5), (0, .ref (ad 176)), (1, .int a1)]) C 5 dL_isJournalRight_143 rfl rfl (by decide) rfl ?_
          refine x_goto (pc := 146) (tgt := 47) C dL_isJournalRight_146 (by decide) ?_
          refine x_sub [4, 5, 1, 0] (ls2 := [(0, .ref (ad 176)), (1, .int a1), (2, .int 0), (3, .int (a3 + 1))]) rfl ?_
          refine x_wid (k0 := cs0 + 0) (n0 := ss0 + 0) (by omega) (by omega) ?_
          exact ih B a1 0 (a3 + 1) _ _ ⟨by omega, by omega⟩ R0 hR hok (x_wid (by omega) (by omega) k)
        · have hR := hR.trans (if_neg c7)
          have hok := hok.2 c7
          refine x_iload (pc := 112) (i := 5) C 0 dL_isJournalRight_112 rfl ?_
          refine x_if_eq (pc := 114) (tgt := 141) C dL_isJournalRight_114 (by decide) (fun hf => absurd hf (by decide)) (fun _ => ?_)
          refine x_aload_n (pc := 117) (i := 0) C 2 dL_isJournalRight_117 rfl rfl ?_
          refine x_iload_n (pc := 118) (i := 3) C 5 dL_isJournalRight_118 rfl rfl ?_
          have h9 := hok.1
          have hok := hok.2
          refine x_cIV (pc := 119) (as := [.int a3]) (q := 176) C (c_X6_movementAmount_n C.2.2.2.2.2.2.2.1  B M O a3 h9) (fs := _) e_I rfl cv_X6_movementAmount cd_X6_movementAmount wd_4_210 ⟨Nat.le_of_ble_eq_true rfl, Nat.le_of_ble_eq_true rfl⟩ ⟨by simp only [rmd]; omega, by simp only [rmd]; omega⟩ rfl rfl (Nat.le_of_ble_eq_true rfl) dL_isJournalRight_119 ?_
          refine x_nmI (fun r10 er10 => ?_)
          have hR := nmE hR er10
          have hok := hok r10 er10
          refine x_if_le (pc := 122) (tgt := 141) C dL_isJournalRight_122 (by decide) (fun c11 => ?_) (fun c11 => ?_)
          · have hR := hR.trans (if_pos c11)
            have hok := hok.1 c11
            refine x_iconst (pc := 141) (v := 0) C dL_isJournalRight_141 (by decide) ?_
            refine x_istore_n (pc := 142) (i := 2) (ls2 := [(2, .int 0), (5, .int 1), (4, .int r5), (0, .ref (ad 176)), (1, .int a1), (3, .int a3)]) C dL_isJournalRight_142 rfl (by decide) rfl ?_
            refine x_iinc (pc := 143) (i := 3) (v := (a3 + 1)) (ls2 := [(3, .int (a3 + 1)), (2, .int 0), (5, .int 1), (4, .int r5), (0, .ref (ad 176)), (1, .int a1)]) C 5 dL_isJournalRight_143 rfl rfl (by decide) rfl ?_
            refine x_goto (pc := 146) (tgt := 47) C dL_isJournalRight_146 (by decide) ?_
            refine x_sub [4, 5, 1, 0] (ls2 := [(0, .ref (ad 176)), (1, .int a1), (2, .int 0), (3, .int (a3 + 1))]) rfl ?_
            refine x_wid (k0 := cs0 + 0) (n0 := ss0 + 0) (by omega) (by omega) ?_
            exact ih B a1 0 (a3 + 1) _ _ ⟨by omega, by omega⟩ R0 hR hok (x_wid (by omega) (by omega) k)
          · have hR := hR.trans (if_neg c11)
            have hok := hok.2 c11
            refine x_aload_n (pc := 125) (i := 0) C 2 dL_isJournalRight_125 rfl rfl ?_
            refine x_iload_n (pc := 126) (i := 3) C 5 dL_isJournalRight_126 rfl rfl ?_
            have h12 := hok.1
            have hok := hok.2
            refine x_cIV (pc := 127) (as := [.int a3]) (q := 176) C (c_X6_movementAccount_n C.2.2.2.2.2.2.2.1  B M O a3 h12) (fs := _) e_I rfl cv_X6_movementAccount cd_X6_movementAccount wd_6_149 ⟨Nat.le_of_ble_eq_true rfl, Nat.le_of_ble_eq_true rfl⟩ ⟨by simp only [rmd]; omega, by simp only [rmd]; omega⟩ rfl rfl (Nat.le_of_ble_eq_true rfl) dL_isJournalRight_127 ?_
            refine x_nmI (fun r13 er13 => ?_)
            have hR := nmE hR er13
            have hok := hok r13 er13
            refine x_aload_n (pc := 130) (i := 0) C 2 dL_isJournalRight_130 rfl rfl ?_
            refine x_cIV (pc := 131) (as := []) (q := 176) C (c_X6_accountCount C.2.2.2.2.2.2.2.1  B M O ) (fs := _) e_I rfl cv_X6_accountCount cd_X6_accountCount wd_2_61 ⟨Nat.le_of_ble_eq_true rfl, Nat.le_of_ble_eq_true rfl⟩ ⟨by simp only [rmd]; omega, by simp only [rmd]; omega⟩ rfl rfl (Nat.le_of_ble_eq_true rfl) dL_isJournalRight_131 ?_
            refine x_nmI (fun r14 er14 => ?_)
            have hR := nmE hR er14
            have hok := hok r14 er14
            refine x_icmp_ge (pc := 134) (tgt := 141) C dL_isJournalRight_134 (by decide) (fun c15 => ?_) (fun c15 => ?_)
            · have hR := hR.trans (if_pos c15)
              have hok := hok.1 c15
              refine x_iconst (pc := 141) (v := 0) C dL_isJournalRight_141 (by decide) ?_
              refine x_istore_n (pc := 142) (i := 2) (ls2 := [(2, .int 0), (5, .int 1), (4, .int r5), (0, .ref (ad 176)), (1, .int a1), (3, .int a3)]) C dL_isJournalRight_142 rfl (by decide) rfl ?_
              refine x_iinc (pc := 143) (i := 3) (v := (a3 + 1)) (ls2 := [(3, .int (a3 + 1)), (2, .int 0), (5, .int 1), (4, .int r5), (0, .ref (ad 176)), (1, .int a1)]) C 5 dL_isJournalRight_143 rfl rfl (by decide) rfl ?_
              refine x_goto (pc := 146) (tgt := 47) C dL_isJournalRight_146 (by decide) ?_
              refine x_sub [4, 5, 1, 0] (ls2 := [(0, .ref (ad 176)), (1, .int a1), (2, .int 0), (3, .int (a3 + 1))]) rfl ?_
              refine x_wid (k0 := cs0 + 0) (n0 := ss0 + 0) (by omega) (by omega) ?_
              exact ih B a1 0 (a3 + 1) _ _ ⟨by omega, by omega⟩ R0 hR hok (x_wid (by omega) (by omega) k)
            · have hR := hR.trans (if_neg c15)
              have hok := hok.2 c15
              refine x_iconst (pc := 137) (v := 1) C dL_isJournalRight_137 (by decide) ?_
              refine x_goto (pc := 138) (tgt := 142) C dL_isJournalRight_138 (by decide) ?_
              refine x_istore_n (pc := 142) (i := 2) (ls2 := [(2, .int 1), (5, .int 1), (4, .int r5), (0, .ref (ad 176)), (1, .int a1), (3, .int a3)]) C dL_isJournalRight_142 rfl (by decide) rfl ?_
              refine x_iinc (pc := 143) (i := 3) (v := (a3 + 1)) (ls2 := [(3, .int (a3 + 1)), (2, .int 1), (5, .int 1), (4, .int r5), (0, .ref (ad 176)), (1, .int a1)]) C 5 dL_isJournalRight_143 rfl rfl (by decide) rfl ?_
              refine x_goto (pc := 146) (tgt := 47) C dL_isJournalRight_146 (by decide) ?_
              refine x_sub [4, 5, 1, 0] (ls2 := [(0, .ref (ad 176)), (1, .int a1), (2, .int 1), (3, .int (a3 + 1))]) rfl ?_
              refine x_wid (k0 := cs0 + 0) (n0 := ss0 + 0) (by omega) (by omega) ?_
              exact ih B a1 1 (a3 + 1) _ _ ⟨by omega, by omega⟩ R0 hR hok (x_wid (by omega) (by omega) k)
      · have hR := hR.trans (if_neg c6)
        have hok := hok.2 c6
        refine x_iload (pc := 66) (i := 4) C 0 dL_isJournalRight_66 rfl ?_
        refine x_bipush (pc := 68) (v := 119) C dL_isJournalRight_68 (by decide) ?_
        refine x_icmp_eq (pc := 70) (tgt := 101) C dL_isJournalRight_70 (by decide) (fun c16 => ?_) (fun c16 => ?_)
        · have hR := hR.trans (if_pos c16)
          have hok := hok.1 c16
          refine x_iconst (pc := 101) (v := 1) C dL_isJournalRight_101 (by decide) ?_
          refine x_goto (pc := 102) (tgt := 106) C dL_isJournalRight_102 (by decide) ?_
          refine x_istore (pc := 106) (i := 5) (ls2 := [(5, .int 1), (4, .int r5), (0, .ref (ad 176)), (1, .int a1), (2, .int a2), (3, .int a3)]) C dL_isJournalRight_106 (by decide) rfl ?_
          refine x_iload_n (pc := 108) (i := 2) C 4 dL_isJournalRight_108 rfl rfl ?_
          refine x_if_eq (pc := 109) (tgt := 141) C dL_isJournalRight_109 (by decide) (fun c17 => ?_) (fun c17 => ?_)
          · have hR := hR.trans (if_pos c17)
            have hok := hok.1 c17
            refine x_iconst (pc := 141) (v := 0) C dL_isJournalRight_141 (by decide) ?_
            refine x_istore_n (pc := 142) (i := 2) (ls2 := [(2, .int 0), (5, .int 1), (4, .int r5), (0, .ref (ad 176)), (1, .int a1), (3, .int a3)]) C dL_isJournalRight_142 rfl (by decide) rfl ?_
            refine x_iinc (pc := 143) (i := 3) (v := (a3 + 1)) (ls2 := [(3, .int (a3 + 1)), (2, .int 0), (5, .int 1), (4, .int r5), (0, .ref (ad 176)), (1, .int a1)]) C 5 dL_isJournalRight_143 rfl rfl (by decide) rfl ?_
            refine x_goto (pc := 146) (tgt := 47) C dL_isJournalRight_146 (by decide) ?_
            refine x_sub [4, 5, 1, 0] (ls2 := [(0, .ref (ad 176)), (1, .int a1), (2, .int 0), (3, .int (a3 + 1))]) rfl ?_
            refine x_wid (k0 := cs0 + 0) (n0 := ss0 + 0) (by omega) (by omega) ?_
            exact ih B a1 0 (a3 + 1) _ _ ⟨by omega, by omega⟩ R0 hR hok (x_wid (by omega) (by omega) k)
          · have hR := hR.trans (if_neg c17)
            have hok := hok.2 c17
            refine x_iload (pc := 112) (i := 5) C 0 dL_isJournalRight_112 rfl ?_
            refine x_if_eq (pc := 114) (tgt := 141) C dL_isJournalRight_114 (by decide) (fun hf => absurd hf (by decide)) (fun _ => ?_)
            refine x_aload_n (pc := 117) (i := 0) C 2 dL_isJournalRight_117 rfl rfl ?_
            refine x_iload_n (pc := 118) (i := 3) C 5 dL_isJournalRight_118 rfl rfl ?_
            have h19 := hok.1
            have hok := hok.2
            refine x_cIV (pc := 119) (as := [.int a3]) (q := 176) C (c_X6_movementAmount_n C.2.2.2.2.2.2.2.1  B M O a3 h19) (fs := _) e_I rfl cv_X6_movementAmount cd_X6_movementAmount wd_4_210 ⟨Nat.le_of_ble_eq_true rfl, Nat.le_of_ble_eq_true rfl⟩ ⟨by simp only [rmd]; omega, by simp only [rmd]; omega⟩ rfl rfl (Nat.le_of_ble_eq_true rfl) dL_isJournalRight_119 ?_
            refine x_nmI (fun r20 er20 => ?_)
            have hR := nmE hR er20
            have hok := hok r20 er20
            refine x_if_le (pc := 122) (tgt := 141) C dL_isJournalRight_122 (by decide) (fun c21 => ?_) (fun c21 => ?_)
            · have hR := hR.trans (if_pos c21)
              have hok := hok.1 c21
              refine x_iconst (pc := 141) (v := 0) C dL_isJournalRight_141 (by decide) ?_
              refine x_istore_n (pc := 142) (i := 2) (ls2 := [(2, .int 0), (5, .int 1), (4, .int r5), (0, .ref (ad 176)), (1, .int a1), (3, .int a3)]) C dL_isJournalRight_142 rfl (by decide) rfl ?_
              refine x_iinc (pc := 143) (i := 3) (v := (a3 + 1)) (ls2 := [(3, .int (a3 + 1)), (2, .int 0), (5, .int 1), (4, .int r5), (0, .ref (ad 176)), (1, .int a1)]) C 5 dL_isJournalRight_143 rfl rfl (by decide) rfl ?_
              refine x_goto (pc := 146) (tgt := 47) C dL_isJournalRight_146 (by decide) ?_
              refine x_sub [4, 5, 1, 0] (ls2 := [(0, .ref (ad 176)), (1, .int a1), (2, .int 0), (3, .int (a3 + 1))]) rfl ?_
              refine x_wid (k0 := cs0 + 0) (n0 := ss0 + 0) (by omega) (by omega) ?_
              exact ih B a1 0 (a3 + 1) _ _ ⟨by omega, by omega⟩ R0 hR hok (x_wid (by omega) (by omega) k)
            · have hR := hR.trans (if_neg c21)
              have hok := hok.2 c21
              refine x_aload_n (pc := 125) (i := 0) C 2 dL_isJournalRight_125 rfl rfl ?_
              refine x_iload_n (pc := 126) (i := 3) C 5 dL_isJournalRight_126 rfl rfl ?_
              have h22 := hok.1
              have hok := hok.2
              refine x_cIV (pc := 127) (as := [.int a3]) (q := 176) C (c_X6_movementAccount_n C.2.2.2.2.2.2.2.1  B M O a3 h22) (fs := _) e_I rfl cv_X6_movementAccount cd_X6_movementAccount wd_6_149 ⟨Nat.le_of_ble_eq_true rfl, Nat.le_of_ble_eq_true rfl⟩ ⟨by simp only [rmd]; omega, by simp only [rmd]; omega⟩ rfl rfl (Nat.le_of_ble_eq_true rfl) dL_isJournalRight_127 ?_
              refine x_nmI (fun r23 er23 => ?_)
              have hR := nmE hR er23
              have hok := hok r23 er23
              refine x_aload_n (pc := 130) (i := 0) C 2 dL_isJournalRight_130 rfl rfl ?_
              refine x_cIV (pc := 131) (as := []) (q := 176) C (c_X6_accountCount C.2.2.2.2.2.2.2.1  B M O ) (fs := _) e_I rfl cv_X6_accountCount cd_X6_accountCount wd_2_61 ⟨Nat.le_of_ble_eq_true rfl, Nat.le_of_ble_eq_true rfl⟩ ⟨by simp only [rmd]; omega, by simp only [rmd]; omega⟩ rfl rfl (Nat.le_of_ble_eq_true rfl) dL_isJournalRight_131 ?_
              refine x_nmI (fun r24 er24 => ?_)
              have hR := nmE hR er24
              have hok := hok r24 er24
              refine x_icmp_ge (pc := 134) (tgt := 141) C dL_isJournalRight_134 (by decide) (fun c25 => ?_) (fun c25 => ?_)
              · have hR := hR.trans (if_pos c25)
                have hok := hok.1 c25
                refine x_iconst (pc := 141) (v := 0) C dL_isJournalRight_141 (by decide) ?_
                refine x_istore_n (pc := 142) (i := 2) (ls2 := [(2, .int 0), (5, .int 1), (4, .int r5), (0, .ref (ad 176)), (1, .int a1), (3, .int a3)]) C dL_isJournalRight_142 rfl (by decide) rfl ?_
                refine x_iinc (pc := 143) (i := 3) (v := (a3 + 1)) (ls2 := [(3, .int (a3 + 1)), (2, .int 0), (5, .int 1), (4, .int r5), (0, .ref (ad 176)), (1, .int a1)]) C 5 dL_isJournalRight_143 rfl rfl (by decide) rfl ?_
                refine x_goto (pc := 146) (tgt := 47) C dL_isJournalRight_146 (by decide) ?_
                refine x_sub [4, 5, 1, 0] (ls2 := [(0, .ref (ad 176)), (1, .int a1), (2, .int 0), (3, .int (a3 + 1))]) rfl ?_
                refine x_wid (k0 := cs0 + 0) (n0 := ss0 + 0) (by omega) (by omega) ?_
                exact ih B a1 0 (a3 + 1) _ _ ⟨by omega, by omega⟩ R0 hR hok (x_wid (by omega) (by omega) k)
              · have hR := hR.trans (if_neg c25)
                have hok := hok.2 c25
                refine x_iconst (pc := 137) (v := 1) C dL_isJournalRight_137 (by decide) ?_
                refine x_goto (pc := 138) (tgt := 142) C dL_isJournalRight_138 (by decide) ?_
                refine x_istore_n (pc := 142) (i := 2) (ls2 := [(2, .int 1), (5, .int 1), (4, .int r5), (0, .ref (ad 176)), (1, .int a1), (3, .int a3)]) C dL_isJournalRight_142 rfl (by decide) rfl ?_
                refine x_iinc (pc := 143) (i := 3) (v := (a3 + 1)) (ls2 := [(3, .int (a3 + 1)), (2, .int 1), (5, .int 1), (4, .int r5), (0, .ref (ad 176)), (1, .int a1)]) C 5 dL_isJournalRight_143 rfl rfl (by decide) rfl ?_
                refine x_goto (pc := 146) (tgt := 47) C dL_isJournalRight_146 (by decide) ?_
                refine x_sub [4, 5, 1, 0] (ls2 := [(0, .ref (ad 176)), (1, .int a1), (2, .int 1), (3, .int (a3 + 1))]) rfl ?_
                refine x_wid (k0 := cs0 + 0) (n0 := ss0 + 0) (by omega) (by omega) ?_
                exact ih B a1 1 (a3 + 1) _ _ ⟨by omega, by omega⟩ R0 hR hok (x_wid (by omega) (by omega) k)
        · have hR := hR.trans (if_neg c16)
          have hok := hok.2 c16
          refine x_iload (pc := 73) (i := 4) C 0 dL_isJournalRight_73 rfl ?_
          refine x_bipush (pc := 75) (v := 116) C dL_isJournalRight_75 (by decide) ?_
          refine x_icmp_eq (pc := 77) (tgt := 101) C dL_isJournalRight_77 (by decide) (fun c26 => ?_) (fun c26 => ?_)
          · have hR := hR.trans (if_pos c26)
            have hok := hok.1 c26
            refine x_iconst (pc := 101) (v := 1) C dL_isJournalRight_101 (by decide) ?_
            refine x_goto (pc := 102) (tgt := 106) C dL_isJournalRight_102 (by decide) ?_
            refine x_istore (pc := 106) (i := 5) (ls2 := [(5, .int 1), (4, .int r5), (0, .ref (ad 176)), (1, .int a1), (2, .int a2), (3, .int a3)]) C dL_isJournalRight_106 (by decide) rfl ?_
            refine x_iload_n (pc := 108) (i := 2) C 4 dL_isJournalRight_108 rfl rfl ?_
            refine x_if_eq (pc := 109) (tgt := 141) C dL_isJournalRight_109 (by decide) (fun c27 => ?_) (fun c27 => ?_)
            · have hR := hR.trans (if_pos c27)
              have hok := hok.1 c27
              refine x_iconst (pc := 141) (v := 0) C dL_isJournalRight_141 (by decide) ?_
              refine x_istore_n (pc := 142) (i := 2) (ls2 := [(2, .int 0), (5, .int 1), (4, .int r5), (0, .ref (ad 176)), (1, .int a1), (3, .int a3)]) C dL_isJournalRight_142 rfl (by decide) rfl ?_
              refine x_iinc (pc := 143) (i := 3) (v := (a3 + 1)) (ls2 := [(3, .int (a3 + 1)), (2, .int 0), (5, .int 1), (4, .int r5), (0, .ref (ad 176)), (1, .int a1)]) C 5 dL_isJournalRight_143 rfl rfl (by decide) rfl ?_
              refine x_goto (pc := 146) (tgt := 47) C dL_isJournalRight_146 (by decide) ?_
              refine x_sub [4, 5, 1, 0] (ls2 := [(0, .ref (ad 176)), (1, .int a1), (2, .int 0), (3, .int (a3 + 1))]) rfl ?_
              refine x_wid (k0 := cs0 + 0) (n0 := ss0 + 0) (by omega) (by omega) ?_
              exact ih B a1 0 (a3 + 1) _ _ ⟨by omega, by omega⟩ R0 hR hok (x_wid (by omega) (by omega) k)
            · have hR := hR.trans (if_neg c27)
              have hok := hok.2 c27
              refine x_iload (pc := 112) (i := 5) C 0 dL_isJournalRight_112 rfl ?_
              refine x_if_eq (pc := 114) (tgt := 141) C dL_isJournalRight_114 (by decide) (fun hf => absurd hf (by decide)) (fun _ => ?_)
              refine x_aload_n (pc := 117) (i := 0) C 2 dL_isJournalRight_117 rfl rfl ?_
              refine x_iload_n (pc := 118) (i := 3) C 5 dL_isJournalRight_118 rfl rfl ?_
              have h29 := hok.1
              have hok := hok.2
              refine x_cIV (pc := 119) (as := [.int a3]) (q := 176) C (c_X6_movementAmount_n C.2.2.2.2.2.2.2.1  B M O a3 h29) (fs := _) e_I rfl cv_X6_movementAmount cd_X6_movementAmount wd_4_210 ⟨Nat.le_of_ble_eq_true rfl, Nat.le_of_ble_eq_true rfl⟩ ⟨by simp only [rmd]; omega, by simp only [rmd]; omega⟩ rfl rfl (Nat.le_of_ble_eq_true rfl) dL_isJournalRight_119 ?_
              refine x_nmI (fun r30 er30 => ?_)
              have hR := nmE hR er30
              have hok := hok r30 er30
              refine x_if_le (pc := 122) (tgt := 141) C dL_isJournalRight_122 (by decide) (fun c31 => ?_) (fun c31 => ?_)
              · have hR := hR.trans (if_pos c31)
                have hok := hok.1 c31
                refine x_iconst (pc := 141) (v := 0) C dL_isJournalRight_141 (by decide) ?_
                refine x_istore_n (pc := 142) (i := 2) (ls2 := [(2, .int 0), (5, .int 1), (4, .int r5), (0, .ref (ad 176)), (1, .int a1), (3, .int a3)]) C dL_isJournalRight_142 rfl (by decide) rfl ?_
                refine x_iinc (pc := 143) (i := 3) (v := (a3 + 1)) (ls2 := [(3, .int (a3 + 1)), (2, .int 0), (5, .int 1), (4, .int r5), (0, .ref (ad 176)), (1, .int a1)]) C 5 dL_isJournalRight_143 rfl rfl (by decide) rfl ?_
                refine x_goto (pc := 146) (tgt := 47) C dL_isJournalRight_146 (by decide) ?_
                refine x_sub [4, 5, 1, 0] (ls2 := [(0, .ref (ad 176)), (1, .int a1), (2, .int 0), (3, .int (a3 + 1))]) rfl ?_
                refine x_wid (k0 := cs0 + 0) (n0 := ss0 + 0) (by omega) (by omega) ?_
                exact ih B a1 0 (a3 + 1) _ _ ⟨by omega, by omega⟩ R0 hR hok (x_wid (by omega) (by omega) k)
              · have hR := hR.trans (if_neg c31)
                have hok := hok.2 c31
                refine x_aload_n (pc := 125) (i := 0) C 2 dL_isJournalRight_125 rfl rfl ?_
                refine x_iload_n (pc := 126) (i := 3) C 5 dL_isJournalRight_126 rfl rfl ?_
                have h32 := hok.1
                have hok := hok.2
                refine x_cIV (pc := 127) (as := [.int a3]) (q := 176) C (c_X6_movementAccount_n C.2.2.2.2.2.2.2.1  B M O a3 h32) (fs := _) e_I rfl cv_X6_movementAccount cd_X6_movementAccount wd_6_149 ⟨Nat.le_of_ble_eq_true rfl, Nat.le_of_ble_eq_true rfl⟩ ⟨by simp only [rmd]; omega, by simp only [rmd]; omega⟩ rfl rfl (Nat.le_of_ble_eq_true rfl) dL_isJournalRight_127 ?_
                refine x_nmI (fun r33 er33 => ?_)
                have hR := nmE hR er33
                have hok := hok r33 er33
                refine x_aload_n (pc := 130) (i := 0) C 2 dL_isJournalRight_130 rfl rfl ?_
                refine x_cIV (pc := 131) (as := []) (q := 176) C (c_X6_accountCount C.2.2.2.2.2.2.2.1  B M O ) (fs := _) e_I rfl cv_X6_accountCount cd_X6_accountCount wd_2_61 ⟨Nat.le_of_ble_eq_true rfl, Nat.le_of_ble_eq_true rfl⟩ ⟨by simp only [rmd]; omega, by simp only [rmd]; omega⟩ rfl rfl (Nat.le_of_ble_eq_true rfl) dL_isJournalRight_131 ?_
                refine x_nmI (fun r34 er34 => ?_)
                have hR := nmE hR er34
                have hok := hok r34 er34
                refine x_icmp_ge (pc := 134) (tgt := 141) C dL_isJournalRight_134 (by decide) (fun c35 => ?_) (fun c35 => ?_)
                · have hR := hR.trans (if_pos c35)
                  have hok := hok.1 c35
                  refine x_iconst (pc := 141) (v := 0) C dL_isJournalRight_141 (by decide) ?_
                  refine x_istore_n (pc := 142) (i := 2) (ls2 := [(2, .int 0), (5, .int 1), (4, .int r5), (0, .ref (ad 176)), (1, .int a1), (3, .int a3)]) C dL_isJournalRight_142 rfl (by decide) rfl ?_
                  refine x_iinc (pc := 143) (i := 3) (v := (a3 + 1)) (ls2 := [(3, .int (a3 + 1)), (2, .int 0), (5, .int 1), (4, .int r5), (0, .ref (ad 176)), (1, .int a1)]) C 5 dL_isJournalRight_143 rfl rfl (by decide) rfl ?_
                  refine x_goto (pc := 146) (tgt := 47) C dL_isJournalRight_146 (by decide) ?_
                  refine x_sub [4, 5, 1, 0] (ls2 := [(0, .ref (ad 176)), (1, .int a1), (2, .int 0), (3, .int (a3 + 1))]) rfl ?_
                  refine x_wid (k0 := cs0 + 0) (n0 := ss0 + 0) (by omega) (by omega) ?_
                  exact ih B a1 0 (a3 + 1) _ _ ⟨by omega, by omega⟩ R0 hR hok (x_wid (by omega) (by omega) k)
                · have hR := hR.trans (if_neg c35)
                  have hok := hok.2 c35
                  refine x_iconst (pc := 137) (v := 1) C dL_isJournalRight_137 (by decide) ?_
                  refine x_goto (pc := 138) (tgt := 142) C dL_isJournalRight_138 (by decide) ?_
                  refine x_istore_n (pc := 142) (i := 2) (ls2 := [(2, .int 1), (5, .int 1), (4, .int r5), (0, .ref (ad 176)), (1, .int a1), (3, .int a3)]) C dL_isJournalRight_142 rfl (by decide) rfl ?_
                  refine x_iinc (pc := 143) (i := 3) (v := (a3 + 1)) (ls2 := [(3, .int (a3 + 1)), (2, .int 1), (5, .int 1), (4, .int r5), (0, .ref (ad 176)), (1, .int a1)]) C 5 dL_isJournalRight_143 rfl rfl (by decide) rfl ?_
                  refine x_goto (pc := 146) (tgt := 47) C dL_isJournalRight_146 (by decide) ?_
                  refine x_sub [4, 5, 1, 0] (ls2 := [(0, .ref (ad 176)), (1, .int a1), (2, .int 1), (3, .int (a3 + 1))]) rfl ?_
                  refine x_wid (k0 := cs0 + 0) (n0 := ss0 + 0) (by omega) (by omega) ?_
                  exact ih B a1 1 (a3 + 1) _ _ ⟨by omega, by omega⟩ R0 hR hok (x_wid (by omega) (by omega) k)
          · have hR := hR.trans (if_neg c26)
            have hok := hok.2 c26
            refine x_iload (pc := 80) (i := 4) C 0 dL_isJournalRight_80 rfl ?_
            refine x_bipush (pc := 82) (v := 105) C dL_isJournalRight_82 (by decide) ?_
            refine x_icmp_eq (pc := 84) (tgt := 101) C dL_isJournalRight_84 (by decide) (fun c36 => ?_) (fun c36 => ?_)
            · have hR := hR.trans (if_pos c36)
              have hok := hok.1 c36
              refine x_iconst (pc := 101) (v := 1) C dL_isJournalRight_101 (by decide) ?_
              refine x_goto (pc := 102) (tgt := 106) C dL_isJournalRight_102 (by decide) ?_
              refine x_istore (pc := 106) (i := 5) (ls2 := [(5, .int 1), (4, .int r5), (0, .ref (ad 176)), (1, .int a1), (2, .int a2), (3, .int a3)]) C dL_isJournalRight_106 (by decide) rfl ?_
              refine x_iload_n (pc := 108) (i := 2) C 4 dL_isJournalRight_108 rfl rfl ?_
              refine x_if_eq (pc := 109) (tgt := 141) C dL_isJournalRight_109 (by decide) (fun c37 => ?_) (fun c37 => ?_)
              · have hR := hR.trans (if_pos c37)
                have hok := hok.1 c37
                refine x_iconst (pc := 141) (v := 0) C dL_isJournalRight_141 (by decide) ?_
                refine x_istore_n (pc := 142) (i := 2) (ls2 := [(2, .int 0), (5, .int 1), (4, .int r5), (0, .ref (ad 176)), (1, .int a1), (3, .int a3)]) C dL_isJournalRight_142 rfl (by decide) rfl ?_
                refine x_iinc (pc := 143) (i := 3) (v := (a3 + 1)) (ls2 := [(3, .int (a3 + 1)), (2, .int 0), (5, .int 1), (4, .int r5), (0, .ref (ad 176)), (1, .int a1)]) C 5 dL_isJournalRight_143 rfl rfl (by decide) rfl ?_
                refine x_goto (pc := 146) (tgt := 47) C dL_isJournalRight_146 (by decide) ?_
                refine x_sub [4, 5, 1, 0] (ls2 := [(0, .ref (ad 176)), (1, .int a1), (2, .int 0), (3, .int (a3 + 1))]) rfl ?_
                refine x_wid (k0 := cs0 + 0) (n0 := ss0 + 0) (by omega) (by omega) ?_
                exact ih B a1 0 (a3 + 1) _ _ ⟨by omega, by omega⟩ R0 hR hok (x_wid (by omega) (by omega) k)
              · have hR := hR.trans (if_neg c37)
                have hok := hok.2 c37
                refine x_iload (pc := 112) (i := 5) C 0 dL_isJournalRight_112 rfl ?_
                refine x_if_eq (pc := 114) (tgt := 141) C dL_isJournalRight_114 (by decide) (fun hf => absurd hf (by decide)) (fun _ => ?_)
                refine x_aload_n (pc := 117) (i := 0) C 2 dL_isJournalRight_117 rfl rfl ?_
                refine x_iload_n (pc := 118) (i := 3) C 5 dL_isJournalRight_118 rfl rfl ?_
                have h39 := hok.1
                have hok := hok.2
                refine x_cIV (pc := 119) (as := [.int a3]) (q := 176) C (c_X6_movementAmount_n C.2.2.2.2.2.2.2.1  B M O a3 h39) (fs := _) e_I rfl cv_X6_movementAmount cd_X6_movementAmount wd_4_210 ⟨Nat.le_of_ble_eq_true rfl, Nat.le_of_ble_eq_true rfl⟩ ⟨by simp only [rmd]; omega, by simp only [rmd]; omega⟩ rfl rfl (Nat.le_of_ble_eq_true rfl) dL_isJournalRight_119 ?_
                refine x_nmI (fun r40 er40 => ?_)
                have hR := nmE hR er40
                have hok := hok r40 er40
                refine x_if_le (pc := 122) (tgt := 141) C dL_isJournalRight_122 (by decide) (fun c41 => ?_) (fun c41 => ?_)
                · have hR := hR.trans (if_pos c41)
                  have hok := hok.1 c41
                  refine x_iconst (pc := 141) (v := 0) C dL_isJournalRight_141 (by decide) ?_
                  refine x_istore_n (pc := 142) (i := 2) (ls2 := [(2, .int 0), (5, .int 1), (4, .int r5), (0, .ref (ad 176)), (1, .int a1), (3, .int a3)]) C dL_isJournalRight_142 rfl (by decide) rfl ?_
                  refine x_iinc (pc := 143) (i := 3) (v := (a3 + 1)) (ls2 := [(3, .int (a3 + 1)), (2, .int 0), (5, .int 1), (4, .int r5), (0, .ref (ad 176)), (1, .int a1)]) C 5 dL_isJournalRight_143 rfl rfl (by decide) rfl ?_
                  refine x_goto (pc := 146) (tgt := 47) C dL_isJournalRight_146 (by decide) ?_
                  refine x_sub [4, 5, 1, 0] (ls2 := [(0, .ref (ad 176)), (1, .int a1), (2, .int 0), (3, .int (a3 + 1))]) rfl ?_
                  refine x_wid (k0 := cs0 + 0) (n0 := ss0 + 0) (by omega) (by omega) ?_
                  exact ih B a1 0 (a3 + 1) _ _ ⟨by omega, by omega⟩ R0 hR hok (x_wid (by omega) (by omega) k)
                · have hR := hR.trans (if_neg c41)
                  have hok := hok.2 c41
                  refine x_aload_n (pc := 125) (i := 0) C 2 dL_isJournalRight_125 rfl rfl ?_
                  refine x_iload_n (pc := 126) (i := 3) C 5 dL_isJournalRight_126 rfl rfl ?_
                  have h42 := hok.1
                  have hok := hok.2
                  refine x_cIV (pc := 127) (as := [.int a3]) (q := 176) C (c_X6_movementAccount_n C.2.2.2.2.2.2.2.1  B M O a3 h42) (fs := _) e_I rfl cv_X6_movementAccount cd_X6_movementAccount wd_6_149 ⟨Nat.le_of_ble_eq_true rfl, Nat.le_of_ble_eq_true rfl⟩ ⟨by simp only [rmd]; omega, by simp only [rmd]; omega⟩ rfl rfl (Nat.le_of_ble_eq_true rfl) dL_isJournalRight_127 ?_
                  refine x_nmI (fun r43 er43 => ?_)
                  have hR := nmE hR er43
                  have hok := hok r43 er43
                  refine x_aload_n (pc := 130) (i := 0) C 2 dL_isJournalRight_130 rfl rfl ?_
                  refine x_cIV (pc := 131) (as := []) (q := 176) C (c_X6_accountCount C.2.2.2.2.2.2.2.1  B M O ) (fs := _) e_I rfl cv_X6_accountCount cd_X6_accountCount wd_2_61 ⟨Nat.le_of_ble_eq_true rfl, Nat.le_of_ble_eq_true rfl⟩ ⟨by simp only [rmd]; omega, by simp only [rmd]; omega⟩ rfl rfl (Nat.le_of_ble_eq_true rfl) dL_isJournalRight_131 ?_
                  refine x_nmI (fun r44 er44 => ?_)
                  have hR := nmE hR er44
                  have hok := hok r44 er44
                  refine x_icmp_ge (pc := 134) (tgt := 141) C dL_isJournalRight_134 (by decide) (fun c45 => ?_) (fun c45 => ?_)
                  · have hR := hR.trans (if_pos c45)
                    have hok := hok.1 c45
                    refine x_iconst (pc := 141) (v := 0) C dL_isJournalRight_141 (by decide) ?_
                    refine x_istore_n (pc := 142) (i := 2) (ls2 := [(2, .int 0), (5, .int 1), (4, .int r5), (0, .ref (ad 176)), (1, .int a1), (3, .int a3)]) C dL_isJournalRight_142 rfl (by decide) rfl ?_
                    refine x_iinc (pc := 143) (i := 3) (v := (a3 + 1)) (ls2 := [(3, .int (a3 + 1)), (2, .int 0), (5, .int 1), (4, .int r5), (0, .ref (ad 176)), (1, .int a1)]) C 5 dL_isJournalRight_143 rfl rfl (by decide) rfl ?_
                    refine x_goto (pc := 146) (tgt := 47) C dL_isJournalRight_146 (by decide) ?_
                    refine x_sub [4, 5, 1, 0] (ls2 := [(0, .ref (ad 176)), (1, .int a1), (2, .int 0), (3, .int (a3 + 1))]) rfl ?_
                    refine x_wid (k0 := cs0 + 0) (n0 := ss0 + 0) (by omega) (by omega) ?_
                    exact ih B a1 0 (a3 + 1) _ _ ⟨by omega, by omega⟩ R0 hR hok (x_wid (by omega) (by omega) k)
                  · have hR := hR.trans (if_neg c45)
                    have hok := hok.2 c45
                    refine x_iconst (pc := 137) (v := 1) C dL_isJournalRight_137 (by decide) ?_
                    refine x_goto (pc := 138) (tgt := 142) C dL_isJournalRight_138 (by decide) ?_
                    refine x_istore_n (pc := 142) (i := 2) (ls2 := [(2, .int 1), (5, .int 1), (4, .int r5), (0, .ref (ad 176)), (1, .int a1), (3, .int a3)]) C dL_isJournalRight_142 rfl (by decide) rfl ?_
                    refine x_iinc (pc := 143) (i := 3) (v := (a3 + 1)) (ls2 := [(3, .int (a3 + 1)), (2, .int 1), (5, .int 1), (4, .int r5), (0, .ref (ad 176)), (1, .int a1)]) C 5 dL_isJournalRight_143 rfl rfl (by decide) rfl ?_
                    refine x_goto (pc := 146) (tgt := 47) C dL_isJournalRight_146 (by decide) ?_
                    refine x_sub [4, 5, 1, 0] (ls2 := [(0, .ref (ad 176)), (1, .int a1), (2, .int 1), (3, .int (a3 + 1))]) rfl ?_
                    refine x_wid (k0 := cs0 + 0) (n0 := ss0 + 0) (by omega) (by omega) ?_
                    exact ih B a1 1 (a3 + 1) _ _ ⟨by omega, by omega⟩ R0 hR hok (x_wid (by omega) (by omega) k)
            · have hR := hR.trans (if_neg c36)
              have hok := hok.2 c36
              refine x_iload (pc := 87) (i := 4) C 0 dL_isJournalRight_87 rfl ?_
              refine x_bipush (pc := 89) (v := 99) C dL_isJournalRight_89 (by decide) ?_
              refine x_icmp_eq (pc := 91) (tgt := 101) C dL_isJournalRight_91 (by decide) (fun c46 => ?_) (fun c46 => ?_)
              · have hR := hR.trans (if_pos c46)
                have hok := hok.1 c46
                refine x_iconst (pc := 101) (v := 1) C dL_isJournalRight_101 (by decide) ?_
                refine x_goto (pc := 102) (tgt := 106) C dL_isJournalRight_102 (by decide) ?_
                refine x_istore (pc := 106) (i := 5) (ls2 := [(5, .int 1), (4, .int r5), (0, .ref (ad 176)), (1, .int a1), (2, .int a2), (3, .int a3)]) C dL_isJournalRight_106 (by decide) rfl ?_
                refine x_iload_n (pc := 108) (i := 2) C 4 dL_isJournalRight_108 rfl rfl ?_
                refine x_if_eq (pc := 109) (tgt := 141) C dL_isJournalRight_109 (by decide) (fun c47 => ?_) (fun c47 => ?_)
                · have hR := hR.trans (if_pos c47)
                  have hok := hok.1 c47
                  refine x_iconst (pc := 141) (v := 0) C dL_isJournalRight_141 (by decide) ?_
                  refine x_istore_n (pc := 142) (i := 2) (ls2 := [(2, .int 0), (5, .int 1), (4, .int r5), (0, .ref (ad 176)), (1, .int a1), (3, .int a3)]) C dL_isJournalRight_142 rfl (by decide) rfl ?_
                  refine x_iinc (pc := 143) (i := 3) (v := (a3 + 1)) (ls2 := [(3, .int (a3 + 1)), (2, .int 0), (5, .int 1), (4, .int r5), (0, .ref (ad 176)), (1, .int a1)]) C 5 dL_isJournalRight_143 rfl rfl (by decide) rfl ?_
                  refine x_goto (pc := 146) (tgt := 47) C dL_isJournalRight_146 (by decide) ?_
                  refine x_sub [4, 5, 1, 0] (ls2 := [(0, .ref (ad 176)), (1, .int a1), (2, .int 0), (3, .int (a3 + 1))]) rfl ?_
                  refine x_wid (k0 := cs0 + 0) (n0 := ss0 + 0) (by omega) (by omega) ?_
                  exact ih B a1 0 (a3 + 1) _ _ ⟨by omega, by omega⟩ R0 hR hok (x_wid (by omega) (by omega) k)
                · have hR := hR.trans (if_neg c47)
                  have hok := hok.2 c47
                  refine x_iload (pc := 112) (i := 5) C 0 dL_isJournalRight_112 rfl ?_
                  refine x_if_eq (pc := 114) (tgt := 141) C dL_isJournalRight_114 (by decide) (fun hf => absurd hf (by decide)) (fun _ => ?_)
                  refine x_aload_n (pc := 117) (i := 0) C 2 dL_isJournalRight_117 rfl rfl ?_
                  refine x_iload_n (pc := 118) (i := 3) C 5 dL_isJournalRight_118 rfl rfl ?_
                  have h49 := hok.1
                  have hok := hok.2
                  refine x_cIV (pc := 119) (as := [.int a3]) (q := 176) C (c_X6_movementAmount_n C.2.2.2.2.2.2.2.1  B M O a3 h49) (fs := _) e_I rfl cv_X6_movementAmount cd_X6_movementAmount wd_4_210 ⟨Nat.le_of_ble_eq_true rfl, Nat.le_of_ble_eq_true rfl⟩ ⟨by simp only [rmd]; omega, by simp only [rmd]; omega⟩ rfl rfl (Nat.le_of_ble_eq_true rfl) dL_isJournalRight_119 ?_
                  refine x_nmI (fun r50 er50 => ?_)
                  have hR := nmE hR er50
                  have hok := hok r50 er50
                  refine x_if_le (pc := 122) (tgt := 141) C dL_isJournalRight_122 (by decide) (fun c51 => ?_) (fun c51 => ?_)
                  · have hR := hR.trans (if_pos c51)
                    have hok := hok.1 c51
                    refine x_iconst (pc := 141) (v := 0) C dL_isJournalRight_141 (by decide) ?_
                    refine x_istore_n (pc := 142) (i := 2) (ls2 := [(2, .int 0), (5, .int 1), (4, .int r5), (0, .ref (ad 176)), (1, .int a1), (3, .int a3)]) C dL_isJournalRight_142 rfl (by decide) rfl ?_
                    refine x_iinc (pc := 143) (i := 3) (v := (a3 + 1)) (ls2 := [(3, .int (a3 + 1)), (2, .int 0), (5, .int 1), (4, .int r5), (0, .ref (ad 176)), (1, .int a1)]) C 5 dL_isJournalRight_143 rfl rfl (by decide) rfl ?_
                    refine x_goto (pc := 146) (tgt := 47) C dL_isJournalRight_146 (by decide) ?_
                    refine x_sub [4, 5, 1, 0] (ls2 := [(0, .ref (ad 176)), (1, .int a1), (2, .int 0), (3, .int (a3 + 1))]) rfl ?_
                    refine x_wid (k0 := cs0 + 0) (n0 := ss0 + 0) (by omega) (by omega) ?_
                    exact ih B a1 0 (a3 + 1) _ _ ⟨by omega, by omega⟩ R0 hR hok (x_wid (by omega) (by omega) k)
                  · have hR := hR.trans (if_neg c51)
                    have hok := hok.2 c51
                    refine x_aload_n (pc := 125) (i := 0) C 2 dL_isJournalRight_125 rfl rfl ?_
                    refine x_iload_n (pc := 126) (i := 3) C 5 dL_isJournalRight_126 rfl rfl ?_
                    have h52 := hok.1
                    have hok := hok.2
                    refine x_cIV (pc := 127) (as := [.int a3]) (q := 176) C (c_X6_movementAccount_n C.2.2.2.2.2.2.2.1  B M O a3 h52) (fs := _) e_I rfl cv_X6_movementAccount cd_X6_movementAccount wd_6_149 ⟨Nat.le_of_ble_eq_true rfl, Nat.le_of_ble_eq_true rfl⟩ ⟨by simp only [rmd]; omega, by simp only [rmd]; omega⟩ rfl rfl (Nat.le_of_ble_eq_true rfl) dL_isJournalRight_127 ?_
                    refine x_nmI (fun r53 er53 => ?_)
                    have hR := nmE hR er53
                    have hok := hok r53 er53
                    refine x_aload_n (pc := 130) (i := 0) C 2 dL_isJournalRight_130 rfl rfl ?_
                    refine x_cIV (pc := 131) (as := []) (q := 176) C (c_X6_accountCount C.2.2.2.2.2.2.2.1  B M O ) (fs := _) e_I rfl cv_X6_accountCount cd_X6_accountCount wd_2_61 ⟨Nat.le_of_ble_eq_true rfl, Nat.le_of_ble_eq_true rfl⟩ ⟨by simp only [rmd]; omega, by simp only [rmd]; omega⟩ rfl rfl (Nat.le_of_ble_eq_true rfl) dL_isJournalRight_131 ?_
                    refine x_nmI (fun r54 er54 => ?_)
                    have hR := nmE hR er54
                    have hok := hok r54 er54
                    refine x_icmp_ge (pc := 134) (tgt := 141) C dL_isJournalRight_134 (by decide) (fun c55 => ?_) (fun c55 => ?_)
                    · have hR := hR.trans (if_pos c55)
                      have hok := hok.1 c55
                      refine x_iconst (pc := 141) (v := 0) C dL_isJournalRight_141 (by decide) ?_
                      refine x_istore_n (pc := 142) (i := 2) (ls2 := [(2, .int 0), (5, .int 1), (4, .int r5), (0, .ref (ad 176)), (1, .int a1), (3, .int a3)]) C dL_isJournalRight_142 rfl (by decide) rfl ?_
                      refine x_iinc (pc := 143) (i := 3) (v := (a3 + 1)) (ls2 := [(3, .int (a3 + 1)), (2, .int 0), (5, .int 1), (4, .int r5), (0, .ref (ad 176)), (1, .int a1)]) C 5 dL_isJournalRight_143 rfl rfl (by decide) rfl ?_
                      refine x_goto (pc := 146) (tgt := 47) C dL_isJournalRight_146 (by decide) ?_
                      refine x_sub [4, 5, 1, 0] (ls2 := [(0, .ref (ad 176)), (1, .int a1), (2, .int 0), (3, .int (a3 + 1))]) rfl ?_
                      refine x_wid (k0 := cs0 + 0) (n0 := ss0 + 0) (by omega) (by omega) ?_
                      exact ih B a1 0 (a3 + 1) _ _ ⟨by omega, by omega⟩ R0 hR hok (x_wid (by omega) (by omega) k)
                    · have hR := hR.trans (if_neg c55)
                      have hok := hok.2 c55
                      refine x_iconst (pc := 137) (v := 1) C dL_isJournalRight_137 (by decide) ?_
                      refine x_goto (pc := 138) (tgt := 142) C dL_isJournalRight_138 (by decide) ?_
                      refine x_istore_n (pc := 142) (i := 2) (ls2 := [(2, .int 1), (5, .int 1), (4, .int r5), (0, .ref (ad 176)), (1, .int a1), (3, .int a3)]) C dL_isJournalRight_142 rfl (by decide) rfl ?_
                      refine x_iinc (pc := 143) (i := 3) (v := (a3 + 1)) (ls2 := [(3, .int (a3 + 1)), (2, .int 1), (5, .int 1), (4, .int r5), (0, .ref (ad 176)), (1, .int a1)]) C 5 dL_isJournalRight_143 rfl rfl (by decide) rfl ?_
                      refine x_goto (pc := 146) (tgt := 47) C dL_isJournalRight_146 (by decide) ?_
                      refine x_sub [4, 5, 1, 0] (ls2 := [(0, .ref (ad 176)), (1, .int a1), (2, .int 1), (3, .int (a3 + 1))]) rfl ?_
                      refine x_wid (k0 := cs0 + 0) (n0 := ss0 + 0) (by omega) (by omega) ?_
                      exact ih B a1 1 (a3 + 1) _ _ ⟨by omega, by omega⟩ R0 hR hok (x_wid (by omega) (by omega) k)
              · have hR := hR.trans (if_neg c46)
                have hok := hok.2 c46
                refine x_iload (pc := 94) (i := 4) C 0 dL_isJournalRight_94 rfl ?_
                refine x_bipush (pc := 96) (v := 102) C dL_isJournalRight_96 (by decide) ?_
                refine x_icmp_ne (pc := 98) (tgt := 105) C dL_isJournalRight_98 (by decide) (fun c56 => ?_) (fun c56 => ?_)
                · have hR := hR.trans (if_neg c56)
                  have hok := hok.2 c56
                  refine x_iconst (pc := 105) (v := 0) C dL_isJournalRight_105 (by decide) ?_
                  refine x_istore (pc := 106) (i := 5) (ls2 := [(5, .int 0), (4, .int r5), (0, .ref (ad 176)), (1, .int a1), (2, .int a2), (3, .int a3)]) C dL_isJournalRight_106 (by decide) rfl ?_
                  refine x_iload_n (pc := 108) (i := 2) C 4 dL_isJournalRight_108 rfl rfl ?_
                  refine x_if_eq (pc := 109) (tgt := 141) C dL_isJournalRight_109 (by decide) (fun c57 => ?_) (fun c57 => ?_)
                  · have hR := hR.trans (if_pos c57)
                    have hok := hok.1 c57
                    refine x_iconst (pc := 141) (v := 0) C dL_isJournalRight_141 (by decide) ?_
                    refine x_istore_n (pc := 142) (i := 2) (ls2 := [(2, .int 0), (5, .int 0), (4, .int r5), (0, .ref (ad 176)), (1, .int a1), (3, .int a3)]) C dL_isJournalRight_142 rfl (by decide) rfl ?_
                    refine x_iinc (pc := 143) (i := 3) (v := (a3 + 1)) (ls2 := [(3, .int (a3 + 1)), (2, .int 0), (5, .int 0), (4, .int r5), (0, .ref (ad 176)), (1, .int a1)]) C 5 dL_isJournalRight_143 rfl rfl (by decide) rfl ?_
                    refine x_goto (pc := 146) (tgt := 47) C dL_isJournalRight_146 (by decide) ?_
                    refine x_sub [4, 5, 1, 0] (ls2 := [(0, .ref (ad 176)), (1, .int a1), (2, .int 0), (3, .int (a3 + 1))]) rfl ?_
                    refine x_wid (k0 := cs0 + 0) (n0 := ss0 + 0) (by omega) (by omega) ?_
                    exact ih B a1 0 (a3 + 1) _ _ ⟨by omega, by omega⟩ R0 hR hok (x_wid (by omega) (by omega) k)
                  · have hR := hR.trans (if_neg c57)
                    have hok := hok.2 c57
                    refine x_iload (pc := 112) (i := 5) C 0 dL_isJournalRight_112 rfl ?_
                    refine x_if_eq (pc := 114) (tgt := 141) C dL_isJournalRight_114 (by decide) (fun _ => ?_) (fun hf => absurd hf (by decide))
                    refine x_iconst (pc := 141) (v := 0) C dL_isJournalRight_141 (by decide) ?_
                    refine x_istore_n (pc := 142) (i := 2) (ls2 := [(2, .int 0), (5, .int 0), (4, .int r5), (0, .ref (ad 176)), (1, .int a1), (3, .int a3)]) C dL_isJournalRight_142 rfl (by decide) rfl ?_
                    refine x_iinc (pc := 143) (i := 3) (v := (a3 + 1)) (ls2 := [(3, .int (a3 + 1)), (2, .int 0), (5, .int 0), (4, .int r5), (0, .ref (ad 176)), (1, .int a1)]) C 5 dL_isJournalRight_143 rfl rfl (by decide) rfl ?_
                    refine x_goto (pc := 146) (tgt := 47) C dL_isJournalRight_146 (by decide) ?_
                    refine x_sub [4, 5, 1, 0] (ls2 := [(0, .ref (ad 176)), (1, .int a1), (2, .int 0), (3, .int (a3 + 1))]) rfl ?_
                    refine x_wid (k0 := cs0 + 0) (n0 := ss0 + 0) (by omega) (by omega) ?_
                    exact ih B a1 0 (a3 + 1) _ _ ⟨by omega, by omega⟩ R0 hR hok (x_wid (by omega) (by omega) k)
                · have hR := hR.trans (if_pos c56)
                  have hok := hok.1 c56
                  refine x_iconst (pc := 101) (v := 1) C dL_isJournalRight_101 (by decide) ?_
                  refine x_goto (pc := 102) (tgt := 106) C dL_isJournalRight_102 (by decide) ?_
                  refine x_istore (pc := 106) (i := 5) (ls2 := [(5, .int 1), (4, .int r5), (0, .ref (ad 176)), (1, .int a1), (2, .int a2), (3, .int a3)]) C dL_isJournalRight_106 (by decide) rfl ?_
                  refine x_iload_n (pc := 108) (i := 2) C 4 dL_isJournalRight_108 rfl rfl ?_
                  refine x_if_eq (pc := 109) (tgt := 141) C dL_isJournalRight_109 (by decide) (fun c59 => ?_) (fun c59 => ?_)
                  · have hR := hR.trans (if_pos c59)
                    have hok := hok.1 c59
                    refine x_iconst (pc := 141) (v := 0) C dL_isJournalRight_141 (by decide) ?_
                    refine x_istore_n (pc := 142) (i := 2) (ls2 := [(2, .int 0), (5, .int 1), (4, .int r5), (0, .ref (ad 176)), (1, .int a1), (3, .int a3)]) C dL_isJournalRight_142 rfl (by decide) rfl ?_
                    refine x_iinc (pc := 143) (i := 3) (v := (a3 + 1)) (ls2 := [(3, .int (a3 + 1)), (2, .int 0), (5, .int 1), (4, .int r5), (0, .ref (ad 176)), (1, .int a1)]) C 5 dL_isJournalRight_143 rfl rfl (by decide) rfl ?_
                    refine x_goto (pc := 146) (tgt := 47) C dL_isJournalRight_146 (by decide) ?_
                    refine x_sub [4, 5, 1, 0] (ls2 := [(0, .ref (ad 176)), (1, .int a1), (2, .int 0), (3, .int (a3 + 1))]) rfl ?_
                    refine x_wid (k0 := cs0 + 0) (n0 := ss0 + 0) (by omega) (by omega) ?_
                    exact ih B a1 0 (a3 + 1) _ _ ⟨by omega, by omega⟩ R0 hR hok (x_wid (by omega) (by omega) k)
                  · have hR := hR.trans (if_neg c59)
                    have hok := hok.2 c59
                    refine x_iload (pc := 112) (i := 5) C 0 dL_isJournalRight_112 rfl ?_
                    refine x_if_eq (pc := 114) (tgt := 141) C dL_isJournalRight_114 (by decide) (fun hf => absurd hf (by decide)) (fun _ => ?_)
                    refine x_aload_n (pc := 117) (i := 0) C 2 dL_isJournalRight_117 rfl rfl ?_
                    refine x_iload_n (pc := 118) (i := 3) C 5 dL_isJournalRight_118 rfl rfl ?_
                    have h61 := hok.1
                    have hok := hok.2
                    refine x_cIV (pc := 119) (as := [.int a3]) (q := 176) C (c_X6_movementAmount_n C.2.2.2.2.2.2.2.1  B M O a3 h61) (fs := _) e_I rfl cv_X6_movementAmount cd_X6_movementAmount wd_4_210 ⟨Nat.le_of_ble_eq_true rfl, Nat.le_of_ble_eq_true rfl⟩ ⟨by simp only [rmd]; omega, by simp only [rmd]; omega⟩ rfl rfl (Nat.le_of_ble_eq_true rfl) dL_isJournalRight_119 ?_
                    refine x_nmI (fun r62 er62 => ?_)
                    have hR := nmE hR er62
                    have hok := hok r62 er62
                    refine x_if_le (pc := 122) (tgt := 141) C dL_isJournalRight_122 (by decide) (fun c63 => ?_) (fun c63 => ?_)
                    · have hR := hR.trans (if_pos c63)
                      have hok := hok.1 c63
                      refine x_iconst (pc := 141) (v := 0) C dL_isJournalRight_141 (by decide) ?_
                      refine x_istore_n (pc := 142) (i := 2) (ls2 := [(2, .int 0), (5, .int 1), (4, .int r5), (0, .ref (ad 176)), (1, .int a1), (3, .int a3)]) C dL_isJournalRight_142 rfl (by decide) rfl ?_
                      refine x_iinc (pc := 143) (i := 3) (v := (a3 + 1)) (ls2 := [(3, .int (a3 + 1)), (2, .int 0), (5, .int 1), (4, .int r5), (0, .ref (ad 176)), (1, .int a1)]) C 5 dL_isJournalRight_143 rfl rfl (by decide) rfl ?_
                      refine x_goto (pc := 146) (tgt := 47) C dL_isJournalRight_146 (by decide) ?_
                      refine x_sub [4, 5, 1, 0] (ls2 := [(0, .ref (ad 176)), (1, .int a1), (2, .int 0), (3, .int (a3 + 1))]) rfl ?_
                      refine x_wid (k0 := cs0 + 0) (n0 := ss0 + 0) (by omega) (by omega) ?_
                      exact ih B a1 0 (a3 + 1) _ _ ⟨by omega, by omega⟩ R0 hR hok (x_wid (by omega) (by omega) k)
                    · have hR := hR.trans (if_neg c63)
                      have hok := hok.2 c63
                      refine x_aload_n (pc := 125) (i := 0) C 2 dL_isJournalRight_125 rfl rfl ?_
                      refine x_iload_n (pc := 126) (i := 3) C 5 dL_isJournalRight_126 rfl rfl ?_
                      have h64 := hok.1
                      have hok := hok.2
                      refine x_cIV (pc := 127) (as := [.int a3]) (q := 176) C (c_X6_movementAccount_n C.2.2.2.2.2.2.2.1  B M O a3 h64) (fs := _) e_I rfl cv_X6_movementAccount cd_X6_movementAccount wd_6_149 ⟨Nat.le_of_ble_eq_true rfl, Nat.le_of_ble_eq_true rfl⟩ ⟨by simp only [rmd]; omega, by simp only [rmd]; omega⟩ rfl rfl (Nat.le_of_ble_eq_true rfl) dL_isJournalRight_127 ?_
                      refine x_nmI (fun r65 er65 => ?_)
                      have hR := nmE hR er65
                      have hok := hok r65 er65
                      refine x_aload_n (pc := 130) (i := 0) C 2 dL_isJournalRight_130 rfl rfl ?_
                      refine x_cIV (pc := 131) (as := []) (q := 176) C (c_X6_accountCount C.2.2.2.2.2.2.2.1  B M O ) (fs := _) e_I rfl cv_X6_accountCount cd_X6_accountCount wd_2_61 ⟨Nat.le_of_ble_eq_true rfl, Nat.le_of_ble_eq_true rfl⟩ ⟨by simp only [rmd]; omega, by simp only [rmd]; omega⟩ rfl rfl (Nat.le_of_ble_eq_true rfl) dL_isJournalRight_131 ?_
                      refine x_nmI (fun r66 er66 => ?_)
                      have hR := nmE hR er66
                      have hok := hok r66 er66
                      refine x_icmp_ge (pc := 134) (tgt := 141) C dL_isJournalRight_134 (by decide) (fun c67 => ?_) (fun c67 => ?_)
                      · have hR := hR.trans (if_pos c67)
                        have hok := hok.1 c67
                        refine x_iconst (pc := 141) (v := 0) C dL_isJournalRight_141 (by decide) ?_
                        refine x_istore_n (pc := 142) (i := 2) (ls2 := [(2, .int 0), (5, .int 1), (4, .int r5), (0, .ref (ad 176)), (1, .int a1), (3, .int a3)]) C dL_isJournalRight_142 rfl (by decide) rfl ?_
                        refine x_iinc (pc := 143) (i := 3) (v := (a3 + 1)) (ls2 := [(3, .int (a3 + 1)), (2, .int 0), (5, .int 1), (4, .int r5), (0, .ref (ad 176)), (1, .int a1)]) C 5 dL_isJournalRight_143 rfl rfl (by decide) rfl ?_
                        refine x_goto (pc := 146) (tgt := 47) C dL_isJournalRight_146 (by decide) ?_
                        refine x_sub [4, 5, 1, 0] (ls2 := [(0, .ref (ad 176)), (1, .int a1), (2, .int 0), (3, .int (a3 + 1))]) rfl ?_
                        refine x_wid (k0 := cs0 + 0) (n0 := ss0 + 0) (by omega) (by omega) ?_
                        exact ih B a1 0 (a3 + 1) _ _ ⟨by omega, by omega⟩ R0 hR hok (x_wid (by omega) (by omega) k)
                      · have hR := hR.trans (if_neg c67)
                        have hok := hok.2 c67
                        refine x_iconst (pc := 137) (v := 1) C dL_isJournalRight_137 (by decide) ?_
                        refine x_goto (pc := 138) (tgt := 142) C dL_isJournalRight_138 (by decide) ?_
                        refine x_istore_n (pc := 142) (i := 2) (ls2 := [(2, .int 1), (5, .int 1), (4, .int r5), (0, .ref (ad 176)), (1, .int a1), (3, .int a3)]) C dL_isJournalRight_142 rfl (by decide) rfl ?_
                        refine x_iinc (pc := 143) (i := 3) (v := (a3 + 1)) (ls2 := [(3, .int (a3 + 1)), (2, .int 1), (5, .int 1), (4, .int r5), (0, .ref (ad 176)), (1, .int a1)]) C 5 dL_isJournalRight_143 rfl rfl (by decide) rfl ?_
                        refine x_goto (pc := 146) (tgt := 47) C dL_isJournalRight_146 (by decide) ?_
                        refine x_sub [4, 5, 1, 0] (ls2 := [(0, .ref (ad 176)), (1, .int a1), (2, .int 1), (3, .int (a3 + 1))]) rfl ?_
                        refine x_wid (k0 := cs0 + 0) (n0 := ss0 + 0) (by omega) (by omega) ?_
                        exact ih B a1 1 (a3 + 1) _ _ ⟨by omega, by omega⟩ R0 hR hok (x_wid (by omega) (by omega) k)
set_option maxHeartbeats 4000000 in
set_option maxRecDepth 100000 in
theorem t_L_isJournalRight_J44 {p0 : Program} {l : Launch} {e : Env} {s : State} {m : MethodId} {args : Array Value} {below : List Frame} {meth : Method} {c : Code} {A : Nat → Prop} {G : GT} {ad : Nat → Nat} (C : CX p0 l s m args meth c A G ad cL_isJournalRight RL 6 (some .boolean))  (B : StB) (a1 : Int32) (s0 : Int32) (M : StM) (O : StO) (cs0 ss0 : Nat) (hcs : cs0 + 0 ≤ 8 ∧ ss0 + 0 ≤ 48) (R0 : Int32 × StB) (hR : R0 = f_L_isJournalRight_J44 B a1 s0) (hok : ok_L_isJournalRight_J44 B a1 s0) : X p0 l e (rmd 22 8 48) s m args below meth c A G ad 6 cs0 ss0 (MQ below (QI G A ad R0.1 R0.2 M O) args s 8 48 A) B M O [(0, .ref (ad 176)), (1, .int a1)] 44 [.int s0] := by
  have hR : R0 = (nm (f_L_isJournalRight_L47 20 B a1 s0 0) (fun (z68 : Int32) => (z68, B))) := hR
  have hok : ((ok_L_isJournalRight_L47 20 B a1 s0 0) ∧ ∀ z68 : Int32, z68 = f_L_isJournalRight_L47 20 B a1 s0 0 → (narrow .boolean (.int z68) = .int z68)) := hok
  refine x_istore_n (pc := 44) (i := 2) (ls2 := [(2, .int s0), (0, .ref (ad 176)), (1, .int a1)]) C dL_isJournalRight_44 rfl (by decide) rfl ?_
  refine x_iconst (pc := 45) (v := 0) C dL_isJournalRight_45 (by decide) ?_
  refine x_istore_n (pc := 46) (i := 3) (ls2 := [(3, .int 0), (2, .int s0), (0, .ref (ad 176)), (1, .int a1)]) C dL_isJournalRight_46 rfl (by decide) rfl ?_
  refine x_sub [2, 3, 1, 0] (ls2 := [(0, .ref (ad 176)), (1, .int a1), (2, .int s0), (3, .int 0)]) rfl ?_
  obtain ⟨z68, ez68⟩ : ∃ z : Int32, z = f_L_isJournalRight_L47 20 B a1 s0 0 := ⟨_, rfl⟩
  refine t_L_isJournalRight_L47 C 20 B a1 s0 0 M O _ _ ⟨by omega, by omega⟩ z68 ez68 hok.1 ?_
  have hR := nmE hR ez68
  have hok := hok.2 z68 ez68
  refine x_iload_n (pc := 149) (i := 2) C 0 dL_isJournalRight_149 rfl rfl ?_
  have h69 := hok
  refine x_wid (k0 := 8) (n0 := 48) (by omega) (by omega) ?_
  exact x_zretB (pc := 150) C rfl h69 hR dL_isJournalRight_150
set_option maxHeartbeats 4000000 in
set_option maxRecDepth 100000 in
theorem t_L_isJournalRight_J43 {p0 : Program} {l : Launch} {e : Env} {s : State} {m : MethodId} {args : Array Value} {below : List Frame} {meth : Method} {c : Code} {A : Nat → Prop} {G : GT} {ad : Nat → Nat} (C : CX p0 l s m args meth c A G ad cL_isJournalRight RL 6 (some .boolean))  (B : StB) (a1 : Int32) (M : StM) (O : StO) (cs0 ss0 : Nat) (hcs : cs0 + 0 ≤ 8 ∧ ss0 + 0 ≤ 48) (R0 : Int32 × StB) (hR : R0 = f_L_isJournalRight_J43 B a1) (hok : ok_L_isJournalRight_J43 B a1) : X p0 l e (rmd 22 8 48) s m args below meth c A G ad 6 cs0 ss0 (MQ below (QI G A ad R0.1 R0.2 M O) args s 8 48 A) B M O [(0, .ref (ad 176)), (1, .int a1)] 43 [] := by
  have hR : R0 = (f_L_isJournalRight_J44 B a1 0) := hR
  have hok : (ok_L_isJournalRight_J44 B a1 0) := hok
  refine x_iconst (pc := 43) (v := 0) C dL_isJournalRight_43 (by decide) ?_
  refine x_sub [0, 1] (ls2 := [(0, .ref (ad 176)), (1, .int a1)]) rfl ?_
  exact t_L_isJournalRight_J44 C B a1 0 M O _ _ ⟨by omega, by omega⟩ _ hR hok
set_option maxHeartbeats 4000000 in
set_option maxRecDepth 100000 in
theorem c_L_isJournalRight {l : Launch} {A : Nat → Prop} {G : GT} {ad : Nat → Nat} (gl : Gl l A G ad)  (B : StB) (M : StM) (O : StO)  (hok : ok_L_isJournalRight B) : Met l yL_isJournalRight (wof yL_isJournalRight cL_isJournalRight 6 (some .boolean)) (rmd 22 8 48) (va_Pc [.ref (ad 176)] (PW G A ad B M O)) (QI G A ad (f_L_isJournalRight B).1 (f_L_isJournalRight B).2 M O) 8 48 A := by
  refine x_body (own := RL) (by decide +kernel) rfl gl (Nat.le_of_ble_eq_true rfl) (ls := [(0, .ref (ad 176))]) rfl ?_
  intro p0 e s m args below meth c C
  have hR : (f_L_isJournalRight B) = (nm (f_X6_journalLength B) (fun (r1 : Int32) => (if 10 < r1 then (f_L_isJournalRight_J43 B r1) else (nm (f_L_ask B 8 r1 0) (fun (z71 : Int32 × StB) => (if z71.1 = (-20004) then (nm (f_L_ask z71.2 8 (-1) 0) (fun (z74 : Int32 × StB) => (if z74.1 = (-20004) then (f_L_isJournalRight_J44 z74.2 r1 1) else (f_L_isJournalRight_J43 z74.2 r1)))) else (f_L_isJournalRight_J43 z71.2 r1))))))) := rfl
  have hok : (∀ r1 : Int32, r1 = (f_X6_journalLength B) → ((10 < r1 → (ok_L_isJournalRight_J43 B r1)) ∧ (¬ 10 < r1 → ((ok_L_ask B 8 r1 0) ∧ (∀ z71 : Int32 × StB, z71 = (f_L_ask B 8 r1 0) → ((z71.1 = (-20004) → ((ok_L_ask z71.2 8 (-1) 0) ∧ (∀ z74 : Int32 × StB, z74 = (f_L_ask z71.2 8 (-1) 0) → ((z74.1 = (-20004) → (ok_L_isJournalRight_J44 z74.2 r1 1)) ∧ (¬ z74.1 = (-20004) → (ok_L_isJournalRight_J43 z74.2 r1)))))) ∧ (¬ z71.1 = (-20004) → (ok_L_isJournalRight_J43 z71.2 r1)))))))) := hok
  refine x_aload_n (pc := 0) (i := 0) C 0 dL_isJournalRight_0 rfl rfl ?_
  refine x_cIV (pc := 1) (as := []) (q := 176) C (c_X6_journalLength C.2.2.2.2.2.2.2.1  B M O ) (fs := _) e_I rfl cv_X6_journalLength cd_X6_journalLength wd_6_141 ⟨Nat.le_of_ble_eq_true rfl, Nat.le_of_ble_eq_true rfl⟩ ⟨by simp only [rmd]; omega, by simp only [rmd]; omega⟩ rfl rfl (Nat.le_of_ble_eq_true rfl) dL_isJournalRight_1 ?_
  refine x_nmI (fun r1 er1 => ?_)
  have hR := nmE hR er1
  have hok := hok r1 er1
  refine x_istore_n (pc := 4) (i := 1) (ls2 := [(1, .int r1), (0, .ref (ad 176))]) C dL_isJournalRight_4 rfl (by decide) rfl ?_
  refine x_iload_n (pc := 5) (i := 1) C 0 dL_isJournalRight_5 rfl rfl ?_
  refine x_bipush (pc := 6) (v := 10) C dL_isJournalRight_6 (by decide) ?_
  refine x_icmp_gt (pc := 8) (tgt := 43) C dL_isJournalRight_8 (by decide) (fun c2 => ?_) (fun c2 => ?_)
  · have hR := hR.trans (if_pos c2)
    have hok := hok.1 c2
    refine x_sub [1, 0] (ls2 := [(0, .ref (ad 176)), (1, .int r1)]) rfl ?_
    exact t_L_isJournalRight_J43 C B r1 M O _ _ ⟨by omega, by omega⟩ _ hR hok
  · have hR := hR.trans (if_neg c2)
    have hok := hok.2 c2
    refine x_aload_n (pc := 11) (i := 0) C 1 dL_isJournalRight_11 rfl rfl ?_
    refine x_bipush (pc := 12) (v := 8) C dL_isJournalRight_12 (by decide) ?_
    refine x_iload_n (pc := 14) (i := 1) C 0 dL_isJournalRight_14 rfl rfl ?_
    refine x_iconst (pc := 15) (v := 0) C dL_isJournalRight_15 (by decide) ?_
    have h70 := hok.1
    have hok := hok.2
    refine x_cWS (pc := 16) (as := [.ref (ad 176), .int 8, .int r1, .int 0]) (n := 4) C (c_L_ask C.2.2.2.2.2.2.2.1  B M O 8 r1 0 h70) wd_4_138 wd_4_139 wd_1_0 wd_4_140 ⟨by decide, by decide, by decide +kernel⟩ ⟨Nat.le_of_ble_eq_true rfl, Nat.le_of_ble_eq_true rfl⟩ ⟨by simp only [rmd]; omega, by simp only [rmd]; omega⟩ rfl rfl (Nat.le_of_ble_eq_true rfl) dL_isJournalRight_16 ?_
    refine x_nmIB (fun z71 ez71 => ?_)
    have hR := nmE hR ez71
    have hok := hok z71 ez71
    refine x_sipush (pc := 19) (v := (-20004)) C dL_isJournalRight_19 (by decide) ?_
    refine x_icmp_ne (pc := 22) (tgt := 43) C dL_isJournalRight_22 (by decide) (fun c72 => ?_) (fun c72 => ?_)
    · have hR := hR.trans (if_neg c72)
      have hok := hok.2 c72
      refine x_sub [1, 0] (ls2 := [(0, .ref (ad 176)), (1, .int r1)]) rfl ?_
      exact t_L_isJournalRight_J43 C z71.2 r1 M O _ _ ⟨by omega, by omega⟩ _ hR hok
    · have hR := hR.trans (if_pos c72)
      have hok := hok.1 c72
      refine x_aload_n (pc := 25) (i := 0) C 1 dL_isJournalRight_25 rfl rfl ?_
      refine x_bipush (pc := 26) (v := 8) C dL_isJournalRight_26 (by decide) ?_
      refine x_iconst (pc := 28) (v := (-1)) C dL_isJournalRight_28 (by decide) ?_
      refine x_iconst (pc := 29) (v := 0) C dL_isJournalRight_29 (by decide) ?_
      have h73 := hok.1
      have hok := hok.2
      refine x_cWS (pc := 30) (as := [.ref (ad 176), .int 8, .int (-1), .int 0]) (n := 4) C (c_L_ask C.2.2.2.2.2.2.2.1  z71.2 M O 8 (-1) 0 h73) wd_4_138 wd_4_139 wd_1_0 wd_4_140 ⟨by decide, by decide, by decide +kernel⟩ ⟨Nat.le_of_ble_eq_true rfl, Nat.le_of_ble_eq_true rfl⟩ ⟨by simp only [rmd]; omega, by simp only [rmd]; omega⟩ rfl rfl (Nat.le_of_ble_eq_true rfl) dL_isJournalRight_30 ?_
      refine x_nmIB (fun z74 ez74 => ?_)
      have hR := nmE hR ez74
      have hok := hok z74 ez74
      refine x_sipush (pc := 33) (v := (-20004)) C dL_isJournalRight_33 (by decide) ?_
      refine x_icmp_ne (pc := 36) (tgt := 43) C dL_isJournalRight_36 (by decide) (fun c75 => ?_) (fun c75 => ?_)
      · have hR := hR.trans (if_neg c75)
        have hok := hok.2 c75
        refine x_sub [1, 0] (ls2 := [(0, .ref (ad 176)), (1, .int r1)]) rfl ?_
        exact t_L_isJournalRight_J43 C z74.2 r1 M O _ _ ⟨by omega, by omega⟩ _ hR hok
      · have hR := hR.trans (if_pos c75)
        have hok := hok.1 c75
        refine x_iconst (pc := 39) (v := 1) C dL_isJournalRight_39 (by decide) ?_
        refine x_goto (pc := 40) (tgt := 44) C dL_isJournalRight_40 (by decide) ?_
        refine x_sub [1, 0] (ls2 := [(0, .ref (ad 176)), (1, .int r1)]) rfl ?_
        exact t_L_isJournalRight_J44 C z74.2 r1 1 M O _ _ ⟨by omega, by omega⟩ _ hR hok
set_option maxHeartbeats 4000000 in
set_option maxRecDepth 100000 in
theorem t_L_arePredictionsRight_L98 {p0 : Program} {l : Launch} {e : Env} {s : State} {m : MethodId} {args : Array Value} {below : List Frame} {meth : Method} {c : Code} {A : Nat → Prop} {G : GT} {ad : Nat → Nat} {Q : State → Prop} (C : CX p0 l s m args meth c A G ad cL_arePredictionsRight RL 16 (some .boolean)) (hG : G.2.2.2.2 2 = 1 ∧ G.2.2.2.2 3 = 4)   (n : Nat) (B : StB) (a1 : Int32) (a2 : Int32) (a3 : Int32) (a8 : Int32) (a9 : Int32) (M : StM) (O : StO) : ∀ (cs0 ss0 : Nat) (hcs : cs0 + n * 0 ≤ 96 ∧ ss0 + n * 0 ≤ 592) (R0 : StB) (hR : R0 = f_L_arePredictionsRight_L98 n B a1 a2 a3 a8 a9) (hok : ok_L_arePredictionsRight_L98 n B a1 a2 a3 a8 a9) (k : X p0 l e (rmd 22 96 592) s m args below meth c A G ad 16 (cs0 + n * 0) (ss0 + n * 0) Q R0 M O [(0, .ref (ad 176)), (1, .int a1), (2, .int a2), (3, .int a3), (4, .ref (ad 193)), (5, .ref (ad 194)), (6, .ref (ad 195)), (7, .ref (ad 196)), (8, .int a8)] 122 []), X p0 l e (rmd 22 96 592) s m args below meth c A G ad 16 cs0 ss0 Q B M O [(0, .ref (ad 176)), (1, .int a1), (2, .int a2), (3, .int a3), (4, .ref (ad 193)), (5, .ref (ad 194)), (6, .ref (ad 195)), (7, .ref (ad 196)), (8, .int a8), (9, .int a9)] 98 [] := by
  induction n generalizing B a1 a2 a3 a8 a9 with
  | zero => intro cs0 ss0 hcs R0 hR hok k; exact False.elim hok
  | succ n ih =>
    intro cs0 ss0 hcs R0 hR hok k
    have hR : R0 = (if a2 ≤ a9 then B else (nm (f_X6_balanceAfter_n B a9 a1) (fun (z6 : Int32 × StB) => (nm (sba z6.2 193 (ix a9) z6.1) (fun (B8 : StB) => (f_L_arePredictionsRight_L98 n B8 a1 a2 a3 a8 (a9 + 1))))))) := hR
    have hok : ((a2 ≤ a9 → True) ∧ (¬ a2 ≤ a9 → ((ok_X6_balanceAfter_n B a9 a1) ∧ (∀ z6 : Int32 × StB, z6 = (f_X6_balanceAfter_n B a9 a1) → (vp_in a9 (ix (bi z6.2 193 9)) ∧ (∀ B8 : StB, B8 = (sba z6.2 193 (ix a9) z6.1) → (ok_L_arePredictionsRight_L98 n B8 a1 a2 a3 a8 (a9 + 1)))))))) := hok
    refine x_iload (pc := 98) (i := 9) C 9 dL_arePredictionsRight_98 rfl ?_
    refine x_iload_n (pc := 100) (i := 2) C 2 dL_arePredictionsRight_100 rfl rfl ?_
    refine x_icmp_ge (pc := 101) (tgt := 122) C dL_arePredictionsRight_101 (by decide) (fun c4 => ?_) (fun c4 => ?_)
    · have hR := hR.trans (if_pos c4)
      refine x_sub [0, 1, 2, 3, 4, 5, 6, 7, 8] (ls2 := [(0, .ref (ad 176)), (1, .int a1), (2, .int a2), (3, .int a3), (4, .ref (ad 193)), (5, .ref (ad 194)), (6, .ref (ad 195)), (7, .ref (ad 196)), (8, .int a8)]) rfl ?_
      subst hR
      exact x_wid (by omega) (by omega) k
    · have hR := hR.trans (if_neg c4)
      have hok := hok.2 c4
      refine x_aload (pc := 104) (i := 4) C 4 dL_arePredictionsRight_104 rfl ?_
      refine x_iload (pc := 106) (i := 9) C 9 dL_arePredictionsRight_106 rfl ?_
      refine x_aload_n (pc := 108) (i := 0) C 0 dL_arePredictionsRight_108 rfl rfl ?_
      refine x_iload (pc := 109) (i := 9) C 9 dL_arePredictionsRight_109 rfl ?_
      refine x_iload_n (pc := 111) (i := 1) C 1 dL_arePredictionsRight_111 rfl rfl ?_
      have h5 := hok.1
      have hok := hok.2
      refine x_cIV (pc := 112) (as := [.int a9, .int a1]) (q := 176) C (c_X6_balanceAfter_n C.2.2.2.2.2.2.2.1  B M O a9 a1 h5) (fs := _) e_I rfl cv_X6_balanceAfter cd_X6_balanceAfter wd_4_165 ⟨Nat.le_of_ble_eq_true rfl, Nat.le_of_ble_eq_true rfl⟩ ⟨by simp only [rmd]; omega, by simp only [rmd]; omega⟩ rfl rfl (Nat.le_of_ble_eq_true rfl) dL_arePredictionsRight_112 ?_
      refine x_nmIB (fun z6 ez6 => ?_)
      have hR := nmE hR ez6
      have hok := hok z6 ez6
      have h7 := hok.1
      have hok := hok.2
      refine x_iastB (pc := 115) (q := 193) C (e_Q0 hG) (e_Q0 hG).2 h7 dL_arePredictionsRight_115 ?_
      refine x_nmB (fun B8 eB8 => ?_)
      have hR := nmE hR eB8
      have hok := hok B8 eB8
      refine x_iinc (pc := 116) (i := 9) (v := (a9 + 1)) (ls2 := [(9, .int (a9 + 1)), (0, .ref (ad 176)), (1, .int a1), (2, .int a2), (3, .int a3), (4, .ref (ad 193)), (5, .ref (ad 194)), (6, .ref (ad 195)), (7, .ref (ad 196)), (8, .int a8)]) C 9 dL_arePredictionsRight_116 rfl rfl (by decide) rfl ?_
      refine x_goto (pc := 119) (tgt := 98) C dL_arePredictionsRight_119 (by decide) ?_
      refine x_sub [1, 2, 3, 4, 5, 6, 7, 8, 9, 0] (ls2 := [(0, .ref (ad 176)), (1, .int a1), (2, .int a2), (3, .int a3), (4, .ref (ad 193)), (5, .ref (ad 194)), (6, .ref (ad 195)), (7, .ref (ad 196)), (8, .int a8), (9, .int (a9 + 1))]) rfl ?_
      refine x_wid (k0 := cs0 + 0) (n0 := ss0 + 0) (by omega) (by omega) ?_
      exact ih B8 a1 a2 a3 a8 (a9 + 1) _ _ ⟨by omega, by omega⟩ R0 hR hok (x_wid (by omega) (by omega) k)
set_option maxHeartbeats 4000000 in
set_option maxRecDepth 100000 in
theorem t_L_arePredictionsRight_L125 {p0 : Program} {l : Launch} {e : Env} {s : State} {m : MethodId} {args : Array Value} {below : List Frame} {meth : Method} {c : Code} {A : Nat → Prop} {G : GT} {ad : Nat → Nat} {Q : State → Prop} (C : CX p0 l s m args meth c A G ad cL_arePredictionsRight RL 16 (some .boolean)) (hG : G.2.2.2.2 2 = 1 ∧ G.2.2.2.2 3 = 4)   (n : Nat) (B : StB) (a1 : Int32) (a2 : Int32) (a3 : Int32) (a8 : Int32) (a9 : Int32) (M : StM) (O : StO) : ∀ (cs0 ss0 : Nat) (hcs : cs0 + n * 0 ≤ 96 ∧ ss0 + n * 0 ≤ 592) (R0 : StB) (hR : R0 = f_L_arePredictionsRight_L125 n B a1 a2 a3 a8 a9) (hok : ok_L_arePredictionsRight_L125 n B a1 a2 a3 a8 a9) (k : X p0 l e (rmd 22 96 592) s m args below meth c A G ad 16 (cs0 + n * 0) (ss0 + n * 0) Q R0 M O [(0, .ref (ad 176)), (1, .int a1), (2, .int a2), (3, .int a3), (4, .ref (ad 193)), (5, .ref (ad 194)), (6, .ref (ad 195)), (7, .ref (ad 196)), (8, .int a8)] 176 []), X p0 l e (rmd 22 96 592) s m args below meth c A G ad 16 cs0 ss0 Q B M O [(0, .ref (ad 176)), (1, .int a1), (2, .int a2), (3, .int a3), (4, .ref (ad 193)), (5, .ref (ad 194)), (6, .ref (ad 195)), (7, .ref (ad 196)), (8, .int a8), (9, .int a9)] 125 [] := by
  induction n generalizing B a1 a2 a3 a8 a9 with
  | zero => intro cs0 ss0 hcs R0 hR hok k; exact False.elim hok
  | succ n ih =>
    intro cs0 ss0 hcs R0 hR hok k
    have hR : R0 = (if a3 ≤ a9 then B else (nm (f_X6_transferAt_n B a9) (fun (r12 : Int32) => (nm (sba B 194 (ix a9) r12) (fun (B14 : StB) => (nm (f_X6_daysUntilDue_n B14 (ba B14 194 (ix a9))) (fun (r17 : Int32) => (nm (sba B14 195 (ix a9) r17) (fun (B19 : StB) => (nm (f_X6_wouldBounce_n B19 (ba B19 194 (ix a9))) (fun (z22 : Int32 × StB) => (nm (sba z22.2 196 (ix a9) (vp_nar .boolean z22.1)) (fun (B24 : StB) => (f_L_arePredictionsRight_L125 n B24 a1 a2 a3 a8 (a9 + 1))))))))))))))) := hR
    have hok : ((a3 ≤ a9 → True) ∧ (¬ a3 ≤ a9 → ((ok_X6_transferAt_n B a9) ∧ (∀ r12 : Int32, r12 = (f_X6_transferAt_n B a9) → (vp_in a9 (ix (bi B 194 9)) ∧ (∀ B14 : StB, B14 = (sba B 194 (ix a9) r12) → (vp_in a9 (ix (bi B14 194 9)) ∧ ((ok_X6_daysUntilDue_n B14 (ba B14 194 (ix a9))) ∧ (∀ r17 : Int32, r17 = (f_X6_daysUntilDue_n B14 (ba B14 194 (ix a9))) → (vp_in a9 (ix (bi B14 195 9)) ∧ (∀ B19 : StB, B19 = (sba B14 195 (ix a9) r17) → (vp_in a9 (ix (bi B19 194 9)) ∧ ((ok_X6_wouldBounce_n B19 (ba B19 194 (ix a9))) ∧ (∀ z22 : Int32 × StB, z22 = (f_X6_wouldBounce_n B19 (ba B19 194 (ix a9))) → (vp_in a9 (ix (bi z22.2 196 9)) ∧ (∀ B24 : StB, B24 = (sba z22.2 196 (ix a9) (vp_nar .boolean z22.1)) → (ok_L_arePredictionsRight_L125 n B24 a1 a2 a3 a8 (a9 + 1)))))))))))))))))) := hok
    refine x_iload (pc := 125) (i := 9) C 9 dL_arePredictionsRight_125 rfl ?_
    refine x_iload_n (pc := 127) (i := 3) C 3 dL_arePredictionsRight_127 rfl rfl ?_
    refine x_icmp_ge (pc := 128) (tgt := 176) C dL_arePredictionsRight_128 (by decide) (fun c10 => ?_) (fun c10 => ?_)
    · have hR := hR.trans (if_pos c10)
      refine x_sub [0, 1, 2, 3, 4, 5, 6, 7, 8] (ls2 := [(0, .ref (ad 176)), (1, .int a1), (2, .int a2), (3, .int a3), (4, .ref (ad 193)), (5, .ref (ad 194)), (6, .ref (ad 195)), (7, .ref (ad 196)), (8, .int a8)]) rfl ?_
      subst hR
      exact x_wid (by omega) (by omega) k
    · have hR := hR.trans (if_neg c10)
      have hok := hok.2 c10
      refine x_aload (pc := 131) (i := 5) C 5 dL_arePredictionsRight_131 rfl ?_
      refine x_iload (pc := 133) (i := 9) C 9 dL_arePredictionsRight_133 rfl ?_
      refine x_aload_n (pc := 135) (i := 0) C 0 dL_arePredictionsRight_135 rfl rfl ?_
      refine x_iload (pc := 136) (i := 9) C 9 dL_arePredictionsRight_136 rfl ?_
      have h11 := hok.1
      have hok := hok.2
      refine x_cIV (pc := 138) (as := [.int a9]) (q := 176) C (c_X6_transferAt_n C.2.2.2.2.2.2.2.1  B M O a9 h11) (fs := _) e_I rfl cv_X6_transferAt cd_X6_transferAt wd_4_123 ⟨Nat.le_of_ble_eq_true rfl, Nat.le_of_ble_eq_true rfl⟩ ⟨by simp only [rmd]; omega, by simp only [rmd]; omega⟩ rfl rfl (Nat.le_of_ble_eq_true rfl) dL_arePredictionsRight_138 ?_
      refine x_nmI (fun r12 er12 => ?_)
      have hR := nmE hR er12
      have hok := hok r12 er12
      have h13 := hok.1
      have hok := hok.2
      refine x_iastB (pc := 141) (q := 194) C (e_Q1 hG) (e_Q1 hG).2 h13 dL_arePredictionsRight_141 ?_
      refine x_nmB (fun B14 eB14 => ?_)
      have hR := nmE hR eB14
      have hok := hok B14 eB14
      refine x_aload (pc := 142) (i := 6) C 6 dL_arePredictionsRight_142 rfl ?_
      refine x_iload (pc := 144) (i := 9) C 9 dL_arePredictionsRight_144 rfl ?_
      refine x_aload_n (pc := 146) (i := 0) C 0 dL_arePredictionsRight_146 rfl rfl ?_
      refine x_aload (pc := 147) (i := 5) C 5 dL_arePredictionsRight_147 rfl ?_
      refine x_iload (pc := 149) (i := 9) C 9 dL_arePredictionsRight_149 rfl ?_
      have h15 := hok.1
      have hok := hok.2
      refine x_iald (pc := 151) (q := 194) C (e_Q1 hG) h15 dL_arePredictionsRight_151 ?_
      have h16 := hok.1
      have hok := hok.2
      refine x_cIV (pc := 152) (as := [.int (ba B14 194 (ix a9))]) (q := 176) C (c_X6_daysUntilDue_n C.2.2.2.2.2.2.2.1  B14 M O (ba B14 194 (ix a9)) h16) (fs := _) e_I rfl cv_X6_daysUntilDue cd_X6_daysUntilDue wd_4_230 ⟨Nat.le_of_ble_eq_true rfl, Nat.le_of_ble_eq_true rfl⟩ ⟨by simp only [rmd]; omega, by simp only [rmd]; omega⟩ rfl rfl (Nat.le_of_ble_eq_true rfl) dL_arePredictionsRight_152 ?_
      refine x_nmI (fun r17 er17 => ?_)
      have hR := nmE hR er17
      have hok := hok r17 er17
      have h18 := hok.1
      have hok := hok.2
      refine x_iastB (pc := 155) (q := 195) C (e_Q2 hG) (e_Q2 hG).2 h18 dL_arePredictionsRight_155 ?_
      refine x_nmB (fun B19 eB19 => ?_)
      have hR := nmE hR eB19
      have hok := hok B19 eB19
      refine x_aload (pc := 156) (i := 7) C 7 dL_arePredictionsRight_156 rfl ?_
      refine x_iload (pc := 158) (i := 9) C 9 dL_arePredictionsRight_158 rfl ?_
      refine x_aload_n (pc := 160) (i := 0) C 0 dL_arePredictionsRight_160 rfl rfl ?_
      refine x_aload (pc := 161) (i := 5) C 5 dL_arePredictionsRight_161 rfl ?_
      refine x_iload (pc := 163) (i := 9) C 9 dL_arePredictionsRight_163 rfl ?_
      have h20 := hok.1
      have hok := hok.2
      refine x_iald (pc := 165) (q := 194) C (e_Q1 hG) h20 dL_arePredictionsRight_165 ?_
      have h21 := hok.1
      have hok := hok.2
      refine x_cIV (pc := 166) (as := [.int (ba B19 194 (ix a9))]) (q := 176) C (c_X6_wouldBounce_n C.2.2.2.2.2.2.2.1  B19 M O (ba B19 194 (ix a9)) h21) (fs := _) e_I rfl cv_X6_wouldBounce cd_X6_wouldBounce wd_4_182 ⟨Nat.le_of_ble_eq_true rfl, Nat.le_of_ble_eq_true rfl⟩ ⟨by simp only [rmd]; omega, by simp only [rmd]; omega⟩ rfl rfl (Nat.le_of_ble_eq_true rfl) dL_arePredictionsRight_166 ?_
      refine x_nmIB (fun z22 ez22 => ?_)
      have hR := nmE hR ez22
      have hok := hok z22 ez22
      have h23 := hok.1
      have hok := hok.2
      refine x_zastB (pc := 169) (q := 196) C (e_Q3 hG) (e_Q3 hG).2 h23 dL_arePredictionsRight_169 ?_
      refine x_nmB (fun B24 eB24 => ?_)
      have hR := nmE hR eB24
      have hok := hok B24 eB24
      refine x_iinc (pc := 170) (i := 9) (v := (a9 + 1)) (ls2 := [(9, .int (a9 + 1)), (0, .ref (ad 176)), (1, .int a1), (2, .int a2), (3, .int a3), (4, .ref (ad 193)), (5, .ref (ad 194)), (6, .ref (ad 195)), (7, .ref (ad 196)), (8, .int a8)]) C 9 dL_arePredictionsRight_170 rfl rfl (by decide) rfl ?_
      refine x_goto (pc := 173) (tgt := 125) C dL_arePredictionsRight_173 (by decide) ?_
      refine x_sub [1, 2, 3, 4, 5, 6, 7, 8, 9, 0] (ls2 := [(0, .ref (ad 176)), (1, .int a1), (2, .int a2), (3, .int a3), (4, .ref (ad 193)), (5, .ref (ad 194)), (6, .ref (ad 195)), (7, .ref (ad 196)), (8, .int a8), (9, .int (a9 + 1))]) rfl ?_
      refine x_wid (k0 := cs0 + 0) (n0 := ss0 + 0) (by omega) (by omega) ?_
      exact ih B24 a1 a2 a3 a8 (a9 + 1) _ _ ⟨by omega, by omega⟩ R0 hR hok (x_wid (by omega) (by omega) k)
set_option maxHeartbeats 4000000 in
set_option maxRecDepth 100000 in
theorem t_L_arePredictionsRight_L198 {p0 : Program} {l : Launch} {e : Env} {s : State} {m : MethodId} {args : Array Value} {below : List Frame} {meth : Method} {c : Code} {A : Nat → Prop} {G : GT} {ad : Nat → Nat} {Q : State → Prop} (C : CX p0 l s m args meth c A G ad cL_arePredictionsRight RL 16 (some .boolean)) (hG : G.2.2.2.2 2 = 1 ∧ G.2.2.2.2 3 = 4)   (n : Nat) (B : StB) (a1 : Int32) (a2 : Int32) (a3 : Int32) (a8 : Int32) (a10 : Int32) (a11 : Int32) (a12 : Int32) (M : StM) (O : StO) : ∀ (cs0 ss0 : Nat) (hcs : cs0 + n * 0 ≤ 96 ∧ ss0 + n * 0 ≤ 592) (R0 : Int32) (hR : R0 = f_L_arePredictionsRight_L198 n B a1 a2 a3 a8 a10 a11 a12) (hok : ok_L_arePredictionsRight_L198 n B a1 a2 a3 a8 a10 a11 a12) (k : X p0 l e (rmd 22 96 592) s m args below meth c A G ad 16 (cs0 + n * 0) (ss0 + n * 0) Q B M O [(0, .ref (ad 176)), (1, .int a1), (3, .int a3), (5, .ref (ad 194)), (6, .ref (ad 195)), (7, .ref (ad 196)), (8, .int R0), (10, .int a10), (11, .int a11)] 245 []), X p0 l e (rmd 22 96 592) s m args below meth c A G ad 16 cs0 ss0 Q B M O [(0, .ref (ad 176)), (1, .int a1), (2, .int a2), (3, .int a3), (4, .ref (ad 193)), (5, .ref (ad 194)), (6, .ref (ad 195)), (7, .ref (ad 196)), (8, .int a8), (10, .int a10), (11, .int a11), (12, .int a12)] 198 [] := by
  induction n generalizing B a1 a2 a3 a8 a10 a11 a12 with
  | zero => intro cs0 ss0 hcs R0 hR hok k; exact False.elim hok
  | succ n ih =>
    intro cs0 ss0 hcs R0 hR hok k
    have hR : R0 = (if a2 ≤ a12 then a8 else (if a8 = 0 then (f_L_arePredictionsRight_L198 n B a1 a2 a3 0 a10 a11 (a12 + 1)) else (nm (f_X6_balanceOf_n B a12) (fun (r34 : Int32) => (if r34 = (ba B 193 (ix a12)) then (nm (f_X6_wasTouched_n B a12) (fun (r38 : Int32) => (if r38 = 0 then (f_L_arePredictionsRight_L198 n B a1 a2 a3 1 a10 a11 (a12 + 1)) else (f_L_arePredictionsRight_L198 n B a1 a2 a3 0 a10 a11 (a12 + 1))))) else (f_L_arePredictionsRight_L198 n B a1 a2 a3 0 a10 a11 (a12 + 1))))))) := hR
    have hok : ((a2 ≤ a12 → True) ∧ (¬ a2 ≤ a12 → ((a8 = 0 → (ok_L_arePredictionsRight_L198 n B a1 a2 a3 0 a10 a11 (a12 + 1))) ∧ (¬ a8 = 0 → ((ok_X6_balanceOf_n B a12) ∧ (∀ r34 : Int32, r34 = (f_X6_balanceOf_n B a12) → (vp_in a12 (ix (bi B 193 9)) ∧ ((r34 = (ba B 193 (ix a12)) → ((ok_X6_wasTouched_n B a12) ∧ (∀ r38 : Int32, r38 = (f_X6_wasTouched_n B a12) → ((r38 = 0 → (ok_L_arePredictionsRight_L198 n B a1 a2 a3 1 a10 a11 (a12 + 1))) ∧ (¬ r38 = 0 → (ok_L_arePredictionsRight_L198 n B a1 a2 a3 0 a10 a11 (a12 + 1))))))) ∧ (¬ r34 = (ba B 193 (ix a12)) → (ok_L_arePredictionsRight_L198 n B a1 a2 a3 0 a10 a11 (a12 + 1))))))))))) := hok
    refine x_iload (pc := 198) (i := 12) C 11 dL_arePredictionsRight_198 rfl ?_
    refine x_iload_n (pc := 200) (i := 2) C 2 dL_arePredictionsRight_200 rfl rfl ?_
    refine x_icmp_ge (pc := 201) (tgt := 245) C dL_arePredictionsRight_201 (by decide) (fun c31 => ?_) (fun c31 => ?_)
    · have hR := hR.trans (if_pos c31)
      refine x_sub [0, 1, 3, 5, 6, 7, 8, 9, 10] (ls2 := [(0, .ref (ad 176)), (1, .int a1), (3, .int a3), (5, .ref (ad 194)), (6, .ref (ad 195)), (7, .ref (ad 196)), (8, .int a8), (10, .int a10), (11, .int a11)]) rfl ?_
      subst hR
      exact x_wid (by omega) (by omega) k
    · have hR := hR.trans (if_neg c31)
      have hok := hok.2 c31
      refine x_iload (pc := 204) (i := 8) C 8 dL_arePredictionsRight_204 rfl ?_
      refine x_if_eq (pc := 206) (tgt := 236) C dL_arePredictionsRight_206 (by decide) (fun c32 => ?_) (fun c32 => ?_)
      · have hR := hR.trans (if_pos c32)
        have hok := hok.1 c32
        refine x_iconst (pc := 236) (v := 0) C dL_arePredictionsRight_236 (by decide) ?_
        refine x_istore (pc := 237) (i := 8) (ls2 := [(8, .int 0), (0, .ref (ad 176)), (1, .int a1), (2, .int a2), (3, .int a3), (4, .ref (ad 193)), (5, .ref (ad 194)), (6, .ref (ad 195)), (7, .ref (ad 196)), (10, .int a10), (11, .int a11), (12, .int a12)]) C dL_arePredictionsRight_237 (by decide) rfl ?_
        refine x_iinc (pc := 239) (i := 12) (v := (a12 + 1)) (ls2 := [(12, .int (a12 + 1)), (8, .int 0), (0, .ref (ad 176)), (1, .int a1), (2, .int a2), (3, .int a3), (4, .ref (ad 193)), (5, .ref (ad 194)), (6, .ref (ad 195)), (7, .ref (ad 196)), (10, .int a10), (11, .int a11)]) C 11 dL_arePredictionsRight_239 rfl rfl (by decide) rfl ?_
        refine x_goto (pc := 242) (tgt := 198) C dL_arePredictionsRight_242 (by decide) ?_
        refine x_sub [2, 3, 4, 5, 6, 7, 8, 9, 1, 10, 11, 0] (ls2 := [(0, .ref (ad 176)), (1, .int a1), (2, .int a2), (3, .int a3), (4, .ref (ad 193)), (5, .ref (ad 194)), (6, .ref (ad 195)), (7, .ref (ad 196)), (8, .int 0), (10, .int a10), (11, .int a11), (12, .int (a12 + 1))]) rfl ?_
        refine x_wid (k0 := cs0 + 0) (n0 := ss0 + 0) (by omega) (by omega) ?_
        exact ih B a1 a2 a3 0 a10 a11 (a12 + 1) _ _ ⟨by omega, by omega⟩ R0 hR hok (x_wid (by omega) (by omega) k)
      · have hR := hR.trans (if_neg c32)
        have hok := hok.2 c32
        refine x_aload_n (pc := 209) (i := 0) C 0 dL_arePredictionsRight_209 rfl rfl ?_
        refine x_iload (pc := 210) (i := 12) C 11 dL_arePredictionsRight_210 rfl ?_
        have h33 := hok.1
        have hok := hok.2
        refine x_cIV (pc := 212) (as := [.int a12]) (q := 176) C (c_X6_balanceOf_n C.2.2.2.2.2.2.2.1  B M O a12 h33) (fs := _) e_I rfl cv_X6_balanceOf cd_X6_balanceOf wd_4_144 ⟨Nat.le_of_ble_eq_true rfl, Nat.le_of_ble_eq_true rfl⟩ ⟨by simp only [rmd]; omega, by simp only [rmd]; omega⟩ rfl rfl (Nat.le_of_ble_eq_true rfl) dL_arePredictionsRight_212 ?_
        refine x_nmI (fun r34 er34 => ?_)
        have hR := nmE hR er34
        have hok := hok r34 er34
        refine x_aload (pc := 215) (i := 4) C 4 dL_arePredictionsRight_215 rfl ?_
        refine x_iload (pc := 217) (i := 12) C 11 dL_arePredictionsRight_217 rfl ?_
        have h35 := hok.1
        have hok := hok.2
        refine x_iald (pc := 219) (q := 193) C (e_Q0 hG) h35 dL_arePredictionsRight_219 ?_
        refine x_icmp_ne (pc := 220) (tgt := 236) C dL_arePredictionsRight_220 (by decide) (fun c36 => ?_) (fun c36 => ?_)
        · have hR := hR.trans (if_neg c36)
          have hok := hok.2 c36
          refine x_iconst (pc := 236) (v := 0) C dL_arePredictionsRight_236 (by decide) ?_
          refine x_istore (pc := 237) (i := 8) (ls2 := [(8, .int 0), (0, .ref (ad 176)), (1, .int a1), (2, .int a2), (3, .int a3), (4, .ref (ad 193)), (5, .ref (ad 194)), (6, .ref (ad 195)), (7, .ref (ad 196)), (10, .int a10), (11, .int a11), (12, .int a12)]) C dL_arePredictionsRight_237 (by decide) rfl ?_
          refine x_iinc (pc := 239) (i := 12) (v := (a12 + 1)) (ls2 := [(12, .int (a12 + 1)), (8, .int 0), (0, .ref (ad 176)), (1, .int a1), (2, .int a2), (3, .int a3), (4, .ref (ad 193)), (5, .ref (ad 194)), (6, .ref (ad 195)), (7, .ref (ad 196)), (10, .int a10), (11, .int a11)]) C 11 dL_arePredictionsRight_239 rfl rfl (by decide) rfl ?_
          refine x_goto (pc := 242) (tgt := 198) C dL_arePredictionsRight_242 (by decide) ?_
          refine x_sub [2, 3, 4, 5, 6, 7, 8, 9, 1, 10, 11, 0] (ls2 := [(0, .ref (ad 176)), (1, .int a1), (2, .int a2), (3, .int a3), (4, .ref (ad 193)), (5, .ref (ad 194)), (6, .ref (ad 195)), (7, .ref (ad 196)), (8, .int 0), (10, .int a10), (11, .int a11), (12, .int (a12 + 1))]) rfl ?_
          refine x_wid (k0 := cs0 + 0) (n0 := ss0 + 0) (by omega) (by omega) ?_
          exact ih B a1 a2 a3 0 a10 a11 (a12 + 1) _ _ ⟨by omega, by omega⟩ R0 hR hok (x_wid (by omega) (by omega) k)
        · have hR := hR.trans (if_pos c36)
          have hok := hok.1 c36
          refine x_aload_n (pc := 223) (i := 0) C 0 dL_arePredictionsRight_223 rfl rfl ?_
          refine x_iload (pc := 224) (i := 12) C 11 dL_arePredictionsRight_224 rfl ?_
          have h37 := hok.1
          have hok := hok.2
          refine x_cIV (pc := 226) (as := [.int a12]) (q := 176) C (c_X6_wasTouched_n C.2.2.2.2.2.2.2.1  B M O a12 h37) (fs := _) e_I rfl cv_X6_wasTouched cd_X6_wasTouched wd_5_16 ⟨Nat.le_of_ble_eq_true rfl, Nat.le_of_ble_eq_true rfl⟩ ⟨by simp only [rmd]; omega, by simp only [rmd]; omega⟩ rfl rfl (Nat.le_of_ble_eq_true rfl) dL_arePredictionsRight_226 ?_
          refine x_nmI (fun r38 er38 => ?_)
          have hR := nmE hR er38
          have hok := hok r38 er38
          refine x_if_ne (pc := 229) (tgt := 236) C dL_arePredictionsRight_229 (by decide) (fun c39 => ?_) (fun c39 => ?_)
          · have hR := hR.trans (if_neg c39)
            have hok := hok.2 c39
            refine x_iconst (pc := 236) (v := 0) C dL_arePredictionsRight_236 (by decide) ?_
            refine x_istore (pc := 237) (i := 8) (ls2 := [(8, .int 0), (0, .ref (ad 176)), (1, .int a1), (2, .int a2), (3, .int a3), (4, .ref (ad 193)), (5, .ref (ad 194)), (6, .ref (ad 195)), (7, .ref (ad 196)), (10, .int a10), (11, .int a11), (12, .int a12)]) C dL_arePredictionsRight_237 (by decide) rfl ?_
            refine x_iinc (pc := 239) (i := 12) (v := (a12 + 1)) (ls2 := [(12, .int (a12 + 1)), (8, .int 0), (0, .ref (ad 176)), (1, .int a1), (2, .int a2), (3, .int a3), (4, .ref (ad 193)), (5, .ref (ad 194)), (6, .ref (ad 195)), (7, .ref (ad 196)), (10, .int a10), (11, .int a11)]) C 11 dL_arePredictionsRight_239 rfl rfl (by decide) rfl ?_
            refine x_goto (pc := 242) (tgt := 198) C dL_arePredictionsRight_242 (by decide) ?_
            refine x_sub [2, 3, 4, 5, 6, 7, 8, 9, 1, 10, 11, 0] (ls2 := [(0, .ref (ad 176)), (1, .int a1), (2, .int a2), (3, .int a3), (4, .ref (ad 193)), (5, .ref (ad 194)), (6, .ref (ad 195)), (7, .ref (ad 196)), (8, .int 0), (10, .int a10), (11, .int a11), (12, .int (a12 + 1))]) rfl ?_
            refine x_wid (k0 := cs0 + 0) (n0 := ss0 + 0) (by omega) (by omega) ?_
            exact ih B a1 a2 a3 0 a10 a11 (a12 + 1) _ _ ⟨by omega, by omega⟩ R0 hR hok (x_wid (by omega) (by omega) k)
          · have hR := hR.trans (if_pos c39)
            have hok := hok.1 c39
            refine x_iconst (pc := 232) (v := 1) C dL_arePredictionsRight_232 (by decide) ?_
            refine x_goto (pc := 233) (tgt := 237) C dL_arePredictionsRight_233 (by decide) ?_
            refine x_istore (pc := 237) (i := 8) (ls2 := [(8, .int 1), (0, .ref (ad 176)), (1, .int a1), (2, .int a2), (3, .int a3), (4, .ref (ad 193)), (5, .ref (ad 194)), (6, .ref (ad 195)), (7, .ref (ad 196)), (10, .int a10), (11, .int a11), (12, .int a12)]) C dL_arePredictionsRight_237 (by decide) rfl ?_
            refine x_iinc (pc := 239) (i := 12) (v := (a12 + 1)) (ls2 := [(12, .int (a12 + 1)), (8, .int 1), (0, .ref (ad 176)), (1, .int a1), (2, .int a2), (3, .int a3), (4, .ref (ad 193)), (5, .ref (ad 194)), (6, .ref (ad 195)), (7, .ref (ad 196)), (10, .int a10), (11, .int a11)]) C 11 dL_arePredictionsRight_239 rfl rfl (by decide) rfl ?_
            refine x_goto (pc := 242) (tgt := 198) C dL_arePredictionsRight_242 (by decide) ?_
            refine x_sub [2, 3, 4, 5, 6, 7, 8, 9, 1, 10, 11, 0] (ls2 := [(0, .ref (ad 176)), (1, .int a1), (2, .int a2), (3, .int a3), (4, .ref (ad 193)), (5, .ref (ad 194)), (6, .ref (ad 195)), (7, .ref (ad 196)), (8, .int 1), (10, .int a10), (11, .int a11), (12, .int (a12 + 1))]) rfl ?_
            refine x_wid (k0 := cs0 + 0) (n0 := ss0 + 0) (by omega) (by omega) ?_
            exact ih B a1 a2 a3 1 a10 a11 (a12 + 1) _ _ ⟨by omega, by omega⟩ R0 hR hok (x_wid (by omega) (by omega) k)
set_option maxHeartbeats 4000000 in
set_option maxRecDepth 100000 in
theorem t_L_arePredictionsRight_L254 {p0 : Program} {l : Launch} {e : Env} {s : State} {m : MethodId} {args : Array Value} {below : List Frame} {meth : Method} {c : Code} {A : Nat → Prop} {G : GT} {ad : Nat → Nat} {Q : State → Prop} (C : CX p0 l s m args meth c A G ad cL_arePredictionsRight RL 16 (some .boolean)) (hG : G.2.2.2.2 2 = 1 ∧ G.2.2.2.2 3 = 4)   (n : Nat) (B : StB) (a1 : Int32) (a3 : Int32) (a8 : Int32) (a10 : Int32) (a11 : Int32) (a12 : Int32) (a13 : Int32) (a14 : Int32) (M : StM) (O : StO) : ∀ (cs0 ss0 : Nat) (hcs : cs0 + n * 4 ≤ 96 ∧ ss0 + n * 24 ≤ 592) (R0 : Int32 × Int32 × Int32 × StB) (hR : R0 = f_L_arePredictionsRight_L254 n B a1 a3 a8 a10 a11 a12 a13 a14) (hok : ok_L_arePredictionsRight_L254 n B a1 a3 a8 a10 a11 a12 a13 a14) (k : X p0 l e (rmd 22 96 592) s m args below meth c A G ad 16 (cs0 + n * 4) (ss0 + n * 24) Q R0.2.2.2 M O [(0, .ref (ad 176)), (8, .int R0.1), (10, .int a10), (11, .int a11), (12, .int R0.2.1), (13, .int R0.2.2.1)] 368 []), X p0 l e (rmd 22 96 592) s m args below meth c A G ad 16 cs0 ss0 Q B M O [(0, .ref (ad 176)), (1, .int a1), (3, .int a3), (5, .ref (ad 194)), (6, .ref (ad 195)), (7, .ref (ad 196)), (8, .int a8), (10, .int a10), (11, .int a11), (12, .int a12), (13, .int a13), (14, .int a14)] 254 [] := by
  induction n generalizing B a1 a3 a8 a10 a11 a12 a13 a14 with
  | zero => intro cs0 ss0 hcs R0 hR hok k; exact False.elim hok
  | succ n ih =>
    intro cs0 ss0 hcs R0 hR hok k
    have hR : R0 = (if a3 ≤ a14 then (a8, a12, a13, B) else (if a1 ≤ (ba B 195 (ix a14)) then (nm (a12 + 0) (fun (v45 : Int32) => (nm (a13 + 0) (fun (v47 : Int32) => (if a8 = 0 then (f_L_arePredictionsRight_L254 n B a1 a3 0 a10 a11 v45 v47 (a14 + 1)) else (nm (f_L_ask B 11 (ba B 194 (ix a14)) 0) (fun (z51 : Int32 × StB) => (if z51.1 = (-20004) then (f_L_arePredictionsRight_L254 n z51.2 a1 a3 0 a10 a11 v45 v47 (a14 + 1)) else (f_L_arePredictionsRight_L254 n z51.2 a1 a3 1 a10 a11 v45 v47 (a14 + 1)))))))))) else (if (ba B 196 (ix a14)) = 0 then (nm (a12 + 1) (fun (v78 : Int32) => (if (ba B 196 (ix a14)) = 0 then (nm (a13 + 0) (fun (v82 : Int32) => (if a8 = 0 then (f_L_arePredictionsRight_L254 n B a1 a3 0 a10 a11 v78 v82 (a14 + 1)) else (nm (f_L_ask B 11 (ba B 194 (ix a14)) 0) (fun (z86 : Int32 × StB) => (if z86.1 = (-20004) then (f_L_arePredictionsRight_L254 n z86.2 a1 a3 1 a10 a11 v78 v82 (a14 + 1)) else (f_L_arePredictionsRight_L254 n z86.2 a1 a3 0 a10 a11 v78 v82 (a14 + 1)))))))) else (nm (a13 + 1) (fun (v90 : Int32) => (if a8 = 0 then (f_L_arePredictionsRight_L254 n B a1 a3 0 a10 a11 v78 v90 (a14 + 1)) else (nm (f_L_ask B 11 (ba B 194 (ix a14)) 0) (fun (z94 : Int32 × StB) => (if z94.1 = (-20004) then (f_L_arePredictionsRight_L254 n z94.2 a1 a3 1 a10 a11 v78 v90 (a14 + 1)) else (f_L_arePredictionsRight_L254 n z94.2 a1 a3 0 a10 a11 v78 v90 (a14 + 1))))))))))) else (nm (a12 + 0) (fun (v58 : Int32) => (if (ba B 196 (ix a14)) = 0 then (nm (a13 + 0) (fun (v62 : Int32) => (if a8 = 0 then (f_L_arePredictionsRight_L254 n B a1 a3 0 a10 a11 v58 v62 (a14 + 1)) else (nm (f_L_ask B 11 (ba B 194 (ix a14)) 0) (fun (z66 : Int32 × StB) => (if z66.1 = (-20004) then (f_L_arePredictionsRight_L254 n z66.2 a1 a3 1 a10 a11 v58 v62 (a14 + 1)) else (f_L_arePredictionsRight_L254 n z66.2 a1 a3 0 a10 a11 v58 v62 (a14 + 1)))))))) else (nm (a13 + 1) (fun (v70 : Int32) => (if a8 = 0 then (f_L_arePredictionsRight_L254 n B a1 a3 0 a10 a11 v58 v70 (a14 + 1)) else (nm (f_L_ask B 11 (ba B 194 (ix a14)) 0) (fun (z74 : Int32 × StB) => (if z74.1 = (-20004) then (f_L_arePredictionsRight_L254 n z74.2 a1 a3 1 a10 a11 v58 v70 (a14 + 1)) else (f_L_arePredictionsRight_L254 n z74.2 a1 a3 0 a10 a11 v58 v70 (a14 + 1)))))))))))))) := hR
    have hok : ((a3 ≤ a14 → True) ∧ (¬ a3 ≤ a14 → (vp_in a14 (ix (bi B 195 9)) ∧ ((a1 ≤ (ba B 195 (ix a14)) → (∀ v45 : Int32, v45 = (a12 + 0) → (∀ v47 : Int32, v47 = (a13 + 0) → ((a8 = 0 → (ok_L_arePredictionsRight_L254 n B a1 a3 0 a10 a11 v45 v47 (a14 + 1))) ∧ (¬ a8 = 0 → (vp_in a14 (ix (bi B 194 9)) ∧ ((ok_L_ask B 11 (ba B 194 (ix a14)) 0) ∧ (∀ z51 : Int32 × StB, z51 = (f_L_ask B 11 (ba B 194 (ix a14)) 0) → ((z51.1 = (-20004) → (ok_L_arePredictionsRight_L254 n z51.2 a1 a3 0 a10 a11 v45 v47 (a14 + 1))) ∧ (¬ z51.1 = (-20004) → (ok_L_arePredictionsRight_L254 n z51.2 a1 a3 1 a10 a11 v45 v47 (a14 + 1)))))))))))) ∧ (¬ a1 ≤ (ba B 195 (ix a14)) → (vp_in a14 (ix (bi B 196 9)) ∧ (((ba B 196 (ix a14)) = 0 → (∀ v78 : Int32, v78 = (a12 + 1) → (vp_in a14 (ix (bi B 196 9)) ∧ (((ba B 196 (ix a14)) = 0 → (∀ v82 : Int32, v82 = (a13 + 0) → ((a8 = 0 → (ok_L_arePredictionsRight_L254 n B a1 a3 0 a10 a11 v78 v82 (a14 + 1))) ∧ (¬ a8 = 0 → (vp_in a14 (ix (bi B 194 9)) ∧ ((ok_L_ask B 11 (ba B 194 (ix a14)) 0) ∧ (∀ z86 : Int32 × StB, z86 = (f_L_ask B 11 (ba B 194 (ix a14)) 0) → ((z86.1 = (-20004) → (ok_L_arePredictionsRight_L254 n z86.2 a1 a3 1 a10 a11 v78 v82 (a14 + 1))) ∧ (¬ z86.1 = (-20004) → (ok_L_arePredictionsRight_L254 n z86.2 a1 a3 0 a10 a11 v78 v82 (a14 + 1))))))))))) ∧ (¬ (ba B 196 (ix a14)) = 0 → (∀ v90 : Int32, v90 = (a13 + 1) → ((a8 = 0 → (ok_L_arePredictionsRight_L254 n B a1 a3 0 a10 a11 v78 v90 (a14 + 1))) ∧ (¬ a8 = 0 → (vp_in a14 (ix (bi B 194 9)) ∧ ((ok_L_ask B 11 (ba B 194 (ix a14)) 0) ∧ (∀ z94 : Int32 × StB, z94 = (f_L_ask B 11 (ba B 194 (ix a14)) 0) → ((z94.1 = (-20004) → (ok_L_arePredictionsRight_L254 n z94.2 a1 a3 1 a10 a11 v78 v90 (a14 + 1))) ∧ (¬ z94.1 = (-20004) → (ok_L_arePredictionsRight_L254 n z94.2 a1 a3 0 a10 a11 v78 v90 (a14 + 1))))))))))))))) ∧ (¬ (ba B 196 (ix a14)) = 0 → (∀ v58 : Int32, v58 = (a12 + 0) → (vp_in a14 (ix (bi B 196 9)) ∧ (((ba B 196 (ix a14)) = 0 → (∀ v62 : Int32, v62 = (a13 + 0) → ((a8 = 0 → (ok_L_arePredictionsRight_L254 n B a1 a3 0 a10 a11 v58 v62 (a14 + 1))) ∧ (¬ a8 = 0 → (vp_in a14 (ix (bi B 194 9)) ∧ ((ok_L_ask B 11 (ba B 194 (ix a14)) 0) ∧ (∀ z66 : Int32 × StB, z66 = (f_L_ask B 11 (ba B 194 (ix a14)) 0) → ((z66.1 = (-20004) → (ok_L_arePredictionsRight_L254 n z66.2 a1 a3 1 a10 a11 v58 v62 (a14 + 1))) ∧ (¬ z66.1 = (-20004) → (ok_L_arePredictionsRight_L254 n z66.2 a1 a3 0 a10 a11 v58 v62 (a14 + 1))))))))))) ∧ (¬ (ba B 196 (ix a14)) = 0 → (∀ v70 : Int32, v70 = (a13 + 1) → ((a8 = 0 → (ok_L_arePredictionsRight_L254 n B a1 a3 0 a10 a11 v58 v70 (a14 + 1))) ∧ (¬ a8 = 0 → (vp_in a14 (ix (bi B 194 9)) ∧ ((ok_L_ask B 11 (ba B 194 (ix a14)) 0) ∧ (∀ z74 : Int32 × StB, z74 = (f_L_ask B 11 (ba B 194 (ix a14)) 0) → ((z74.1 = (-20004) → (ok_L_arePredictionsRight_L254 n z74.2 a1 a3 1 a10 a11 v58 v70 (a14 + 1))) ∧ (¬ z74.1 = (-20004) → (ok_L_arePredictionsRight_L254 n z74.2 a1 a3 0 a10 a11 v58 v70 (a14 + 1)))))))))))))))))))))) := hok
    refine x_iload (pc := 254) (i := 14) C 11 dL_arePredictionsRight_254 rfl ?_
    refine x_iload_n (pc := 256) (i := 3) C 2 dL_arePredictionsRight_256 rfl rfl ?_
    refine x_icmp_ge (pc := 257) (tgt := 368) C dL_arePredictionsRight_257 (by decide) (fun c41 => ?_) (fun c41 => ?_)
    · have hR := hR.trans (if_pos c41)
      refine x_sub [0, 6, 7, 8, 9, 10] (ls2 := [(0, .ref (ad 176)), (8, .int a8), (10, .int a10), (11, .int a11), (12, .int a12), (13, .int a13)]) rfl ?_
      subst hR
      exact x_wid (by omega) (by omega) k
    · have hR := hR.trans (if_neg c41)
      have hok := hok.2 c41
      refine x_aload (pc := 260) (i := 6) C 4 dL_arePredictionsRight_260 rfl ?_
      refine x_iload (pc := 262) (i := 14) C 11 dL_arePredictionsRight_262 rfl ?_
      have h42 := hok.1
      have hok := hok.2
      refine x_iald (pc := 264) (q := 195) C (e_Q2 hG) h42 dL_arePredictionsRight_264 ?_
      refine x_iload_n (pc := 265) (i := 1) C 1 dL_arePredictionsRight_265 rfl rfl ?_
      refine x_icmp_ge (pc := 266) (tgt := 273) C dL_arePredictionsRight_266 (by decide) (fun c43 => ?_) (fun c43 => ?_)
      · have hR := hR.trans (if_pos c43)
        have hok := hok.1 c43
        refine x_iconst (pc := 273) (v := 0) C dL_arePredictionsRight_273 (by decide) ?_
        refine x_istore (pc := 274) (i := 15) (ls2 := [(15, .int 0), (0, .ref (ad 176)), (1, .int a1), (3, .int a3), (5, .ref (ad 194)), (6, .ref (ad 195)), (7, .ref (ad 196)), (8, .int a8), (10, .int a10), (11, .int a11), (12, .int a12), (13, .int a13), (14, .int a14)]) C dL_arePredictionsRight_274 (by decide) rfl ?_
        refine x_iload (pc := 276) (i := 12) C 10 dL_arePredictionsRight_276 rfl ?_
        refine x_iload (pc := 278) (i := 15) C 0 dL_arePredictionsRight_278 rfl ?_
        refine x_if_eq (pc := 280) (tgt := 295) C dL_arePredictionsRight_280 (by decide) (fun _ => ?_) (fun hf => absurd hf (by decide))
        refine x_iconst (pc := 295) (v := 0) C dL_arePredictionsRight_295 (by decide) ?_
        refine x_iadd (pc := 296) C dL_arePredictionsRight_296 ?_
        refine x_nmI (fun v45 ev45 => ?_)
        have hR := nmE hR ev45
        have hok := hok v45 ev45
        refine x_istore (pc := 297) (i := 12) (ls2 := [(12, .int v45), (15, .int 0), (0, .ref (ad 176)), (1, .int a1), (3, .int a3), (5, .ref (ad 194)), (6, .ref (ad 195)), (7, .ref (ad 196)), (8, .int a8), (10, .int a10), (11, .int a11), (13, .int a13), (14, .int a14)]) C dL_arePredictionsRight_297 (by decide) rfl ?_
        refine x_iload (pc := 299) (i := 13) C 11 dL_arePredictionsRight_299 rfl ?_
        refine x_iload (pc := 301) (i := 15) C 1 dL_arePredictionsRight_301 rfl ?_
        refine x_if_eq (pc := 303) (tgt := 318) C dL_arePredictionsRight_303 (by decide) (fun _ => ?_) (fun hf => absurd hf (by decide))
        refine x_iconst (pc := 318) (v := 0) C dL_arePredictionsRight_318 (by decide) ?_
        refine x_iadd (pc := 319) C dL_arePredictionsRight_319 ?_
        refine x_nmI (fun v47 ev47 => ?_)
        have hR := nmE hR ev47
        have hok := hok v47 ev47
        refine x_istore (pc := 320) (i := 13) (ls2 := [(13, .int v47), (12, .int v45), (15, .int 0), (0, .ref (ad 176)), (1, .int a1), (3, .int a3), (5, .ref (ad 194)), (6, .ref (ad 195)), (7, .ref (ad 196)), (8, .int a8), (10, .int a10), (11, .int a11), (14, .int a14)]) C dL_arePredictionsRight_320 (by decide) rfl ?_
        refine x_iload (pc := 322) (i := 8) C 9 dL_arePredictionsRight_322 rfl ?_
        refine x_if_eq (pc := 324) (tgt := 359) C dL_arePredictionsRight_324 (by decide) (fun c48 => ?_) (fun c48 => ?_)
        · have hR := hR.trans (if_pos c48)
          have hok := hok.1 c48
          refine x_iconst (pc := 359) (v := 0) C dL_arePredictionsRight_359 (by decide) ?_
          refine x_istore (pc := 360) (i := 8) (ls2 := [(8, .int 0), (13, .int v47), (12, .int v45), (15, .int 0), (0, .ref (ad 176)), (1, .int a1), (3, .int a3), (5, .ref (ad 194)), (6, .ref (ad 195)), (7, .ref (ad 196)), (10, .int a10), (11, .int a11), (14, .int a14)]) C dL_arePredictionsRight_360 (by decide) rfl ?_
          refine x_iinc (pc := 362) (i := 14) (v := (a14 + 1)) (ls2 := [(14, .int (a14 + 1)), (8, .int 0), (13, .int v47), (12, .int v45), (15, .int 0), (0, .ref (ad 176)), (1, .int a1), (3, .int a3), (5, .ref (ad 194)), (6, .ref (ad 195)), (7, .ref (ad 196)), (10, .int a10), (11, .int a11)]) C 12 dL_arePredictionsRight_362 rfl rfl (by decide) rfl ?_
          refine x_goto (pc := 365) (tgt := 254) C dL_arePredictionsRight_365 (by decide) ?_
          refine x_sub [5, 6, 7, 8, 9, 10, 1, 11, 12, 3, 2, 0] (ls2 := [(0, .ref (ad 176)), (1, .int a1), (3, .int a3), (5, .ref (ad 194)), (6, .ref (ad 195)), (7, .ref (ad 196)), (8, .int 0), (10, .int a10), (11, .int a11), (12, .int v45), (13, .int v47), (14, .int (a14 + 1))]) rfl ?_
          refine x_wid (k0 := cs0 + 4) (n0 := ss0 + 24) (by omega) (by omega) ?_
          exact ih B a1 a3 0 a10 a11 v45 v47 (a14 + 1) _ _ ⟨by omega, by omega⟩ R0 hR hok (x_wid (by omega) (by omega) k)
        · have hR := hR.trans (if_neg c48)
          have hok := hok.2 c48
          refine x_aload_n (pc := 327) (i := 0) C 3 dL_arePredictionsRight_327 rfl rfl ?_
          refine x_bipush (pc := 328) (v := 11) C dL_arePredictionsRight_328 (by decide) ?_
          refine x_aload (pc := 330) (i := 5) C 6 dL_arePredictionsRight_330 rfl ?_
          refine x_iload (pc := 332) (i := 14) C 12 dL_arePredictionsRight_332 rfl ?_
          have h49 := hok.1
          have hok := hok.2
          refine x_iald (pc := 334) (q := 194) C (e_Q1 hG) h49 dL_arePredictionsRight_334 ?_
          refine x_iconst (pc := 335) (v := 0) C dL_arePredictionsRight_335 (by decide) ?_
          have h50 := hok.1
          have hok := hok.2
          refine x_cWS (pc := 336) (as := [.ref (ad 176), .int 11, .int (ba B 194 (ix a14)), .int 0]) (n := 4) C (c_L_ask C.2.2.2.2.2.2.2.1  B M O 11 (ba B 194 (ix a14)) 0 h50) wd_4_138 wd_4_139 wd_1_0 wd_4_140 ⟨by decide, by decide, by decide +kernel⟩ ⟨Nat.le_of_ble_eq_true rfl, Nat.le_of_ble_eq_true rfl⟩ ⟨by simp only [rmd]; omega, by simp only [rmd]; omega⟩ rfl rfl (Nat.le_of_ble_eq_true rfl) dL_arePredictionsRight_336 ?_
          refine x_nmIB (fun z51 ez51 => ?_)
          have hR := nmE hR ez51
          have hok := hok z51 ez51
          refine x_sipush (pc := 339) (v := (-20004)) C dL_arePredictionsRight_339 (by decide) ?_
          refine x_icmp_ne (pc := 342) (tgt := 349) C dL_arePredictionsRight_342 (by decide) (fun c52 => ?_) (fun c52 => ?_)
          · have hR := hR.trans (if_neg c52)
            have hok := hok.2 c52
            refine x_iconst (pc := 349) (v := 0) C dL_arePredictionsRight_349 (by decide) ?_
            refine x_iload (pc := 350) (i := 15) C 2 dL_arePredictionsRight_350 rfl ?_
            refine x_icmp_ne (pc := 352) (tgt := 359) C dL_arePredictionsRight_352 (by decide) (fun hf => absurd hf (by decide)) (fun _ => ?_)
            refine x_iconst (pc := 355) (v := 1) C dL_arePredictionsRight_355 (by decide) ?_
            refine x_goto (pc := 356) (tgt := 360) C dL_arePredictionsRight_356 (by decide) ?_
            refine x_istore (pc := 360) (i := 8) (ls2 := [(8, .int 1), (13, .int v47), (12, .int v45), (15, .int 0), (0, .ref (ad 176)), (1, .int a1), (3, .int a3), (5, .ref (ad 194)), (6, .ref (ad 195)), (7, .ref (ad 196)), (10, .int a10), (11, .int a11), (14, .int a14)]) C dL_arePredictionsRight_360 (by decide) rfl ?_
            refine x_iinc (pc := 362) (i := 14) (v := (a14 + 1)) (ls2 := [(14, .int (a14 + 1)), (8, .int 1), (13, .int v47), (12, .int v45), (15, .int 0), (0, .ref (ad 176)), (1, .int a1), (3, .int a3), (5, .ref (ad 194)), (6, .ref (ad 195)), (7, .ref (ad 196)), (10, .int a10), (11, .int a11)]) C 12 dL_arePredictionsRight_362 rfl rfl (by decide) rfl ?_
            refine x_goto (pc := 365) (tgt := 254) C dL_arePredictionsRight_365 (by decide) ?_
            refine x_sub [5, 6, 7, 8, 9, 10, 1, 11, 12, 3, 2, 0] (ls2 := [(0, .ref (ad 176)), (1, .int a1), (3, .int a3), (5, .ref (ad 194)), (6, .ref (ad 195)), (7, .ref (ad 196)), (8, .int 1), (10, .int a10), (11, .int a11), (12, .int v45), (13, .int v47), (14, .int (a14 + 1))]) rfl ?_
            refine x_wid (k0 := cs0 + 4) (n0 := ss0 + 24) (by omega) (by omega) ?_
            exact ih z51.2 a1 a3 1 a10 a11 v45 v47 (a14 + 1) _ _ ⟨by omega, by omega⟩ R0 hR hok (x_wid (by omega) (by omega) k)
          · have hR := hR.trans (if_pos c52)
            have hok := hok.1 c52
            refine x_iconst (pc := 345) (v := 1) C dL_arePredictionsRight_345 (by decide) ?_
            refine x_goto (pc := 346) (tgt := 350) C dL_arePredictionsRight_346 (by decide) ?_
            refine x_iload (pc := 350) (i := 15) C 2 dL_arePredictionsRight_350 rfl ?_
            refine x_icmp_ne (pc := 352) (tgt := 359) C dL_arePredictionsRight_352 (by decide) (fun _ => ?_) (fun hf => absurd hf (by decide))
            refine x_iconst (pc := 359) (v := 0) C dL_arePredictionsRight_359 (by decide) ?_
            refine x_istore (pc := 360) (i := 8) (ls2 := [(8, .int 0), (13, .int v47), (12, .int v45), (15, .int 0), (0, .ref (ad 176)), (1, .int a1), (3, .int a3), (5, .ref (ad 194)), (6, .ref (ad 195)), (7, .ref (ad 196)), (10, .int a10), (11, .int a11), (14, .int a14)]) C dL_arePredictionsRight_360 (by decide) rfl ?_
            refine x_iinc (pc := 362) (i := 14) (v := (a14 + 1)) (ls2 := [(14, .int (a14 + 1)), (8, .int 0), (13, .int v47), (12, .int v45), (15, .int 0), (0, .ref (ad 176)), (1, .int a1), (3, .int a3), (5, .ref (ad 194)), (6, .ref (ad 195)), (7, .ref (ad 196)), (10, .int a10), (11, .int a11)]) C 12 dL_arePredictionsRight_362 rfl rfl (by decide) rfl ?_
            refine x_goto (pc := 365) (tgt := 254) C dL_arePredictionsRight_365 (by decide) ?_
            refine x_sub [5, 6, 7, 8, 9, 10, 1, 11, 12, 3, 2, 0] (ls2 := [(0, .ref (ad 176)), (1, .int a1), (3, .int a3), (5, .ref (ad 194)), (6, .ref (ad 195)), (7, .ref (ad 196)), (8, .int 0), (10, .int a10), (11, .int a11), (12, .int v45), (13, .int v47), (14, .int (a14 + 1))]) rfl ?_
            refine x_wid (k0 := cs0 + 4) (n0 := ss0 + 24) (by omega) (by omega) ?_
            exact ih z51.2 a1 a3 0 a10 a11 v45 v47 (a14 + 1) _ _ ⟨by omega, by omega⟩ R0 hR hok (x_wid (by omega) (by omega) k)
      · have hR := hR.trans (if_neg c43)
        have hok := hok.2 c43
        refine x_iconst (pc := 269) (v := 1) C dL_arePredictionsRight_269 (by decide) ?_
        refine x_goto (pc := 270) (tgt := 274) C dL_arePredictionsRight_270 (by decide) ?_
        refine x_istore (pc := 274) (i := 15) (ls2 := [(15, .int 1), (0, .ref (ad 176)), (1, .int a1), (3, .int a3), (5, .ref (ad 194)), (6, .ref (ad 195)), (7, .ref (ad 196)), (8, .int a8), (10, .int a10), (11, .int a11), (12, .int a12), (13, .int a13), (14, .int a14)]) C dL_arePredictionsRight_274 (by decide) rfl ?_
        refine x_iload (pc := 276) (i := 12) C 10 dL_arePredictionsRight_276 rfl ?_
        refine x_iload (pc := 278) (i := 15) C 0 dL_arePredictionsRight_278 rfl ?_
        refine x_if_eq (pc := 280) (tgt := 295) C dL_arePredictionsRight_280 (by decide) (fun hf => absurd hf (by decide)) (fun _ => ?_)
        refine x_aload (pc := 283) (i := 7) C 6 dL_arePredictionsRight_283 rfl ?_
        refine x_iload (pc := 285) (i := 14) C 12 dL_arePredictionsRight_285 rfl ?_
        have h56 := hok.1
        have hok := hok.2
        refine x_zald (pc := 287) (q := 196) C (e_Q3 hG) h56 dL_arePredictionsRight_287 ?_
        refine x_if_ne (pc := 288) (tgt := 295) C dL_arePredictionsRight_288 (by decide) (fun c57 => ?_) (fun c57 => ?_)
        · have hR := hR.trans (if_neg c57)
          have hok := hok.2 c57
          refine x_iconst (pc := 295) (v := 0) C dL_arePredictionsRight_295 (by decide) ?_
          refine x_iadd (pc := 296) C dL_arePredictionsRight_296 ?_
          refine x_nmI (fun v58 ev58 => ?_)
          have hR := nmE hR ev58
          have hok := hok v58 ev58
          refine x_istore (pc := 297) (i := 12) (ls2 := [(12, .int v58), (15, .int 1), (0, .ref (ad 176)), (1, .int a1), (3, .int a3), (5, .ref (ad 194)), (6, .ref (ad 195)), (7, .ref (ad 196)), (8, .int a8), (10, .int a10), (11, .int a11), (13, .int a13), (14, .int a14)]) C dL_arePredictionsRight_297 (by decide) rfl ?_
          refine x_iload (pc := 299) (i := 13) C 11 dL_arePredictionsRight_299 rfl ?_
          refine x_iload (pc := 301) (i := 15) C 1 dL_arePredictionsRight_301 rfl ?_
          refine x_if_eq (pc := 303) (tgt := 318) C dL_arePredictionsRight_303 (by decide) (fun hf => absurd hf (by decide)) (fun _ => ?_)
          refine x_aload (pc := 306) (i := 7) C 7 dL_arePredictionsRight_306 rfl ?_
          refine x_iload (pc := 308) (i := 14) C 12 dL_arePredictionsRight_308 rfl ?_
          have h60 := hok.1
          have hok := hok.2
          refine x_zald (pc := 310) (q := 196) C (e_Q3 hG) h60 dL_arePredictionsRight_310 ?_
          refine x_if_eq (pc := 311) (tgt := 318) C dL_arePredictionsRight_311 (by decide) (fun c61 => ?_) (fun c61 => ?_)
          · have hR := hR.trans (if_pos c61)
            have hok := hok.1 c61
            refine x_iconst (pc := 318) (v := 0) C dL_arePredictionsRight_318 (by decide) ?_
            refine x_iadd (pc := 319) C dL_arePredictionsRight_319 ?_
            refine x_nmI (fun v62 ev62 => ?_)
            have hR := nmE hR ev62
            have hok := hok v62 ev62
            refine x_istore (pc := 320) (i := 13) (ls2 := [(13, .int v62), (12, .int v58), (15, .int 1), (0, .ref (ad 176)), (1, .int a1), (3, .int a3), (5, .ref (ad 194)), (6, .ref (ad 195)), (7, .ref (ad 196)), (8, .int a8), (10, .int a10), (11, .int a11), (14, .int a14)]) C dL_arePredictionsRight_320 (by decide) rfl ?_
            refine x_iload (pc := 322) (i := 8) C 9 dL_arePredictionsRight_322 rfl ?_
            refine x_if_eq (pc := 324) (tgt := 359) C dL_arePredictionsRight_324 (by decide) (fun c63 => ?_) (fun c63 => ?_)
            · have hR := hR.trans (if_pos c63)
              have hok := hok.1 c63
              refine x_iconst (pc := 359) (v := 0) C dL_arePredictionsRight_359 (by decide) ?_
              refine x_istore (pc := 360) (i := 8) (ls2 := [(8, .int 0), (13, .int v62), (12, .int v58), (15, .int 1), (0, .ref (ad 176)), (1, .int a1), (3, .int a3), (5, .ref (ad 194)), (6, .ref (ad 195)), (7, .ref (ad 196)), (10, .int a10), (11, .int a11), (14, .int a14)]) C dL_arePredictionsRight_360 (by decide) rfl ?_
              refine x_iinc (pc := 362) (i := 14) (v := (a14 + 1)) (ls2 := [(14, .int (a14 + 1)), (8, .int 0), (13, .int v62), (12, .int v58), (15, .int 1), (0, .ref (ad 176)), (1, .int a1), (3, .int a3), (5, .ref (ad 194)), (6, .ref (ad 195)), (7, .ref (ad 196)), (10, .int a10), (11, .int a11)]) C 12 dL_arePredictionsRight_362 rfl rfl (by decide) rfl ?_
              refine x_goto (pc := 365) (tgt := 254) C dL_arePredictionsRight_365 (by decide) ?_
              refine x_sub [5, 6, 7, 8, 9, 10, 1, 11, 12, 3, 2, 0] (ls2 := [(0, .ref (ad 176)), (1, .int a1), (3, .int a3), (5, .ref (ad 194)), (6, .ref (ad 195)), (7, .ref (ad 196)), (8, .int 0), (10, .int a10), (11, .int a11), (12, .int v58), (13, .int v62), (14, .int (a14 + 1))]) rfl ?_
              refine x_wid (k0 := cs0 + 4) (n0 := ss0 + 24) (by omega) (by omega) ?_
              exact ih B a1 a3 0 a10 a11 v58 v62 (a14 + 1) _ _ ⟨by omega, by omega⟩ R0 hR hok (x_wid (by omega) (by omega) k)
            · have hR := hR.trans (if_neg c63)
              have hok := hok.2 c63
              refine x_aload_n (pc := 327) (i := 0) C 3 dL_arePredictionsRight_327 rfl rfl ?_
              refine x_bipush (pc := 328) (v := 11) C dL_arePredictionsRight_328 (by decide) ?_
              refine x_aload (pc := 330) (i := 5) C 6 dL_arePredictionsRight_330 rfl ?_
              refine x_iload (pc := 332) (i := 14) C 12 dL_arePredictionsRight_332 rfl ?_
              have h64 := hok.1
              have hok := hok.2
              refine x_iald (pc := 334) (q := 194) C (e_Q1 hG) h64 dL_arePredictionsRight_334 ?_
              refine x_iconst (pc := 335) (v := 0) C dL_arePredictionsRight_335 (by decide) ?_
              have h65 := hok.1
              have hok := hok.2
              refine x_cWS (pc := 336) (as := [.ref (ad 176), .int 11, .int (ba B 194 (ix a14)), .int 0]) (n := 4) C (c_L_ask C.2.2.2.2.2.2.2.1  B M O 11 (ba B 194 (ix a14)) 0 h65) wd_4_138 wd_4_139 wd_1_0 wd_4_140 ⟨by decide, by decide, by decide +kernel⟩ ⟨Nat.le_of_ble_eq_true rfl, Nat.le_of_ble_eq_true rfl⟩ ⟨by simp only [rmd]; omega, by simp only [rmd]; omega⟩ rfl rfl (Nat.le_of_ble_eq_true rfl) dL_arePredictionsRight_336 ?_
              refine x_nmIB (fun z66 ez66 => ?_)
              have hR := nmE hR ez66
              have hok := hok z66 ez66
              refine x_sipush (pc := 339) (v := (-20004)) C dL_arePredictionsRight_339 (by decide) ?_
              refine x_icmp_ne (pc := 342) (tgt := 349) C dL_arePredictionsRight_342 (by decide) (fun c67 => ?_) (fun c67 => ?_)
              · have hR := hR.trans (if_neg c67)
                have hok := hok.2 c67
                refine x_iconst (pc := 349) (v := 0) C dL_arePredictionsRight_349 (by decide) ?_
                refine x_iload (pc := 350) (i := 15) C 2 dL_arePredictionsRight_350 rfl ?_
                refine x_icmp_ne (pc := 352) (tgt := 359) C dL_arePredictionsRight_352 (by decide) (fun _ => ?_) (fun hf => absurd hf (by decide))
                refine x_iconst (pc := 359) (v := 0) C dL_arePredictionsRight_359 (by decide) ?_
                refine x_istore (pc := 360) (i := 8) (ls2 := [(8, .int 0), (13, .int v62), (12, .int v58), (15, .int 1), (0, .ref (ad 176)), (1, .int a1), (3, .int a3), (5, .ref (ad 194)), (6, .ref (ad 195)), (7, .ref (ad 196)), (10, .int a10), (11, .int a11), (14, .int a14)]) C dL_arePredictionsRight_360 (by decide) rfl ?_
                refine x_iinc (pc := 362) (i := 14) (v := (a14 + 1)) (ls2 := [(14, .int (a14 + 1)), (8, .int 0), (13, .int v62), (12, .int v58), (15, .int 1), (0, .ref (ad 176)), (1, .int a1), (3, .int a3), (5, .ref (ad 194)), (6, .ref (ad 195)), (7, .ref (ad 196)), (10, .int a10), (11, .int a11)]) C 12 dL_arePredictionsRight_362 rfl rfl (by decide) rfl ?_
                refine x_goto (pc := 365) (tgt := 254) C dL_arePredictionsRight_365 (by decide) ?_
                refine x_sub [5, 6, 7, 8, 9, 10, 1, 11, 12, 3, 2, 0] (ls2 := [(0, .ref (ad 176)), (1, .int a1), (3, .int a3), (5, .ref (ad 194)), (6, .ref (ad 195)), (7, .ref (ad 196)), (8, .int 0), (10, .int a10), (11, .int a11), (12, .int v58), (13, .int v62), (14, .int (a14 + 1))]) rfl ?_
                refine x_wid (k0 := cs0 + 4) (n0 := ss0 + 24) (by omega) (by omega) ?_
                exact ih z66.2 a1 a3 0 a10 a11 v58 v62 (a14 + 1) _ _ ⟨by omega, by omega⟩ R0 hR hok (x_wid (by omega) (by omega) k)
              · have hR := hR.trans (if_pos c67)
                have hok := hok.1 c67
                refine x_iconst (pc := 345) (v := 1) C dL_arePredictionsRight_345 (by decide) ?_
                refine x_goto (pc := 346) (tgt := 350) C dL_arePredictionsRight_346 (by decide) ?_
                refine x_iload (pc := 350) (i := 15) C 2 dL_arePredictionsRight_350 rfl ?_
                refine x_icmp_ne (pc := 352) (tgt := 359) C dL_arePredictionsRight_352 (by decide) (fun hf => absurd hf (by decide)) (fun _ => ?_)
                refine x_iconst (pc := 355) (v := 1) C dL_arePredictionsRight_355 (by decide) ?_
                refine x_goto (pc := 356) (tgt := 360) C dL_arePredictionsRight_356 (by decide) ?_
                refine x_istore (pc := 360) (i := 8) (ls2 := [(8, .int 1), (13, .int v62), (12, .int v58), (15, .int 1), (0, .ref (ad 176)), (1, .int a1), (3, .int a3), (5, .ref (ad 194)), (6, .ref (ad 195)), (7, .ref (ad 196)), (10, .int a10), (11, .int a11), (14, .int a14)]) C dL_arePredictionsRight_360 (by decide) rfl ?_
                refine x_iinc (pc := 362) (i := 14) (v := (a14 + 1)) (ls2 := [(14, .int (a14 + 1)), (8, .int 1), (13, .int v62), (12, .int v58), (15, .int 1), (0, .ref (ad 176)), (1, .int a1), (3, .int a3), (5, .ref (ad 194)), (6, .ref (ad 195)), (7, .ref (ad 196)), (10, .int a10), (11, .int a11)]) C 12 dL_arePredictionsRight_362 rfl rfl (by decide) rfl ?_
                refine x_goto (pc := 365) (tgt := 254) C dL_arePredictionsRight_365 (by decide) ?_
                refine x_sub [5, 6, 7, 8, 9, 10, 1, 11, 12, 3, 2, 0] (ls2 := [(0, .ref (ad 176)), (1, .int a1), (3, .int a3), (5, .ref (ad 194)), (6, .ref (ad 195)), (7, .ref (ad 196)), (8, .int 1), (10, .int a10), (11, .int a11), (12, .int v58), (13, .int v62), (14, .int (a14 + 1))]) rfl ?_
                refine x_wid (k0 := cs0 + 4) (n0 := ss0 + 24) (by omega) (by omega) ?_
                exact ih z66.2 a1 a3 1 a10 a11 v58 v62 (a14 + 1) _ _ ⟨by omega, by omega⟩ R0 hR hok (x_wid (by omega) (by omega) k)
          · have hR := hR.trans (if_neg c61)
            have hok := hok.2 c61
            refine x_iconst (pc := 314) (v := 1) C dL_arePredictionsRight_314 (by decide) ?_
            refine x_goto (pc := 315) (tgt := 319) C dL_arePredictionsRight_315 (by decide) ?_
            refine x_iadd (pc := 319) C dL_arePredictionsRight_319 ?_
            refine x_nmI (fun v70 ev70 => ?_)
            have hR := nmE hR ev70
            have hok := hok v70 ev70
            refine x_istore (pc := 320) (i := 13) (ls2 := [(13, .int v70), (12, .int v58), (15, .int 1), (0, .ref (ad 176)), (1, .int a1), (3, .int a3), (5, .ref (ad 194)), (6, .ref (ad 195)), (7, .ref (ad 196)), (8, .int a8), (10, .int a10), (11, .int a11), (14, .int a14)]) C dL_arePredictionsRight_320 (by decide) rfl ?_
            refine x_iload (pc := 322) (i := 8) C 9 dL_arePredictionsRight_322 rfl ?_
            refine x_if_eq (pc := 324) (tgt := 359) C dL_arePredictionsRight_324 (by decide) (fun c71 => ?_) (fun c71 => ?_)
            · have hR := hR.trans (if_pos c71)
              have hok := hok.1 c71
              refine x_iconst (pc := 359) (v := 0) C dL_arePredictionsRight_359 (by decide) ?_
              refine x_istore (pc := 360) (i := 8) (ls2 := [(8, .int 0), (13, .int v70), (12, .int v58), (15, .int 1), (0, .ref (ad 176)), (1, .int a1), (3, .int a3), (5, .ref (ad 194)), (6, .ref (ad 195)), (7, .ref (ad 196)), (10, .int a10), (11, .int a11), (14, .int a14)]) C dL_arePredictionsRight_360 (by decide) rfl ?_
              refine x_iinc (pc := 362) (i := 14) (v := (a14 + 1)) (ls2 := [(14, .int (a14 + 1)), (8, .int 0), (13, .int v70), (12, .int v58), (15, .int 1), (0, .ref (ad 176)), (1, .int a1), (3, .int a3), (5, .ref (ad 194)), (6, .ref (ad 195)), (7, .ref (ad 196)), (10, .int a10), (11, .int a11)]) C 12 dL_arePredictionsRight_362 rfl rfl (by decide) rfl ?_
              refine x_goto (pc := 365) (tgt := 254) C dL_arePredictionsRight_365 (by decide) ?_
              refine x_sub [5, 6, 7, 8, 9, 10, 1, 11, 12, 3, 2, 0] (ls2 := [(0, .ref (ad 176)), (1, .int a1), (3, .int a3), (5, .ref (ad 194)), (6, .ref (ad 195)), (7, .ref (ad 196)), (8, .int 0), (10, .int a10), (11, .int a11), (12, .int v58), (13, .int v70), (14, .int (a14 + 1))]) rfl ?_
              refine x_wid (k0 := cs0 + 4) (n0 := ss0 + 24) (by omega) (by omega) ?_
              exact ih B a1 a3 0 a10 a11 v58 v70 (a14 + 1) _ _ ⟨by omega, by omega⟩ R0 hR hok (x_wid (by omega) (by omega) k)
            · have hR := hR.trans (if_neg c71)
              have hok := hok.2 c71
              refine x_aload_n (pc := 327) (i := 0) C 3 dL_arePredictionsRight_327 rfl rfl ?_
              refine x_bipush (pc := 328) (v := 11) C dL_arePredictionsRight_328 (by decide) ?_
              refine x_aload (pc := 330) (i := 5) C 6 dL_arePredictionsRight_330 rfl ?_
              refine x_iload (pc := 332) (i := 14) C 12 dL_arePredictionsRight_332 rfl ?_
              have h72 := hok.1
              have hok := hok.2
              refine x_iald (pc := 334) (q := 194) C (e_Q1 hG) h72 dL_arePredictionsRight_334 ?_
              refine x_iconst (pc := 335) (v := 0) C dL_arePredictionsRight_335 (by decide) ?_
              have h73 := hok.1
              have hok := hok.2
              refine x_cWS (pc := 336) (as := [.ref (ad 176), .int 11, .int (ba B 194 (ix a14)), .int 0]) (n := 4) C (c_L_ask C.2.2.2.2.2.2.2.1  B M O 11 (ba B 194 (ix a14)) 0 h73) wd_4_138 wd_4_139 wd_1_0 wd_4_140 ⟨by decide, by decide, by decide +kernel⟩ ⟨Nat.le_of_ble_eq_true rfl, Nat.le_of_ble_eq_true rfl⟩ ⟨by simp only [rmd]; omega, by simp only [rmd]; omega⟩ rfl rfl (Nat.le_of_ble_eq_true rfl) dL_arePredictionsRight_336 ?_
              refine x_nmIB (fun z74 ez74 => ?_)
              have hR := nmE hR ez74
              have hok := hok z74 ez74
              refine x_sipush (pc := 339) (v := (-20004)) C dL_arePredictionsRight_339 (by decide) ?_
              refine x_icmp_ne (pc := 342) (tgt := 349) C dL_arePredictionsRight_342 (by decide) (fun c75 => ?_) (fun c75 => ?_)
              · have hR := hR.trans (if_neg c75)
                have hok := hok.2 c75
                refine x_iconst (pc := 349) (v := 0) C dL_arePredictionsRight_349 (by decide) ?_
                refine x_iload (pc := 350) (i := 15) C 2 dL_arePredictionsRight_350 rfl ?_
                refine x_icmp_ne (pc := 352) (tgt := 359) C dL_arePredictionsRight_352 (by decide) (fun _ => ?_) (fun hf => absurd hf (by decide))
                refine x_iconst (pc := 359) (v := 0) C dL_arePredictionsRight_359 (by decide) ?_
                refine x_istore (pc := 360) (i := 8) (ls2 := [(8, .int 0), (13, .int v70), (12, .int v58), (15, .int 1), (0, .ref (ad 176)), (1, .int a1), (3, .int a3), (5, .ref (ad 194)), (6, .ref (ad 195)), (7, .ref (ad 196)), (10, .int a10), (11, .int a11), (14, .int a14)]) C dL_arePredictionsRight_360 (by decide) rfl ?_
                refine x_iinc (pc := 362) (i := 14) (v := (a14 + 1)) (ls2 := [(14, .int (a14 + 1)), (8, .int 0), (13, .int v70), (12, .int v58), (15, .int 1), (0, .ref (ad 176)), (1, .int a1), (3, .int a3), (5, .ref (ad 194)), (6, .ref (ad 195)), (7, .ref (ad 196)), (10, .int a10), (11, .int a11)]) C 12 dL_arePredictionsRight_362 rfl rfl (by decide) rfl ?_
                refine x_goto (pc := 365) (tgt := 254) C dL_arePredictionsRight_365 (by decide) ?_
                refine x_sub [5, 6, 7, 8, 9, 10, 1, 11, 12, 3, 2, 0] (ls2 := [(0, .ref (ad 176)), (1, .int a1), (3, .int a3), (5, .ref (ad 194)), (6, .ref (ad 195)), (7, .ref (ad 196)), (8, .int 0), (10, .int a10), (11, .int a11), (12, .int v58), (13, .int v70), (14, .int (a14 + 1))]) rfl ?_
                refine x_wid (k0 := cs0 + 4) (n0 := ss0 + 24) (by omega) (by omega) ?_
                exact ih z74.2 a1 a3 0 a10 a11 v58 v70 (a14 + 1) _ _ ⟨by omega, by omega⟩ R0 hR hok (x_wid (by omega) (by omega) k)
              · have hR := hR.trans (if_pos c75)
                have hok := hok.1 c75
                refine x_iconst (pc := 345) (v := 1) C dL_arePredictionsRight_345 (by decide) ?_
                refine x_goto (pc := 346) (tgt := 350) C dL_arePredictionsRight_346 (by decide) ?_
                refine x_iload (pc := 350) (i := 15) C 2 dL_arePredictionsRight_350 rfl ?_
                refine x_icmp_ne (pc := 352) (tgt := 359) C dL_arePredictionsRight_352 (by decide) (fun hf => absurd hf (by decide)) (fun _ => ?_)
                refine x_iconst (pc := 355) (v := 1) C dL_arePredictionsRight_355 (by decide) ?_
                refine x_goto (pc := 356) (tgt := 360) C dL_arePredictionsRight_356 (by decide) ?_
                refine x_istore (pc := 360) (i := 8) (ls2 := [(8, .int 1), (13, .int v70), (12, .int v58), (15, .int 1), (0, .ref (ad 176)), (1, .int a1), (3, .int a3), (5, .ref (ad 194)), (6, .ref (ad 195)), (7, .ref (ad 196)), (10, .int a10), (11, .int a11), (14, .int a14)]) C dL_arePredictionsRight_360 (by decide) rfl ?_
                refine x_iinc (pc := 362) (i := 14) (v := (a14 + 1)) (ls2 := [(14, .int (a14 + 1)), (8, .int 1), (13, .int v70), (12, .int v58), (15, .int 1), (0, .ref (ad 176)), (1, .int a1), (3, .int a3), (5, .ref (ad 194)), (6, .ref (ad 195)), (7, .ref (ad 196)), (10, .int a10), (11, .int a11)]) C 12 dL_arePredictionsRight_362 rfl rfl (by decide) rfl ?_
                refine x_goto (pc := 365) (tgt := 254) C dL_arePredictionsRight_365 (by decide) ?_
                refine x_sub [5, 6, 7, 8, 9, 10, 1, 11, 12, 3, 2, 0] (ls2 := [(0, .ref (ad 176)), (1, .int a1), (3, .int a3), (5, .ref (ad 194)), (6, .ref (ad 195)), (7, .ref (ad 196)), (8, .int 1), (10, .int a10), (11, .int a11), (12, .int v58), (13, .int v70), (14, .int (a14 + 1))]) rfl ?_
                refine x_wid (k0 := cs0 + 4) (n0 := ss0 + 24) (by omega) (by omega) ?_
                exact ih z74.2 a1 a3 1 a10 a11 v58 v70 (a14 + 1) _ _ ⟨by omega, by omega⟩ R0 hR hok (x_wid (by omega) (by omega) k)
        · have hR := hR.trans (if_pos c57)
          have hok := hok.1 c57
          refine x_iconst (pc := 291) (v := 1) C dL_arePredictionsRight_291 (by decide) ?_
          refine x_goto (pc := 292) (tgt := 296) C dL_arePredictionsRight_292 (by decide) ?_
          refine x_iadd (pc := 296) C dL_arePredictionsRight_296 ?_
          refine x_nmI (fun v78 ev78 => ?_)
          have hR := nmE hR ev78
          have hok := hok v78 ev78
          refine x_istore (pc := 297) (i := 12) (ls2 := [(12, .int v78), (15, .int 1), (0, .ref (ad 176)), (1, .int a1), (3, .int a3), (5, .ref (ad 194)), (6, .ref (ad 195)), (7, .ref (ad 196)), (8, .int a8), (10, .int a10), (11, .int a11), (13, .int a13), (14, .int a14)]) C dL_arePredictionsRight_297 (by decide) rfl ?_
          refine x_iload (pc := 299) (i := 13) C 11 dL_arePredictionsRight_299 rfl ?_
          refine x_iload (pc := 301) (i := 15) C 1 dL_arePredictionsRight_301 rfl ?_
          refine x_if_eq (pc := 303) (tgt := 318) C dL_arePredictionsRight_303 (by decide) (fun hf => absurd hf (by decide)) (fun _ => ?_)
          refine x_aload (pc := 306) (i := 7) C 7 dL_arePredictionsRight_306 rfl ?_
          refine x_iload (pc := 308) (i := 14) C 12 dL_arePredictionsRight_308 rfl ?_
          have h80 := hok.1
          have hok := hok.2
          refine x_zald (pc := 310) (q := 196) C (e_Q3 hG) h80 dL_arePredictionsRight_310 ?_
          refine x_if_eq (pc := 311) (tgt := 318) C dL_arePredictionsRight_311 (by decide) (fun c81 => ?_) (fun c81 => ?_)
          · have hR := hR.trans (if_pos c81)
            have hok := hok.1 c81
            refine x_iconst (pc := 318) (v := 0) C dL_arePredictionsRight_318 (by decide) ?_
            refine x_iadd (pc := 319) C dL_arePredictionsRight_319 ?_
            refine x_nmI (fun v82 ev82 => ?_)
            have hR := nmE hR ev82
            have hok := hok v82 ev82
            refine x_istore (pc := 320) (i := 13) (ls2 := [(13, .int v82), (12, .int v78), (15, .int 1), (0, .ref (ad 176)), (1, .int a1), (3, .int a3), (5, .ref (ad 194)), (6, .ref (ad 195)), (7, .ref (ad 196)), (8, .int a8), (10, .int a10), (11, .int a11), (14, .int a14)]) C dL_arePredictionsRight_320 (by decide) rfl ?_
            refine x_iload (pc := 322) (i := 8) C 9 dL_arePredictionsRight_322 rfl ?_
            refine x_if_eq (pc := 324) (tgt := 359) C dL_arePredictionsRight_324 (by decide) (fun c83 => ?_) (fun c83 => ?_)
            · have hR := hR.trans (if_pos c83)
              have hok := hok.1 c83
              refine x_iconst (pc := 359) (v := 0) C dL_arePredictionsRight_359 (by decide) ?_
              refine x_istore (pc := 360) (i := 8) (ls2 := [(8, .int 0), (13, .int v82), (12, .int v78), (15, .int 1), (0, .ref (ad 176)), (1, .int a1), (3, .int a3), (5, .ref (ad 194)), (6, .ref (ad 195)), (7, .ref (ad 196)), (10, .int a10), (11, .int a11), (14, .int a14)]) C dL_arePredictionsRight_360 (by decide) rfl ?_
              refine x_iinc (pc := 362) (i := 14) (v := (a14 + 1)) (ls2 := [(14, .int (a14 + 1)), (8, .int 0), (13, .int v82), (12, .int v78), (15, .int 1), (0, .ref (ad 176)), (1, .int a1), (3, .int a3), (5, .ref (ad 194)), (6, .ref (ad 195)), (7, .ref (ad 196)), (10, .int a10), (11, .int a11)]) C 12 dL_arePredictionsRight_362 rfl rfl (by decide) rfl ?_
              refine x_goto (pc := 365) (tgt := 254) C dL_arePredictionsRight_365 (by decide) ?_
              refine x_sub [5, 6, 7, 8, 9, 10, 1, 11, 12, 3, 2, 0] (ls2 := [(0, .ref (ad 176)), (1, .int a1), (3, .int a3), (5, .ref (ad 194)), (6, .ref (ad 195)), (7, .ref (ad 196)), (8, .int 0), (10, .int a10), (11, .int a11), (12, .int v78), (13, .int v82), (14, .int (a14 + 1))]) rfl ?_
              refine x_wid (k0 := cs0 + 4) (n0 := ss0 + 24) (by omega) (by omega) ?_
              exact ih B a1 a3 0 a10 a11 v78 v82 (a14 + 1) _ _ ⟨by omega, by omega⟩ R0 hR hok (x_wid (by omega) (by omega) k)
            · have hR := hR.trans (if_neg c83)
              have hok := hok.2 c83
              refine x_aload_n (pc := 327) (i := 0) C 3 dL_arePredictionsRight_327 rfl rfl ?_
              refine x_bipush (pc := 328) (v := 11) C dL_arePredictionsRight_328 (by decide) ?_
              refine x_aload (pc := 330) (i := 5) C 6 dL_arePredictionsRight_330 rfl ?_
              refine x_iload (pc := 332) (i := 14) C 12 dL_arePredictionsRight_332 rfl ?_
              have h84 := hok.1
              have hok := hok.2
              refine x_iald (pc := 334) (q := 194) C (e_Q1 hG) h84 dL_arePredictionsRight_334 ?_
              refine x_iconst (pc := 335) (v := 0) C dL_arePredictionsRight_335 (by decide) ?_
              have h85 := hok.1
              have hok := hok.2
              refine x_cWS (pc := 336) (as := [.ref (ad 176), .int 11, .int (ba B 194 (ix a14)), .int 0]) (n := 4) C (c_L_ask C.2.2.2.2.2.2.2.1  B M O 11 (ba B 194 (ix a14)) 0 h85) wd_4_138 wd_4_139 wd_1_0 wd_4_140 ⟨by decide, by decide, by decide +kernel⟩ ⟨Nat.le_of_ble_eq_true rfl, Nat.le_of_ble_eq_true rfl⟩ ⟨by simp only [rmd]; omega, by simp only [rmd]; omega⟩ rfl rfl (Nat.le_of_ble_eq_true rfl) dL_arePredictionsRight_336 ?_
              refine x_nmIB (fun z86 ez86 => ?_)
              have hR := nmE hR ez86
              have hok := hok z86 ez86
              refine x_sipush (pc := 339) (v := (-20004)) C dL_arePredictionsRight_339 (by decide) ?_
              refine x_icmp_ne (pc := 342) (tgt := 349) C dL_arePredictionsRight_342 (by decide) (fun c87 => ?_) (fun c87 => ?_)
              · have hR := hR.trans (if_neg c87)
                have hok := hok.2 c87
                refine x_iconst (pc := 349) (v := 0) C dL_arePredictionsRight_349 (by decide) ?_
                refine x_iload (pc := 350) (i := 15) C 2 dL_arePredictionsRight_350 rfl ?_
                refine x_icmp_ne (pc := 352) (tgt := 359) C dL_arePredictionsRight_352 (by decide) (fun _ => ?_) (fun hf => absurd hf (by decide))
                refine x_iconst (pc := 359) (v := 0) C dL_arePredictionsRight_359 (by decide) ?_
                refine x_istore (pc := 360) (i := 8) (ls2 := [(8, .int 0), (13, .int v82), (12, .int v78), (15, .int 1), (0, .ref (ad 176)), (1, .int a1), (3, .int a3), (5, .ref (ad 194)), (6, .ref (ad 195)), (7, .ref (ad 196)), (10, .int a10), (11, .int a11), (14, .int a14)]) C dL_arePredictionsRight_360 (by decide) rfl ?_
                refine x_iinc (pc := 362) (i := 14) (v := (a14 + 1)) (ls2 := [(14, .int (a14 + 1)), (8, .int 0), (13, .int v82), (12, .int v78), (15, .int 1), (0, .ref (ad 176)), (1, .int a1), (3, .int a3), (5, .ref (ad 194)), (6, .ref (ad 195)), (7, .ref (ad 196)), (10, .int a10), (11, .int a11)]) C 12 dL_arePredictionsRight_362 rfl rfl (by decide) rfl ?_
                refine x_goto (pc := 365) (tgt := 254) C dL_arePredictionsRight_365 (by decide) ?_
                refine x_sub [5, 6, 7, 8, 9, 10, 1, 11, 12, 3, 2, 0] (ls2 := [(0, .ref (ad 176)), (1, .int a1), (3, .int a3), (5, .ref (ad 194)), (6, .ref (ad 195)), (7, .ref (ad 196)), (8, .int 0), (10, .int a10), (11, .int a11), (12, .int v78), (13, .int v82), (14, .int (a14 + 1))]) rfl ?_
                refine x_wid (k0 := cs0 + 4) (n0 := ss0 + 24) (by omega) (by omega) ?_
                exact ih z86.2 a1 a3 0 a10 a11 v78 v82 (a14 + 1) _ _ ⟨by omega, by omega⟩ R0 hR hok (x_wid (by omega) (by omega) k)
              · have hR := hR.trans (if_pos c87)
                have hok := hok.1 c87
                refine x_iconst (pc := 345) (v := 1) C dL_arePredictionsRight_345 (by decide) ?_
                refine x_goto (pc := 346) (tgt := 350) C dL_arePredictionsRight_346 (by decide) ?_
                refine x_iload (pc := 350) (i := 15) C 2 dL_arePredictionsRight_350 rfl ?_
                refine x_icmp_ne (pc := 352) (tgt := 359) C dL_arePredictionsRight_352 (by decide) (fun hf => absurd hf (by decide)) (fun _ => ?_)
                refine x_iconst (pc := 355) (v := 1) C dL_arePredictionsRight_355 (by decide) ?_
                refine x_goto (pc := 356) (tgt := 360) C dL_arePredictionsRight_356 (by decide) ?_
                refine x_istore (pc := 360) (i := 8) (ls2 := [(8, .int 1), (13, .int v82), (12, .int v78), (15, .int 1), (0, .ref (ad 176)), (1, .int a1), (3, .int a3), (5, .ref (ad 194)), (6, .ref (ad 195)), (7, .ref (ad 196)), (10, .int a10), (11, .int a11), (14, .int a14)]) C dL_arePredictionsRight_360 (by decide) rfl ?_
                refine x_iinc (pc := 362) (i := 14) (v := (a14 + 1)) (ls2 := [(14, .int (a14 + 1)), (8, .int 1), (13, .int v82), (12, .int v78), (15, .int 1), (0, .ref (ad 176)), (1, .int a1), (3, .int a3), (5, .ref (ad 194)), (6, .ref (ad 195)), (7, .ref (ad 196)), (10, .int a10), (11, .int a11)]) C 12 dL_arePredictionsRight_362 rfl rfl (by decide) rfl ?_
                refine x_goto (pc := 365) (tgt := 254) C dL_arePredictionsRight_365 (by decide) ?_
                refine x_sub [5, 6, 7, 8, 9, 10, 1, 11, 12, 3, 2, 0] (ls2 := [(0, .ref (ad 176)), (1, .int a1), (3, .int a3), (5, .ref (ad 194)), (6, .ref (ad 195)), (7, .ref (ad 196)), (8, .int 1), (10, .int a10), (11, .int a11), (12, .int v78), (13, .int v82), (14, .int (a14 + 1))]) rfl ?_
                refine x_wid (k0 := cs0 + 4) (n0 := ss0 + 24) (by omega) (by omega) ?_
                exact ih z86.2 a1 a3 1 a10 a11 v78 v82 (a14 + 1) _ _ ⟨by omega, by omega⟩ R0 hR hok (x_wid (by omega) (by omega) k)
          · have hR := hR.trans (if_neg c81)
            have hok := hok.2 c81
            refine x_iconst (pc := 314) (v := 1) C dL_arePredictionsRight_314 (by decide) ?_
            refine x_goto (pc := 315) (tgt := 319) C dL_arePredictionsRight_315 (by decide) ?_
            refine x_iadd (pc := 319) C dL_arePredictionsRight_319 ?_
            refine x_nmI (fun v90 ev90 => ?_)
            have hR := nmE hR ev90
            have hok := hok v90 ev90
            refine x_istore (pc := 320) (i := 13) (ls2 := [(13, .int v90), (12, .int v78), (15, .int 1), (0, .ref (ad 176)), (1, .int a1), (3, .int a3), (5, .ref (ad 194)), (6, .ref (ad 195)), (7, .ref (ad 196)), (8, .int a8), (10, .int a10), (11, .int a11), (14, .int a14)]) C dL_arePredictionsRight_320 (by decide) rfl ?_
            refine x_iload (pc := 322) (i := 8) C 9 dL_arePredictionsRight_322 rfl ?_
            refine x_if_eq (pc := 324) (tgt := 359) C dL_arePredictionsRight_324 (by decide) (fun c91 => ?_) (fun c91 => ?_)
            · have hR := hR.trans (if_pos c91)
              have hok := hok.1 c91
              refine x_iconst (pc := 359) (v := 0) C dL_arePredictionsRight_359 (by decide) ?_
              refine x_istore (pc := 360) (i := 8) (ls2 := [(8, .int 0), (13, .int v90), (12, .int v78), (15, .int 1), (0, .ref (ad 176)), (1, .int a1), (3, .int a3), (5, .ref (ad 194)), (6, .ref (ad 195)), (7, .ref (ad 196)), (10, .int a10), (11, .int a11), (14, .int a14)]) C dL_arePredictionsRight_360 (by decide) rfl ?_
              refine x_iinc (pc := 362) (i := 14) (v := (a14 + 1)) (ls2 := [(14, .int (a14 + 1)), (8, .int 0), (13, .int v90), (12, .int v78), (15, .int 1), (0, .ref (ad 176)), (1, .int a1), (3, .int a3), (5, .ref (ad 194)), (6, .ref (ad 195)), (7, .ref (ad 196)), (10, .int a10), (11, .int a11)]) C 12 dL_arePredictionsRight_362 rfl rfl (by decide) rfl ?_
              refine x_goto (pc := 365) (tgt := 254) C dL_arePredictionsRight_365 (by decide) ?_
              refine x_sub [5, 6, 7, 8, 9, 10, 1, 11, 12, 3, 2, 0] (ls2 := [(0, .ref (ad 176)), (1, .int a1), (3, .int a3), (5, .ref (ad 194)), (6, .ref (ad 195)), (7, .ref (ad 196)), (8, .int 0), (10, .int a10), (11, .int a11), (12, .int v78), (13, .int v90), (14, .int (a14 + 1))]) rfl ?_
              refine x_wid (k0 := cs0 + 4) (n0 := ss0 + 24) (by omega) (by omega) ?_
              exact ih B a1 a3 0 a10 a11 v78 v90 (a14 + 1) _ _ ⟨by omega, by omega⟩ R0 hR hok (x_wid (by omega) (by omega) k)
            · have hR := hR.trans (if_neg c91)
              have hok := hok.2 c91
              refine x_aload_n (pc := 327) (i := 0) C 3 dL_arePredictionsRight_327 rfl rfl ?_
              refine x_bipush (pc := 328) (v := 11) C dL_arePredictionsRight_328 (by decide) ?_
              refine x_aload (pc := 330) (i := 5) C 6 dL_arePredictionsRight_330 rfl ?_
              refine x_iload (pc := 332) (i := 14) C 12 dL_arePredictionsRight_332 rfl ?_
              have h92 := hok.1
              have hok := hok.2
              refine x_iald (pc := 334) (q := 194) C (e_Q1 hG) h92 dL_arePredictionsRight_334 ?_
              refine x_iconst (pc := 335) (v := 0) C dL_arePredictionsRight_335 (by decide) ?_
              have h93 := hok.1
              have hok := hok.2
              refine x_cWS (pc := 336) (as := [.ref (ad 176), .int 11, .int (ba B 194 (ix a14)), .int 0]) (n := 4) C (c_L_ask C.2.2.2.2.2.2.2.1  B M O 11 (ba B 194 (ix a14)) 0 h93) wd_4_138 wd_4_139 wd_1_0 wd_4_140 ⟨by decide, by decide, by decide +kernel⟩ ⟨Nat.le_of_ble_eq_true rfl, Nat.le_of_ble_eq_true rfl⟩ ⟨by simp only [rmd]; omega, by simp only [rmd]; omega⟩ rfl rfl (Nat.le_of_ble_eq_true rfl) dL_arePredictionsRight_336 ?_
              refine x_nmIB (fun z94 ez94 => ?_)
              have hR := nmE hR ez94
              have hok := hok z94 ez94
              refine x_sipush (pc := 339) (v := (-20004)) C dL_arePredictionsRight_339 (by decide) ?_
              refine x_icmp_ne (pc := 342) (tgt := 349) C dL_arePredictionsRight_342 (by decide) (fun c95 => ?_) (fun c95 => ?_)
              · have hR := hR.trans (if_neg c95)
                have hok := hok.2 c95
                refine x_iconst (pc := 349) (v := 0) C dL_arePredictionsRight_349 (by decide) ?_
                refine x_iload (pc := 350) (i := 15) C 2 dL_arePredictionsRight_350 rfl ?_
                refine x_icmp_ne (pc := 352) (tgt := 359) C dL_arePredictionsRight_352 (by decide) (fun _ => ?_) (fun hf => absurd hf (by decide))
                refine x_iconst (pc := 359) (v := 0) C dL_arePredictionsRight_359 (by decide) ?_
                refine x_istore (pc := 360) (i := 8) (ls2 := [(8, .int 0), (13, .int v90), (12, .int v78), (15, .int 1), (0, .ref (ad 176)), (1, .int a1), (3, .int a3), (5, .ref (ad 194)), (6, .ref (ad 195)), (7, .ref (ad 196)), (10, .int a10), (11, .int a11), (14, .int a14)]) C dL_arePredictionsRight_360 (by decide) rfl ?_
                refine x_iinc (pc := 362) (i := 14) (v := (a14 + 1)) (ls2 := [(14, .int (a14 + 1)), (8, .int 0), (13, .int v90), (12, .int v78), (15, .int 1), (0, .ref (ad 176)), (1, .int a1), (3, .int a3), (5, .ref (ad 194)), (6, .ref (ad 195)), (7, .ref (ad 196)), (10, .int a10), (11, .int a11)]) C 12 dL_arePredictionsRight_362 rfl rfl (by decide) rfl ?_
                refine x_goto (pc := 365) (tgt := 254) C dL_arePredictionsRight_365 (by decide) ?_
                refine x_sub [5, 6, 7, 8, 9, 10, 1, 11, 12, 3, 2, 0] (ls2 := [(0, .ref (ad 176)), (1, .int a1), (3, .int a3), (5, .ref (ad 194)), (6, .ref (ad 195)), (7, .ref (ad 196)), (8, .int 0), (10, .int a10), (11, .int a11), (12, .int v78), (13, .int v90), (14, .int (a14 + 1))]) rfl ?_
                refine x_wid (k0 := cs0 + 4) (n0 := ss0 + 24) (by omega) (by omega) ?_
                exact ih z94.2 a1 a3 0 a10 a11 v78 v90 (a14 + 1) _ _ ⟨by omega, by omega⟩ R0 hR hok (x_wid (by omega) (by omega) k)
              · have hR := hR.trans (if_pos c95)
                have hok := hok.1 c95
                refine x_iconst (pc := 345) (v := 1) C dL_arePredictionsRight_345 (by decide) ?_
                refine x_goto (pc := 346) (tgt := 350) C dL_arePredictionsRight_346 (by decide) ?_
                refine x_iload (pc := 350) (i := 15) C 2 dL_arePredictionsRight_350 rfl ?_
                refine x_icmp_ne (pc := 352) (tgt := 359) C dL_arePredictionsRight_352 (by decide) (fun hf => absurd hf (by decide)) (fun _ => ?_)
                refine x_iconst (pc := 355) (v := 1) C dL_arePredictionsRight_355 (by decide) ?_
                refine x_goto (pc := 356) (tgt := 360) C dL_arePredictionsRight_356 (by decide) ?_
                refine x_istore (pc := 360) (i := 8) (ls2 := [(8, .int 1), (13, .int v90), (12, .int v78), (15, .int 1), (0, .ref (ad 176)), (1, .int a1), (3, .int a3), (5, .ref (ad 194)), (6, .ref (ad 195)), (7, .ref (ad 196)), (10, .int a10), (11, .int a11), (14, .int a14)]) C dL_arePredictionsRight_360 (by decide) rfl ?_
                refine x_iinc (pc := 362) (i := 14) (v := (a14 + 1)) (ls2 := [(14, .int (a14 + 1)), (8, .int 1), (13, .int v90), (12, .int v78), (15, .int 1), (0, .ref (ad 176)), (1, .int a1), (3, .int a3), (5, .ref (ad 194)), (6, .ref (ad 195)), (7, .ref (ad 196)), (10, .int a10), (11, .int a11)]) C 12 dL_arePredictionsRight_362 rfl rfl (by decide) rfl ?_
                refine x_goto (pc := 365) (tgt := 254) C dL_arePredictionsRight_365 (by decide) ?_
                refine x_sub [5, 6, 7, 8, 9, 10, 1, 11, 12, 3, 2, 0] (ls2 := [(0, .ref (ad 176)), (1, .int a1), (3, .int a3), (5, .ref (ad 194)), (6, .ref (ad 195)), (7, .ref (ad 196)), (8, .int 1), (10, .int a10), (11, .int a11), (12, .int v78), (13, .int v90), (14, .int (a14 + 1))]) rfl ?_
                refine x_wid (k0 := cs0 + 4) (n0 := ss0 + 24) (by omega) (by omega) ?_
                exact ih z94.2 a1 a3 1 a10 a11 v78 v90 (a14 + 1) _ _ ⟨by omega, by omega⟩ R0 hR hok (x_wid (by omega) (by omega) k)
set_option maxHeartbeats 4000000 in
set_option maxRecDepth 100000 in
theorem t_L_arePredictionsRight_J397 {p0 : Program} {l : Launch} {e : Env} {s : State} {m : MethodId} {args : Array Value} {below : List Frame} {meth : Method} {c : Code} {A : Nat → Prop} {G : GT} {ad : Nat → Nat} (C : CX p0 l s m args meth c A G ad cL_arePredictionsRight RL 16 (some .boolean)) (hG : G.2.2.2.2 2 = 1 ∧ G.2.2.2.2 3 = 4) (B : StB) (s0 : Int32) (M : StM) (O : StO) (cs0 ss0 : Nat) (hcs : cs0 + 0 ≤ 96 ∧ ss0 + 0 ≤ 592) (R0 : Int32 × StB) (hR : R0 = f_L_arePredictionsRight_J397 B s0) (hok : ok_L_arePredictionsRight_J397 B s0) : X p0 l e (rmd 22 96 592) s m args below meth c A G ad 16 cs0 ss0 (MQ below (QI G A ad R0.1 R0.2 M O) args s 96 592 A) B M O [(0, .ref (ad 176))] 397 [.int s0] := by
  have hR : R0 = (nm (f_X6_restore_n B) (fun (z101 : Int32 × StB) => (s0, z101.2))) := hR
  have hok : ((ok_X6_restore_n B) ∧ (∀ z101 : Int32 × StB, z101 = (f_X6_restore_n B) → (narrow .boolean (.int s0) = .int s0))) := hok
  refine x_istore (pc := 397) (i := 8) (ls2 := [(8, .int s0), (0, .ref (ad 176))]) C dL_arePredictionsRight_397 (by decide) rfl ?_
  refine x_aload_n (pc := 399) (i := 0) C 1 dL_arePredictionsRight_399 rfl rfl ?_
  have h100 := hok.1
  have hok := hok.2
  refine x_cIV (pc := 400) (as := []) (q := 176) C (c_X6_restore_n C.2.2.2.2.2.2.2.1  B M O  h100) (fs := _) e_I rfl cv_X6_restore cd_X6_restore wd_6_134 ⟨Nat.le_of_ble_eq_true rfl, Nat.le_of_ble_eq_true rfl⟩ ⟨by simp only [rmd]; omega, by simp only [rmd]; omega⟩ rfl rfl (Nat.le_of_ble_eq_true rfl) dL_arePredictionsRight_400 ?_
  refine x_nmIB (fun z101 ez101 => ?_)
  have hR := nmE hR ez101
  have hok := hok z101 ez101
  refine x_istore (pc := 403) (i := 9) (ls2 := [(9, .int z101.1), (8, .int s0), (0, .ref (ad 176))]) C dL_arePredictionsRight_403 (by decide) rfl ?_
  refine x_iload (pc := 405) (i := 8) C 1 dL_arePredictionsRight_405 rfl ?_
  have h102 := hok
  refine x_wid (k0 := 96) (n0 := 592) (by omega) (by omega) ?_
  exact x_zretB (pc := 407) C rfl h102 hR dL_arePredictionsRight_407
set_option maxHeartbeats 4000000 in
set_option maxRecDepth 100000 in
theorem t_L_arePredictionsRight_J396 {p0 : Program} {l : Launch} {e : Env} {s : State} {m : MethodId} {args : Array Value} {below : List Frame} {meth : Method} {c : Code} {A : Nat → Prop} {G : GT} {ad : Nat → Nat} (C : CX p0 l s m args meth c A G ad cL_arePredictionsRight RL 16 (some .boolean)) (hG : G.2.2.2.2 2 = 1 ∧ G.2.2.2.2 3 = 4) (B : StB)  (M : StM) (O : StO) (cs0 ss0 : Nat) (hcs : cs0 + 0 ≤ 96 ∧ ss0 + 0 ≤ 592) (R0 : Int32 × StB) (hR : R0 = f_L_arePredictionsRight_J396 B) (hok : ok_L_arePredictionsRight_J396 B) : X p0 l e (rmd 22 96 592) s m args below meth c A G ad 16 cs0 ss0 (MQ below (QI G A ad R0.1 R0.2 M O) args s 96 592 A) B M O [(0, .ref (ad 176))] 396 [] := by
  have hR : R0 = (f_L_arePredictionsRight_J397 B 0) := hR
  have hok : (ok_L_arePredictionsRight_J397 B 0) := hok
  refine x_iconst (pc := 396) (v := 0) C dL_arePredictionsRight_396 (by decide) ?_
  refine x_sub [0] (ls2 := [(0, .ref (ad 176))]) rfl ?_
  exact t_L_arePredictionsRight_J397 C hG B 0 M O _ _ ⟨by omega, by omega⟩ _ hR hok
set_option maxHeartbeats 4000000 in
set_option maxRecDepth 100000 in
theorem t_L_arePredictionsRight_J93 {p0 : Program} {l : Launch} {e : Env} {s : State} {m : MethodId} {args : Array Value} {below : List Frame} {meth : Method} {c : Code} {A : Nat → Prop} {G : GT} {ad : Nat → Nat} (C : CX p0 l s m args meth c A G ad cL_arePredictionsRight RL 16 (some .boolean)) (hG : G.2.2.2.2 2 = 1 ∧ G.2.2.2.2 3 = 4) (B : StB) (a1 : Int32) (a2 : Int32) (a3 : Int32) (s0 : Int32) (M : StM) (O : StO) (cs0 ss0 : Nat) (hcs : cs0 + 80 ≤ 96 ∧ ss0 + 480 ≤ 592) (R0 : Int32 × StB) (hR : R0 = f_L_arePredictionsRight_J93 B a1 a2 a3 s0) (hok : ok_L_arePredictionsRight_J93 B a1 a2 a3 s0) : X p0 l e (rmd 22 96 592) s m args below meth c A G ad 16 cs0 ss0 (MQ below (QI G A ad R0.1 R0.2 M O) args s 96 592 A) B M O [(0, .ref (ad 176)), (1, .int a1), (2, .int a2), (3, .int a3), (4, .ref (ad 193)), (5, .ref (ad 194)), (6, .ref (ad 195)), (7, .ref (ad 196))] 93 [.int s0] := by
  have hR : R0 = (nm (f_L_arePredictionsRight_L98 20 B a1 a2 a3 s0 0) (fun (z9 : StB) => (nm (f_L_arePredictionsRight_L125 20 z9 a1 a2 a3 s0 0) (fun (z25 : StB) => (nm (f_X6_save z25) (fun (z27 : Int32 × StB) => (nm (f_X6_bounceCount z27.2) (fun (r28 : Int32) => (nm (f_X6_endDays_n z27.2 a1) (fun (z30 : Int32 × StB) => (nm (f_L_arePredictionsRight_L198 20 z30.2 a1 a2 a3 s0 r28 z30.1 0) (fun (z40 : Int32) => (nm (f_L_arePredictionsRight_L254 20 z30.2 a1 a3 z40 r28 z30.1 0 0 0) (fun (z98 : Int32 × Int32 × Int32 × StB) => (if z98.1 = 0 then (f_L_arePredictionsRight_J396 z98.2.2.2) else (if z30.1 = z98.2.1 then (nm (f_X6_bounceCount z98.2.2.2) (fun (r104 : Int32) => (if r104 = (r28 + z98.2.2.1) then (f_L_arePredictionsRight_J397 z98.2.2.2 1) else (f_L_arePredictionsRight_J396 z98.2.2.2)))) else (f_L_arePredictionsRight_J396 z98.2.2.2))))))))))))))))) := hR
  have hok : ((ok_L_arePredictionsRight_L98 20 B a1 a2 a3 s0 0) ∧ ∀ z9 : StB, z9 = f_L_arePredictionsRight_L98 20 B a1 a2 a3 s0 0 → ((ok_L_arePredictionsRight_L125 20 z9 a1 a2 a3 s0 0) ∧ ∀ z25 : StB, z25 = f_L_arePredictionsRight_L125 20 z9 a1 a2 a3 s0 0 → ((ok_X6_save z25) ∧ (∀ z27 : Int32 × StB, z27 = (f_X6_save z25) → (∀ r28 : Int32, r28 = (f_X6_bounceCount z27.2) → ((ok_X6_endDays_n z27.2 a1) ∧ (∀ z30 : Int32 × StB, z30 = (f_X6_endDays_n z27.2 a1) → ((ok_L_arePredictionsRight_L198 20 z30.2 a1 a2 a3 s0 r28 z30.1 0) ∧ ∀ z40 : Int32, z40 = f_L_arePredictionsRight_L198 20 z30.2 a1 a2 a3 s0 r28 z30.1 0 → ((ok_L_arePredictionsRight_L254 20 z30.2 a1 a3 z40 r28 z30.1 0 0 0) ∧ ∀ z98 : Int32 × Int32 × Int32 × StB, z98 = f_L_arePredictionsRight_L254 20 z30.2 a1 a3 z40 r28 z30.1 0 0 0 → ((z98.1 = 0 → (ok_L_arePredictionsRight_J396 z98.2.2.2)) ∧ (¬ z98.1 = 0 → ((z30.1 = z98.2.1 → (∀ r104 : Int32, r104 = (f_X6_bounceCount z98.2.2.2) → ((r104 = (r28 + z98.2.2.1) → (ok_L_arePredictionsRight_J397 z98.2.2.2 1)) ∧ (¬ r104 = (r28 + z98.2.2.1) → (ok_L_arePredictionsRight_J396 z98.2.2.2))))) ∧ (¬ z30.1 = z98.2.1 → (ok_L_arePredictionsRight_J396 z98.2.2.2)))))))))))))) := hok
  refine x_istore (pc := 93) (i := 8) (ls2 := [(8, .int s0), (0, .ref (ad 176)), (1, .int a1), (2, .int a2), (3, .int a3), (4, .ref (ad 193)), (5, .ref (ad 194)), (6, .ref (ad 195)), (7, .ref (ad 196))]) C dL_arePredictionsRight_93 (by decide) rfl ?_
  refine x_iconst (pc := 95) (v := 0) C dL_arePredictionsRight_95 (by decide) ?_
  refine x_istore (pc := 96) (i := 9) (ls2 := [(9, .int 0), (8, .int s0), (0, .ref (ad 176)), (1, .int a1), (2, .int a2), (3, .int a3), (4, .ref (ad 193)), (5, .ref (ad 194)), (6, .ref (ad 195)), (7, .ref (ad 196))]) C dL_arePredictionsRight_96 (by decide) rfl ?_
  refine x_sub [2, 3, 4, 5, 6, 7, 8, 9, 1, 0] (ls2 := [(0, .ref (ad 176)), (1, .int a1), (2, .int a2), (3, .int a3), (4, .ref (ad 193)), (5, .ref (ad 194)), (6, .ref (ad 195)), (7, .ref (ad 196)), (8, .int s0), (9, .int 0)]) rfl ?_
  obtain ⟨z9, ez9⟩ : ∃ z : StB, z = f_L_arePredictionsRight_L98 20 B a1 a2 a3 s0 0 := ⟨_, rfl⟩
  refine t_L_arePredictionsRight_L98 C hG 20 B a1 a2 a3 s0 0 M O _ _ ⟨by omega, by omega⟩ z9 ez9 hok.1 ?_
  have hR := nmE hR ez9
  have hok := hok.2 z9 ez9
  refine x_iconst (pc := 122) (v := 0) C dL_arePredictionsRight_122 (by decide) ?_
  refine x_istore (pc := 123) (i := 9) (ls2 := [(9, .int 0), (0, .ref (ad 176)), (1, .int a1), (2, .int a2), (3, .int a3), (4, .ref (ad 193)), (5, .ref (ad 194)), (6, .ref (ad 195)), (7, .ref (ad 196)), (8, .int s0)]) C dL_arePredictionsRight_123 (by decide) rfl ?_
  refine x_sub [1, 2, 3, 4, 5, 6, 7, 8, 9, 0] (ls2 := [(0, .ref (ad 176)), (1, .int a1), (2, .int a2), (3, .int a3), (4, .ref (ad 193)), (5, .ref (ad 194)), (6, .ref (ad 195)), (7, .ref (ad 196)), (8, .int s0), (9, .int 0)]) rfl ?_
  obtain ⟨z25, ez25⟩ : ∃ z : StB, z = f_L_arePredictionsRight_L125 20 z9 a1 a2 a3 s0 0 := ⟨_, rfl⟩
  refine t_L_arePredictionsRight_L125 C hG 20 z9 a1 a2 a3 s0 0 M O _ _ ⟨by omega, by omega⟩ z25 ez25 hok.1 ?_
  have hR := nmE hR ez25
  have hok := hok.2 z25 ez25
  refine x_aload_n (pc := 176) (i := 0) C 0 dL_arePredictionsRight_176 rfl rfl ?_
  have h26 := hok.1
  have hok := hok.2
  refine x_cIV (pc := 177) (as := []) (q := 176) C (c_X6_save C.2.2.2.2.2.2.2.1  z25 M O  h26) (fs := _) e_I rfl cv_X6_save cd_X6_save wd_6_126 ⟨Nat.le_of_ble_eq_true rfl, Nat.le_of_ble_eq_true rfl⟩ ⟨by simp only [rmd]; omega, by simp only [rmd]; omega⟩ rfl rfl (Nat.le_of_ble_eq_true rfl) dL_arePredictionsRight_177 ?_
  refine x_nmIB (fun z27 ez27 => ?_)
  have hR := nmE hR ez27
  have hok := hok z27 ez27
  refine x_istore (pc := 180) (i := 9) (ls2 := [(9, .int z27.1), (0, .ref (ad 176)), (1, .int a1), (2, .int a2), (3, .int a3), (4, .ref (ad 193)), (5, .ref (ad 194)), (6, .ref (ad 195)), (7, .ref (ad 196)), (8, .int s0)]) C dL_arePredictionsRight_180 (by decide) rfl ?_
  refine x_aload_n (pc := 182) (i := 0) C 1 dL_arePredictionsRight_182 rfl rfl ?_
  refine x_cIV (pc := 183) (as := []) (q := 176) C (c_X6_bounceCount C.2.2.2.2.2.2.2.1  z27.2 M O ) (fs := _) e_I rfl cv_X6_bounceCount cd_X6_bounceCount wd_6_130 ⟨Nat.le_of_ble_eq_true rfl, Nat.le_of_ble_eq_true rfl⟩ ⟨by simp only [rmd]; omega, by simp only [rmd]; omega⟩ rfl rfl (Nat.le_of_ble_eq_true rfl) dL_arePredictionsRight_183 ?_
  refine x_nmI (fun r28 er28 => ?_)
  have hR := nmE hR er28
  have hok := hok r28 er28
  refine x_istore (pc := 186) (i := 10) (ls2 := [(10, .int r28), (9, .int z27.1), (0, .ref (ad 176)), (1, .int a1), (2, .int a2), (3, .int a3), (4, .ref (ad 193)), (5, .ref (ad 194)), (6, .ref (ad 195)), (7, .ref (ad 196)), (8, .int s0)]) C dL_arePredictionsRight_186 (by decide) rfl ?_
  refine x_aload_n (pc := 188) (i := 0) C 2 dL_arePredictionsRight_188 rfl rfl ?_
  refine x_iload_n (pc := 189) (i := 1) C 3 dL_arePredictionsRight_189 rfl rfl ?_
  have h29 := hok.1
  have hok := hok.2
  refine x_cIV (pc := 190) (as := [.int a1]) (q := 176) C (c_X6_endDays_n C.2.2.2.2.2.2.2.1  z27.2 M O a1 h29) (fs := _) e_I rfl cv_X6_endDays cd_X6_endDays wd_3_137 ⟨Nat.le_of_ble_eq_true rfl, Nat.le_of_ble_eq_true rfl⟩ ⟨by simp only [rmd]; omega, by simp only [rmd]; omega⟩ rfl rfl (Nat.le_of_ble_eq_true rfl) dL_arePredictionsRight_190 ?_
  refine x_nmIB (fun z30 ez30 => ?_)
  have hR := nmE hR ez30
  have hok := hok z30 ez30
  refine x_istore (pc := 193) (i := 11) (ls2 := [(11, .int z30.1), (10, .int r28), (9, .int z27.1), (0, .ref (ad 176)), (1, .int a1), (2, .int a2), (3, .int a3), (4, .ref (ad 193)), (5, .ref (ad 194)), (6, .ref (ad 195)), (7, .ref (ad 196)), (8, .int s0)]) C dL_arePredictionsRight_193 (by decide) rfl ?_
  refine x_iconst (pc := 195) (v := 0) C dL_arePredictionsRight_195 (by decide) ?_
  refine x_istore (pc := 196) (i := 12) (ls2 := [(12, .int 0), (11, .int z30.1), (10, .int r28), (9, .int z27.1), (0, .ref (ad 176)), (1, .int a1), (2, .int a2), (3, .int a3), (4, .ref (ad 193)), (5, .ref (ad 194)), (6, .ref (ad 195)), (7, .ref (ad 196)), (8, .int s0)]) C dL_arePredictionsRight_196 (by decide) rfl ?_
  refine x_sub [4, 5, 6, 7, 8, 9, 10, 11, 12, 2, 1, 0] (ls2 := [(0, .ref (ad 176)), (1, .int a1), (2, .int a2), (3, .int a3), (4, .ref (ad 193)), (5, .ref (ad 194)), (6, .ref (ad 195)), (7, .ref (ad 196)), (8, .int s0), (10, .int r28), (11, .int z30.1), (12, .int 0)]) rfl ?_
  obtain ⟨z40, ez40⟩ : ∃ z : Int32, z = f_L_arePredictionsRight_L198 20 z30.2 a1 a2 a3 s0 r28 z30.1 0 := ⟨_, rfl⟩
  refine t_L_arePredictionsRight_L198 C hG 20 z30.2 a1 a2 a3 s0 r28 z30.1 0 M O _ _ ⟨by omega, by omega⟩ z40 ez40 hok.1 ?_
  have hR := nmE hR ez40
  have hok := hok.2 z40 ez40
  refine x_iconst (pc := 245) (v := 0) C dL_arePredictionsRight_245 (by decide) ?_
  refine x_istore (pc := 246) (i := 12) (ls2 := [(12, .int 0), (0, .ref (ad 176)), (1, .int a1), (3, .int a3), (5, .ref (ad 194)), (6, .ref (ad 195)), (7, .ref (ad 196)), (8, .int z40), (10, .int r28), (11, .int z30.1)]) C dL_arePredictionsRight_246 (by decide) rfl ?_
  refine x_iconst (pc := 248) (v := 0) C dL_arePredictionsRight_248 (by decide) ?_
  refine x_istore (pc := 249) (i := 13) (ls2 := [(13, .int 0), (12, .int 0), (0, .ref (ad 176)), (1, .int a1), (3, .int a3), (5, .ref (ad 194)), (6, .ref (ad 195)), (7, .ref (ad 196)), (8, .int z40), (10, .int r28), (11, .int z30.1)]) C dL_arePredictionsRight_249 (by decide) rfl ?_
  refine x_iconst (pc := 251) (v := 0) C dL_arePredictionsRight_251 (by decide) ?_
  refine x_istore (pc := 252) (i := 14) (ls2 := [(14, .int 0), (13, .int 0), (12, .int 0), (0, .ref (ad 176)), (1, .int a1), (3, .int a3), (5, .ref (ad 194)), (6, .ref (ad 195)), (7, .ref (ad 196)), (8, .int z40), (10, .int r28), (11, .int z30.1)]) C dL_arePredictionsRight_252 (by decide) rfl ?_
  refine x_sub [3, 4, 5, 6, 7, 8, 9, 10, 11, 2, 1, 0] (ls2 := [(0, .ref (ad 176)), (1, .int a1), (3, .int a3), (5, .ref (ad 194)), (6, .ref (ad 195)), (7, .ref (ad 196)), (8, .int z40), (10, .int r28), (11, .int z30.1), (12, .int 0), (13, .int 0), (14, .int 0)]) rfl ?_
  obtain ⟨z98, ez98⟩ : ∃ z : Int32 × Int32 × Int32 × StB, z = f_L_arePredictionsRight_L254 20 z30.2 a1 a3 z40 r28 z30.1 0 0 0 := ⟨_, rfl⟩
  refine t_L_arePredictionsRight_L254 C hG 20 z30.2 a1 a3 z40 r28 z30.1 0 0 0 M O _ _ ⟨by omega, by omega⟩ z98 ez98 hok.1 ?_
  have hR := nmE hR ez98
  have hok := hok.2 z98 ez98
  refine x_iload (pc := 368) (i := 8) C 1 dL_arePredictionsRight_368 rfl ?_
  refine x_if_eq (pc := 370) (tgt := 396) C dL_arePredictionsRight_370 (by decide) (fun c99 => ?_) (fun c99 => ?_)
  · have hR := hR.trans (if_pos c99)
    have hok := hok.1 c99
    refine x_sub [0] (ls2 := [(0, .ref (ad 176))]) rfl ?_
    exact t_L_arePredictionsRight_J396 C hG z98.2.2.2 M O _ _ ⟨by omega, by omega⟩ _ hR hok
  · have hR := hR.trans (if_neg c99)
    have hok := hok.2 c99
    refine x_iload (pc := 373) (i := 11) C 3 dL_arePredictionsRight_373 rfl ?_
    refine x_iload (pc := 375) (i := 12) C 4 dL_arePredictionsRight_375 rfl ?_
    refine x_icmp_ne (pc := 377) (tgt := 396) C dL_arePredictionsRight_377 (by decide) (fun c103 => ?_) (fun c103 => ?_)
    · have hR := hR.trans (if_neg c103)
      have hok := hok.2 c103
      refine x_sub [0] (ls2 := [(0, .ref (ad 176))]) rfl ?_
      exact t_L_arePredictionsRight_J396 C hG z98.2.2.2 M O _ _ ⟨by omega, by omega⟩ _ hR hok
    · have hR := hR.trans (if_pos c103)
      have hok := hok.1 c103
      refine x_aload_n (pc := 380) (i := 0) C 0 dL_arePredictionsRight_380 rfl rfl ?_
      refine x_cIV (pc := 381) (as := []) (q := 176) C (c_X6_bounceCount C.2.2.2.2.2.2.2.1  z98.2.2.2 M O ) (fs := _) e_I rfl cv_X6_bounceCount cd_X6_bounceCount wd_6_130 ⟨Nat.le_of_ble_eq_true rfl, Nat.le_of_ble_eq_true rfl⟩ ⟨by simp only [rmd]; omega, by simp only [rmd]; omega⟩ rfl rfl (Nat.le_of_ble_eq_true rfl) dL_arePredictionsRight_381 ?_
      refine x_nmI (fun r104 er104 => ?_)
      have hR := nmE hR er104
      have hok := hok r104 er104
      refine x_iload (pc := 384) (i := 10) C 2 dL_arePredictionsRight_384 rfl ?_
      refine x_iload (pc := 386) (i := 13) C 5 dL_arePredictionsRight_386 rfl ?_
      refine x_iadd (pc := 388) C dL_arePredictionsRight_388 ?_
      refine x_icmp_ne (pc := 389) (tgt := 396) C dL_arePredictionsRight_389 (by decide) (fun c105 => ?_) (fun c105 => ?_)
      · have hR := hR.trans (if_neg c105)
        have hok := hok.2 c105
        refine x_sub [0] (ls2 := [(0, .ref (ad 176))]) rfl ?_
        exact t_L_arePredictionsRight_J396 C hG z98.2.2.2 M O _ _ ⟨by omega, by omega⟩ _ hR hok
      · have hR := hR.trans (if_pos c105)
        have hok := hok.1 c105
        refine x_iconst (pc := 392) (v := 1) C dL_arePredictionsRight_392 (by decide) ?_
        refine x_goto (pc := 393) (tgt := 397) C dL_arePredictionsRight_393 (by decide) ?_
        refine x_sub [0] (ls2 := [(0, .ref (ad 176))]) rfl ?_
        exact t_L_arePredictionsRight_J397 C hG z98.2.2.2 1 M O _ _ ⟨by omega, by omega⟩ _ hR hok
set_option maxHeartbeats 4000000 in
set_option maxRecDepth 100000 in
theorem t_L_arePredictionsRight_J92 {p0 : Program} {l : Launch} {e : Env} {s : State} {m : MethodId} {args : Array Value} {below : List Frame} {meth : Method} {c : Code} {A : Nat → Prop} {G : GT} {ad : Nat → Nat} (C : CX p0 l s m args meth c A G ad cL_arePredictionsRight RL 16 (some .boolean)) (hG : G.2.2.2.2 2 = 1 ∧ G.2.2.2.2 3 = 4) (B : StB) (a1 : Int32) (a2 : Int32) (a3 : Int32) (M : StM) (O : StO) (cs0 ss0 : Nat) (hcs : cs0 + 80 ≤ 96 ∧ ss0 + 480 ≤ 592) (R0 : Int32 × StB) (hR : R0 = f_L_arePredictionsRight_J92 B a1 a2 a3) (hok : ok_L_arePredictionsRight_J92 B a1 a2 a3) : X p0 l e (rmd 22 96 592) s m args below meth c A G ad 16 cs0 ss0 (MQ below (QI G A ad R0.1 R0.2 M O) args s 96 592 A) B M O [(0, .ref (ad 176)), (1, .int a1), (2, .int a2), (3, .int a3), (4, .ref (ad 193)), (5, .ref (ad 194)), (6, .ref (ad 195)), (7, .ref (ad 196))] 92 [] := by
  have hR : R0 = (f_L_arePredictionsRight_J93 B a1 a2 a3 0) := hR
  have hok : (ok_L_arePredictionsRight_J93 B a1 a2 a3 0) := hok
  refine x_iconst (pc := 92) (v := 0) C dL_arePredictionsRight_92 (by decide) ?_
  refine x_sub [0, 1, 2, 3, 4, 5, 6, 7] (ls2 := [(0, .ref (ad 176)), (1, .int a1), (2, .int a2), (3, .int a3), (4, .ref (ad 193)), (5, .ref (ad 194)), (6, .ref (ad 195)), (7, .ref (ad 196))]) rfl ?_
  exact t_L_arePredictionsRight_J93 C hG B a1 a2 a3 0 M O _ _ ⟨by omega, by omega⟩ _ hR hok
set_option maxHeartbeats 4000000 in
set_option maxRecDepth 100000 in
theorem t_L_arePredictionsRight_J88 {p0 : Program} {l : Launch} {e : Env} {s : State} {m : MethodId} {args : Array Value} {below : List Frame} {meth : Method} {c : Code} {A : Nat → Prop} {G : GT} {ad : Nat → Nat} (C : CX p0 l s m args meth c A G ad cL_arePredictionsRight RL 16 (some .boolean)) (hG : G.2.2.2.2 2 = 1 ∧ G.2.2.2.2 3 = 4) (B : StB) (a1 : Int32) (a2 : Int32) (a3 : Int32) (M : StM) (O : StO) (cs0 ss0 : Nat) (hcs : cs0 + 80 ≤ 96 ∧ ss0 + 480 ≤ 592) (R0 : Int32 × StB) (hR : R0 = f_L_arePredictionsRight_J88 B a1 a2 a3) (hok : ok_L_arePredictionsRight_J88 B a1 a2 a3) : X p0 l e (rmd 22 96 592) s m args below meth c A G ad 16 cs0 ss0 (MQ below (QI G A ad R0.1 R0.2 M O) args s 96 592 A) B M O [(0, .ref (ad 176)), (1, .int a1), (2, .int a2), (3, .int a3), (4, .ref (ad 193)), (5, .ref (ad 194)), (6, .ref (ad 195)), (7, .ref (ad 196))] 88 [] := by
  have hR : R0 = (f_L_arePredictionsRight_J93 B a1 a2 a3 1) := hR
  have hok : (ok_L_arePredictionsRight_J93 B a1 a2 a3 1) := hok
  refine x_iconst (pc := 88) (v := 1) C dL_arePredictionsRight_88 (by decide) ?_
  refine x_goto (pc := 89) (tgt := 93) C dL_arePredictionsRight_89 (by decide) ?_
  refine x_sub [0, 1, 2, 3, 4, 5, 6, 7] (ls2 := [(0, .ref (ad 176)), (1, .int a1), (2, .int a2), (3, .int a3), (4, .ref (ad 193)), (5, .ref (ad 194)), (6, .ref (ad 195)), (7, .ref (ad 196))]) rfl ?_
  exact t_L_arePredictionsRight_J93 C hG B a1 a2 a3 1 M O _ _ ⟨by omega, by omega⟩ _ hR hok
set_option maxHeartbeats 4000000 in
set_option maxRecDepth 100000 in
theorem t_L_arePredictionsRight_S {p0 : Program} {l : Launch} {e : Env} {s : State} {m : MethodId} {args : Array Value} {below : List Frame} {meth : Method} {c : Code} {A : Nat → Prop} {G : GT} {ad : Nat → Nat} (C : CX p0 l s m args meth c A G ad cL_arePredictionsRight RL 16 (some .boolean)) (hG : G.2.2.2.2 2 = 1 ∧ G.2.2.2.2 3 = 4) (B : StB) (x1 : Int32) (a2 : Int32) (a3 : Int32) (M : StM) (O : StO) (cs0 ss0 : Nat) (hcs : cs0 + 92 ≤ 96 ∧ ss0 + 552 ≤ 592) (R0 : Int32 × StB) (hR : R0 = f_L_arePredictionsRight_S B x1 a2 a3) (hok : ok_L_arePredictionsRight_S B x1 a2 a3) : X p0 l e (rmd 22 96 592) s m args below meth c A G ad 16 cs0 ss0 (MQ below (QI G A ad R0.1 R0.2 M O) args s 96 592 A) B M O [(0, .ref (ad 176)), (1, .int x1), (2, .int a2), (3, .int a3), (4, .ref (ad 193)), (5, .ref (ad 194)), (6, .ref (ad 195)), (7, .ref (ad 196))] 30 [] := by
  have hR : R0 = (nm (f_L_ask B 2 a2 1) (fun (z2 : Int32 × StB) => (if z2.1 = (-20002) then (if a2 = 0 then (f_L_arePredictionsRight_J88 z2.2 x1 a2 a3) else (nm (f_L_ask z2.2 2 0 61) (fun (z108 : Int32 × StB) => (if z108.1 = (-20003) then (nm (f_L_ask z108.2 2 0 (-1)) (fun (z111 : Int32 × StB) => (if z111.1 = (-20003) then (nm (f_X6_balanceAfter_n z111.2 0 0) (fun (z114 : Int32 × StB) => (nm (f_X6_balanceOf_n z114.2 0) (fun (r116 : Int32) => (if z114.1 = r116 then (f_L_arePredictionsRight_J88 z114.2 x1 a2 a3) else (f_L_arePredictionsRight_J92 z114.2 x1 a2 a3)))))) else (f_L_arePredictionsRight_J92 z111.2 x1 a2 a3)))) else (f_L_arePredictionsRight_J92 z108.2 x1 a2 a3))))) else (f_L_arePredictionsRight_J92 z2.2 x1 a2 a3)))) := hR
  have hok : ((ok_L_ask B 2 a2 1) ∧ (∀ z2 : Int32 × StB, z2 = (f_L_ask B 2 a2 1) → ((z2.1 = (-20002) → ((a2 = 0 → (ok_L_arePredictionsRight_J88 z2.2 x1 a2 a3)) ∧ (¬ a2 = 0 → ((ok_L_ask z2.2 2 0 61) ∧ (∀ z108 : Int32 × StB, z108 = (f_L_ask z2.2 2 0 61) → ((z108.1 = (-20003) → ((ok_L_ask z108.2 2 0 (-1)) ∧ (∀ z111 : Int32 × StB, z111 = (f_L_ask z108.2 2 0 (-1)) → ((z111.1 = (-20003) → ((ok_X6_balanceAfter_n z111.2 0 0) ∧ (∀ z114 : Int32 × StB, z114 = (f_X6_balanceAfter_n z111.2 0 0) → ((ok_X6_balanceOf_n z114.2 0) ∧ (∀ r116 : Int32, r116 = (f_X6_balanceOf_n z114.2 0) → ((z114.1 = r116 → (ok_L_arePredictionsRight_J88 z114.2 x1 a2 a3)) ∧ (¬ z114.1 = r116 → (ok_L_arePredictionsRight_J92 z114.2 x1 a2 a3)))))))) ∧ (¬ z111.1 = (-20003) → (ok_L_arePredictionsRight_J92 z111.2 x1 a2 a3)))))) ∧ (¬ z108.1 = (-20003) → (ok_L_arePredictionsRight_J92 z108.2 x1 a2 a3)))))))) ∧ (¬ z2.1 = (-20002) → (ok_L_arePredictionsRight_J92 z2.2 x1 a2 a3))))) := hok
  refine x_aload_n (pc := 30) (i := 0) C 0 dL_arePredictionsRight_30 rfl rfl ?_
  refine x_iconst (pc := 31) (v := 2) C dL_arePredictionsRight_31 (by decide) ?_
  refine x_iload_n (pc := 32) (i := 2) C 2 dL_arePredictionsRight_32 rfl rfl ?_
  refine x_iconst (pc := 33) (v := 1) C dL_arePredictionsRight_33 (by decide) ?_
  have h1 := hok.1
  have hok := hok.2
  refine x_cWS (pc := 34) (as := [.ref (ad 176), .int 2, .int a2, .int 1]) (n := 4) C (c_L_ask C.2.2.2.2.2.2.2.1  B M O 2 a2 1 h1) wd_4_138 wd_4_139 wd_1_0 wd_4_140 ⟨by decide, by decide, by decide +kernel⟩ ⟨Nat.le_of_ble_eq_true rfl, Nat.le_of_ble_eq_true rfl⟩ ⟨by simp only [rmd]; omega, by simp only [rmd]; omega⟩ rfl rfl (Nat.le_of_ble_eq_true rfl) dL_arePredictionsRight_34 ?_
  refine x_nmIB (fun z2 ez2 => ?_)
  have hR := nmE hR ez2
  have hok := hok z2 ez2
  refine x_sipush (pc := 37) (v := (-20002)) C dL_arePredictionsRight_37 (by decide) ?_
  refine x_icmp_ne (pc := 40) (tgt := 92) C dL_arePredictionsRight_40 (by decide) (fun c3 => ?_) (fun c3 => ?_)
  · have hR := hR.trans (if_neg c3)
    have hok := hok.2 c3
    refine x_sub [0, 1, 2, 3, 4, 5, 6, 7] (ls2 := [(0, .ref (ad 176)), (1, .int x1), (2, .int a2), (3, .int a3), (4, .ref (ad 193)), (5, .ref (ad 194)), (6, .ref (ad 195)), (7, .ref (ad 196))]) rfl ?_
    exact t_L_arePredictionsRight_J92 C hG z2.2 x1 a2 a3 M O _ _ ⟨by omega, by omega⟩ _ hR hok
  · have hR := hR.trans (if_pos c3)
    have hok := hok.1 c3
    refine x_iload_n (pc := 43) (i := 2) C 2 dL_arePredictionsRight_43 rfl rfl ?_
    refine x_if_eq (pc := 44) (tgt := 88) C dL_arePredictionsRight_44 (by decide) (fun c106 => ?_) (fun c106 => ?_)
    · have hR := hR.trans (if_pos c106)
      have hok := hok.1 c106
      refine x_sub [0, 1, 2, 3, 4, 5, 6, 7] (ls2 := [(0, .ref (ad 176)), (1, .int x1), (2, .int a2), (3, .int a3), (4, .ref (ad 193)), (5, .ref (ad 194)), (6, .ref (ad 195)), (7, .ref (ad 196))]) rfl ?_
      exact t_L_arePredictionsRight_J88 C hG z2.2 x1 a2 a3 M O _ _ ⟨by omega, by omega⟩ _ hR hok
    · have hR := hR.trans (if_neg c106)
      have hok := hok.2 c106
      refine x_aload_n (pc := 47) (i := 0) C 0 dL_arePredictionsRight_47 rfl rfl ?_
      refine x_iconst (pc := 48) (v := 2) C dL_arePredictionsRight_48 (by decide) ?_
      refine x_iconst (pc := 49) (v := 0) C dL_arePredictionsRight_49 (by decide) ?_
      refine x_bipush (pc := 50) (v := 61) C dL_arePredictionsRight_50 (by decide) ?_
      have h107 := hok.1
      have hok := hok.2
      refine x_cWS (pc := 52) (as := [.ref (ad 176), .int 2, .int 0, .int 61]) (n := 4) C (c_L_ask C.2.2.2.2.2.2.2.1  z2.2 M O 2 0 61 h107) wd_4_138 wd_4_139 wd_1_0 wd_4_140 ⟨by decide, by decide, by decide +kernel⟩ ⟨Nat.le_of_ble_eq_true rfl, Nat.le_of_ble_eq_true rfl⟩ ⟨by simp only [rmd]; omega, by simp only [rmd]; omega⟩ rfl rfl (Nat.le_of_ble_eq_true rfl) dL_arePredictionsRight_52 ?_
      refine x_nmIB (fun z108 ez108 => ?_)
      have hR := nmE hR ez108
      have hok := hok z108 ez108
      refine x_sipush (pc := 55) (v := (-20003)) C dL_arePredictionsRight_55 (by decide) ?_
      refine x_icmp_ne (pc := 58) (tgt := 92) C dL_arePredictionsRight_58 (by decide) (fun c109 => ?_) (fun c109 => ?_)
      · have hR := hR.trans (if_neg c109)
        have hok := hok.2 c109
        refine x_sub [0, 1, 2, 3, 4, 5, 6, 7] (ls2 := [(0, .ref (ad 176)), (1, .int x1), (2, .int a2), (3, .int a3), (4, .ref (ad 193)), (5, .ref (ad 194)), (6, .ref (ad 195)), (7, .ref (ad 196))]) rfl ?_
        exact t_L_arePredictionsRight_J92 C hG z108.2 x1 a2 a3 M O _ _ ⟨by omega, by omega⟩ _ hR hok
      · have hR := hR.trans (if_pos c109)
        have hok := hok.1 c109
        refine x_aload_n (pc := 61) (i := 0) C 0 dL_arePredictionsRight_61 rfl rfl ?_
        refine x_iconst (pc := 62) (v := 2) C dL_arePredictionsRight_62 (by decide) ?_
        refine x_iconst (pc := 63) (v := 0) C dL_arePredictionsRight_63 (by decide) ?_
        refine x_iconst (pc := 64) (v := (-1)) C dL_arePredictionsRight_64 (by decide) ?_
        have h110 := hok.1
        have hok := hok.2
        refine x_cWS (pc := 65) (as := [.ref (ad 176), .int 2, .int 0, .int (-1)]) (n := 4) C (c_L_ask C.2.2.2.2.2.2.2.1  z108.2 M O 2 0 (-1) h110) wd_4_138 wd_4_139 wd_1_0 wd_4_140 ⟨by decide, by decide, by decide +kernel⟩ ⟨Nat.le_of_ble_eq_true rfl, Nat.le_of_ble_eq_true rfl⟩ ⟨by simp only [rmd]; omega, by simp only [rmd]; omega⟩ rfl rfl (Nat.le_of_ble_eq_true rfl) dL_arePredictionsRight_65 ?_
        refine x_nmIB (fun z111 ez111 => ?_)
        have hR := nmE hR ez111
        have hok := hok z111 ez111
        refine x_sipush (pc := 68) (v := (-20003)) C dL_arePredictionsRight_68 (by decide) ?_
        refine x_icmp_ne (pc := 71) (tgt := 92) C dL_arePredictionsRight_71 (by decide) (fun c112 => ?_) (fun c112 => ?_)
        · have hR := hR.trans (if_neg c112)
          have hok := hok.2 c112
          refine x_sub [0, 1, 2, 3, 4, 5, 6, 7] (ls2 := [(0, .ref (ad 176)), (1, .int x1), (2, .int a2), (3, .int a3), (4, .ref (ad 193)), (5, .ref (ad 194)), (6, .ref (ad 195)), (7, .ref (ad 196))]) rfl ?_
          exact t_L_arePredictionsRight_J92 C hG z111.2 x1 a2 a3 M O _ _ ⟨by omega, by omega⟩ _ hR hok
        · have hR := hR.trans (if_pos c112)
          have hok := hok.1 c112
          refine x_aload_n (pc := 74) (i := 0) C 0 dL_arePredictionsRight_74 rfl rfl ?_
          refine x_iconst (pc := 75) (v := 0) C dL_arePredictionsRight_75 (by decide) ?_
          refine x_iconst (pc := 76) (v := 0) C dL_arePredictionsRight_76 (by decide) ?_
          have h113 := hok.1
          have hok := hok.2
          refine x_cIV (pc := 77) (as := [.int 0, .int 0]) (q := 176) C (c_X6_balanceAfter_n C.2.2.2.2.2.2.2.1  z111.2 M O 0 0 h113) (fs := _) e_I rfl cv_X6_balanceAfter cd_X6_balanceAfter wd_4_165 ⟨Nat.le_of_ble_eq_true rfl, Nat.le_of_ble_eq_true rfl⟩ ⟨by simp only [rmd]; omega, by simp only [rmd]; omega⟩ rfl rfl (Nat.le_of_ble_eq_true rfl) dL_arePredictionsRight_77 ?_
          refine x_nmIB (fun z114 ez114 => ?_)
          have hR := nmE hR ez114
          have hok := hok z114 ez114
          refine x_aload_n (pc := 80) (i := 0) C 0 dL_arePredictionsRight_80 rfl rfl ?_
          refine x_iconst (pc := 81) (v := 0) C dL_arePredictionsRight_81 (by decide) ?_
          have h115 := hok.1
          have hok := hok.2
          refine x_cIV (pc := 82) (as := [.int 0]) (q := 176) C (c_X6_balanceOf_n C.2.2.2.2.2.2.2.1  z114.2 M O 0 h115) (fs := _) e_I rfl cv_X6_balanceOf cd_X6_balanceOf wd_4_144 ⟨Nat.le_of_ble_eq_true rfl, Nat.le_of_ble_eq_true rfl⟩ ⟨by simp only [rmd]; omega, by simp only [rmd]; omega⟩ rfl rfl (Nat.le_of_ble_eq_true rfl) dL_arePredictionsRight_82 ?_
          refine x_nmI (fun r116 er116 => ?_)
          have hR := nmE hR er116
          have hok := hok r116 er116
          refine x_icmp_ne (pc := 85) (tgt := 92) C dL_arePredictionsRight_85 (by decide) (fun c117 => ?_) (fun c117 => ?_)
          · have hR := hR.trans (if_neg c117)
            have hok := hok.2 c117
            refine x_sub [0, 1, 2, 3, 4, 5, 6, 7] (ls2 := [(0, .ref (ad 176)), (1, .int x1), (2, .int a2), (3, .int a3), (4, .ref (ad 193)), (5, .ref (ad 194)), (6, .ref (ad 195)), (7, .ref (ad 196))]) rfl ?_
            exact t_L_arePredictionsRight_J92 C hG z114.2 x1 a2 a3 M O _ _ ⟨by omega, by omega⟩ _ hR hok
          · have hR := hR.trans (if_pos c117)
            have hok := hok.1 c117
            refine x_sub [0, 1, 2, 3, 4, 5, 6, 7] (ls2 := [(0, .ref (ad 176)), (1, .int x1), (2, .int a2), (3, .int a3), (4, .ref (ad 193)), (5, .ref (ad 194)), (6, .ref (ad 195)), (7, .ref (ad 196))]) rfl ?_
            exact t_L_arePredictionsRight_J88 C hG z114.2 x1 a2 a3 M O _ _ ⟨by omega, by omega⟩ _ hR hok
