set_option maxHeartbeats 4000000 in
set_option maxRecDepth 100000 in
theorem c_X7_thrown {l : Launch} {A : Nat → Prop} {G : GT} {ad : Nat → Nat} (gl : Gl l A ad)  (B : StB) (M : StM) (O : StO)  : Met l yX7_thrown (wof yX7_thrown cX7_thrown 1 (some .int)) (rmd 1 0 0) (va_Pc [.ref (ad 193)] (PW G A ad B M O)) (QI G A ad (f_X7_thrown M) B M O) 0 0 A := by
  refine x_body (own := RX7) (by decide +kernel) rfl gl (Nat.le_of_ble_eq_true rfl) (ls := [(0, .ref (ad 193))]) rfl ?_
  intro p0 e s m args below meth c C
  have hR : (f_X7_thrown M) = (mi M 15) := rfl
  refine x_aload_n (pc := 0) (i := 0) C 0 dX7_thrown_0 rfl rfl ?_
  refine x_get (pc := 1) (q := 193) (i := 15) C e_M rfl ttX7 (by decide) wd_7_2 rfl dX7_thrown_1 ?_
  exact x_iret (pc := 4) C rfl hR dX7_thrown_4
set_option maxHeartbeats 4000000 in
set_option maxRecDepth 100000 in
theorem t_X7_holds_J35 {p0 : Program} {l : Launch} {e : Env} {s : State} {m : MethodId} {args : Array Value} {below : List Frame} {meth : Method} {c : Code} {A : Nat → Prop} {G : GT} {ad : Nat → Nat} (C : CX p0 l s m args meth c A G ad cX7_holds RX7 5 (some .boolean))  (M : StM) (s0 : Int32) (B : StB) (O : StO) (R0 : Int32 × StM) (hR : R0 = f_X7_holds_J35 M s0) : X p0 l e (rmd 1 0 0) s m args below meth c A G ad 5 0 0 (MQ below (QI G A ad R0.1 B R0.2 O) args s 0 0 A) B M O [(0, .ref (ad 193))] 35 [.int s0, .ref (ad 193)] := by
  have hR : R0 = (nm (smi M 15 s0) (fun (M5 : StM) => (if (mi M5 15) = 0 then (1, M5) else (0, M5)))) := hR
  refine x_put (pc := 35) (M2 := (smi M 15 s0)) (B2 := B) (O2 := O) (q := 193) (i := 15) C tyX7 tyX7_ok nmX7 e_M rfl ttX7 (by decide) wd_7_2 rfl rfl rfl (Nat.le_of_ble_eq_true rfl) dX7_holds_35 (put_M_15 ) (o_smi 15 s0) ?_
  refine x_nmM (fun M5 eM5 => ?_)
  have hR := nmE hR eM5
  refine x_aload_n (pc := 38) (i := 0) C 0 dX7_holds_38 rfl rfl ?_
  refine x_get (pc := 39) (q := 193) (i := 15) C e_M rfl ttX7 (by decide) wd_7_2 rfl dX7_holds_39 ?_
  refine x_if_ne (pc := 42) (tgt := 49) C dX7_holds_42 (by decide) (fun c6 => ?_) (fun c6 => ?_)
  · have hR := hR.trans (if_neg c6)
    refine x_iconst (pc := 49) (v := 0) C dX7_holds_49 (by decide) ?_
    exact x_zretM (pc := 50) C rfl (by decide) hR dX7_holds_50
  · have hR := hR.trans (if_pos c6)
    refine x_iconst (pc := 45) (v := 1) C dX7_holds_45 (by decide) ?_
    refine x_goto (pc := 46) (tgt := 50) C dX7_holds_46 (by decide) ?_
    exact x_zretM (pc := 50) C rfl (by decide) hR dX7_holds_50
set_option maxHeartbeats 4000000 in
set_option maxRecDepth 100000 in
theorem c_X7_holds {l : Launch} {A : Nat → Prop} {G : GT} {ad : Nat → Nat} (gl : Gl l A ad)  (B : StB) (M : StM) (O : StO) (x0 : Int32) (x1 : Int32) (x2 : Int32) (x3 : Int32) : Met l yX7_holds (wof yX7_holds cX7_holds 5 (some .boolean)) (rmd 1 0 0) (va_Pc [.ref (ad 193), .int x0, .int x1, .int x2, .int x3] (PW G A ad B M O)) (QI G A ad (f_X7_holds M x0 x1 x2 x3).1 B (f_X7_holds M x0 x1 x2 x3).2 O) 0 0 A := by
  refine x_body (own := RX7) (by decide +kernel) rfl gl (Nat.le_of_ble_eq_true rfl) (ls := [(0, .ref (ad 193)), (1, .int x0), (2, .int x1), (3, .int x2), (4, .int x3)]) rfl ?_
  intro p0 e s m args below meth c C
  have hR : (f_X7_holds M x0 x1 x2 x3) = (if x0 = 0 then (f_X7_holds_J35 M 1) else (if x1 = 0 then (f_X7_holds_J35 M 2) else (if x2 = 0 then (f_X7_holds_J35 M 3) else (if x3 = 0 then (f_X7_holds_J35 M 4) else (f_X7_holds_J35 M 0))))) := rfl
  refine x_aload_n (pc := 0) (i := 0) C 0 dX7_holds_0 rfl rfl ?_
  refine x_iload_n (pc := 1) (i := 1) C 1 dX7_holds_1 rfl rfl ?_
  refine x_if_ne (pc := 2) (tgt := 9) C dX7_holds_2 (by decide) (fun c1 => ?_) (fun c1 => ?_)
  · have hR := hR.trans (if_neg c1)
    refine x_iload_n (pc := 9) (i := 2) C 2 dX7_holds_9 rfl rfl ?_
    refine x_if_ne (pc := 10) (tgt := 17) C dX7_holds_10 (by decide) (fun c2 => ?_) (fun c2 => ?_)
    · have hR := hR.trans (if_neg c2)
      refine x_iload_n (pc := 17) (i := 3) C 3 dX7_holds_17 rfl rfl ?_
      refine x_if_ne (pc := 18) (tgt := 25) C dX7_holds_18 (by decide) (fun c3 => ?_) (fun c3 => ?_)
      · have hR := hR.trans (if_neg c3)
        refine x_iload (pc := 25) (i := 4) C 4 dX7_holds_25 rfl ?_
        refine x_if_ne (pc := 27) (tgt := 34) C dX7_holds_27 (by decide) (fun c4 => ?_) (fun c4 => ?_)
        · have hR := hR.trans (if_neg c4)
          refine x_iconst (pc := 34) (v := 0) C dX7_holds_34 (by decide) ?_
          refine x_sub [0] (ls2 := [(0, .ref (ad 193))]) rfl ?_
          exact t_X7_holds_J35 C M 0 B O _ hR
        · have hR := hR.trans (if_pos c4)
          refine x_iconst (pc := 30) (v := 4) C dX7_holds_30 (by decide) ?_
          refine x_goto (pc := 31) (tgt := 35) C dX7_holds_31 (by decide) ?_
          refine x_sub [0] (ls2 := [(0, .ref (ad 193))]) rfl ?_
          exact t_X7_holds_J35 C M 4 B O _ hR
      · have hR := hR.trans (if_pos c3)
        refine x_iconst (pc := 21) (v := 3) C dX7_holds_21 (by decide) ?_
        refine x_goto (pc := 22) (tgt := 35) C dX7_holds_22 (by decide) ?_
        refine x_sub [0] (ls2 := [(0, .ref (ad 193))]) rfl ?_
        exact t_X7_holds_J35 C M 3 B O _ hR
    · have hR := hR.trans (if_pos c2)
      refine x_iconst (pc := 13) (v := 2) C dX7_holds_13 (by decide) ?_
      refine x_goto (pc := 14) (tgt := 35) C dX7_holds_14 (by decide) ?_
      refine x_sub [0] (ls2 := [(0, .ref (ad 193))]) rfl ?_
      exact t_X7_holds_J35 C M 2 B O _ hR
  · have hR := hR.trans (if_pos c1)
    refine x_iconst (pc := 5) (v := 1) C dX7_holds_5 (by decide) ?_
    refine x_goto (pc := 6) (tgt := 35) C dX7_holds_6 (by decide) ?_
    refine x_sub [0] (ls2 := [(0, .ref (ad 193))]) rfl ?_
    exact t_X7_holds_J35 C M 1 B O _ hR
set_option maxHeartbeats 4000000 in
set_option maxRecDepth 100000 in
theorem c_X7_isIn {l : Launch} {A : Nat → Prop} {G : GT} {ad : Nat → Nat} (gl : Gl l A ad)  (B : StB) (M : StM) (O : StO) (x0 : Int32) (x1 : Int32) (x2 : Int32) : Met l yX7_isIn (wof yX7_isIn cX7_isIn 3 (some .boolean)) (rmd 1 0 0) (va_Pc [.int x0, .int x1, .int x2] (PW G A ad B M O)) (QI G A ad (f_X7_isIn x0 x1 x2) B M O) 0 0 A := by
  refine x_body (own := RX7) (by decide +kernel) rfl gl (Nat.le_of_ble_eq_true rfl) (ls := [(0, .int x0), (1, .int x1), (2, .int x2)]) rfl ?_
  intro p0 e s m args below meth c C
  have hR : (f_X7_isIn x0 x1 x2) = (if x0 < x1 then 0 else (if x2 < x0 then 0 else 1)) := rfl
  refine x_iload_n (pc := 0) (i := 0) C 0 dX7_isIn_0 rfl rfl ?_
  refine x_iload_n (pc := 1) (i := 1) C 1 dX7_isIn_1 rfl rfl ?_
  refine x_icmp_lt (pc := 2) (tgt := 14) C dX7_isIn_2 (by decide) (fun c1 => ?_) (fun c1 => ?_)
  · have hR := hR.trans (if_pos c1)
    refine x_iconst (pc := 14) (v := 0) C dX7_isIn_14 (by decide) ?_
    exact x_zret (pc := 15) C rfl (by decide) hR dX7_isIn_15
  · have hR := hR.trans (if_neg c1)
    refine x_iload_n (pc := 5) (i := 0) C 0 dX7_isIn_5 rfl rfl ?_
    refine x_iload_n (pc := 6) (i := 2) C 2 dX7_isIn_6 rfl rfl ?_
    refine x_icmp_gt (pc := 7) (tgt := 14) C dX7_isIn_7 (by decide) (fun c2 => ?_) (fun c2 => ?_)
    · have hR := hR.trans (if_pos c2)
      refine x_iconst (pc := 14) (v := 0) C dX7_isIn_14 (by decide) ?_
      exact x_zret (pc := 15) C rfl (by decide) hR dX7_isIn_15
    · have hR := hR.trans (if_neg c2)
      refine x_iconst (pc := 10) (v := 1) C dX7_isIn_10 (by decide) ?_
      refine x_goto (pc := 11) (tgt := 15) C dX7_isIn_11 (by decide) ?_
      exact x_zret (pc := 15) C rfl (by decide) hR dX7_isIn_15
set_option maxHeartbeats 4000000 in
set_option maxRecDepth 100000 in
theorem c_X7_accountAt {l : Launch} {A : Nat → Prop} {G : GT} {ad : Nat → Nat} (gl : Gl l A ad)  (B : StB) (M : StM) (O : StO) (x0 : Int32) : Met l yX7_accountAt (wof yX7_accountAt cX7_accountAt 1 (some .int)) (rmd 1 0 0) (va_Pc [.int x0] (PW G A ad B M O)) (QI G A ad (f_X7_accountAt x0) B M O) 0 0 A := by
  refine x_body (own := RX7) (by decide +kernel) rfl gl (Nat.le_of_ble_eq_true rfl) (ls := [(0, .int x0)]) rfl ?_
  intro p0 e s m args below meth c C
  have hR : (f_X7_accountAt x0) = (12 + (4 * x0)) := rfl
  refine x_bipush (pc := 0) (v := 12) C dX7_accountAt_0 (by decide) ?_
  refine x_iconst (pc := 2) (v := 4) C dX7_accountAt_2 (by decide) ?_
  refine x_iload_n (pc := 3) (i := 0) C 0 dX7_accountAt_3 rfl rfl ?_
  refine x_imul (pc := 4) C dX7_accountAt_4 ?_
  refine x_iadd (pc := 5) C dX7_accountAt_5 ?_
  exact x_iret (pc := 6) C rfl hR dX7_accountAt_6
set_option maxHeartbeats 4000000 in
set_option maxRecDepth 100000 in
theorem t_X7_writes_L4 {p0 : Program} {l : Launch} {e : Env} {s : State} {m : MethodId} {args : Array Value} {below : List Frame} {meth : Method} {c : Code} {A : Nat → Prop} {G : GT} {ad : Nat → Nat} {Q : State → Prop} (C : CX p0 l s m args meth c A G ad cX7_writes RX7 5 none)  (n : Nat) (M : StM) (a1 : Int32) (a2 : Int32) (a3 : Int32) (a4 : Int32) (B : StB) (O : StO) : ∀ (R0 : StM) (hR : R0 = f_X7_writes_L4 n M a1 a2 a3 a4) (hok : ok_X7_writes_L4 n M a1 a2 a3 a4) (k : X p0 l e (rmd 2 0 0) s m args below meth c A G ad 5 0 0 Q B R0 O [(0, .ref (ad 193)), (1, .int a1), (2, .int a2), (3, .int a3)] 33 []), X p0 l e (rmd 2 0 0) s m args below meth c A G ad 5 0 0 Q B M O [(0, .ref (ad 193)), (1, .int a1), (2, .int a2), (3, .int a3), (4, .int a4)] 4 [] := by
  induction n generalizing M a1 a2 a3 a4 with
  | zero => intro R0 hR hok k; exact False.elim hok
  | succ n ih =>
    intro R0 hR hok k
    have hR : R0 = (if a4 < 97 then M else (nm (sma M 0 (ix a4) (ma M 0 (ix (a4 - 3)))) (fun (M4 : StM) => (f_X7_writes_L4 n M4 a1 a2 a3 (a4 + (-1)))))) := hR
    have hok : ((a4 < 97 → True) ∧ (¬ a4 < 97 → (vp_in (a4 - 3) 124 ∧ (vp_in a4 124 ∧ (∀ M4 : StM, M4 = (sma M 0 (ix a4) (ma M 0 (ix (a4 - 3)))) → (ok_X7_writes_L4 n M4 a1 a2 a3 (a4 + (-1)))))))) := hok
    refine x_iload (pc := 4) (i := 4) C 4 dX7_writes_4 rfl ?_
    refine x_bipush (pc := 6) (v := 97) C dX7_writes_6 (by decide) ?_
    refine x_icmp_lt (pc := 8) (tgt := 33) C dX7_writes_8 (by decide) (fun c1 => ?_) (fun c1 => ?_)
    · have hR := hR.trans (if_pos c1)
      refine x_sub [0, 1, 2, 3] (ls2 := [(0, .ref (ad 193)), (1, .int a1), (2, .int a2), (3, .int a3)]) rfl ?_
      subst hR
      exact k
    · have hR := hR.trans (if_neg c1)
      have hok := hok.2 c1
      refine x_aload_n (pc := 11) (i := 0) C 0 dX7_writes_11 rfl rfl ?_
      refine x_get (pc := 12) (q := 193) (i := 0) C e_M rfl ttX7 (by decide) wd_6_227 rfl dX7_writes_12 ?_
      refine x_iload (pc := 15) (i := 4) C 4 dX7_writes_15 rfl ?_
      refine x_aload_n (pc := 17) (i := 0) C 0 dX7_writes_17 rfl rfl ?_
      refine x_get (pc := 18) (q := 193) (i := 0) C e_M rfl ttX7 (by decide) wd_6_227 rfl dX7_writes_18 ?_
      refine x_iload (pc := 21) (i := 4) C 4 dX7_writes_21 rfl ?_
      refine x_iconst (pc := 23) (v := 3) C dX7_writes_23 (by decide) ?_
      refine x_isub (pc := 24) C dX7_writes_24 ?_
      have h2 := hok.1
      have hok := hok.2
      refine x_iald (pc := 25) (q := 194) C e_M0 h2 dX7_writes_25 ?_
      have h3 := hok.1
      have hok := hok.2
      refine x_iastM (pc := 26) (j := 0) C (by decide) e_M0 e_M0.2 h3 dX7_writes_26 ?_
      refine x_nmM (fun M4 eM4 => ?_)
      have hR := nmE hR eM4
      have hok := hok M4 eM4
      refine x_iinc (pc := 27) (i := 4) (v := (a4 + (-1))) (ls2 := [(4, .int (a4 + (-1))), (0, .ref (ad 193)), (1, .int a1), (2, .int a2), (3, .int a3)]) C 4 dX7_writes_27 rfl rfl (by decide) rfl ?_
      refine x_goto (pc := 30) (tgt := 4) C dX7_writes_30 (by decide) ?_
      refine x_sub [1, 2, 3, 4, 0] (ls2 := [(0, .ref (ad 193)), (1, .int a1), (2, .int a2), (3, .int a3), (4, .int (a4 + (-1)))]) rfl ?_
      exact ih M4 a1 a2 a3 (a4 + (-1)) R0 hR hok k
set_option maxHeartbeats 4000000 in
set_option maxRecDepth 100000 in
theorem c_X7_writes {l : Launch} {A : Nat → Prop} {G : GT} {ad : Nat → Nat} (gl : Gl l A ad)  (B : StB) (M : StM) (O : StO) (x0 : Int32) (x1 : Int32) (x2 : Int32) (hok : ok_X7_writes M x0 x1 x2) : Met l yX7_writes (wof yX7_writes cX7_writes 5 none) (rmd 2 0 0) (va_Pc [.ref (ad 193), .int x0, .int x1, .int x2] (PW G A ad B M O)) (QV G A ad B (f_X7_writes M x0 x1 x2) O) 0 0 A := by
  refine x_body (own := RX7) (by decide +kernel) rfl gl (Nat.le_of_ble_eq_true rfl) (ls := [(0, .ref (ad 193)), (1, .int x0), (2, .int x1), (3, .int x2)]) rfl ?_
  intro p0 e s m args below meth c C
  have hR : (f_X7_writes M x0 x1 x2) = (nm (f_X7_writes_L4 fu M x0 x1 x2 123) (fun (z5 : StM) => (nm (sma z5 0 (ix 94) x0) (fun (M7 : StM) => (nm (sma M7 0 (ix 95) x1) (fun (M9 : StM) => (nm (sma M9 0 (ix 96) x2) (fun (M11 : StM) => (nm (sma M11 0 (ix 11) (mn 10 ((ma M11 0 (ix 11)) + 1))) (fun (M14 : StM) => M14)))))))))) := rfl
  have hok : (ok_X7_writes_L4 fu M x0 x1 x2 123) := hok
  refine x_bipush (pc := 0) (v := 123) C dX7_writes_0 (by decide) ?_
  refine x_istore (pc := 2) (i := 4) (ls2 := [(4, .int 123), (0, .ref (ad 193)), (1, .int x0), (2, .int x1), (3, .int x2)]) C dX7_writes_2 (by decide) rfl ?_
  refine x_sub [1, 2, 3, 4, 0] (ls2 := [(0, .ref (ad 193)), (1, .int x0), (2, .int x1), (3, .int x2), (4, .int 123)]) rfl ?_
  obtain ⟨z5, ez5⟩ : ∃ z : StM, z = f_X7_writes_L4 fu M x0 x1 x2 123 := ⟨_, rfl⟩
  refine t_X7_writes_L4 C fu M x0 x1 x2 123 B O z5 ez5 hok ?_
  have hR := nmE hR ez5
  refine x_aload_n (pc := 33) (i := 0) C 0 dX7_writes_33 rfl rfl ?_
  refine x_get (pc := 34) (q := 193) (i := 0) C e_M rfl ttX7 (by decide) wd_6_227 rfl dX7_writes_34 ?_
  refine x_bipush (pc := 37) (v := 94) C dX7_writes_37 (by decide) ?_
  refine x_iload_n (pc := 39) (i := 1) C 1 dX7_writes_39 rfl rfl ?_
  have h6 : vp_in (94) 124 := (by decide : ¬ ((94 : Int32) < 0 ∨ 124 ≤ Int32.toNatClampNeg 94))
  refine x_iastM (pc := 40) (j := 0) C (by decide) e_M0 e_M0.2 h6 dX7_writes_40 ?_
  refine x_nmM (fun M7 eM7 => ?_)
  have hR := nmE hR eM7
  refine x_aload_n (pc := 41) (i := 0) C 0 dX7_writes_41 rfl rfl ?_
  refine x_get (pc := 42) (q := 193) (i := 0) C e_M rfl ttX7 (by decide) wd_6_227 rfl dX7_writes_42 ?_
  refine x_bipush (pc := 45) (v := 95) C dX7_writes_45 (by decide) ?_
  refine x_iload_n (pc := 47) (i := 2) C 2 dX7_writes_47 rfl rfl ?_
  have h8 : vp_in (95) 124 := (by decide : ¬ ((95 : Int32) < 0 ∨ 124 ≤ Int32.toNatClampNeg 95))
  refine x_iastM (pc := 48) (j := 0) C (by decide) e_M0 e_M0.2 h8 dX7_writes_48 ?_
  refine x_nmM (fun M9 eM9 => ?_)
  have hR := nmE hR eM9
  refine x_aload_n (pc := 49) (i := 0) C 0 dX7_writes_49 rfl rfl ?_
  refine x_get (pc := 50) (q := 193) (i := 0) C e_M rfl ttX7 (by decide) wd_6_227 rfl dX7_writes_50 ?_
  refine x_bipush (pc := 53) (v := 96) C dX7_writes_53 (by decide) ?_
  refine x_iload_n (pc := 55) (i := 3) C 3 dX7_writes_55 rfl rfl ?_
  have h10 : vp_in (96) 124 := (by decide : ¬ ((96 : Int32) < 0 ∨ 124 ≤ Int32.toNatClampNeg 96))
  refine x_iastM (pc := 56) (j := 0) C (by decide) e_M0 e_M0.2 h10 dX7_writes_56 ?_
  refine x_nmM (fun M11 eM11 => ?_)
  have hR := nmE hR eM11
  refine x_aload_n (pc := 57) (i := 0) C 0 dX7_writes_57 rfl rfl ?_
  refine x_get (pc := 58) (q := 193) (i := 0) C e_M rfl ttX7 (by decide) wd_6_227 rfl dX7_writes_58 ?_
  refine x_bipush (pc := 61) (v := 11) C dX7_writes_61 (by decide) ?_
  refine x_bipush (pc := 63) (v := 10) C dX7_writes_63 (by decide) ?_
  refine x_aload_n (pc := 65) (i := 0) C 0 dX7_writes_65 rfl rfl ?_
  refine x_get (pc := 66) (q := 193) (i := 0) C e_M rfl ttX7 (by decide) wd_6_227 rfl dX7_writes_66 ?_
  refine x_bipush (pc := 69) (v := 11) C dX7_writes_69 (by decide) ?_
  have h12 : vp_in (11) 124 := (by decide : ¬ ((11 : Int32) < 0 ∨ 124 ≤ Int32.toNatClampNeg 11))
  refine x_iald (pc := 71) (q := 194) C e_M0 h12 dX7_writes_71 ?_
  refine x_iconst (pc := 72) (v := 1) C dX7_writes_72 (by decide) ?_
  refine x_iadd (pc := 73) C dX7_writes_73 ?_
  refine x_mmin (pc := 74) C wd_7_131 wd_3_52 wd_1_21 wd_3_53 ⟨Nat.le_of_ble_eq_true rfl, Nat.le_of_ble_eq_true rfl⟩ ⟨Nat.le_of_ble_eq_true rfl, Nat.le_of_ble_eq_true rfl⟩ dX7_writes_74 ?_
  have h13 : vp_in (11) 124 := (by decide : ¬ ((11 : Int32) < 0 ∨ 124 ≤ Int32.toNatClampNeg 11))
  refine x_iastM (pc := 77) (j := 0) C (by decide) e_M0 e_M0.2 h13 dX7_writes_77 ?_
  refine x_nmM (fun M14 eM14 => ?_)
  have hR := nmE hR eM14
  exact x_vretM (pc := 78) C rfl hR dX7_writes_78
set_option maxHeartbeats 4000000 in
set_option maxRecDepth 100000 in
theorem t_X7_find_L4 {p0 : Program} {l : Launch} {e : Env} {s : State} {m : MethodId} {args : Array Value} {below : List Frame} {meth : Method} {c : Code} {A : Nat → Prop} {G : GT} {ad : Nat → Nat} {Q : State → Prop} (C : CX p0 l s m args meth c A G ad cX7_find RX7 4 (some .int))  (n : Nat) (M : StM) (a1 : Int32) (a2 : Int32) (a3 : Int32) (B : StB) (O : StO) : ∀ (R0 : Int32) (hR : R0 = f_X7_find_L4 n M a1 a2 a3) (hok : ok_X7_find_L4 n M a1 a2 a3) (k : X p0 l e (rmd 1 0 0) s m args below meth c A G ad 4 0 0 Q B M O [(2, .int R0)] 43 []), X p0 l e (rmd 1 0 0) s m args below meth c A G ad 4 0 0 Q B M O [(0, .ref (ad 193)), (1, .int a1), (2, .int a2), (3, .int a3)] 4 [] := by
  induction n generalizing M a1 a2 a3 with
  | zero => intro R0 hR hok k; exact False.elim hok
  | succ n ih =>
    intro R0 hR hok k
    have hR : R0 = (if (ma M 0 (ix 3)) ≤ a3 then a2 else (if (ma M 0 (ix ((44 + (5 * a3)) + 0))) = a1 then (f_X7_find_L4 n M a1 a3 (a3 + 1)) else (f_X7_find_L4 n M a1 a2 (a3 + 1)))) := hR
    have hok : (((ma M 0 (ix 3)) ≤ a3 → True) ∧ (¬ (ma M 0 (ix 3)) ≤ a3 → (vp_in ((44 + (5 * a3)) + 0) 124 ∧ (((ma M 0 (ix ((44 + (5 * a3)) + 0))) = a1 → (ok_X7_find_L4 n M a1 a3 (a3 + 1))) ∧ (¬ (ma M 0 (ix ((44 + (5 * a3)) + 0))) = a1 → (ok_X7_find_L4 n M a1 a2 (a3 + 1))))))) := hok
    refine x_iload_n (pc := 4) (i := 3) C 3 dX7_find_4 rfl rfl ?_
    refine x_aload_n (pc := 5) (i := 0) C 0 dX7_find_5 rfl rfl ?_
    refine x_get (pc := 6) (q := 193) (i := 0) C e_M rfl ttX7 (by decide) wd_6_227 rfl dX7_find_6 ?_
    refine x_iconst (pc := 9) (v := 3) C dX7_find_9 (by decide) ?_
    have h1 : vp_in (3) 124 := (by decide : ¬ ((3 : Int32) < 0 ∨ 124 ≤ Int32.toNatClampNeg 3))
    refine x_iald (pc := 10) (q := 194) C e_M0 h1 dX7_find_10 ?_
    refine x_icmp_ge (pc := 11) (tgt := 43) C dX7_find_11 (by decide) (fun c2 => ?_) (fun c2 => ?_)
    · have hR := hR.trans (if_pos c2)
      refine x_sub [2] (ls2 := [(2, .int a2)]) rfl ?_
      subst hR
      exact k
    · have hR := hR.trans (if_neg c2)
      have hok := hok.2 c2
      refine x_aload_n (pc := 14) (i := 0) C 0 dX7_find_14 rfl rfl ?_
      refine x_get (pc := 15) (q := 193) (i := 0) C e_M rfl ttX7 (by decide) wd_6_227 rfl dX7_find_15 ?_
      refine x_bipush (pc := 18) (v := 44) C dX7_find_18 (by decide) ?_
      refine x_iconst (pc := 20) (v := 5) C dX7_find_20 (by decide) ?_
      refine x_iload_n (pc := 21) (i := 3) C 3 dX7_find_21 rfl rfl ?_
      refine x_imul (pc := 22) C dX7_find_22 ?_
      refine x_iadd (pc := 23) C dX7_find_23 ?_
      refine x_iconst (pc := 24) (v := 0) C dX7_find_24 (by decide) ?_
      refine x_iadd (pc := 25) C dX7_find_25 ?_
      have h3 := hok.1
      have hok := hok.2
      refine x_iald (pc := 26) (q := 194) C e_M0 h3 dX7_find_26 ?_
      refine x_iload_n (pc := 27) (i := 1) C 1 dX7_find_27 rfl rfl ?_
      refine x_icmp_ne (pc := 28) (tgt := 35) C dX7_find_28 (by decide) (fun c4 => ?_) (fun c4 => ?_)
      · have hR := hR.trans (if_neg c4)
        have hok := hok.2 c4
        refine x_iload_n (pc := 35) (i := 2) C 2 dX7_find_35 rfl rfl ?_
        refine x_istore_n (pc := 36) (i := 2) (ls2 := [(2, .int a2), (0, .ref (ad 193)), (1, .int a1), (3, .int a3)]) C dX7_find_36 rfl (by decide) rfl ?_
        refine x_iinc (pc := 37) (i := 3) (v := (a3 + 1)) (ls2 := [(3, .int (a3 + 1)), (2, .int a2), (0, .ref (ad 193)), (1, .int a1)]) C 3 dX7_find_37 rfl rfl (by decide) rfl ?_
        refine x_goto (pc := 40) (tgt := 4) C dX7_find_40 (by decide) ?_
        refine x_sub [2, 3, 1, 0] (ls2 := [(0, .ref (ad 193)), (1, .int a1), (2, .int a2), (3, .int (a3 + 1))]) rfl ?_
        exact ih M a1 a2 (a3 + 1) R0 hR hok k
      · have hR := hR.trans (if_pos c4)
        have hok := hok.1 c4
        refine x_iload_n (pc := 31) (i := 3) C 3 dX7_find_31 rfl rfl ?_
        refine x_goto (pc := 32) (tgt := 36) C dX7_find_32 (by decide) ?_
        refine x_istore_n (pc := 36) (i := 2) (ls2 := [(2, .int a3), (0, .ref (ad 193)), (1, .int a1), (3, .int a3)]) C dX7_find_36 rfl (by decide) rfl ?_
        refine x_iinc (pc := 37) (i := 3) (v := (a3 + 1)) (ls2 := [(3, .int (a3 + 1)), (2, .int a3), (0, .ref (ad 193)), (1, .int a1)]) C 3 dX7_find_37 rfl rfl (by decide) rfl ?_
        refine x_goto (pc := 40) (tgt := 4) C dX7_find_40 (by decide) ?_
        refine x_sub [2, 3, 1, 0] (ls2 := [(0, .ref (ad 193)), (1, .int a1), (2, .int a3), (3, .int (a3 + 1))]) rfl ?_
        exact ih M a1 a3 (a3 + 1) R0 hR hok k
set_option maxHeartbeats 4000000 in
set_option maxRecDepth 100000 in
theorem c_X7_find {l : Launch} {A : Nat → Prop} {G : GT} {ad : Nat → Nat} (gl : Gl l A ad)  (B : StB) (M : StM) (O : StO) (x0 : Int32) (hok : ok_X7_find M x0) : Met l yX7_find (wof yX7_find cX7_find 4 (some .int)) (rmd 1 0 0) (va_Pc [.ref (ad 193), .int x0] (PW G A ad B M O)) (QI G A ad (f_X7_find M x0) B M O) 0 0 A := by
  refine x_body (own := RX7) (by decide +kernel) rfl gl (Nat.le_of_ble_eq_true rfl) (ls := [(0, .ref (ad 193)), (1, .int x0)]) rfl ?_
  intro p0 e s m args below meth c C
  have hR : (f_X7_find M x0) = (nm (f_X7_find_L4 fu M x0 (-1) 0) (fun (z5 : Int32) => z5)) := rfl
  have hok : (ok_X7_find_L4 fu M x0 (-1) 0) := hok
  refine x_iconst (pc := 0) (v := (-1)) C dX7_find_0 (by decide) ?_
  refine x_istore_n (pc := 1) (i := 2) (ls2 := [(2, .int (-1)), (0, .ref (ad 193)), (1, .int x0)]) C dX7_find_1 rfl (by decide) rfl ?_
  refine x_iconst (pc := 2) (v := 0) C dX7_find_2 (by decide) ?_
  refine x_istore_n (pc := 3) (i := 3) (ls2 := [(3, .int 0), (2, .int (-1)), (0, .ref (ad 193)), (1, .int x0)]) C dX7_find_3 rfl (by decide) rfl ?_
  refine x_sub [2, 3, 1, 0] (ls2 := [(0, .ref (ad 193)), (1, .int x0), (2, .int (-1)), (3, .int 0)]) rfl ?_
  obtain ⟨z5, ez5⟩ : ∃ z : Int32, z = f_X7_find_L4 fu M x0 (-1) 0 := ⟨_, rfl⟩
  refine t_X7_find_L4 C fu M x0 (-1) 0 B O z5 ez5 hok ?_
  have hR := nmE hR ez5
  refine x_iload_n (pc := 43) (i := 2) C 0 dX7_find_43 rfl rfl ?_
  exact x_iret (pc := 44) C rfl hR dX7_find_44
set_option maxHeartbeats 4000000 in
set_option maxRecDepth 100000 in
theorem c_X7_ofPlace {l : Launch} {A : Nat → Prop} {G : GT} {ad : Nat → Nat} (gl : Gl l A ad)  (B : StB) (M : StM) (O : StO) (x0 : Int32) (x1 : Int32) (hok : ok_X7_ofPlace M x0 x1) : Met l yX7_ofPlace (wof yX7_ofPlace cX7_ofPlace 3 (some .int)) (rmd 1 0 0) (va_Pc [.ref (ad 193), .int x0, .int x1] (PW G A ad B M O)) (QI G A ad (f_X7_ofPlace M x0 x1) B M O) 0 0 A := by
  refine x_body (own := RX7) (by decide +kernel) rfl gl (Nat.le_of_ble_eq_true rfl) (ls := [(0, .ref (ad 193)), (1, .int x0), (2, .int x1)]) rfl ?_
  intro p0 e s m args below meth c C
  have hR : (f_X7_ofPlace M x0 x1) = (ma M 0 (ix ((44 + (5 * x0)) + x1))) := rfl
  have hok : (vp_in ((44 + (5 * x0)) + x1) 124) := hok
  refine x_aload_n (pc := 0) (i := 0) C 0 dX7_ofPlace_0 rfl rfl ?_
  refine x_get (pc := 1) (q := 193) (i := 0) C e_M rfl ttX7 (by decide) wd_6_227 rfl dX7_ofPlace_1 ?_
  refine x_bipush (pc := 4) (v := 44) C dX7_ofPlace_4 (by decide) ?_
  refine x_iconst (pc := 6) (v := 5) C dX7_ofPlace_6 (by decide) ?_
  refine x_iload_n (pc := 7) (i := 1) C 1 dX7_ofPlace_7 rfl rfl ?_
  refine x_imul (pc := 8) C dX7_ofPlace_8 ?_
  refine x_iadd (pc := 9) C dX7_ofPlace_9 ?_
  refine x_iload_n (pc := 10) (i := 2) C 2 dX7_ofPlace_10 rfl rfl ?_
  refine x_iadd (pc := 11) C dX7_ofPlace_11 ?_
  have h1 := hok
  refine x_iald (pc := 12) (q := 194) C e_M0 h1 dX7_ofPlace_12 ?_
  exact x_iret (pc := 13) C rfl hR dX7_ofPlace_13
set_option maxHeartbeats 4000000 in
set_option maxRecDepth 100000 in
theorem t_X7_drops_L7 {p0 : Program} {l : Launch} {e : Env} {s : State} {m : MethodId} {args : Array Value} {below : List Frame} {meth : Method} {c : Code} {A : Nat → Prop} {G : GT} {ad : Nat → Nat} {Q : State → Prop} (C : CX p0 l s m args meth c A G ad cX7_drops RX7 3 none)  (n : Nat) (M : StM) (a2 : Int32) (B : StB) (O : StO) : ∀ (R0 : StM) (hR : R0 = f_X7_drops_L7 n M a2) (hok : ok_X7_drops_L7 n M a2) (k : X p0 l e (rmd 1 0 0) s m args below meth c A G ad 3 0 0 Q B R0 O [(0, .ref (ad 193))] 33 []), X p0 l e (rmd 1 0 0) s m args below meth c A G ad 3 0 0 Q B M O [(0, .ref (ad 193)), (2, .int a2)] 7 [] := by
  induction n generalizing M a2 with
  | zero => intro R0 hR hok k; exact False.elim hok
  | succ n ih =>
    intro R0 hR hok k
    have hR : R0 = (if 89 ≤ a2 then M else (nm (sma M 0 (ix a2) (ma M 0 (ix (a2 + 5)))) (fun (M5 : StM) => (f_X7_drops_L7 n M5 (a2 + 1))))) := hR
    have hok : ((89 ≤ a2 → True) ∧ (¬ 89 ≤ a2 → (vp_in (a2 + 5) 124 ∧ (vp_in a2 124 ∧ (∀ M5 : StM, M5 = (sma M 0 (ix a2) (ma M 0 (ix (a2 + 5)))) → (ok_X7_drops_L7 n M5 (a2 + 1))))))) := hok
    refine x_iload_n (pc := 7) (i := 2) C 1 dX7_drops_7 rfl rfl ?_
    refine x_bipush (pc := 8) (v := 89) C dX7_drops_8 (by decide) ?_
    refine x_icmp_ge (pc := 10) (tgt := 33) C dX7_drops_10 (by decide) (fun c2 => ?_) (fun c2 => ?_)
    · have hR := hR.trans (if_pos c2)
      refine x_sub [0] (ls2 := [(0, .ref (ad 193))]) rfl ?_
      subst hR
      exact k
    · have hR := hR.trans (if_neg c2)
      have hok := hok.2 c2
      refine x_aload_n (pc := 13) (i := 0) C 0 dX7_drops_13 rfl rfl ?_
      refine x_get (pc := 14) (q := 193) (i := 0) C e_M rfl ttX7 (by decide) wd_6_227 rfl dX7_drops_14 ?_
      refine x_iload_n (pc := 17) (i := 2) C 1 dX7_drops_17 rfl rfl ?_
      refine x_aload_n (pc := 18) (i := 0) C 0 dX7_drops_18 rfl rfl ?_
      refine x_get (pc := 19) (q := 193) (i := 0) C e_M rfl ttX7 (by decide) wd_6_227 rfl dX7_drops_19 ?_
      refine x_iload_n (pc := 22) (i := 2) C 1 dX7_drops_22 rfl rfl ?_
      refine x_iconst (pc := 23) (v := 5) C dX7_drops_23 (by decide) ?_
      refine x_iadd (pc := 24) C dX7_drops_24 ?_
      have h3 := hok.1
      have hok := hok.2
      refine x_iald (pc := 25) (q := 194) C e_M0 h3 dX7_drops_25 ?_
      have h4 := hok.1
      have hok := hok.2
      refine x_iastM (pc := 26) (j := 0) C (by decide) e_M0 e_M0.2 h4 dX7_drops_26 ?_
      refine x_nmM (fun M5 eM5 => ?_)
      have hR := nmE hR eM5
      have hok := hok M5 eM5
      refine x_iinc (pc := 27) (i := 2) (v := (a2 + 1)) (ls2 := [(2, .int (a2 + 1)), (0, .ref (ad 193))]) C 1 dX7_drops_27 rfl rfl (by decide) rfl ?_
      refine x_goto (pc := 30) (tgt := 7) C dX7_drops_30 (by decide) ?_
      refine x_sub [1, 0] (ls2 := [(0, .ref (ad 193)), (2, .int (a2 + 1))]) rfl ?_
      exact ih M5 (a2 + 1) R0 hR hok k
set_option maxHeartbeats 4000000 in
set_option maxRecDepth 100000 in
theorem c_X7_drops {l : Launch} {A : Nat → Prop} {G : GT} {ad : Nat → Nat} (gl : Gl l A ad)  (B : StB) (M : StM) (O : StO) (x0 : Int32) (hok : ok_X7_drops M x0) : Met l yX7_drops (wof yX7_drops cX7_drops 3 none) (rmd 1 0 0) (va_Pc [.ref (ad 193), .int x0] (PW G A ad B M O)) (QV G A ad B (f_X7_drops M x0) O) 0 0 A := by
  refine x_body (own := RX7) (by decide +kernel) rfl gl (Nat.le_of_ble_eq_true rfl) (ls := [(0, .ref (ad 193)), (1, .int x0)]) rfl ?_
  intro p0 e s m args below meth c C
  have hR : (f_X7_drops M x0) = (nm (44 + (5 * x0)) (fun (v1 : Int32) => (nm (f_X7_drops_L7 fu M v1) (fun (z6 : StM) => (nm (sma z6 0 (ix 3) ((ma z6 0 (ix 3)) - 1)) (fun (M9 : StM) => M9)))))) := rfl
  have hok : (∀ v1 : Int32, v1 = (44 + (5 * x0)) → (ok_X7_drops_L7 fu M v1)) := hok
  refine x_bipush (pc := 0) (v := 44) C dX7_drops_0 (by decide) ?_
  refine x_iconst (pc := 2) (v := 5) C dX7_drops_2 (by decide) ?_
  refine x_iload_n (pc := 3) (i := 1) C 1 dX7_drops_3 rfl rfl ?_
  refine x_imul (pc := 4) C dX7_drops_4 ?_
  refine x_iadd (pc := 5) C dX7_drops_5 ?_
  refine x_nmI (fun v1 ev1 => ?_)
  have hR := nmE hR ev1
  have hok := hok v1 ev1
  refine x_istore_n (pc := 6) (i := 2) (ls2 := [(2, .int v1), (0, .ref (ad 193)), (1, .int x0)]) C dX7_drops_6 rfl (by decide) rfl ?_
  refine x_sub [1, 0] (ls2 := [(0, .ref (ad 193)), (2, .int v1)]) rfl ?_
  obtain ⟨z6, ez6⟩ : ∃ z : StM, z = f_X7_drops_L7 fu M v1 := ⟨_, rfl⟩
  refine t_X7_drops_L7 C fu M v1 B O z6 ez6 hok ?_
  have hR := nmE hR ez6
  refine x_aload_n (pc := 33) (i := 0) C 0 dX7_drops_33 rfl rfl ?_
  refine x_get (pc := 34) (q := 193) (i := 0) C e_M rfl ttX7 (by decide) wd_6_227 rfl dX7_drops_34 ?_
  refine x_iconst (pc := 37) (v := 3) C dX7_drops_37 (by decide) ?_
  refine x_dup2 (pc := 38) C dX7_drops_38 rfl rfl ?_
  have h7 : vp_in (3) 124 := (by decide : ¬ ((3 : Int32) < 0 ∨ 124 ≤ Int32.toNatClampNeg 3))
  refine x_iald (pc := 39) (q := 194) C e_M0 h7 dX7_drops_39 ?_
  refine x_iconst (pc := 40) (v := 1) C dX7_drops_40 (by decide) ?_
  refine x_isub (pc := 41) C dX7_drops_41 ?_
  have h8 : vp_in (3) 124 := (by decide : ¬ ((3 : Int32) < 0 ∨ 124 ≤ Int32.toNatClampNeg 3))
  refine x_iastM (pc := 42) (j := 0) C (by decide) e_M0 e_M0.2 h8 dX7_drops_42 ?_
  refine x_nmM (fun M9 eM9 => ?_)
  have hR := nmE hR eM9
  exact x_vretM (pc := 43) C rfl hR dX7_drops_43
set_option maxHeartbeats 4000000 in
set_option maxRecDepth 100000 in
theorem c_X7_accountCount {l : Launch} {A : Nat → Prop} {G : GT} {ad : Nat → Nat} (gl : Gl l A ad)  (B : StB) (M : StM) (O : StO)  : Met l yX7_accountCount (wof yX7_accountCount cX7_accountCount 1 (some .int)) (rmd 1 0 0) (va_Pc [.ref (ad 193)] (PW G A ad B M O)) (QI G A ad (f_X7_accountCount M).1 B (f_X7_accountCount M).2 O) 0 0 A := by
  refine x_body (own := RX7) (by decide +kernel) rfl gl (Nat.le_of_ble_eq_true rfl) (ls := [(0, .ref (ad 193))]) rfl ?_
  intro p0 e s m args below meth c C
  have hR : (f_X7_accountCount M) = (nm (smi M 15 0) (fun (M1 : StM) => ((ma M1 0 (ix 1)), M1))) := rfl
  refine x_aload_n (pc := 0) (i := 0) C 0 dX7_accountCount_0 rfl rfl ?_
  refine x_iconst (pc := 1) (v := 0) C dX7_accountCount_1 (by decide) ?_
  refine x_put (pc := 2) (M2 := (smi M 15 0)) (B2 := B) (O2 := O) (q := 193) (i := 15) C tyX7 tyX7_ok nmX7 e_M rfl ttX7 (by decide) wd_7_2 rfl rfl rfl (Nat.le_of_ble_eq_true rfl) dX7_accountCount_2 (put_M_15 ) (o_smi 15 0) ?_
  refine x_nmM (fun M1 eM1 => ?_)
  have hR := nmE hR eM1
  refine x_aload_n (pc := 5) (i := 0) C 0 dX7_accountCount_5 rfl rfl ?_
  refine x_get (pc := 6) (q := 193) (i := 0) C e_M rfl ttX7 (by decide) wd_6_227 rfl dX7_accountCount_6 ?_
  refine x_iconst (pc := 9) (v := 1) C dX7_accountCount_9 (by decide) ?_
  have h2 : vp_in (1) 124 := (by decide : ¬ ((1 : Int32) < 0 ∨ 124 ≤ Int32.toNatClampNeg 1))
  refine x_iald (pc := 10) (q := 194) C e_M0 h2 dX7_accountCount_10 ?_
  exact x_iretM (pc := 11) C rfl hR dX7_accountCount_11
set_option maxHeartbeats 4000000 in
set_option maxRecDepth 100000 in
theorem c_X7_bankBalance {l : Launch} {A : Nat → Prop} {G : GT} {ad : Nat → Nat} (gl : Gl l A ad)  (B : StB) (M : StM) (O : StO)  : Met l yX7_bankBalance (wof yX7_bankBalance cX7_bankBalance 1 (some .int)) (rmd 1 0 0) (va_Pc [.ref (ad 193)] (PW G A ad B M O)) (QI G A ad (f_X7_bankBalance M).1 B (f_X7_bankBalance M).2 O) 0 0 A := by
  refine x_body (own := RX7) (by decide +kernel) rfl gl (Nat.le_of_ble_eq_true rfl) (ls := [(0, .ref (ad 193))]) rfl ?_
  intro p0 e s m args below meth c C
  have hR : (f_X7_bankBalance M) = (nm (smi M 15 0) (fun (M1 : StM) => ((ma M1 0 (ix 4)), M1))) := rfl
  refine x_aload_n (pc := 0) (i := 0) C 0 dX7_bankBalance_0 rfl rfl ?_
  refine x_iconst (pc := 1) (v := 0) C dX7_bankBalance_1 (by decide) ?_
  refine x_put (pc := 2) (M2 := (smi M 15 0)) (B2 := B) (O2 := O) (q := 193) (i := 15) C tyX7 tyX7_ok nmX7 e_M rfl ttX7 (by decide) wd_7_2 rfl rfl rfl (Nat.le_of_ble_eq_true rfl) dX7_bankBalance_2 (put_M_15 ) (o_smi 15 0) ?_
  refine x_nmM (fun M1 eM1 => ?_)
  have hR := nmE hR eM1
  refine x_aload_n (pc := 5) (i := 0) C 0 dX7_bankBalance_5 rfl rfl ?_
  refine x_get (pc := 6) (q := 193) (i := 0) C e_M rfl ttX7 (by decide) wd_6_227 rfl dX7_bankBalance_6 ?_
  refine x_iconst (pc := 9) (v := 4) C dX7_bankBalance_9 (by decide) ?_
  have h2 : vp_in (4) 124 := (by decide : ¬ ((4 : Int32) < 0 ∨ 124 ≤ Int32.toNatClampNeg 4))
  refine x_iald (pc := 10) (q := 194) C e_M0 h2 dX7_bankBalance_10 ?_
  exact x_iretM (pc := 11) C rfl hR dX7_bankBalance_11
set_option maxHeartbeats 4000000 in
set_option maxRecDepth 100000 in
theorem c_X7_totalInkByMovements {l : Launch} {A : Nat → Prop} {G : GT} {ad : Nat → Nat} (gl : Gl l A ad)  (B : StB) (M : StM) (O : StO)  : Met l yX7_totalInkByMovements (wof yX7_totalInkByMovements cX7_totalInkByMovements 1 (some .long)) (rmd 1 0 0) (va_Pc [.ref (ad 193)] (PW G A ad B M O)) (QL G A ad (f_X7_totalInkByMovements M).1 B (f_X7_totalInkByMovements M).2 O) 0 0 A := by
  refine x_body (own := RX7) (by decide +kernel) rfl gl (Nat.le_of_ble_eq_true rfl) (ls := [(0, .ref (ad 193))]) rfl ?_
  intro p0 e s m args below meth c C
  have hR : (f_X7_totalInkByMovements M) = (nm (smi M 15 0) (fun (M1 : StM) => ((Int32.toInt64 ((ma M1 0 (ix 5)) - (ma M1 0 (ix 6)))), M1))) := rfl
  refine x_aload_n (pc := 0) (i := 0) C 0 dX7_totalInkByMovements_0 rfl rfl ?_
  refine x_iconst (pc := 1) (v := 0) C dX7_totalInkByMovements_1 (by decide) ?_
  refine x_put (pc := 2) (M2 := (smi M 15 0)) (B2 := B) (O2 := O) (q := 193) (i := 15) C tyX7 tyX7_ok nmX7 e_M rfl ttX7 (by decide) wd_7_2 rfl rfl rfl (Nat.le_of_ble_eq_true rfl) dX7_totalInkByMovements_2 (put_M_15 ) (o_smi 15 0) ?_
  refine x_nmM (fun M1 eM1 => ?_)
  have hR := nmE hR eM1
  refine x_aload_n (pc := 5) (i := 0) C 0 dX7_totalInkByMovements_5 rfl rfl ?_
  refine x_get (pc := 6) (q := 193) (i := 0) C e_M rfl ttX7 (by decide) wd_6_227 rfl dX7_totalInkByMovements_6 ?_
  refine x_iconst (pc := 9) (v := 5) C dX7_totalInkByMovements_9 (by decide) ?_
  have h2 : vp_in (5) 124 := (by decide : ¬ ((5 : Int32) < 0 ∨ 124 ≤ Int32.toNatClampNeg 5))
  refine x_iald (pc := 10) (q := 194) C e_M0 h2 dX7_totalInkByMovements_10 ?_
  refine x_aload_n (pc := 11) (i := 0) C 0 dX7_totalInkByMovements_11 rfl rfl ?_
  refine x_get (pc := 12) (q := 193) (i := 0) C e_M rfl ttX7 (by decide) wd_6_227 rfl dX7_totalInkByMovements_12 ?_
  refine x_bipush (pc := 15) (v := 6) C dX7_totalInkByMovements_15 (by decide) ?_
  have h3 : vp_in (6) 124 := (by decide : ¬ ((6 : Int32) < 0 ∨ 124 ≤ Int32.toNatClampNeg 6))
  refine x_iald (pc := 17) (q := 194) C e_M0 h3 dX7_totalInkByMovements_17 ?_
  refine x_isub (pc := 18) C dX7_totalInkByMovements_18 ?_
  refine x_i2l (pc := 19) C dX7_totalInkByMovements_19 ?_
  exact x_lret (pc := 20) C rfl hR dX7_totalInkByMovements_20
set_option maxHeartbeats 4000000 in
set_option maxRecDepth 100000 in
theorem c_X7_transferredInk {l : Launch} {A : Nat → Prop} {G : GT} {ad : Nat → Nat} (gl : Gl l A ad)  (B : StB) (M : StM) (O : StO)  : Met l yX7_transferredInk (wof yX7_transferredInk cX7_transferredInk 1 (some .long)) (rmd 1 0 0) (va_Pc [.ref (ad 193)] (PW G A ad B M O)) (QL G A ad (f_X7_transferredInk M).1 B (f_X7_transferredInk M).2 O) 0 0 A := by
  refine x_body (own := RX7) (by decide +kernel) rfl gl (Nat.le_of_ble_eq_true rfl) (ls := [(0, .ref (ad 193))]) rfl ?_
  intro p0 e s m args below meth c C
  have hR : (f_X7_transferredInk M) = (nm (smi M 15 0) (fun (M1 : StM) => ((Int32.toInt64 (ma M1 0 (ix 7))), M1))) := rfl
  refine x_aload_n (pc := 0) (i := 0) C 0 dX7_transferredInk_0 rfl rfl ?_
  refine x_iconst (pc := 1) (v := 0) C dX7_transferredInk_1 (by decide) ?_
  refine x_put (pc := 2) (M2 := (smi M 15 0)) (B2 := B) (O2 := O) (q := 193) (i := 15) C tyX7 tyX7_ok nmX7 e_M rfl ttX7 (by decide) wd_7_2 rfl rfl rfl (Nat.le_of_ble_eq_true rfl) dX7_transferredInk_2 (put_M_15 ) (o_smi 15 0) ?_
  refine x_nmM (fun M1 eM1 => ?_)
  have hR := nmE hR eM1
  refine x_aload_n (pc := 5) (i := 0) C 0 dX7_transferredInk_5 rfl rfl ?_
  refine x_get (pc := 6) (q := 193) (i := 0) C e_M rfl ttX7 (by decide) wd_6_227 rfl dX7_transferredInk_6 ?_
  refine x_bipush (pc := 9) (v := 7) C dX7_transferredInk_9 (by decide) ?_
  have h2 : vp_in (7) 124 := (by decide : ¬ ((7 : Int32) < 0 ∨ 124 ≤ Int32.toNatClampNeg 7))
  refine x_iald (pc := 11) (q := 194) C e_M0 h2 dX7_transferredInk_11 ?_
  refine x_i2l (pc := 12) C dX7_transferredInk_12 ?_
  exact x_lret (pc := 13) C rfl hR dX7_transferredInk_13
set_option maxHeartbeats 4000000 in
set_option maxRecDepth 100000 in
theorem c_X7_interestPaid {l : Launch} {A : Nat → Prop} {G : GT} {ad : Nat → Nat} (gl : Gl l A ad)  (B : StB) (M : StM) (O : StO)  : Met l yX7_interestPaid (wof yX7_interestPaid cX7_interestPaid 1 (some .long)) (rmd 1 0 0) (va_Pc [.ref (ad 193)] (PW G A ad B M O)) (QL G A ad (f_X7_interestPaid M).1 B (f_X7_interestPaid M).2 O) 0 0 A := by
  refine x_body (own := RX7) (by decide +kernel) rfl gl (Nat.le_of_ble_eq_true rfl) (ls := [(0, .ref (ad 193))]) rfl ?_
  intro p0 e s m args below meth c C
  have hR : (f_X7_interestPaid M) = (nm (smi M 15 0) (fun (M1 : StM) => ((Int32.toInt64 (ma M1 0 (ix 8))), M1))) := rfl
  refine x_aload_n (pc := 0) (i := 0) C 0 dX7_interestPaid_0 rfl rfl ?_
  refine x_iconst (pc := 1) (v := 0) C dX7_interestPaid_1 (by decide) ?_
  refine x_put (pc := 2) (M2 := (smi M 15 0)) (B2 := B) (O2 := O) (q := 193) (i := 15) C tyX7 tyX7_ok nmX7 e_M rfl ttX7 (by decide) wd_7_2 rfl rfl rfl (Nat.le_of_ble_eq_true rfl) dX7_interestPaid_2 (put_M_15 ) (o_smi 15 0) ?_
  refine x_nmM (fun M1 eM1 => ?_)
  have hR := nmE hR eM1
  refine x_aload_n (pc := 5) (i := 0) C 0 dX7_interestPaid_5 rfl rfl ?_
  refine x_get (pc := 6) (q := 193) (i := 0) C e_M rfl ttX7 (by decide) wd_6_227 rfl dX7_interestPaid_6 ?_
  refine x_bipush (pc := 9) (v := 8) C dX7_interestPaid_9 (by decide) ?_
  have h2 : vp_in (8) 124 := (by decide : ¬ ((8 : Int32) < 0 ∨ 124 ≤ Int32.toNatClampNeg 8))
  refine x_iald (pc := 11) (q := 194) C e_M0 h2 dX7_interestPaid_11 ?_
  refine x_i2l (pc := 12) C dX7_interestPaid_12 ?_
  exact x_lret (pc := 13) C rfl hR dX7_interestPaid_13
set_option maxHeartbeats 4000000 in
set_option maxRecDepth 100000 in
theorem c_X7_chargesPaid {l : Launch} {A : Nat → Prop} {G : GT} {ad : Nat → Nat} (gl : Gl l A ad)  (B : StB) (M : StM) (O : StO)  : Met l yX7_chargesPaid (wof yX7_chargesPaid cX7_chargesPaid 1 (some .long)) (rmd 1 0 0) (va_Pc [.ref (ad 193)] (PW G A ad B M O)) (QL G A ad (f_X7_chargesPaid M).1 B (f_X7_chargesPaid M).2 O) 0 0 A := by
  refine x_body (own := RX7) (by decide +kernel) rfl gl (Nat.le_of_ble_eq_true rfl) (ls := [(0, .ref (ad 193))]) rfl ?_
  intro p0 e s m args below meth c C
  have hR : (f_X7_chargesPaid M) = (nm (smi M 15 0) (fun (M1 : StM) => ((Int32.toInt64 (ma M1 0 (ix 9))), M1))) := rfl
  refine x_aload_n (pc := 0) (i := 0) C 0 dX7_chargesPaid_0 rfl rfl ?_
  refine x_iconst (pc := 1) (v := 0) C dX7_chargesPaid_1 (by decide) ?_
  refine x_put (pc := 2) (M2 := (smi M 15 0)) (B2 := B) (O2 := O) (q := 193) (i := 15) C tyX7 tyX7_ok nmX7 e_M rfl ttX7 (by decide) wd_7_2 rfl rfl rfl (Nat.le_of_ble_eq_true rfl) dX7_chargesPaid_2 (put_M_15 ) (o_smi 15 0) ?_
  refine x_nmM (fun M1 eM1 => ?_)
  have hR := nmE hR eM1
  refine x_aload_n (pc := 5) (i := 0) C 0 dX7_chargesPaid_5 rfl rfl ?_
  refine x_get (pc := 6) (q := 193) (i := 0) C e_M rfl ttX7 (by decide) wd_6_227 rfl dX7_chargesPaid_6 ?_
  refine x_bipush (pc := 9) (v := 9) C dX7_chargesPaid_9 (by decide) ?_
  have h2 : vp_in (9) 124 := (by decide : ¬ ((9 : Int32) < 0 ∨ 124 ≤ Int32.toNatClampNeg 9))
  refine x_iald (pc := 11) (q := 194) C e_M0 h2 dX7_chargesPaid_11 ?_
  refine x_i2l (pc := 12) C dX7_chargesPaid_12 ?_
  exact x_lret (pc := 13) C rfl hR dX7_chargesPaid_13
set_option maxHeartbeats 4000000 in
set_option maxRecDepth 100000 in
theorem c_X7_day {l : Launch} {A : Nat → Prop} {G : GT} {ad : Nat → Nat} (gl : Gl l A ad)  (B : StB) (M : StM) (O : StO)  : Met l yX7_day (wof yX7_day cX7_day 1 (some .int)) (rmd 1 0 0) (va_Pc [.ref (ad 193)] (PW G A ad B M O)) (QI G A ad (f_X7_day M).1 B (f_X7_day M).2 O) 0 0 A := by
  refine x_body (own := RX7) (by decide +kernel) rfl gl (Nat.le_of_ble_eq_true rfl) (ls := [(0, .ref (ad 193))]) rfl ?_
  intro p0 e s m args below meth c C
  have hR : (f_X7_day M) = (nm (smi M 15 0) (fun (M1 : StM) => ((ma M1 0 (ix 0)), M1))) := rfl
  refine x_aload_n (pc := 0) (i := 0) C 0 dX7_day_0 rfl rfl ?_
  refine x_iconst (pc := 1) (v := 0) C dX7_day_1 (by decide) ?_
  refine x_put (pc := 2) (M2 := (smi M 15 0)) (B2 := B) (O2 := O) (q := 193) (i := 15) C tyX7 tyX7_ok nmX7 e_M rfl ttX7 (by decide) wd_7_2 rfl rfl rfl (Nat.le_of_ble_eq_true rfl) dX7_day_2 (put_M_15 ) (o_smi 15 0) ?_
  refine x_nmM (fun M1 eM1 => ?_)
  have hR := nmE hR eM1
  refine x_aload_n (pc := 5) (i := 0) C 0 dX7_day_5 rfl rfl ?_
  refine x_get (pc := 6) (q := 193) (i := 0) C e_M rfl ttX7 (by decide) wd_6_227 rfl dX7_day_6 ?_
  refine x_iconst (pc := 9) (v := 0) C dX7_day_9 (by decide) ?_
  have h2 : vp_in (0) 124 := (by decide : ¬ ((0 : Int32) < 0 ∨ 124 ≤ Int32.toNatClampNeg 0))
  refine x_iald (pc := 10) (q := 194) C e_M0 h2 dX7_day_10 ?_
  exact x_iretM (pc := 11) C rfl hR dX7_day_11
set_option maxHeartbeats 4000000 in
set_option maxRecDepth 100000 in
theorem c_X7_transferCount {l : Launch} {A : Nat → Prop} {G : GT} {ad : Nat → Nat} (gl : Gl l A ad)  (B : StB) (M : StM) (O : StO)  : Met l yX7_transferCount (wof yX7_transferCount cX7_transferCount 1 (some .int)) (rmd 1 0 0) (va_Pc [.ref (ad 193)] (PW G A ad B M O)) (QI G A ad (f_X7_transferCount M).1 B (f_X7_transferCount M).2 O) 0 0 A := by
  refine x_body (own := RX7) (by decide +kernel) rfl gl (Nat.le_of_ble_eq_true rfl) (ls := [(0, .ref (ad 193))]) rfl ?_
  intro p0 e s m args below meth c C
  have hR : (f_X7_transferCount M) = (nm (smi M 15 0) (fun (M1 : StM) => ((ma M1 0 (ix 3)), M1))) := rfl
  refine x_aload_n (pc := 0) (i := 0) C 0 dX7_transferCount_0 rfl rfl ?_
  refine x_iconst (pc := 1) (v := 0) C dX7_transferCount_1 (by decide) ?_
  refine x_put (pc := 2) (M2 := (smi M 15 0)) (B2 := B) (O2 := O) (q := 193) (i := 15) C tyX7 tyX7_ok nmX7 e_M rfl ttX7 (by decide) wd_7_2 rfl rfl rfl (Nat.le_of_ble_eq_true rfl) dX7_transferCount_2 (put_M_15 ) (o_smi 15 0) ?_
  refine x_nmM (fun M1 eM1 => ?_)
  have hR := nmE hR eM1
  refine x_aload_n (pc := 5) (i := 0) C 0 dX7_transferCount_5 rfl rfl ?_
  refine x_get (pc := 6) (q := 193) (i := 0) C e_M rfl ttX7 (by decide) wd_6_227 rfl dX7_transferCount_6 ?_
  refine x_iconst (pc := 9) (v := 3) C dX7_transferCount_9 (by decide) ?_
  have h2 : vp_in (3) 124 := (by decide : ¬ ((3 : Int32) < 0 ∨ 124 ≤ Int32.toNatClampNeg 3))
  refine x_iald (pc := 10) (q := 194) C e_M0 h2 dX7_transferCount_10 ?_
  exact x_iretM (pc := 11) C rfl hR dX7_transferCount_11
set_option maxHeartbeats 4000000 in
set_option maxRecDepth 100000 in
theorem c_X7_bounceCount {l : Launch} {A : Nat → Prop} {G : GT} {ad : Nat → Nat} (gl : Gl l A ad)  (B : StB) (M : StM) (O : StO)  : Met l yX7_bounceCount (wof yX7_bounceCount cX7_bounceCount 1 (some .int)) (rmd 1 0 0) (va_Pc [.ref (ad 193)] (PW G A ad B M O)) (QI G A ad (f_X7_bounceCount M).1 B (f_X7_bounceCount M).2 O) 0 0 A := by
  refine x_body (own := RX7) (by decide +kernel) rfl gl (Nat.le_of_ble_eq_true rfl) (ls := [(0, .ref (ad 193))]) rfl ?_
  intro p0 e s m args below meth c C
  have hR : (f_X7_bounceCount M) = (nm (smi M 15 0) (fun (M1 : StM) => ((ma M1 0 (ix 10)), M1))) := rfl
  refine x_aload_n (pc := 0) (i := 0) C 0 dX7_bounceCount_0 rfl rfl ?_
  refine x_iconst (pc := 1) (v := 0) C dX7_bounceCount_1 (by decide) ?_
  refine x_put (pc := 2) (M2 := (smi M 15 0)) (B2 := B) (O2 := O) (q := 193) (i := 15) C tyX7 tyX7_ok nmX7 e_M rfl ttX7 (by decide) wd_7_2 rfl rfl rfl (Nat.le_of_ble_eq_true rfl) dX7_bounceCount_2 (put_M_15 ) (o_smi 15 0) ?_
  refine x_nmM (fun M1 eM1 => ?_)
  have hR := nmE hR eM1
  refine x_aload_n (pc := 5) (i := 0) C 0 dX7_bounceCount_5 rfl rfl ?_
  refine x_get (pc := 6) (q := 193) (i := 0) C e_M rfl ttX7 (by decide) wd_6_227 rfl dX7_bounceCount_6 ?_
  refine x_bipush (pc := 9) (v := 10) C dX7_bounceCount_9 (by decide) ?_
  have h2 : vp_in (10) 124 := (by decide : ¬ ((10 : Int32) < 0 ∨ 124 ≤ Int32.toNatClampNeg 10))
  refine x_iald (pc := 11) (q := 194) C e_M0 h2 dX7_bounceCount_11 ?_
  exact x_iretM (pc := 12) C rfl hR dX7_bounceCount_12
set_option maxHeartbeats 4000000 in
set_option maxRecDepth 100000 in
theorem c_X7_journalLength {l : Launch} {A : Nat → Prop} {G : GT} {ad : Nat → Nat} (gl : Gl l A ad)  (B : StB) (M : StM) (O : StO)  : Met l yX7_journalLength (wof yX7_journalLength cX7_journalLength 1 (some .int)) (rmd 1 0 0) (va_Pc [.ref (ad 193)] (PW G A ad B M O)) (QI G A ad (f_X7_journalLength M).1 B (f_X7_journalLength M).2 O) 0 0 A := by
  refine x_body (own := RX7) (by decide +kernel) rfl gl (Nat.le_of_ble_eq_true rfl) (ls := [(0, .ref (ad 193))]) rfl ?_
  intro p0 e s m args below meth c C
  have hR : (f_X7_journalLength M) = (nm (smi M 15 0) (fun (M1 : StM) => ((ma M1 0 (ix 11)), M1))) := rfl
  refine x_aload_n (pc := 0) (i := 0) C 0 dX7_journalLength_0 rfl rfl ?_
  refine x_iconst (pc := 1) (v := 0) C dX7_journalLength_1 (by decide) ?_
  refine x_put (pc := 2) (M2 := (smi M 15 0)) (B2 := B) (O2 := O) (q := 193) (i := 15) C tyX7 tyX7_ok nmX7 e_M rfl ttX7 (by decide) wd_7_2 rfl rfl rfl (Nat.le_of_ble_eq_true rfl) dX7_journalLength_2 (put_M_15 ) (o_smi 15 0) ?_
  refine x_nmM (fun M1 eM1 => ?_)
  have hR := nmE hR eM1
  refine x_aload_n (pc := 5) (i := 0) C 0 dX7_journalLength_5 rfl rfl ?_
  refine x_get (pc := 6) (q := 193) (i := 0) C e_M rfl ttX7 (by decide) wd_6_227 rfl dX7_journalLength_6 ?_
  refine x_bipush (pc := 9) (v := 11) C dX7_journalLength_9 (by decide) ?_
  have h2 : vp_in (11) 124 := (by decide : ¬ ((11 : Int32) < 0 ∨ 124 ≤ Int32.toNatClampNeg 11))
  refine x_iald (pc := 11) (q := 194) C e_M0 h2 dX7_journalLength_11 ?_
  exact x_iretM (pc := 12) C rfl hR dX7_journalLength_12
set_option maxHeartbeats 4000000 in
set_option maxRecDepth 100000 in
theorem c_X7_letterFor {l : Launch} {A : Nat → Prop} {G : GT} {ad : Nat → Nat} (gl : Gl l A ad)  (B : StB) (M : StM) (O : StO) (x0 : Int32) : Met l yX7_letterFor (wof yX7_letterFor cX7_letterFor 1 (some .int)) (rmd 1 0 0) (va_Pc [.int x0] (PW G A ad B M O)) (QI G A ad (f_X7_letterFor x0) B M O) 0 0 A := by
  refine x_body (own := RX7) (by decide +kernel) rfl gl (Nat.le_of_ble_eq_true rfl) (ls := [(0, .int x0)]) rfl ?_
  intro p0 e s m args below meth c C
  have hR : (f_X7_letterFor x0) = (if x0 = 0 then 67 else (if x0 = 1 then 83 else (if x0 = 2 then 81 else 86))) := rfl
  refine x_iload_n (pc := 0) (i := 0) C 0 dX7_letterFor_0 rfl rfl ?_
  refine x_if_ne (pc := 1) (tgt := 9) C dX7_letterFor_1 (by decide) (fun c1 => ?_) (fun c1 => ?_)
  · have hR := hR.trans (if_neg c1)
    refine x_iload_n (pc := 9) (i := 0) C 0 dX7_letterFor_9 rfl rfl ?_
    refine x_iconst (pc := 10) (v := 1) C dX7_letterFor_10 (by decide) ?_
    refine x_icmp_ne (pc := 11) (tgt := 19) C dX7_letterFor_11 (by decide) (fun c2 => ?_) (fun c2 => ?_)
    · have hR := hR.trans (if_neg c2)
      refine x_iload_n (pc := 19) (i := 0) C 0 dX7_letterFor_19 rfl rfl ?_
      refine x_iconst (pc := 20) (v := 2) C dX7_letterFor_20 (by decide) ?_
      refine x_icmp_ne (pc := 21) (tgt := 29) C dX7_letterFor_21 (by decide) (fun c3 => ?_) (fun c3 => ?_)
      · have hR := hR.trans (if_neg c3)
        refine x_bipush (pc := 29) (v := 86) C dX7_letterFor_29 (by decide) ?_
        exact x_iret (pc := 31) C rfl hR dX7_letterFor_31
      · have hR := hR.trans (if_pos c3)
        refine x_bipush (pc := 24) (v := 81) C dX7_letterFor_24 (by decide) ?_
        refine x_goto (pc := 26) (tgt := 31) C dX7_letterFor_26 (by decide) ?_
        exact x_iret (pc := 31) C rfl hR dX7_letterFor_31
    · have hR := hR.trans (if_pos c2)
      refine x_bipush (pc := 14) (v := 83) C dX7_letterFor_14 (by decide) ?_
      refine x_goto (pc := 16) (tgt := 31) C dX7_letterFor_16 (by decide) ?_
      exact x_iret (pc := 31) C rfl hR dX7_letterFor_31
  · have hR := hR.trans (if_pos c1)
    refine x_bipush (pc := 4) (v := 67) C dX7_letterFor_4 (by decide) ?_
    refine x_goto (pc := 6) (tgt := 31) C dX7_letterFor_6 (by decide) ?_
    exact x_iret (pc := 31) C rfl hR dX7_letterFor_31
set_option maxHeartbeats 4000000 in
set_option maxRecDepth 100000 in
theorem c_X7_put {l : Launch} {A : Nat → Prop} {G : GT} {ad : Nat → Nat} (gl : Gl l A ad)  (B : StB) (M : StM) (O : StO) (x0 : Int32) (x1 : Int32) (hok : ok_X7_put M x0 x1) : Met l yX7_put (wof yX7_put cX7_put 3 (some .int)) (rmd 1 0 0) (va_Pc [.ref (ad 193), .int x0, .int x1] (PW G A ad B M O)) (QI G A ad (f_X7_put M x0 x1).1 B (f_X7_put M x0 x1).2 O) 0 0 A := by
  refine x_body (own := RX7) (by decide +kernel) rfl gl (Nat.le_of_ble_eq_true rfl) (ls := [(0, .ref (ad 193)), (1, .int x0), (2, .int x1)]) rfl ?_
  intro p0 e s m args below meth c C
  have hR : (f_X7_put M x0 x1) = (nm (sma M 6 (ix x0) x1) (fun (M2 : StM) => ((x0 + 1), M2))) := rfl
  have hok : (vp_in x0 40) := hok
  refine x_aload_n (pc := 0) (i := 0) C 0 dX7_put_0 rfl rfl ?_
  refine x_get (pc := 1) (q := 193) (i := 13) C e_M rfl ttX7 (by decide) wd_7_0 rfl dX7_put_1 ?_
  refine x_iload_n (pc := 4) (i := 1) C 1 dX7_put_4 rfl rfl ?_
  refine x_iload_n (pc := 5) (i := 2) C 2 dX7_put_5 rfl rfl ?_
  have h1 := hok
  refine x_iastM (pc := 6) (j := 6) C (by decide) e_M6 e_M6.2 h1 dX7_put_6 ?_
  refine x_nmM (fun M2 eM2 => ?_)
  have hR := nmE hR eM2
  refine x_iload_n (pc := 7) (i := 1) C 1 dX7_put_7 rfl rfl ?_
  refine x_iconst (pc := 8) (v := 1) C dX7_put_8 (by decide) ?_
  refine x_iadd (pc := 9) C dX7_put_9 ?_
  exact x_iretM (pc := 10) C rfl hR dX7_put_10
set_option maxHeartbeats 4000000 in
set_option maxRecDepth 100000 in
theorem c_X7_startOf {l : Launch} {A : Nat → Prop} {G : GT} {ad : Nat → Nat} (gl : Gl l A ad)  (B : StB) (M : StM) (O : StO) (x0 : Int32) : Met l yX7_startOf (wof yX7_startOf cX7_startOf 1 (some .int)) (rmd 1 0 0) (va_Pc [.int x0] (PW G A ad B M O)) (QI G A ad (f_X7_startOf x0) B M O) 0 0 A := by
  refine x_body (own := RX7) (by decide +kernel) rfl gl (Nat.le_of_ble_eq_true rfl) (ls := [(0, .int x0)]) rfl ?_
  intro p0 e s m args below meth c C
  have hR : (f_X7_startOf x0) = (if x0 = 0 then 0 else (if x0 = 1 then 4 else (if x0 = 2 then 9 else (5 * x0)))) := rfl
  refine x_iload_n (pc := 0) (i := 0) C 0 dX7_startOf_0 rfl rfl ?_
  refine x_if_ne (pc := 1) (tgt := 8) C dX7_startOf_1 (by decide) (fun c1 => ?_) (fun c1 => ?_)
  · have hR := hR.trans (if_neg c1)
    refine x_iload_n (pc := 8) (i := 0) C 0 dX7_startOf_8 rfl rfl ?_
    refine x_iconst (pc := 9) (v := 1) C dX7_startOf_9 (by decide) ?_
    refine x_icmp_ne (pc := 10) (tgt := 17) C dX7_startOf_10 (by decide) (fun c2 => ?_) (fun c2 => ?_)
    · have hR := hR.trans (if_neg c2)
      refine x_iload_n (pc := 17) (i := 0) C 0 dX7_startOf_17 rfl rfl ?_
      refine x_iconst (pc := 18) (v := 2) C dX7_startOf_18 (by decide) ?_
      refine x_icmp_ne (pc := 19) (tgt := 27) C dX7_startOf_19 (by decide) (fun c3 => ?_) (fun c3 => ?_)
      · have hR := hR.trans (if_neg c3)
        refine x_iconst (pc := 27) (v := 5) C dX7_startOf_27 (by decide) ?_
        refine x_iload_n (pc := 28) (i := 0) C 0 dX7_startOf_28 rfl rfl ?_
        refine x_imul (pc := 29) C dX7_startOf_29 ?_
        exact x_iret (pc := 30) C rfl hR dX7_startOf_30
      · have hR := hR.trans (if_pos c3)
        refine x_bipush (pc := 22) (v := 9) C dX7_startOf_22 (by decide) ?_
        refine x_goto (pc := 24) (tgt := 30) C dX7_startOf_24 (by decide) ?_
        exact x_iret (pc := 30) C rfl hR dX7_startOf_30
    · have hR := hR.trans (if_pos c2)
      refine x_iconst (pc := 13) (v := 4) C dX7_startOf_13 (by decide) ?_
      refine x_goto (pc := 14) (tgt := 30) C dX7_startOf_14 (by decide) ?_
      exact x_iret (pc := 30) C rfl hR dX7_startOf_30
  · have hR := hR.trans (if_pos c1)
    refine x_iconst (pc := 4) (v := 0) C dX7_startOf_4 (by decide) ?_
    refine x_goto (pc := 5) (tgt := 30) C dX7_startOf_5 (by decide) ?_
    exact x_iret (pc := 30) C rfl hR dX7_startOf_30
set_option maxHeartbeats 4000000 in
set_option maxRecDepth 100000 in
theorem c_X7_letterHere {l : Launch} {A : Nat → Prop} {G : GT} {ad : Nat → Nat} (gl : Gl l A ad)  (B : StB) (M : StM) (O : StO)  (hok : ok_X7_letterHere M) : Met l yX7_letterHere (wof yX7_letterHere cX7_letterHere 1 (some .int)) (rmd 1 0 0) (va_Pc [.ref (ad 193)] (PW G A ad B M O)) (QI G A ad (f_X7_letterHere M) B M O) 0 0 A := by
  refine x_body (own := RX7) (by decide +kernel) rfl gl (Nat.le_of_ble_eq_true rfl) (ls := [(0, .ref (ad 193))]) rfl ?_
  intro p0 e s m args below meth c C
  have hR : (f_X7_letterHere M) = (if (mi M 16) ≤ (mi M 17) then (-1) else (ma M 5 (ix (mi M 17)))) := rfl
  have hok : (((mi M 16) ≤ (mi M 17) → True) ∧ (¬ (mi M 16) ≤ (mi M 17) → (vp_in (mi M 17) 60))) := hok
  refine x_aload_n (pc := 0) (i := 0) C 0 dX7_letterHere_0 rfl rfl ?_
  refine x_get (pc := 1) (q := 193) (i := 17) C e_M rfl ttX7 (by decide) wd_7_4 rfl dX7_letterHere_1 ?_
  refine x_aload_n (pc := 4) (i := 0) C 0 dX7_letterHere_4 rfl rfl ?_
  refine x_get (pc := 5) (q := 193) (i := 16) C e_M rfl ttX7 (by decide) wd_7_3 rfl dX7_letterHere_5 ?_
  refine x_icmp_ge (pc := 8) (tgt := 23) C dX7_letterHere_8 (by decide) (fun c1 => ?_) (fun c1 => ?_)
  · have hR := hR.trans (if_pos c1)
    refine x_iconst (pc := 23) (v := (-1)) C dX7_letterHere_23 (by decide) ?_
    exact x_iret (pc := 24) C rfl hR dX7_letterHere_24
  · have hR := hR.trans (if_neg c1)
    have hok := hok.2 c1
    refine x_aload_n (pc := 11) (i := 0) C 0 dX7_letterHere_11 rfl rfl ?_
    refine x_get (pc := 12) (q := 193) (i := 11) C e_M rfl ttX7 (by decide) wd_6_238 rfl dX7_letterHere_12 ?_
    refine x_aload_n (pc := 15) (i := 0) C 0 dX7_letterHere_15 rfl rfl ?_
    refine x_get (pc := 16) (q := 193) (i := 17) C e_M rfl ttX7 (by decide) wd_7_4 rfl dX7_letterHere_16 ?_
    have h2 := hok
    refine x_iald (pc := 19) (q := 199) C e_M5 h2 dX7_letterHere_19 ?_
    refine x_goto (pc := 20) (tgt := 24) C dX7_letterHere_20 (by decide) ?_
    exact x_iret (pc := 24) C rfl hR dX7_letterHere_24
set_option maxHeartbeats 4000000 in
set_option maxRecDepth 100000 in
theorem t_X7_copies_M0_M1_L3 {p0 : Program} {l : Launch} {e : Env} {s : State} {m : MethodId} {args : Array Value} {below : List Frame} {meth : Method} {c : Code} {A : Nat → Prop} {G : GT} {ad : Nat → Nat} {Q : State → Prop} (C : CX p0 l s m args meth c A G ad cX7_copies RX7 5 none)  (n : Nat) (M : StM) (a1 : Int32) (a3 : Int32) (a4 : Int32) (B : StB) (O : StO) : ∀ (R0 : StM) (hR : R0 = f_X7_copies_M0_M1_L3 n M a1 a3 a4) (hok : ok_X7_copies_M0_M1_L3 n M a1 a3 a4) (k : X p0 l e (rmd 1 0 0) s m args below meth c A G ad 5 0 0 Q B R0 O [] 28 []), X p0 l e (rmd 1 0 0) s m args below meth c A G ad 5 0 0 Q B M O [(0, .ref (ad 194)), (1, .int a1), (2, .ref (ad 195)), (3, .int a3), (4, .int a4)] 3 [] := by
  induction n generalizing M a1 a3 a4 with
  | zero => intro R0 hR hok k; exact False.elim hok
  | succ n ih =>
    intro R0 hR hok k
    have hR : R0 = (if 124 ≤ a4 then M else (nm (sma M 1 (ix (a3 + a4)) (ma M 0 (ix (a1 + a4)))) (fun (M4 : StM) => (f_X7_copies_M0_M1_L3 n M4 a1 a3 (a4 + 1))))) := hR
    have hok : ((124 ≤ a4 → True) ∧ (¬ 124 ≤ a4 → (vp_in (a1 + a4) 124 ∧ (vp_in (a3 + a4) 124 ∧ (∀ M4 : StM, M4 = (sma M 1 (ix (a3 + a4)) (ma M 0 (ix (a1 + a4)))) → (ok_X7_copies_M0_M1_L3 n M4 a1 a3 (a4 + 1))))))) := hok
    refine x_iload (pc := 3) (i := 4) C 4 dX7_copies_3 rfl ?_
    refine x_bipush (pc := 5) (v := 124) C dX7_copies_5 (by decide) ?_
    refine x_icmp_ge (pc := 7) (tgt := 28) C dX7_copies_7 (by decide) (fun c1 => ?_) (fun c1 => ?_)
    · have hR := hR.trans (if_pos c1)
      refine x_sub [] (ls2 := []) rfl ?_
      subst hR
      exact k
    · have hR := hR.trans (if_neg c1)
      have hok := hok.2 c1
      refine x_aload_n (pc := 10) (i := 2) C 2 dX7_copies_10 rfl rfl ?_
      refine x_iload_n (pc := 11) (i := 3) C 3 dX7_copies_11 rfl rfl ?_
      refine x_iload (pc := 12) (i := 4) C 4 dX7_copies_12 rfl ?_
      refine x_iadd (pc := 14) C dX7_copies_14 ?_
      refine x_aload_n (pc := 15) (i := 0) C 0 dX7_copies_15 rfl rfl ?_
      refine x_iload_n (pc := 16) (i := 1) C 1 dX7_copies_16 rfl rfl ?_
      refine x_iload (pc := 17) (i := 4) C 4 dX7_copies_17 rfl ?_
      refine x_iadd (pc := 19) C dX7_copies_19 ?_
      have h2 := hok.1
      have hok := hok.2
      refine x_iald (pc := 20) (q := 194) C e_M0 h2 dX7_copies_20 ?_
      have h3 := hok.1
      have hok := hok.2
      refine x_iastM (pc := 21) (j := 1) C (by decide) e_M1 e_M1.2 h3 dX7_copies_21 ?_
      refine x_nmM (fun M4 eM4 => ?_)
      have hR := nmE hR eM4
      have hok := hok M4 eM4
      refine x_iinc (pc := 22) (i := 4) (v := (a4 + 1)) (ls2 := [(4, .int (a4 + 1)), (0, .ref (ad 194)), (1, .int a1), (2, .ref (ad 195)), (3, .int a3)]) C 4 dX7_copies_22 rfl rfl (by decide) rfl ?_
      refine x_goto (pc := 25) (tgt := 3) C dX7_copies_25 (by decide) ?_
      refine x_sub [1, 2, 3, 4, 0] (ls2 := [(0, .ref (ad 194)), (1, .int a1), (2, .ref (ad 195)), (3, .int a3), (4, .int (a4 + 1))]) rfl ?_
      exact ih M4 a1 a3 (a4 + 1) R0 hR hok k
set_option maxHeartbeats 4000000 in
set_option maxRecDepth 100000 in
theorem c_X7_copies_M0_M1 {l : Launch} {A : Nat → Prop} {G : GT} {ad : Nat → Nat} (gl : Gl l A ad)  (B : StB) (M : StM) (O : StO) (x1 : Int32) (x3 : Int32) (hok : ok_X7_copies_M0_M1 M x1 x3) : Met l yX7_copies (wof yX7_copies cX7_copies 5 none) (rmd 1 0 0) (va_Pc [.ref (ad 194), .int x1, .ref (ad 195), .int x3] (PW G A ad B M O)) (QV G A ad B (f_X7_copies_M0_M1 M x1 x3) O) 0 0 A := by
  refine x_body (own := RX7) (by decide +kernel) rfl gl (Nat.le_of_ble_eq_true rfl) (ls := [(0, .ref (ad 194)), (1, .int x1), (2, .ref (ad 195)), (3, .int x3)]) rfl ?_
  intro p0 e s m args below meth c C
  have hR : (f_X7_copies_M0_M1 M x1 x3) = (nm (f_X7_copies_M0_M1_L3 fu M x1 x3 0) (fun (z5 : StM) => z5)) := rfl
  have hok : (ok_X7_copies_M0_M1_L3 fu M x1 x3 0) := hok
  refine x_iconst (pc := 0) (v := 0) C dX7_copies_0 (by decide) ?_
  refine x_istore (pc := 1) (i := 4) (ls2 := [(4, .int 0), (0, .ref (ad 194)), (1, .int x1), (2, .ref (ad 195)), (3, .int x3)]) C dX7_copies_1 (by decide) rfl ?_
  refine x_sub [1, 2, 3, 4, 0] (ls2 := [(0, .ref (ad 194)), (1, .int x1), (2, .ref (ad 195)), (3, .int x3), (4, .int 0)]) rfl ?_
  obtain ⟨z5, ez5⟩ : ∃ z : StM, z = f_X7_copies_M0_M1_L3 fu M x1 x3 0 := ⟨_, rfl⟩
  refine t_X7_copies_M0_M1_L3 C fu M x1 x3 0 B O z5 ez5 hok ?_
  have hR := nmE hR ez5
  exact x_vretM (pc := 28) C rfl hR dX7_copies_28
set_option maxHeartbeats 4000000 in
set_option maxRecDepth 100000 in
theorem t_X7_copies_M1_M4_L3 {p0 : Program} {l : Launch} {e : Env} {s : State} {m : MethodId} {args : Array Value} {below : List Frame} {meth : Method} {c : Code} {A : Nat → Prop} {G : GT} {ad : Nat → Nat} {Q : State → Prop} (C : CX p0 l s m args meth c A G ad cX7_copies RX7 5 none)  (n : Nat) (M : StM) (a1 : Int32) (a3 : Int32) (a4 : Int32) (B : StB) (O : StO) : ∀ (R0 : StM) (hR : R0 = f_X7_copies_M1_M4_L3 n M a1 a3 a4) (hok : ok_X7_copies_M1_M4_L3 n M a1 a3 a4) (k : X p0 l e (rmd 1 0 0) s m args below meth c A G ad 5 0 0 Q B R0 O [] 28 []), X p0 l e (rmd 1 0 0) s m args below meth c A G ad 5 0 0 Q B M O [(0, .ref (ad 195)), (1, .int a1), (2, .ref (ad 198)), (3, .int a3), (4, .int a4)] 3 [] := by
  induction n generalizing M a1 a3 a4 with
  | zero => intro R0 hR hok k; exact False.elim hok
  | succ n ih =>
    intro R0 hR hok k
    have hR : R0 = (if 124 ≤ a4 then M else (nm (sma M 4 (ix (a3 + a4)) (ma M 1 (ix (a1 + a4)))) (fun (M4 : StM) => (f_X7_copies_M1_M4_L3 n M4 a1 a3 (a4 + 1))))) := hR
    have hok : ((124 ≤ a4 → True) ∧ (¬ 124 ≤ a4 → (vp_in (a1 + a4) 124 ∧ (vp_in (a3 + a4) 992 ∧ (∀ M4 : StM, M4 = (sma M 4 (ix (a3 + a4)) (ma M 1 (ix (a1 + a4)))) → (ok_X7_copies_M1_M4_L3 n M4 a1 a3 (a4 + 1))))))) := hok
    refine x_iload (pc := 3) (i := 4) C 4 dX7_copies_3 rfl ?_
    refine x_bipush (pc := 5) (v := 124) C dX7_copies_5 (by decide) ?_
    refine x_icmp_ge (pc := 7) (tgt := 28) C dX7_copies_7 (by decide) (fun c1 => ?_) (fun c1 => ?_)
    · have hR := hR.trans (if_pos c1)
      refine x_sub [] (ls2 := []) rfl ?_
      subst hR
      exact k
    · have hR := hR.trans (if_neg c1)
      have hok := hok.2 c1
      refine x_aload_n (pc := 10) (i := 2) C 2 dX7_copies_10 rfl rfl ?_
      refine x_iload_n (pc := 11) (i := 3) C 3 dX7_copies_11 rfl rfl ?_
      refine x_iload (pc := 12) (i := 4) C 4 dX7_copies_12 rfl ?_
      refine x_iadd (pc := 14) C dX7_copies_14 ?_
      refine x_aload_n (pc := 15) (i := 0) C 0 dX7_copies_15 rfl rfl ?_
      refine x_iload_n (pc := 16) (i := 1) C 1 dX7_copies_16 rfl rfl ?_
      refine x_iload (pc := 17) (i := 4) C 4 dX7_copies_17 rfl ?_
      refine x_iadd (pc := 19) C dX7_copies_19 ?_
      have h2 := hok.1
      have hok := hok.2
      refine x_iald (pc := 20) (q := 195) C e_M1 h2 dX7_copies_20 ?_
      have h3 := hok.1
      have hok := hok.2
      refine x_iastM (pc := 21) (j := 4) C (by decide) e_M4 e_M4.2 h3 dX7_copies_21 ?_
      refine x_nmM (fun M4 eM4 => ?_)
      have hR := nmE hR eM4
      have hok := hok M4 eM4
      refine x_iinc (pc := 22) (i := 4) (v := (a4 + 1)) (ls2 := [(4, .int (a4 + 1)), (0, .ref (ad 195)), (1, .int a1), (2, .ref (ad 198)), (3, .int a3)]) C 4 dX7_copies_22 rfl rfl (by decide) rfl ?_
      refine x_goto (pc := 25) (tgt := 3) C dX7_copies_25 (by decide) ?_
      refine x_sub [1, 2, 3, 4, 0] (ls2 := [(0, .ref (ad 195)), (1, .int a1), (2, .ref (ad 198)), (3, .int a3), (4, .int (a4 + 1))]) rfl ?_
      exact ih M4 a1 a3 (a4 + 1) R0 hR hok k
set_option maxHeartbeats 4000000 in
set_option maxRecDepth 100000 in
theorem c_X7_copies_M1_M4 {l : Launch} {A : Nat → Prop} {G : GT} {ad : Nat → Nat} (gl : Gl l A ad)  (B : StB) (M : StM) (O : StO) (x1 : Int32) (x3 : Int32) (hok : ok_X7_copies_M1_M4 M x1 x3) : Met l yX7_copies (wof yX7_copies cX7_copies 5 none) (rmd 1 0 0) (va_Pc [.ref (ad 195), .int x1, .ref (ad 198), .int x3] (PW G A ad B M O)) (QV G A ad B (f_X7_copies_M1_M4 M x1 x3) O) 0 0 A := by
  refine x_body (own := RX7) (by decide +kernel) rfl gl (Nat.le_of_ble_eq_true rfl) (ls := [(0, .ref (ad 195)), (1, .int x1), (2, .ref (ad 198)), (3, .int x3)]) rfl ?_
  intro p0 e s m args below meth c C
  have hR : (f_X7_copies_M1_M4 M x1 x3) = (nm (f_X7_copies_M1_M4_L3 fu M x1 x3 0) (fun (z5 : StM) => z5)) := rfl
  have hok : (ok_X7_copies_M1_M4_L3 fu M x1 x3 0) := hok
  refine x_iconst (pc := 0) (v := 0) C dX7_copies_0 (by decide) ?_
  refine x_istore (pc := 1) (i := 4) (ls2 := [(4, .int 0), (0, .ref (ad 195)), (1, .int x1), (2, .ref (ad 198)), (3, .int x3)]) C dX7_copies_1 (by decide) rfl ?_
  refine x_sub [1, 2, 3, 4, 0] (ls2 := [(0, .ref (ad 195)), (1, .int x1), (2, .ref (ad 198)), (3, .int x3), (4, .int 0)]) rfl ?_
  obtain ⟨z5, ez5⟩ : ∃ z : StM, z = f_X7_copies_M1_M4_L3 fu M x1 x3 0 := ⟨_, rfl⟩
  refine t_X7_copies_M1_M4_L3 C fu M x1 x3 0 B O z5 ez5 hok ?_
  have hR := nmE hR ez5
  exact x_vretM (pc := 28) C rfl hR dX7_copies_28
set_option maxHeartbeats 4000000 in
set_option maxRecDepth 100000 in
theorem t_X7_copies_M1_M0_L3 {p0 : Program} {l : Launch} {e : Env} {s : State} {m : MethodId} {args : Array Value} {below : List Frame} {meth : Method} {c : Code} {A : Nat → Prop} {G : GT} {ad : Nat → Nat} {Q : State → Prop} (C : CX p0 l s m args meth c A G ad cX7_copies RX7 5 none)  (n : Nat) (M : StM) (a1 : Int32) (a3 : Int32) (a4 : Int32) (B : StB) (O : StO) : ∀ (R0 : StM) (hR : R0 = f_X7_copies_M1_M0_L3 n M a1 a3 a4) (hok : ok_X7_copies_M1_M0_L3 n M a1 a3 a4) (k : X p0 l e (rmd 1 0 0) s m args below meth c A G ad 5 0 0 Q B R0 O [] 28 []), X p0 l e (rmd 1 0 0) s m args below meth c A G ad 5 0 0 Q B M O [(0, .ref (ad 195)), (1, .int a1), (2, .ref (ad 194)), (3, .int a3), (4, .int a4)] 3 [] := by
  induction n generalizing M a1 a3 a4 with
  | zero => intro R0 hR hok k; exact False.elim hok
  | succ n ih =>
    intro R0 hR hok k
    have hR : R0 = (if 124 ≤ a4 then M else (nm (sma M 0 (ix (a3 + a4)) (ma M 1 (ix (a1 + a4)))) (fun (M4 : StM) => (f_X7_copies_M1_M0_L3 n M4 a1 a3 (a4 + 1))))) := hR
    have hok : ((124 ≤ a4 → True) ∧ (¬ 124 ≤ a4 → (vp_in (a1 + a4) 124 ∧ (vp_in (a3 + a4) 124 ∧ (∀ M4 : StM, M4 = (sma M 0 (ix (a3 + a4)) (ma M 1 (ix (a1 + a4)))) → (ok_X7_copies_M1_M0_L3 n M4 a1 a3 (a4 + 1))))))) := hok
    refine x_iload (pc := 3) (i := 4) C 4 dX7_copies_3 rfl ?_
    refine x_bipush (pc := 5) (v := 124) C dX7_copies_5 (by decide) ?_
    refine x_icmp_ge (pc := 7) (tgt := 28) C dX7_copies_7 (by decide) (fun c1 => ?_) (fun c1 => ?_)
    · have hR := hR.trans (if_pos c1)
      refine x_sub [] (ls2 := []) rfl ?_
      subst hR
      exact k
    · have hR := hR.trans (if_neg c1)
      have hok := hok.2 c1
      refine x_aload_n (pc := 10) (i := 2) C 2 dX7_copies_10 rfl rfl ?_
      refine x_iload_n (pc := 11) (i := 3) C 3 dX7_copies_11 rfl rfl ?_
      refine x_iload (pc := 12) (i := 4) C 4 dX7_copies_12 rfl ?_
      refine x_iadd (pc := 14) C dX7_copies_14 ?_
      refine x_aload_n (pc := 15) (i := 0) C 0 dX7_copies_15 rfl rfl ?_
      refine x_iload_n (pc := 16) (i := 1) C 1 dX7_copies_16 rfl rfl ?_
      refine x_iload (pc := 17) (i := 4) C 4 dX7_copies_17 rfl ?_
      refine x_iadd (pc := 19) C dX7_copies_19 ?_
      have h2 := hok.1
      have hok := hok.2
      refine x_iald (pc := 20) (q := 195) C e_M1 h2 dX7_copies_20 ?_
      have h3 := hok.1
      have hok := hok.2
      refine x_iastM (pc := 21) (j := 0) C (by decide) e_M0 e_M0.2 h3 dX7_copies_21 ?_
      refine x_nmM (fun M4 eM4 => ?_)
      have hR := nmE hR eM4
      have hok := hok M4 eM4
      refine x_iinc (pc := 22) (i := 4) (v := (a4 + 1)) (ls2 := [(4, .int (a4 + 1)), (0, .ref (ad 195)), (1, .int a1), (2, .ref (ad 194)), (3, .int a3)]) C 4 dX7_copies_22 rfl rfl (by decide) rfl ?_
      refine x_goto (pc := 25) (tgt := 3) C dX7_copies_25 (by decide) ?_
      refine x_sub [1, 2, 3, 4, 0] (ls2 := [(0, .ref (ad 195)), (1, .int a1), (2, .ref (ad 194)), (3, .int a3), (4, .int (a4 + 1))]) rfl ?_
      exact ih M4 a1 a3 (a4 + 1) R0 hR hok k
set_option maxHeartbeats 4000000 in
set_option maxRecDepth 100000 in
theorem c_X7_copies_M1_M0 {l : Launch} {A : Nat → Prop} {G : GT} {ad : Nat → Nat} (gl : Gl l A ad)  (B : StB) (M : StM) (O : StO) (x1 : Int32) (x3 : Int32) (hok : ok_X7_copies_M1_M0 M x1 x3) : Met l yX7_copies (wof yX7_copies cX7_copies 5 none) (rmd 1 0 0) (va_Pc [.ref (ad 195), .int x1, .ref (ad 194), .int x3] (PW G A ad B M O)) (QV G A ad B (f_X7_copies_M1_M0 M x1 x3) O) 0 0 A := by
  refine x_body (own := RX7) (by decide +kernel) rfl gl (Nat.le_of_ble_eq_true rfl) (ls := [(0, .ref (ad 195)), (1, .int x1), (2, .ref (ad 194)), (3, .int x3)]) rfl ?_
  intro p0 e s m args below meth c C
  have hR : (f_X7_copies_M1_M0 M x1 x3) = (nm (f_X7_copies_M1_M0_L3 fu M x1 x3 0) (fun (z5 : StM) => z5)) := rfl
  have hok : (ok_X7_copies_M1_M0_L3 fu M x1 x3 0) := hok
  refine x_iconst (pc := 0) (v := 0) C dX7_copies_0 (by decide) ?_
  refine x_istore (pc := 1) (i := 4) (ls2 := [(4, .int 0), (0, .ref (ad 195)), (1, .int x1), (2, .ref (ad 194)), (3, .int x3)]) C dX7_copies_1 (by decide) rfl ?_
  refine x_sub [1, 2, 3, 4, 0] (ls2 := [(0, .ref (ad 195)), (1, .int x1), (2, .ref (ad 194)), (3, .int x3), (4, .int 0)]) rfl ?_
  obtain ⟨z5, ez5⟩ : ∃ z : StM, z = f_X7_copies_M1_M0_L3 fu M x1 x3 0 := ⟨_, rfl⟩
  refine t_X7_copies_M1_M0_L3 C fu M x1 x3 0 B O z5 ez5 hok ?_
  have hR := nmE hR ez5
  exact x_vretM (pc := 28) C rfl hR dX7_copies_28
set_option maxHeartbeats 4000000 in
set_option maxRecDepth 100000 in
theorem t_X7_copies_M4_M0_L3 {p0 : Program} {l : Launch} {e : Env} {s : State} {m : MethodId} {args : Array Value} {below : List Frame} {meth : Method} {c : Code} {A : Nat → Prop} {G : GT} {ad : Nat → Nat} {Q : State → Prop} (C : CX p0 l s m args meth c A G ad cX7_copies RX7 5 none)  (n : Nat) (M : StM) (a1 : Int32) (a3 : Int32) (a4 : Int32) (B : StB) (O : StO) : ∀ (R0 : StM) (hR : R0 = f_X7_copies_M4_M0_L3 n M a1 a3 a4) (hok : ok_X7_copies_M4_M0_L3 n M a1 a3 a4) (k : X p0 l e (rmd 1 0 0) s m args below meth c A G ad 5 0 0 Q B R0 O [] 28 []), X p0 l e (rmd 1 0 0) s m args below meth c A G ad 5 0 0 Q B M O [(0, .ref (ad 198)), (1, .int a1), (2, .ref (ad 194)), (3, .int a3), (4, .int a4)] 3 [] := by
  induction n generalizing M a1 a3 a4 with
  | zero => intro R0 hR hok k; exact False.elim hok
  | succ n ih =>
    intro R0 hR hok k
    have hR : R0 = (if 124 ≤ a4 then M else (nm (sma M 0 (ix (a3 + a4)) (ma M 4 (ix (a1 + a4)))) (fun (M4 : StM) => (f_X7_copies_M4_M0_L3 n M4 a1 a3 (a4 + 1))))) := hR
    have hok : ((124 ≤ a4 → True) ∧ (¬ 124 ≤ a4 → (vp_in (a1 + a4) 992 ∧ (vp_in (a3 + a4) 124 ∧ (∀ M4 : StM, M4 = (sma M 0 (ix (a3 + a4)) (ma M 4 (ix (a1 + a4)))) → (ok_X7_copies_M4_M0_L3 n M4 a1 a3 (a4 + 1))))))) := hok
    refine x_iload (pc := 3) (i := 4) C 4 dX7_copies_3 rfl ?_
    refine x_bipush (pc := 5) (v := 124) C dX7_copies_5 (by decide) ?_
    refine x_icmp_ge (pc := 7) (tgt := 28) C dX7_copies_7 (by decide) (fun c1 => ?_) (fun c1 => ?_)
    · have hR := hR.trans (if_pos c1)
      refine x_sub [] (ls2 := []) rfl ?_
      subst hR
      exact k
    · have hR := hR.trans (if_neg c1)
      have hok := hok.2 c1
      refine x_aload_n (pc := 10) (i := 2) C 2 dX7_copies_10 rfl rfl ?_
      refine x_iload_n (pc := 11) (i := 3) C 3 dX7_copies_11 rfl rfl ?_
      refine x_iload (pc := 12) (i := 4) C 4 dX7_copies_12 rfl ?_
      refine x_iadd (pc := 14) C dX7_copies_14 ?_
      refine x_aload_n (pc := 15) (i := 0) C 0 dX7_copies_15 rfl rfl ?_
      refine x_iload_n (pc := 16) (i := 1) C 1 dX7_copies_16 rfl rfl ?_
      refine x_iload (pc := 17) (i := 4) C 4 dX7_copies_17 rfl ?_
      refine x_iadd (pc := 19) C dX7_copies_19 ?_
      have h2 := hok.1
      have hok := hok.2
      refine x_iald (pc := 20) (q := 198) C e_M4 h2 dX7_copies_20 ?_
      have h3 := hok.1
      have hok := hok.2
      refine x_iastM (pc := 21) (j := 0) C (by decide) e_M0 e_M0.2 h3 dX7_copies_21 ?_
      refine x_nmM (fun M4 eM4 => ?_)
      have hR := nmE hR eM4
      have hok := hok M4 eM4
      refine x_iinc (pc := 22) (i := 4) (v := (a4 + 1)) (ls2 := [(4, .int (a4 + 1)), (0, .ref (ad 198)), (1, .int a1), (2, .ref (ad 194)), (3, .int a3)]) C 4 dX7_copies_22 rfl rfl (by decide) rfl ?_
      refine x_goto (pc := 25) (tgt := 3) C dX7_copies_25 (by decide) ?_
      refine x_sub [1, 2, 3, 4, 0] (ls2 := [(0, .ref (ad 198)), (1, .int a1), (2, .ref (ad 194)), (3, .int a3), (4, .int (a4 + 1))]) rfl ?_
      exact ih M4 a1 a3 (a4 + 1) R0 hR hok k
set_option maxHeartbeats 4000000 in
set_option maxRecDepth 100000 in
theorem c_X7_copies_M4_M0 {l : Launch} {A : Nat → Prop} {G : GT} {ad : Nat → Nat} (gl : Gl l A ad)  (B : StB) (M : StM) (O : StO) (x1 : Int32) (x3 : Int32) (hok : ok_X7_copies_M4_M0 M x1 x3) : Met l yX7_copies (wof yX7_copies cX7_copies 5 none) (rmd 1 0 0) (va_Pc [.ref (ad 198), .int x1, .ref (ad 194), .int x3] (PW G A ad B M O)) (QV G A ad B (f_X7_copies_M4_M0 M x1 x3) O) 0 0 A := by
  refine x_body (own := RX7) (by decide +kernel) rfl gl (Nat.le_of_ble_eq_true rfl) (ls := [(0, .ref (ad 198)), (1, .int x1), (2, .ref (ad 194)), (3, .int x3)]) rfl ?_
  intro p0 e s m args below meth c C
  have hR : (f_X7_copies_M4_M0 M x1 x3) = (nm (f_X7_copies_M4_M0_L3 fu M x1 x3 0) (fun (z5 : StM) => z5)) := rfl
  have hok : (ok_X7_copies_M4_M0_L3 fu M x1 x3 0) := hok
  refine x_iconst (pc := 0) (v := 0) C dX7_copies_0 (by decide) ?_
  refine x_istore (pc := 1) (i := 4) (ls2 := [(4, .int 0), (0, .ref (ad 198)), (1, .int x1), (2, .ref (ad 194)), (3, .int x3)]) C dX7_copies_1 (by decide) rfl ?_
  refine x_sub [1, 2, 3, 4, 0] (ls2 := [(0, .ref (ad 198)), (1, .int x1), (2, .ref (ad 194)), (3, .int x3), (4, .int 0)]) rfl ?_
  obtain ⟨z5, ez5⟩ : ∃ z : StM, z = f_X7_copies_M4_M0_L3 fu M x1 x3 0 := ⟨_, rfl⟩
  refine t_X7_copies_M4_M0_L3 C fu M x1 x3 0 B O z5 ez5 hok ?_
  have hR := nmE hR ez5
  exact x_vretM (pc := 28) C rfl hR dX7_copies_28
set_option maxHeartbeats 4000000 in
set_option maxRecDepth 100000 in
theorem t_X7_copies_M0_M3_L3 {p0 : Program} {l : Launch} {e : Env} {s : State} {m : MethodId} {args : Array Value} {below : List Frame} {meth : Method} {c : Code} {A : Nat → Prop} {G : GT} {ad : Nat → Nat} {Q : State → Prop} (C : CX p0 l s m args meth c A G ad cX7_copies RX7 5 none)  (n : Nat) (M : StM) (a1 : Int32) (a3 : Int32) (a4 : Int32) (B : StB) (O : StO) : ∀ (R0 : StM) (hR : R0 = f_X7_copies_M0_M3_L3 n M a1 a3 a4) (hok : ok_X7_copies_M0_M3_L3 n M a1 a3 a4) (k : X p0 l e (rmd 1 0 0) s m args below meth c A G ad 5 0 0 Q B R0 O [] 28 []), X p0 l e (rmd 1 0 0) s m args below meth c A G ad 5 0 0 Q B M O [(0, .ref (ad 194)), (1, .int a1), (2, .ref (ad 197)), (3, .int a3), (4, .int a4)] 3 [] := by
  induction n generalizing M a1 a3 a4 with
  | zero => intro R0 hR hok k; exact False.elim hok
  | succ n ih =>
    intro R0 hR hok k
    have hR : R0 = (if 124 ≤ a4 then M else (nm (sma M 3 (ix (a3 + a4)) (ma M 0 (ix (a1 + a4)))) (fun (M4 : StM) => (f_X7_copies_M0_M3_L3 n M4 a1 a3 (a4 + 1))))) := hR
    have hok : ((124 ≤ a4 → True) ∧ (¬ 124 ≤ a4 → (vp_in (a1 + a4) 124 ∧ (vp_in (a3 + a4) 124 ∧ (∀ M4 : StM, M4 = (sma M 3 (ix (a3 + a4)) (ma M 0 (ix (a1 + a4)))) → (ok_X7_copies_M0_M3_L3 n M4 a1 a3 (a4 + 1))))))) := hok
    refine x_iload (pc := 3) (i := 4) C 4 dX7_copies_3 rfl ?_
    refine x_bipush (pc := 5) (v := 124) C dX7_copies_5 (by decide) ?_
    refine x_icmp_ge (pc := 7) (tgt := 28) C dX7_copies_7 (by decide) (fun c1 => ?_) (fun c1 => ?_)
    · have hR := hR.trans (if_pos c1)
      refine x_sub [] (ls2 := []) rfl ?_
      subst hR
      exact k
    · have hR := hR.trans (if_neg c1)
      have hok := hok.2 c1
      refine x_aload_n (pc := 10) (i := 2) C 2 dX7_copies_10 rfl rfl ?_
      refine x_iload_n (pc := 11) (i := 3) C 3 dX7_copies_11 rfl rfl ?_
      refine x_iload (pc := 12) (i := 4) C 4 dX7_copies_12 rfl ?_
      refine x_iadd (pc := 14) C dX7_copies_14 ?_
      refine x_aload_n (pc := 15) (i := 0) C 0 dX7_copies_15 rfl rfl ?_
      refine x_iload_n (pc := 16) (i := 1) C 1 dX7_copies_16 rfl rfl ?_
      refine x_iload (pc := 17) (i := 4) C 4 dX7_copies_17 rfl ?_
      refine x_iadd (pc := 19) C dX7_copies_19 ?_
      have h2 := hok.1
      have hok := hok.2
      refine x_iald (pc := 20) (q := 194) C e_M0 h2 dX7_copies_20 ?_
      have h3 := hok.1
      have hok := hok.2
      refine x_iastM (pc := 21) (j := 3) C (by decide) e_M3 e_M3.2 h3 dX7_copies_21 ?_
      refine x_nmM (fun M4 eM4 => ?_)
      have hR := nmE hR eM4
      have hok := hok M4 eM4
      refine x_iinc (pc := 22) (i := 4) (v := (a4 + 1)) (ls2 := [(4, .int (a4 + 1)), (0, .ref (ad 194)), (1, .int a1), (2, .ref (ad 197)), (3, .int a3)]) C 4 dX7_copies_22 rfl rfl (by decide) rfl ?_
      refine x_goto (pc := 25) (tgt := 3) C dX7_copies_25 (by decide) ?_
      refine x_sub [1, 2, 3, 4, 0] (ls2 := [(0, .ref (ad 194)), (1, .int a1), (2, .ref (ad 197)), (3, .int a3), (4, .int (a4 + 1))]) rfl ?_
      exact ih M4 a1 a3 (a4 + 1) R0 hR hok k
set_option maxHeartbeats 4000000 in
set_option maxRecDepth 100000 in
theorem c_X7_copies_M0_M3 {l : Launch} {A : Nat → Prop} {G : GT} {ad : Nat → Nat} (gl : Gl l A ad)  (B : StB) (M : StM) (O : StO) (x1 : Int32) (x3 : Int32) (hok : ok_X7_copies_M0_M3 M x1 x3) : Met l yX7_copies (wof yX7_copies cX7_copies 5 none) (rmd 1 0 0) (va_Pc [.ref (ad 194), .int x1, .ref (ad 197), .int x3] (PW G A ad B M O)) (QV G A ad B (f_X7_copies_M0_M3 M x1 x3) O) 0 0 A := by
  refine x_body (own := RX7) (by decide +kernel) rfl gl (Nat.le_of_ble_eq_true rfl) (ls := [(0, .ref (ad 194)), (1, .int x1), (2, .ref (ad 197)), (3, .int x3)]) rfl ?_
  intro p0 e s m args below meth c C
  have hR : (f_X7_copies_M0_M3 M x1 x3) = (nm (f_X7_copies_M0_M3_L3 fu M x1 x3 0) (fun (z5 : StM) => z5)) := rfl
  have hok : (ok_X7_copies_M0_M3_L3 fu M x1 x3 0) := hok
  refine x_iconst (pc := 0) (v := 0) C dX7_copies_0 (by decide) ?_
  refine x_istore (pc := 1) (i := 4) (ls2 := [(4, .int 0), (0, .ref (ad 194)), (1, .int x1), (2, .ref (ad 197)), (3, .int x3)]) C dX7_copies_1 (by decide) rfl ?_
  refine x_sub [1, 2, 3, 4, 0] (ls2 := [(0, .ref (ad 194)), (1, .int x1), (2, .ref (ad 197)), (3, .int x3), (4, .int 0)]) rfl ?_
  obtain ⟨z5, ez5⟩ : ∃ z : StM, z = f_X7_copies_M0_M3_L3 fu M x1 x3 0 := ⟨_, rfl⟩
  refine t_X7_copies_M0_M3_L3 C fu M x1 x3 0 B O z5 ez5 hok ?_
  have hR := nmE hR ez5
  exact x_vretM (pc := 28) C rfl hR dX7_copies_28
set_option maxHeartbeats 4000000 in
set_option maxRecDepth 100000 in
theorem t_X7_copies_M3_M0_L3 {p0 : Program} {l : Launch} {e : Env} {s : State} {m : MethodId} {args : Array Value} {below : List Frame} {meth : Method} {c : Code} {A : Nat → Prop} {G : GT} {ad : Nat → Nat} {Q : State → Prop} (C : CX p0 l s m args meth c A G ad cX7_copies RX7 5 none)  (n : Nat) (M : StM) (a1 : Int32) (a3 : Int32) (a4 : Int32) (B : StB) (O : StO) : ∀ (R0 : StM) (hR : R0 = f_X7_copies_M3_M0_L3 n M a1 a3 a4) (hok : ok_X7_copies_M3_M0_L3 n M a1 a3 a4) (k : X p0 l e (rmd 1 0 0) s m args below meth c A G ad 5 0 0 Q B R0 O [] 28 []), X p0 l e (rmd 1 0 0) s m args below meth c A G ad 5 0 0 Q B M O [(0, .ref (ad 197)), (1, .int a1), (2, .ref (ad 194)), (3, .int a3), (4, .int a4)] 3 [] := by
  induction n generalizing M a1 a3 a4 with
  | zero => intro R0 hR hok k; exact False.elim hok
  | succ n ih =>
    intro R0 hR hok k
    have hR : R0 = (if 124 ≤ a4 then M else (nm (sma M 0 (ix (a3 + a4)) (ma M 3 (ix (a1 + a4)))) (fun (M4 : StM) => (f_X7_copies_M3_M0_L3 n M4 a1 a3 (a4 + 1))))) := hR
    have hok : ((124 ≤ a4 → True) ∧ (¬ 124 ≤ a4 → (vp_in (a1 + a4) 124 ∧ (vp_in (a3 + a4) 124 ∧ (∀ M4 : StM, M4 = (sma M 0 (ix (a3 + a4)) (ma M 3 (ix (a1 + a4)))) → (ok_X7_copies_M3_M0_L3 n M4 a1 a3 (a4 + 1))))))) := hok
    refine x_iload (pc := 3) (i := 4) C 4 dX7_copies_3 rfl ?_
    refine x_bipush (pc := 5) (v := 124) C dX7_copies_5 (by decide) ?_
    refine x_icmp_ge (pc := 7) (tgt := 28) C dX7_copies_7 (by decide) (fun c1 => ?_) (fun c1 => ?_)
    · have hR := hR.trans (if_pos c1)
      refine x_sub [] (ls2 := []) rfl ?_
      subst hR
      exact k
    · have hR := hR.trans (if_neg c1)
      have hok := hok.2 c1
      refine x_aload_n (pc := 10) (i := 2) C 2 dX7_copies_10 rfl rfl ?_
      refine x_iload_n (pc := 11) (i := 3) C 3 dX7_copies_11 rfl rfl ?_
      refine x_iload (pc := 12) (i := 4) C 4 dX7_copies_12 rfl ?_
      refine x_iadd (pc := 14) C dX7_copies_14 ?_
      refine x_aload_n (pc := 15) (i := 0) C 0 dX7_copies_15 rfl rfl ?_
      refine x_iload_n (pc := 16) (i := 1) C 1 dX7_copies_16 rfl rfl ?_
      refine x_iload (pc := 17) (i := 4) C 4 dX7_copies_17 rfl ?_
      refine x_iadd (pc := 19) C dX7_copies_19 ?_
      have h2 := hok.1
      have hok := hok.2
      refine x_iald (pc := 20) (q := 197) C e_M3 h2 dX7_copies_20 ?_
      have h3 := hok.1
      have hok := hok.2
      refine x_iastM (pc := 21) (j := 0) C (by decide) e_M0 e_M0.2 h3 dX7_copies_21 ?_
      refine x_nmM (fun M4 eM4 => ?_)
      have hR := nmE hR eM4
      have hok := hok M4 eM4
      refine x_iinc (pc := 22) (i := 4) (v := (a4 + 1)) (ls2 := [(4, .int (a4 + 1)), (0, .ref (ad 197)), (1, .int a1), (2, .ref (ad 194)), (3, .int a3)]) C 4 dX7_copies_22 rfl rfl (by decide) rfl ?_
      refine x_goto (pc := 25) (tgt := 3) C dX7_copies_25 (by decide) ?_
      refine x_sub [1, 2, 3, 4, 0] (ls2 := [(0, .ref (ad 197)), (1, .int a1), (2, .ref (ad 194)), (3, .int a3), (4, .int (a4 + 1))]) rfl ?_
      exact ih M4 a1 a3 (a4 + 1) R0 hR hok k
set_option maxHeartbeats 4000000 in
set_option maxRecDepth 100000 in
theorem c_X7_copies_M3_M0 {l : Launch} {A : Nat → Prop} {G : GT} {ad : Nat → Nat} (gl : Gl l A ad)  (B : StB) (M : StM) (O : StO) (x1 : Int32) (x3 : Int32) (hok : ok_X7_copies_M3_M0 M x1 x3) : Met l yX7_copies (wof yX7_copies cX7_copies 5 none) (rmd 1 0 0) (va_Pc [.ref (ad 197), .int x1, .ref (ad 194), .int x3] (PW G A ad B M O)) (QV G A ad B (f_X7_copies_M3_M0 M x1 x3) O) 0 0 A := by
  refine x_body (own := RX7) (by decide +kernel) rfl gl (Nat.le_of_ble_eq_true rfl) (ls := [(0, .ref (ad 197)), (1, .int x1), (2, .ref (ad 194)), (3, .int x3)]) rfl ?_
  intro p0 e s m args below meth c C
  have hR : (f_X7_copies_M3_M0 M x1 x3) = (nm (f_X7_copies_M3_M0_L3 fu M x1 x3 0) (fun (z5 : StM) => z5)) := rfl
  have hok : (ok_X7_copies_M3_M0_L3 fu M x1 x3 0) := hok
  refine x_iconst (pc := 0) (v := 0) C dX7_copies_0 (by decide) ?_
  refine x_istore (pc := 1) (i := 4) (ls2 := [(4, .int 0), (0, .ref (ad 197)), (1, .int x1), (2, .ref (ad 194)), (3, .int x3)]) C dX7_copies_1 (by decide) rfl ?_
  refine x_sub [1, 2, 3, 4, 0] (ls2 := [(0, .ref (ad 197)), (1, .int x1), (2, .ref (ad 194)), (3, .int x3), (4, .int 0)]) rfl ?_
  obtain ⟨z5, ez5⟩ : ∃ z : StM, z = f_X7_copies_M3_M0_L3 fu M x1 x3 0 := ⟨_, rfl⟩
  refine t_X7_copies_M3_M0_L3 C fu M x1 x3 0 B O z5 ez5 hok ?_
  have hR := nmE hR ez5
  exact x_vretM (pc := 28) C rfl hR dX7_copies_28
set_option maxHeartbeats 4000000 in
set_option maxRecDepth 100000 in
theorem t_X7_copies_M0_M2_L3 {p0 : Program} {l : Launch} {e : Env} {s : State} {m : MethodId} {args : Array Value} {below : List Frame} {meth : Method} {c : Code} {A : Nat → Prop} {G : GT} {ad : Nat → Nat} {Q : State → Prop} (C : CX p0 l s m args meth c A G ad cX7_copies RX7 5 none)  (n : Nat) (M : StM) (a1 : Int32) (a3 : Int32) (a4 : Int32) (B : StB) (O : StO) : ∀ (R0 : StM) (hR : R0 = f_X7_copies_M0_M2_L3 n M a1 a3 a4) (hok : ok_X7_copies_M0_M2_L3 n M a1 a3 a4) (k : X p0 l e (rmd 1 0 0) s m args below meth c A G ad 5 0 0 Q B R0 O [] 28 []), X p0 l e (rmd 1 0 0) s m args below meth c A G ad 5 0 0 Q B M O [(0, .ref (ad 194)), (1, .int a1), (2, .ref (ad 196)), (3, .int a3), (4, .int a4)] 3 [] := by
  induction n generalizing M a1 a3 a4 with
  | zero => intro R0 hR hok k; exact False.elim hok
  | succ n ih =>
    intro R0 hR hok k
    have hR : R0 = (if 124 ≤ a4 then M else (nm (sma M 2 (ix (a3 + a4)) (ma M 0 (ix (a1 + a4)))) (fun (M4 : StM) => (f_X7_copies_M0_M2_L3 n M4 a1 a3 (a4 + 1))))) := hR
    have hok : ((124 ≤ a4 → True) ∧ (¬ 124 ≤ a4 → (vp_in (a1 + a4) 124 ∧ (vp_in (a3 + a4) 124 ∧ (∀ M4 : StM, M4 = (sma M 2 (ix (a3 + a4)) (ma M 0 (ix (a1 + a4)))) → (ok_X7_copies_M0_M2_L3 n M4 a1 a3 (a4 + 1))))))) := hok
    refine x_iload (pc := 3) (i := 4) C 4 dX7_copies_3 rfl ?_
    refine x_bipush (pc := 5) (v := 124) C dX7_copies_5 (by decide) ?_
    refine x_icmp_ge (pc := 7) (tgt := 28) C dX7_copies_7 (by decide) (fun c1 => ?_) (fun c1 => ?_)
    · have hR := hR.trans (if_pos c1)
      refine x_sub [] (ls2 := []) rfl ?_
      subst hR
      exact k
    · have hR := hR.trans (if_neg c1)
      have hok := hok.2 c1
      refine x_aload_n (pc := 10) (i := 2) C 2 dX7_copies_10 rfl rfl ?_
      refine x_iload_n (pc := 11) (i := 3) C 3 dX7_copies_11 rfl rfl ?_
      refine x_iload (pc := 12) (i := 4) C 4 dX7_copies_12 rfl ?_
      refine x_iadd (pc := 14) C dX7_copies_14 ?_
      refine x_aload_n (pc := 15) (i := 0) C 0 dX7_copies_15 rfl rfl ?_
      refine x_iload_n (pc := 16) (i := 1) C 1 dX7_copies_16 rfl rfl ?_
      refine x_iload (pc := 17) (i := 4) C 4 dX7_copies_17 rfl ?_
      refine x_iadd (pc := 19) C dX7_copies_19 ?_
      have h2 := hok.1
      have hok := hok.2
      refine x_iald (pc := 20) (q := 194) C e_M0 h2 dX7_copies_20 ?_
      have h3 := hok.1
      have hok := hok.2
      refine x_iastM (pc := 21) (j := 2) C (by decide) e_M2 e_M2.2 h3 dX7_copies_21 ?_
      refine x_nmM (fun M4 eM4 => ?_)
      have hR := nmE hR eM4
      have hok := hok M4 eM4
      refine x_iinc (pc := 22) (i := 4) (v := (a4 + 1)) (ls2 := [(4, .int (a4 + 1)), (0, .ref (ad 194)), (1, .int a1), (2, .ref (ad 196)), (3, .int a3)]) C 4 dX7_copies_22 rfl rfl (by decide) rfl ?_
      refine x_goto (pc := 25) (tgt := 3) C dX7_copies_25 (by decide) ?_
      refine x_sub [1, 2, 3, 4, 0] (ls2 := [(0, .ref (ad 194)), (1, .int a1), (2, .ref (ad 196)), (3, .int a3), (4, .int (a4 + 1))]) rfl ?_
      exact ih M4 a1 a3 (a4 + 1) R0 hR hok k
set_option maxHeartbeats 4000000 in
set_option maxRecDepth 100000 in
theorem c_X7_copies_M0_M2 {l : Launch} {A : Nat → Prop} {G : GT} {ad : Nat → Nat} (gl : Gl l A ad)  (B : StB) (M : StM) (O : StO) (x1 : Int32) (x3 : Int32) (hok : ok_X7_copies_M0_M2 M x1 x3) : Met l yX7_copies (wof yX7_copies cX7_copies 5 none) (rmd 1 0 0) (va_Pc [.ref (ad 194), .int x1, .ref (ad 196), .int x3] (PW G A ad B M O)) (QV G A ad B (f_X7_copies_M0_M2 M x1 x3) O) 0 0 A := by
  refine x_body (own := RX7) (by decide +kernel) rfl gl (Nat.le_of_ble_eq_true rfl) (ls := [(0, .ref (ad 194)), (1, .int x1), (2, .ref (ad 196)), (3, .int x3)]) rfl ?_
  intro p0 e s m args below meth c C
  have hR : (f_X7_copies_M0_M2 M x1 x3) = (nm (f_X7_copies_M0_M2_L3 fu M x1 x3 0) (fun (z5 : StM) => z5)) := rfl
  have hok : (ok_X7_copies_M0_M2_L3 fu M x1 x3 0) := hok
  refine x_iconst (pc := 0) (v := 0) C dX7_copies_0 (by decide) ?_
  refine x_istore (pc := 1) (i := 4) (ls2 := [(4, .int 0), (0, .ref (ad 194)), (1, .int x1), (2, .ref (ad 196)), (3, .int x3)]) C dX7_copies_1 (by decide) rfl ?_
  refine x_sub [1, 2, 3, 4, 0] (ls2 := [(0, .ref (ad 194)), (1, .int x1), (2, .ref (ad 196)), (3, .int x3), (4, .int 0)]) rfl ?_
  obtain ⟨z5, ez5⟩ : ∃ z : StM, z = f_X7_copies_M0_M2_L3 fu M x1 x3 0 := ⟨_, rfl⟩
  refine t_X7_copies_M0_M2_L3 C fu M x1 x3 0 B O z5 ez5 hok ?_
  have hR := nmE hR ez5
  exact x_vretM (pc := 28) C rfl hR dX7_copies_28
set_option maxHeartbeats 4000000 in
set_option maxRecDepth 100000 in
theorem t_X7_copies_M2_M0_L3 {p0 : Program} {l : Launch} {e : Env} {s : State} {m : MethodId} {args : Array Value} {below : List Frame} {meth : Method} {c : Code} {A : Nat → Prop} {G : GT} {ad : Nat → Nat} {Q : State → Prop} (C : CX p0 l s m args meth c A G ad cX7_copies RX7 5 none)  (n : Nat) (M : StM) (a1 : Int32) (a3 : Int32) (a4 : Int32) (B : StB) (O : StO) : ∀ (R0 : StM) (hR : R0 = f_X7_copies_M2_M0_L3 n M a1 a3 a4) (hok : ok_X7_copies_M2_M0_L3 n M a1 a3 a4) (k : X p0 l e (rmd 1 0 0) s m args below meth c A G ad 5 0 0 Q B R0 O [] 28 []), X p0 l e (rmd 1 0 0) s m args below meth c A G ad 5 0 0 Q B M O [(0, .ref (ad 196)), (1, .int a1), (2, .ref (ad 194)), (3, .int a3), (4, .int a4)] 3 [] := by
  induction n generalizing M a1 a3 a4 with
  | zero => intro R0 hR hok k; exact False.elim hok
  | succ n ih =>
    intro R0 hR hok k
    have hR : R0 = (if 124 ≤ a4 then M else (nm (sma M 0 (ix (a3 + a4)) (ma M 2 (ix (a1 + a4)))) (fun (M4 : StM) => (f_X7_copies_M2_M0_L3 n M4 a1 a3 (a4 + 1))))) := hR
    have hok : ((124 ≤ a4 → True) ∧ (¬ 124 ≤ a4 → (vp_in (a1 + a4) 124 ∧ (vp_in (a3 + a4) 124 ∧ (∀ M4 : StM, M4 = (sma M 0 (ix (a3 + a4)) (ma M 2 (ix (a1 + a4)))) → (ok_X7_copies_M2_M0_L3 n M4 a1 a3 (a4 + 1))))))) := hok
    refine x_iload (pc := 3) (i := 4) C 4 dX7_copies_3 rfl ?_
    refine x_bipush (pc := 5) (v := 124) C dX7_copies_5 (by decide) ?_
    refine x_icmp_ge (pc := 7) (tgt := 28) C dX7_copies_7 (by decide) (fun c1 => ?_) (fun c1 => ?_)
    · have hR := hR.trans (if_pos c1)
      refine x_sub [] (ls2 := []) rfl ?_
      subst hR
      exact k
    · have hR := hR.trans (if_neg c1)
      have hok := hok.2 c1
      refine x_aload_n (pc := 10) (i := 2) C 2 dX7_copies_10 rfl rfl ?_
      refine x_iload_n (pc := 11) (i := 3) C 3 dX7_copies_11 rfl rfl ?_
      refine x_iload (pc := 12) (i := 4) C 4 dX7_copies_12 rfl ?_
      refine x_iadd (pc := 14) C dX7_copies_14 ?_
      refine x_aload_n (pc := 15) (i := 0) C 0 dX7_copies_15 rfl rfl ?_
      refine x_iload_n (pc := 16) (i := 1) C 1 dX7_copies_16 rfl rfl ?_
      refine x_iload (pc := 17) (i := 4) C 4 dX7_copies_17 rfl ?_
      refine x_iadd (pc := 19) C dX7_copies_19 ?_
      have h2 := hok.1
      have hok := hok.2
      refine x_iald (pc := 20) (q := 196) C e_M2 h2 dX7_copies_20 ?_
      have h3 := hok.1
      have hok := hok.2
      refine x_iastM (pc := 21) (j := 0) C (by decide) e_M0 e_M0.2 h3 dX7_copies_21 ?_
      refine x_nmM (fun M4 eM4 => ?_)
      have hR := nmE hR eM4
      have hok := hok M4 eM4
      refine x_iinc (pc := 22) (i := 4) (v := (a4 + 1)) (ls2 := [(4, .int (a4 + 1)), (0, .ref (ad 196)), (1, .int a1), (2, .ref (ad 194)), (3, .int a3)]) C 4 dX7_copies_22 rfl rfl (by decide) rfl ?_
      refine x_goto (pc := 25) (tgt := 3) C dX7_copies_25 (by decide) ?_
      refine x_sub [1, 2, 3, 4, 0] (ls2 := [(0, .ref (ad 196)), (1, .int a1), (2, .ref (ad 194)), (3, .int a3), (4, .int (a4 + 1))]) rfl ?_
      exact ih M4 a1 a3 (a4 + 1) R0 hR hok k
set_option maxHeartbeats 4000000 in
set_option maxRecDepth 100000 in
theorem c_X7_copies_M2_M0 {l : Launch} {A : Nat → Prop} {G : GT} {ad : Nat → Nat} (gl : Gl l A ad)  (B : StB) (M : StM) (O : StO) (x1 : Int32) (x3 : Int32) (hok : ok_X7_copies_M2_M0 M x1 x3) : Met l yX7_copies (wof yX7_copies cX7_copies 5 none) (rmd 1 0 0) (va_Pc [.ref (ad 196), .int x1, .ref (ad 194), .int x3] (PW G A ad B M O)) (QV G A ad B (f_X7_copies_M2_M0 M x1 x3) O) 0 0 A := by
  refine x_body (own := RX7) (by decide +kernel) rfl gl (Nat.le_of_ble_eq_true rfl) (ls := [(0, .ref (ad 196)), (1, .int x1), (2, .ref (ad 194)), (3, .int x3)]) rfl ?_
  intro p0 e s m args below meth c C
  have hR : (f_X7_copies_M2_M0 M x1 x3) = (nm (f_X7_copies_M2_M0_L3 fu M x1 x3 0) (fun (z5 : StM) => z5)) := rfl
  have hok : (ok_X7_copies_M2_M0_L3 fu M x1 x3 0) := hok
  refine x_iconst (pc := 0) (v := 0) C dX7_copies_0 (by decide) ?_
  refine x_istore (pc := 1) (i := 4) (ls2 := [(4, .int 0), (0, .ref (ad 196)), (1, .int x1), (2, .ref (ad 194)), (3, .int x3)]) C dX7_copies_1 (by decide) rfl ?_
  refine x_sub [1, 2, 3, 4, 0] (ls2 := [(0, .ref (ad 196)), (1, .int x1), (2, .ref (ad 194)), (3, .int x3), (4, .int 0)]) rfl ?_
  obtain ⟨z5, ez5⟩ : ∃ z : StM, z = f_X7_copies_M2_M0_L3 fu M x1 x3 0 := ⟨_, rfl⟩
  refine t_X7_copies_M2_M0_L3 C fu M x1 x3 0 B O z5 ez5 hok ?_
  have hR := nmE hR ez5
  exact x_vretM (pc := 28) C rfl hR dX7_copies_28
set_option maxHeartbeats 4000000 in
set_option maxRecDepth 100000 in
theorem c_X7_goes {l : Launch} {A : Nat → Prop} {G : GT} {ad : Nat → Nat} (gl : Gl l A ad)  (B : StB) (M : StM) (O : StO) (x0 : Int32) (hok : ok_X7_goes M x0) : Met l yX7_goes (wof yX7_goes cX7_goes 2 (some .boolean)) (rmd 2 0 0) (va_Pc [.ref (ad 193), .int x0] (PW G A ad B M O)) (QI G A ad (f_X7_goes M x0).1 B (f_X7_goes M x0).2 O) 0 0 A := by
  refine x_body (own := RX7) (by decide +kernel) rfl gl (Nat.le_of_ble_eq_true rfl) (ls := [(0, .ref (ad 193)), (1, .int x0)]) rfl ?_
  intro p0 e s m args below meth c C
  have hR : (f_X7_goes M x0) = (nm (f_X7_holds M x0 1 1 1) (fun (z1 : Int32 × StM) => (z1.1, z1.2))) := rfl
  have hok : (∀ z1 : Int32 × StM, z1 = (f_X7_holds M x0 1 1 1) → (narrow .boolean (.int z1.1) = .int z1.1)) := hok
  refine x_aload_n (pc := 0) (i := 0) C 0 dX7_goes_0 rfl rfl ?_
  refine x_iload_n (pc := 1) (i := 1) C 1 dX7_goes_1 rfl rfl ?_
  refine x_iconst (pc := 2) (v := 1) C dX7_goes_2 (by decide) ?_
  refine x_iconst (pc := 3) (v := 1) C dX7_goes_3 (by decide) ?_
  refine x_iconst (pc := 4) (v := 1) C dX7_goes_4 (by decide) ?_
  refine x_cIV (pc := 5) (as := [.int x0, .int 1, .int 1, .int 1]) (q := 193) C (c_X7_holds C.2.2.2.2.2.2.2.1  B M O x0 1 1 1) (fs := _) e_M rfl cv_X7_holds cd_X7_holds wd_7_63 ⟨Nat.le_of_ble_eq_true rfl, Nat.le_of_ble_eq_true rfl⟩ ⟨Nat.le_of_ble_eq_true rfl, Nat.le_of_ble_eq_true rfl⟩ rfl rfl (Nat.le_of_ble_eq_true rfl) dX7_goes_5 ?_
  refine x_nmIM (fun z1 ez1 => ?_)
  have hR := nmE hR ez1
  have hok := hok z1 ez1
  have h2 := hok
  exact x_zretM (pc := 8) C rfl h2 hR dX7_goes_8
set_option maxHeartbeats 4000000 in
set_option maxRecDepth 100000 in
theorem c_X7_save {l : Launch} {A : Nat → Prop} {G : GT} {ad : Nat → Nat} (gl : Gl l A ad)  (B : StB) (M : StM) (O : StO)  (hok : ok_X7_save M) : Met l yX7_save (wof yX7_save cX7_save 1 (some .int)) (rmd 2 0 0) (va_Pc [.ref (ad 193)] (PW G A ad B M O)) (QI G A ad (f_X7_save M).1 B (f_X7_save M).2 O) 0 0 A := by
  refine x_body (own := RX7) (by decide +kernel) rfl gl (Nat.le_of_ble_eq_true rfl) (ls := [(0, .ref (ad 193))]) rfl ?_
  intro p0 e s m args below meth c C
  have hR : (f_X7_save M) = (nm (smi M 15 0) (fun (M1 : StM) => (nm (f_X7_copies_M0_M3 M1 0 0) (fun (M3 : StM) => (nm (smi M3 5 1) (fun (M4 : StM) => ((ma M4 0 (ix 0)), M4))))))) := rfl
  have hok : (∀ M1 : StM, M1 = (smi M 15 0) → ((ok_X7_copies_M0_M3 M1 0 0))) := hok
  refine x_aload_n (pc := 0) (i := 0) C 0 dX7_save_0 rfl rfl ?_
  refine x_iconst (pc := 1) (v := 0) C dX7_save_1 (by decide) ?_
  refine x_put (pc := 2) (M2 := (smi M 15 0)) (B2 := B) (O2 := O) (q := 193) (i := 15) C tyX7 tyX7_ok nmX7 e_M rfl ttX7 (by decide) wd_7_2 rfl rfl rfl (Nat.le_of_ble_eq_true rfl) dX7_save_2 (put_M_15 ) (o_smi 15 0) ?_
  refine x_nmM (fun M1 eM1 => ?_)
  have hR := nmE hR eM1
  have hok := hok M1 eM1
  refine x_aload_n (pc := 5) (i := 0) C 0 dX7_save_5 rfl rfl ?_
  refine x_get (pc := 6) (q := 193) (i := 0) C e_M rfl ttX7 (by decide) wd_6_227 rfl dX7_save_6 ?_
  refine x_iconst (pc := 9) (v := 0) C dX7_save_9 (by decide) ?_
  refine x_aload_n (pc := 10) (i := 0) C 0 dX7_save_10 rfl rfl ?_
  refine x_get (pc := 11) (q := 193) (i := 3) C e_M rfl ttX7 (by decide) wd_6_230 rfl dX7_save_11 ?_
  refine x_iconst (pc := 14) (v := 0) C dX7_save_14 (by decide) ?_
  have h2 := hok
  refine x_cVS (pc := 15) (as := [.ref (ad 194), .int 0, .ref (ad 197), .int 0]) C (c_X7_copies_M0_M3 C.2.2.2.2.2.2.2.1  B M1 O 0 0 h2) wd_7_68 cd_X7_copies wd_7_67 ⟨Nat.le_of_ble_eq_true rfl, Nat.le_of_ble_eq_true rfl⟩ ⟨Nat.le_of_ble_eq_true rfl, Nat.le_of_ble_eq_true rfl⟩ rfl rfl (Nat.le_of_ble_eq_true rfl) dX7_save_15 ?_
  refine x_nmM (fun M3 eM3 => ?_)
  have hR := nmE hR eM3
  refine x_aload_n (pc := 18) (i := 0) C 0 dX7_save_18 rfl rfl ?_
  refine x_iconst (pc := 19) (v := 1) C dX7_save_19 (by decide) ?_
  refine x_put (pc := 20) (M2 := (smi M3 5 1)) (B2 := B) (O2 := O) (q := 193) (i := 5) C tyX7 tyX7_ok nmX7 e_M rfl ttX7 (by decide) wd_6_232 rfl (by decide) (by decide) (Nat.le_of_ble_eq_true rfl) dX7_save_20 (put_M_5 ) (o_smi 5 1) ?_
  refine x_nmM (fun M4 eM4 => ?_)
  have hR := nmE hR eM4
  refine x_aload_n (pc := 23) (i := 0) C 0 dX7_save_23 rfl rfl ?_
  refine x_get (pc := 24) (q := 193) (i := 0) C e_M rfl ttX7 (by decide) wd_6_227 rfl dX7_save_24 ?_
  refine x_iconst (pc := 27) (v := 0) C dX7_save_27 (by decide) ?_
  have h5 : vp_in (0) 124 := (by decide : ¬ ((0 : Int32) < 0 ∨ 124 ≤ Int32.toNatClampNeg 0))
  refine x_iald (pc := 28) (q := 194) C e_M0 h5 dX7_save_28 ?_
  exact x_iretM (pc := 29) C rfl hR dX7_save_29
set_option maxHeartbeats 4000000 in
set_option maxRecDepth 100000 in
theorem c_X7_begins {l : Launch} {A : Nat → Prop} {G : GT} {ad : Nat → Nat} (gl : Gl l A ad)  (B : StB) (M : StM) (O : StO)  (hok : ok_X7_begins M) : Met l yX7_begins (wof yX7_begins cX7_begins 1 none) (rmd 2 0 0) (va_Pc [.ref (ad 193)] (PW G A ad B M O)) (QV G A ad B (f_X7_begins M) O) 0 0 A := by
  refine x_body (own := RX7) (by decide +kernel) rfl gl (Nat.le_of_ble_eq_true rfl) (ls := [(0, .ref (ad 193))]) rfl ?_
  intro p0 e s m args below meth c C
  have hR : (f_X7_begins M) = (nm (f_X7_copies_M0_M1 M 0 0) (fun (M2 : StM) => M2)) := rfl
  have hok : ((ok_X7_copies_M0_M1 M 0 0)) := hok
  refine x_aload_n (pc := 0) (i := 0) C 0 dX7_begins_0 rfl rfl ?_
  refine x_get (pc := 1) (q := 193) (i := 0) C e_M rfl ttX7 (by decide) wd_6_227 rfl dX7_begins_1 ?_
  refine x_iconst (pc := 4) (v := 0) C dX7_begins_4 (by decide) ?_
  refine x_aload_n (pc := 5) (i := 0) C 0 dX7_begins_5 rfl rfl ?_
  refine x_get (pc := 6) (q := 193) (i := 1) C e_M rfl ttX7 (by decide) wd_6_228 rfl dX7_begins_6 ?_
  refine x_iconst (pc := 9) (v := 0) C dX7_begins_9 (by decide) ?_
  have h1 := hok
  refine x_cVS (pc := 10) (as := [.ref (ad 194), .int 0, .ref (ad 195), .int 0]) C (c_X7_copies_M0_M1 C.2.2.2.2.2.2.2.1  B M O 0 0 h1) wd_7_68 cd_X7_copies wd_7_67 ⟨Nat.le_of_ble_eq_true rfl, Nat.le_of_ble_eq_true rfl⟩ ⟨Nat.le_of_ble_eq_true rfl, Nat.le_of_ble_eq_true rfl⟩ rfl rfl (Nat.le_of_ble_eq_true rfl) dX7_begins_10 ?_
  refine x_nmM (fun M2 eM2 => ?_)
  have hR := nmE hR eM2
  exact x_vretM (pc := 13) C rfl hR dX7_begins_13
set_option maxHeartbeats 4000000 in
set_option maxRecDepth 100000 in
theorem t_X7_opens_L52 {p0 : Program} {l : Launch} {e : Env} {s : State} {m : MethodId} {args : Array Value} {below : List Frame} {meth : Method} {c : Code} {A : Nat → Prop} {G : GT} {ad : Nat → Nat} {Q : State → Prop} (C : CX p0 l s m args meth c A G ad cX7_opens RX7 3 (some .int))  (n : Nat) (M : StM) (a2 : Int32) (B : StB) (O : StO) : ∀ (R0 : StM) (hR : R0 = f_X7_opens_L52 n M a2) (hok : ok_X7_opens_L52 n M a2) (k : X p0 l e (rmd 2 0 0) s m args below meth c A G ad 3 0 0 Q B R0 O [(0, .ref (ad 193))] 80 []), X p0 l e (rmd 2 0 0) s m args below meth c A G ad 3 0 0 Q B M O [(0, .ref (ad 193)), (2, .int a2)] 52 [] := by
  induction n generalizing M a2 with
  | zero => intro R0 hR hok k; exact False.elim hok
  | succ n ih =>
    intro R0 hR hok k
    have hR : R0 = (if 4 ≤ a2 then M else (nm (f_X7_accountAt (ma M 0 (ix 1))) (fun (r12 : Int32) => (nm (sma M 0 (ix (r12 + a2)) 0) (fun (M14 : StM) => (f_X7_opens_L52 n M14 (a2 + 1))))))) := hR
    have hok : ((4 ≤ a2 → True) ∧ (¬ 4 ≤ a2 → (∀ r12 : Int32, r12 = (f_X7_accountAt (ma M 0 (ix 1))) → (vp_in (r12 + a2) 124 ∧ (∀ M14 : StM, M14 = (sma M 0 (ix (r12 + a2)) 0) → (ok_X7_opens_L52 n M14 (a2 + 1))))))) := hok
    refine x_iload_n (pc := 52) (i := 2) C 1 dX7_opens_52 rfl rfl ?_
    refine x_iconst (pc := 53) (v := 4) C dX7_opens_53 (by decide) ?_
    refine x_icmp_ge (pc := 54) (tgt := 80) C dX7_opens_54 (by decide) (fun c10 => ?_) (fun c10 => ?_)
    · have hR := hR.trans (if_pos c10)
      refine x_sub [0] (ls2 := [(0, .ref (ad 193))]) rfl ?_
      subst hR
      exact k
    · have hR := hR.trans (if_neg c10)
      have hok := hok.2 c10
      refine x_aload_n (pc := 57) (i := 0) C 0 dX7_opens_57 rfl rfl ?_
      refine x_get (pc := 58) (q := 193) (i := 0) C e_M rfl ttX7 (by decide) wd_6_227 rfl dX7_opens_58 ?_
      refine x_aload_n (pc := 61) (i := 0) C 0 dX7_opens_61 rfl rfl ?_
      refine x_get (pc := 62) (q := 193) (i := 0) C e_M rfl ttX7 (by decide) wd_6_227 rfl dX7_opens_62 ?_
      refine x_iconst (pc := 65) (v := 1) C dX7_opens_65 (by decide) ?_
      have h11 : vp_in (1) 124 := (by decide : ¬ ((1 : Int32) < 0 ∨ 124 ≤ Int32.toNatClampNeg 1))
      refine x_iald (pc := 66) (q := 194) C e_M0 h11 dX7_opens_66 ?_
      refine x_cIS (pc := 67) (as := [.int (ma M 0 (ix 1))]) C (c_X7_accountAt C.2.2.2.2.2.2.2.1  B M O (ma M 0 (ix 1))) wd_7_94 cd_X7_accountAt wd_7_93 ⟨Nat.le_of_ble_eq_true rfl, Nat.le_of_ble_eq_true rfl⟩ ⟨Nat.le_of_ble_eq_true rfl, Nat.le_of_ble_eq_true rfl⟩ rfl rfl (Nat.le_of_ble_eq_true rfl) dX7_opens_67 ?_
      refine x_nmI (fun r12 er12 => ?_)
      have hR := nmE hR er12
      have hok := hok r12 er12
      refine x_iload_n (pc := 70) (i := 2) C 1 dX7_opens_70 rfl rfl ?_
      refine x_iadd (pc := 71) C dX7_opens_71 ?_
      refine x_iconst (pc := 72) (v := 0) C dX7_opens_72 (by decide) ?_
      have h13 := hok.1
      have hok := hok.2
      refine x_iastM (pc := 73) (j := 0) C (by decide) e_M0 e_M0.2 h13 dX7_opens_73 ?_
      refine x_nmM (fun M14 eM14 => ?_)
      have hR := nmE hR eM14
      have hok := hok M14 eM14
      refine x_iinc (pc := 74) (i := 2) (v := (a2 + 1)) (ls2 := [(2, .int (a2 + 1)), (0, .ref (ad 193))]) C 1 dX7_opens_74 rfl rfl (by decide) rfl ?_
      refine x_goto (pc := 77) (tgt := 52) C dX7_opens_77 (by decide) ?_
      refine x_sub [1, 0] (ls2 := [(0, .ref (ad 193)), (2, .int (a2 + 1))]) rfl ?_
      exact ih M14 (a2 + 1) R0 hR hok k
set_option maxHeartbeats 4000000 in
set_option maxRecDepth 100000 in
theorem t_X7_opens_J23 {p0 : Program} {l : Launch} {e : Env} {s : State} {m : MethodId} {args : Array Value} {below : List Frame} {meth : Method} {c : Code} {A : Nat → Prop} {G : GT} {ad : Nat → Nat} (C : CX p0 l s m args meth c A G ad cX7_opens RX7 3 (some .int))  (M : StM) (a1 : Int32) (s0 : Int32) (s1 : Int32) (B : StB) (O : StO) (R0 : Int32 × StM) (hR : R0 = f_X7_opens_J23 M a1 s0 s1) (hok : ok_X7_opens_J23 M a1 s0 s1) : X p0 l e (rmd 2 0 0) s m args below meth c A G ad 3 0 0 (MQ below (QI G A ad R0.1 B R0.2 O) args s 0 0 A) B M O [(0, .ref (ad 193)), (1, .int a1)] 23 [.int s0, .int s1, .ref (ad 193)] := by
  have hR : R0 = (nm (f_X7_holds M s1 s0 1 1) (fun (z4 : Int32 × StM) => (if z4.1 = 0 then (0, z4.2) else (nm (f_X7_accountAt (ma z4.2 0 (ix 1))) (fun (r7 : Int32) => (nm (sma z4.2 0 (ix (r7 + 0)) a1) (fun (M9 : StM) => (nm (f_X7_opens_L52 fu M9 1) (fun (z15 : StM) => (nm (sma z15 0 (ix 1) ((ma z15 0 (ix 1)) + 1)) (fun (M18 : StM) => (((ma M18 0 (ix 1)) - 1), M18)))))))))))) := hR
  have hok : (∀ z4 : Int32 × StM, z4 = (f_X7_holds M s1 s0 1 1) → ((z4.1 = 0 → True) ∧ (¬ z4.1 = 0 → (∀ r7 : Int32, r7 = (f_X7_accountAt (ma z4.2 0 (ix 1))) → (vp_in (r7 + 0) 124 ∧ (∀ M9 : StM, M9 = (sma z4.2 0 (ix (r7 + 0)) a1) → (ok_X7_opens_L52 fu M9 1))))))) := hok
  refine x_iconst (pc := 23) (v := 1) C dX7_opens_23 (by decide) ?_
  refine x_iconst (pc := 24) (v := 1) C dX7_opens_24 (by decide) ?_
  refine x_cIV (pc := 25) (as := [.int s1, .int s0, .int 1, .int 1]) (q := 193) C (c_X7_holds C.2.2.2.2.2.2.2.1  B M O s1 s0 1 1) (fs := _) e_M rfl cv_X7_holds cd_X7_holds wd_7_63 ⟨Nat.le_of_ble_eq_true rfl, Nat.le_of_ble_eq_true rfl⟩ ⟨Nat.le_of_ble_eq_true rfl, Nat.le_of_ble_eq_true rfl⟩ rfl rfl (Nat.le_of_ble_eq_true rfl) dX7_opens_25 ?_
  refine x_nmIM (fun z4 ez4 => ?_)
  have hR := nmE hR ez4
  have hok := hok z4 ez4
  refine x_if_ne (pc := 28) (tgt := 33) C dX7_opens_28 (by decide) (fun c5 => ?_) (fun c5 => ?_)
  · have hR := hR.trans (if_neg c5)
    have hok := hok.2 c5
    refine x_aload_n (pc := 33) (i := 0) C 0 dX7_opens_33 rfl rfl ?_
    refine x_get (pc := 34) (q := 193) (i := 0) C e_M rfl ttX7 (by decide) wd_6_227 rfl dX7_opens_34 ?_
    refine x_aload_n (pc := 37) (i := 0) C 0 dX7_opens_37 rfl rfl ?_
    refine x_get (pc := 38) (q := 193) (i := 0) C e_M rfl ttX7 (by decide) wd_6_227 rfl dX7_opens_38 ?_
    refine x_iconst (pc := 41) (v := 1) C dX7_opens_41 (by decide) ?_
    have h6 : vp_in (1) 124 := (by decide : ¬ ((1 : Int32) < 0 ∨ 124 ≤ Int32.toNatClampNeg 1))
    refine x_iald (pc := 42) (q := 194) C e_M0 h6 dX7_opens_42 ?_
    refine x_cIS (pc := 43) (as := [.int (ma z4.2 0 (ix 1))]) C (c_X7_accountAt C.2.2.2.2.2.2.2.1  B z4.2 O (ma z4.2 0 (ix 1))) wd_7_94 cd_X7_accountAt wd_7_93 ⟨Nat.le_of_ble_eq_true rfl, Nat.le_of_ble_eq_true rfl⟩ ⟨Nat.le_of_ble_eq_true rfl, Nat.le_of_ble_eq_true rfl⟩ rfl rfl (Nat.le_of_ble_eq_true rfl) dX7_opens_43 ?_
    refine x_nmI (fun r7 er7 => ?_)
    have hR := nmE hR er7
    have hok := hok r7 er7
    refine x_iconst (pc := 46) (v := 0) C dX7_opens_46 (by decide) ?_
    refine x_iadd (pc := 47) C dX7_opens_47 ?_
    refine x_iload_n (pc := 48) (i := 1) C 1 dX7_opens_48 rfl rfl ?_
    have h8 := hok.1
    have hok := hok.2
    refine x_iastM (pc := 49) (j := 0) C (by decide) e_M0 e_M0.2 h8 dX7_opens_49 ?_
    refine x_nmM (fun M9 eM9 => ?_)
    have hR := nmE hR eM9
    have hok := hok M9 eM9
    refine x_iconst (pc := 50) (v := 1) C dX7_opens_50 (by decide) ?_
    refine x_istore_n (pc := 51) (i := 2) (ls2 := [(2, .int 1), (0, .ref (ad 193)), (1, .int a1)]) C dX7_opens_51 rfl (by decide) rfl ?_
    refine x_sub [1, 0] (ls2 := [(0, .ref (ad 193)), (2, .int 1)]) rfl ?_
    obtain ⟨z15, ez15⟩ : ∃ z : StM, z = f_X7_opens_L52 fu M9 1 := ⟨_, rfl⟩
    refine t_X7_opens_L52 C fu M9 1 B O z15 ez15 hok ?_
    have hR := nmE hR ez15
    refine x_aload_n (pc := 80) (i := 0) C 0 dX7_opens_80 rfl rfl ?_
    refine x_get (pc := 81) (q := 193) (i := 0) C e_M rfl ttX7 (by decide) wd_6_227 rfl dX7_opens_81 ?_
    refine x_iconst (pc := 84) (v := 1) C dX7_opens_84 (by decide) ?_
    refine x_dup2 (pc := 85) C dX7_opens_85 rfl rfl ?_
    have h16 : vp_in (1) 124 := (by decide : ¬ ((1 : Int32) < 0 ∨ 124 ≤ Int32.toNatClampNeg 1))
    refine x_iald (pc := 86) (q := 194) C e_M0 h16 dX7_opens_86 ?_
    refine x_iconst (pc := 87) (v := 1) C dX7_opens_87 (by decide) ?_
    refine x_iadd (pc := 88) C dX7_opens_88 ?_
    have h17 : vp_in (1) 124 := (by decide : ¬ ((1 : Int32) < 0 ∨ 124 ≤ Int32.toNatClampNeg 1))
    refine x_iastM (pc := 89) (j := 0) C (by decide) e_M0 e_M0.2 h17 dX7_opens_89 ?_
    refine x_nmM (fun M18 eM18 => ?_)
    have hR := nmE hR eM18
    refine x_aload_n (pc := 90) (i := 0) C 0 dX7_opens_90 rfl rfl ?_
    refine x_get (pc := 91) (q := 193) (i := 0) C e_M rfl ttX7 (by decide) wd_6_227 rfl dX7_opens_91 ?_
    refine x_iconst (pc := 94) (v := 1) C dX7_opens_94 (by decide) ?_
    have h19 : vp_in (1) 124 := (by decide : ¬ ((1 : Int32) < 0 ∨ 124 ≤ Int32.toNatClampNeg 1))
    refine x_iald (pc := 95) (q := 194) C e_M0 h19 dX7_opens_95 ?_
    refine x_iconst (pc := 96) (v := 1) C dX7_opens_96 (by decide) ?_
    refine x_isub (pc := 97) C dX7_opens_97 ?_
    exact x_iretM (pc := 98) C rfl hR dX7_opens_98
  · have hR := hR.trans (if_pos c5)
    refine x_iconst (pc := 31) (v := 0) C dX7_opens_31 (by decide) ?_
    exact x_iretM (pc := 32) C rfl hR dX7_opens_32
set_option maxHeartbeats 4000000 in
set_option maxRecDepth 100000 in
theorem c_X7_opens {l : Launch} {A : Nat → Prop} {G : GT} {ad : Nat → Nat} (gl : Gl l A ad)  (B : StB) (M : StM) (O : StO) (x0 : Int32) (hok : ok_X7_opens M x0) : Met l yX7_opens (wof yX7_opens cX7_opens 3 (some .int)) (rmd 2 0 0) (va_Pc [.ref (ad 193), .int x0] (PW G A ad B M O)) (QI G A ad (f_X7_opens M x0).1 B (f_X7_opens M x0).2 O) 0 0 A := by
  refine x_body (own := RX7) (by decide +kernel) rfl gl (Nat.le_of_ble_eq_true rfl) (ls := [(0, .ref (ad 193)), (1, .int x0)]) rfl ?_
  intro p0 e s m args below meth c C
  have hR : (f_X7_opens M x0) = (nm (f_X7_isIn x0 0 3) (fun (r1 : Int32) => (if 8 ≤ (ma M 0 (ix 1)) then (f_X7_opens_J23 M x0 0 r1) else (f_X7_opens_J23 M x0 1 r1)))) := rfl
  have hok : (∀ r1 : Int32, r1 = (f_X7_isIn x0 0 3) → ((8 ≤ (ma M 0 (ix 1)) → (ok_X7_opens_J23 M x0 0 r1)) ∧ (¬ 8 ≤ (ma M 0 (ix 1)) → (ok_X7_opens_J23 M x0 1 r1)))) := hok
  refine x_aload_n (pc := 0) (i := 0) C 0 dX7_opens_0 rfl rfl ?_
  refine x_iload_n (pc := 1) (i := 1) C 1 dX7_opens_1 rfl rfl ?_
  refine x_iconst (pc := 2) (v := 0) C dX7_opens_2 (by decide) ?_
  refine x_iconst (pc := 3) (v := 3) C dX7_opens_3 (by decide) ?_
  refine x_cIS (pc := 4) (as := [.int x0, .int 0, .int 3]) C (c_X7_isIn C.2.2.2.2.2.2.2.1  B M O x0 0 3) wd_7_91 cd_X7_isIn wd_7_90 ⟨Nat.le_of_ble_eq_true rfl, Nat.le_of_ble_eq_true rfl⟩ ⟨Nat.le_of_ble_eq_true rfl, Nat.le_of_ble_eq_true rfl⟩ rfl rfl (Nat.le_of_ble_eq_true rfl) dX7_opens_4 ?_
  refine x_nmI (fun r1 er1 => ?_)
  have hR := nmE hR er1
  have hok := hok r1 er1
  refine x_aload_n (pc := 7) (i := 0) C 0 dX7_opens_7 rfl rfl ?_
  refine x_get (pc := 8) (q := 193) (i := 0) C e_M rfl ttX7 (by decide) wd_6_227 rfl dX7_opens_8 ?_
  refine x_iconst (pc := 11) (v := 1) C dX7_opens_11 (by decide) ?_
  have h2 : vp_in (1) 124 := (by decide : ¬ ((1 : Int32) < 0 ∨ 124 ≤ Int32.toNatClampNeg 1))
  refine x_iald (pc := 12) (q := 194) C e_M0 h2 dX7_opens_12 ?_
  refine x_bipush (pc := 13) (v := 8) C dX7_opens_13 (by decide) ?_
  refine x_icmp_ge (pc := 15) (tgt := 22) C dX7_opens_15 (by decide) (fun c3 => ?_) (fun c3 => ?_)
  · have hR := hR.trans (if_pos c3)
    have hok := hok.1 c3
    refine x_iconst (pc := 22) (v := 0) C dX7_opens_22 (by decide) ?_
    refine x_sub [0, 1] (ls2 := [(0, .ref (ad 193)), (1, .int x0)]) rfl ?_
    exact t_X7_opens_J23 C M x0 0 r1 B O _ hR hok
  · have hR := hR.trans (if_neg c3)
    have hok := hok.2 c3
    refine x_iconst (pc := 18) (v := 1) C dX7_opens_18 (by decide) ?_
    refine x_goto (pc := 19) (tgt := 23) C dX7_opens_19 (by decide) ?_
    refine x_sub [0, 1] (ls2 := [(0, .ref (ad 193)), (1, .int x0)]) rfl ?_
    exact t_X7_opens_J23 C M x0 1 r1 B O _ hR hok
set_option maxHeartbeats 4000000 in
set_option maxRecDepth 100000 in
theorem t_X7_remembers_J49 {p0 : Program} {l : Launch} {e : Env} {s : State} {m : MethodId} {args : Array Value} {below : List Frame} {meth : Method} {c : Code} {A : Nat → Prop} {G : GT} {ad : Nat → Nat} (C : CX p0 l s m args meth c A G ad cX7_remembers RX7 2 none)  (M : StM)  (B : StB) (O : StO) (R0 : StM) (hR : R0 = f_X7_remembers_J49 M) (hok : ok_X7_remembers_J49 M) : X p0 l e (rmd 2 0 0) s m args below meth c A G ad 2 0 0 (MQ below (QV G A ad B R0 O) args s 0 0 A) B M O [(0, .ref (ad 193))] 49 [] := by
  have hR : R0 = (nm (f_X7_copies_M1_M4 M 0 ((mi M 6) * 124)) (fun (M3 : StM) => (nm (smi M3 6 ((mi M3 6) + 1)) (fun (M4 : StM) => M4)))) := hR
  have hok : ((ok_X7_copies_M1_M4 M 0 ((mi M 6) * 124))) := hok
  refine x_aload_n (pc := 49) (i := 0) C 0 dX7_remembers_49 rfl rfl ?_
  refine x_get (pc := 50) (q := 193) (i := 1) C e_M rfl ttX7 (by decide) wd_6_228 rfl dX7_remembers_50 ?_
  refine x_iconst (pc := 53) (v := 0) C dX7_remembers_53 (by decide) ?_
  refine x_aload_n (pc := 54) (i := 0) C 0 dX7_remembers_54 rfl rfl ?_
  refine x_get (pc := 55) (q := 193) (i := 4) C e_M rfl ttX7 (by decide) wd_6_231 rfl dX7_remembers_55 ?_
  refine x_aload_n (pc := 58) (i := 0) C 0 dX7_remembers_58 rfl rfl ?_
  refine x_get (pc := 59) (q := 193) (i := 6) C e_M rfl ttX7 (by decide) wd_6_233 rfl dX7_remembers_59 ?_
  refine x_bipush (pc := 62) (v := 124) C dX7_remembers_62 (by decide) ?_
  refine x_imul (pc := 64) C dX7_remembers_64 ?_
  have h2 := hok
  refine x_cVS (pc := 65) (as := [.ref (ad 195), .int 0, .ref (ad 198), .int ((mi M 6) * 124)]) C (c_X7_copies_M1_M4 C.2.2.2.2.2.2.2.1  B M O 0 ((mi M 6) * 124) h2) wd_7_68 cd_X7_copies wd_7_67 ⟨Nat.le_of_ble_eq_true rfl, Nat.le_of_ble_eq_true rfl⟩ ⟨Nat.le_of_ble_eq_true rfl, Nat.le_of_ble_eq_true rfl⟩ rfl rfl (Nat.le_of_ble_eq_true rfl) dX7_remembers_65 ?_
  refine x_nmM (fun M3 eM3 => ?_)
  have hR := nmE hR eM3
  refine x_aload_n (pc := 68) (i := 0) C 0 dX7_remembers_68 rfl rfl ?_
  refine x_dup (pc := 69) C dX7_remembers_69 rfl ?_
  refine x_get (pc := 70) (q := 193) (i := 6) C e_M rfl ttX7 (by decide) wd_6_233 rfl dX7_remembers_70 ?_
  refine x_iconst (pc := 73) (v := 1) C dX7_remembers_73 (by decide) ?_
  refine x_iadd (pc := 74) C dX7_remembers_74 ?_
  refine x_put (pc := 75) (M2 := (smi M3 6 ((mi M3 6) + 1))) (B2 := B) (O2 := O) (q := 193) (i := 6) C tyX7 tyX7_ok nmX7 e_M rfl ttX7 (by decide) wd_6_233 rfl rfl rfl (Nat.le_of_ble_eq_true rfl) dX7_remembers_75 (put_M_6 ) (o_smi 6 ((mi M3 6) + 1)) ?_
  refine x_nmM (fun M4 eM4 => ?_)
  have hR := nmE hR eM4
  exact x_vretM (pc := 78) C rfl hR dX7_remembers_78
set_option maxHeartbeats 4000000 in
set_option maxRecDepth 100000 in
theorem t_X7_remembers_L11 {p0 : Program} {l : Launch} {e : Env} {s : State} {m : MethodId} {args : Array Value} {below : List Frame} {meth : Method} {c : Code} {A : Nat → Prop} {G : GT} {ad : Nat → Nat} {Q : State → Prop} (C : CX p0 l s m args meth c A G ad cX7_remembers RX7 2 none)  (n : Nat) (M : StM) (a1 : Int32) (B : StB) (O : StO) : ∀ (R0 : StM) (hR : R0 = f_X7_remembers_L11 n M a1) (hok : ok_X7_remembers_L11 n M a1) (k : X p0 l e (rmd 2 0 0) s m args below meth c A G ad 2 0 0 Q B R0 O [(0, .ref (ad 193))] 39 []), X p0 l e (rmd 2 0 0) s m args below meth c A G ad 2 0 0 Q B M O [(0, .ref (ad 193)), (1, .int a1)] 11 [] := by
  induction n generalizing M a1 with
  | zero => intro R0 hR hok k; exact False.elim hok
  | succ n ih =>
    intro R0 hR hok k
    have hR : R0 = (if 868 ≤ a1 then M else (nm (sma M 4 (ix a1) (ma M 4 (ix (a1 + 124)))) (fun (M8 : StM) => (f_X7_remembers_L11 n M8 (a1 + 1))))) := hR
    have hok : ((868 ≤ a1 → True) ∧ (¬ 868 ≤ a1 → (vp_in (a1 + 124) 992 ∧ (vp_in a1 992 ∧ (∀ M8 : StM, M8 = (sma M 4 (ix a1) (ma M 4 (ix (a1 + 124)))) → (ok_X7_remembers_L11 n M8 (a1 + 1))))))) := hok
    refine x_iload_n (pc := 11) (i := 1) C 1 dX7_remembers_11 rfl rfl ?_
    refine x_sipush (pc := 12) (v := 868) C dX7_remembers_12 (by decide) ?_
    refine x_icmp_ge (pc := 15) (tgt := 39) C dX7_remembers_15 (by decide) (fun c5 => ?_) (fun c5 => ?_)
    · have hR := hR.trans (if_pos c5)
      refine x_sub [0] (ls2 := [(0, .ref (ad 193))]) rfl ?_
      subst hR
      exact k
    · have hR := hR.trans (if_neg c5)
      have hok := hok.2 c5
      refine x_aload_n (pc := 18) (i := 0) C 0 dX7_remembers_18 rfl rfl ?_
      refine x_get (pc := 19) (q := 193) (i := 4) C e_M rfl ttX7 (by decide) wd_6_231 rfl dX7_remembers_19 ?_
      refine x_iload_n (pc := 22) (i := 1) C 1 dX7_remembers_22 rfl rfl ?_
      refine x_aload_n (pc := 23) (i := 0) C 0 dX7_remembers_23 rfl rfl ?_
      refine x_get (pc := 24) (q := 193) (i := 4) C e_M rfl ttX7 (by decide) wd_6_231 rfl dX7_remembers_24 ?_
      refine x_iload_n (pc := 27) (i := 1) C 1 dX7_remembers_27 rfl rfl ?_
      refine x_bipush (pc := 28) (v := 124) C dX7_remembers_28 (by decide) ?_
      refine x_iadd (pc := 30) C dX7_remembers_30 ?_
      have h6 := hok.1
      have hok := hok.2
      refine x_iald (pc := 31) (q := 198) C e_M4 h6 dX7_remembers_31 ?_
      have h7 := hok.1
      have hok := hok.2
      refine x_iastM (pc := 32) (j := 4) C (by decide) e_M4 e_M4.2 h7 dX7_remembers_32 ?_
      refine x_nmM (fun M8 eM8 => ?_)
      have hR := nmE hR eM8
      have hok := hok M8 eM8
      refine x_iinc (pc := 33) (i := 1) (v := (a1 + 1)) (ls2 := [(1, .int (a1 + 1)), (0, .ref (ad 193))]) C 1 dX7_remembers_33 rfl rfl (by decide) rfl ?_
      refine x_goto (pc := 36) (tgt := 11) C dX7_remembers_36 (by decide) ?_
      refine x_sub [1, 0] (ls2 := [(0, .ref (ad 193)), (1, .int (a1 + 1))]) rfl ?_
      exact ih M8 (a1 + 1) R0 hR hok k
set_option maxHeartbeats 4000000 in
set_option maxRecDepth 100000 in
theorem c_X7_remembers {l : Launch} {A : Nat → Prop} {G : GT} {ad : Nat → Nat} (gl : Gl l A ad)  (B : StB) (M : StM) (O : StO)  (hok : ok_X7_remembers M) : Met l yX7_remembers (wof yX7_remembers cX7_remembers 2 none) (rmd 2 0 0) (va_Pc [.ref (ad 193)] (PW G A ad B M O)) (QV G A ad B (f_X7_remembers M) O) 0 0 A := by
  refine x_body (own := RX7) (by decide +kernel) rfl gl (Nat.le_of_ble_eq_true rfl) (ls := [(0, .ref (ad 193))]) rfl ?_
  intro p0 e s m args below meth c C
  have hR : (f_X7_remembers M) = (if (mi M 6) = 8 then (nm (f_X7_remembers_L11 fu M 0) (fun (z9 : StM) => (nm (smi z9 6 ((mi z9 6) - 1)) (fun (M10 : StM) => (f_X7_remembers_J49 M10))))) else (f_X7_remembers_J49 M)) := rfl
  have hok : (((mi M 6) = 8 → ((ok_X7_remembers_L11 fu M 0) ∧ ∀ z9 : StM, z9 = f_X7_remembers_L11 fu M 0 → (∀ M10 : StM, M10 = (smi z9 6 ((mi z9 6) - 1)) → (ok_X7_remembers_J49 M10)))) ∧ (¬ (mi M 6) = 8 → (ok_X7_remembers_J49 M))) := hok
  refine x_aload_n (pc := 0) (i := 0) C 0 dX7_remembers_0 rfl rfl ?_
  refine x_get (pc := 1) (q := 193) (i := 6) C e_M rfl ttX7 (by decide) wd_6_233 rfl dX7_remembers_1 ?_
  refine x_bipush (pc := 4) (v := 8) C dX7_remembers_4 (by decide) ?_
  refine x_icmp_ne (pc := 6) (tgt := 49) C dX7_remembers_6 (by decide) (fun c1 => ?_) (fun c1 => ?_)
  · have hR := hR.trans (if_neg c1)
    have hok := hok.2 c1
    refine x_sub [0] (ls2 := [(0, .ref (ad 193))]) rfl ?_
    exact t_X7_remembers_J49 C M B O _ hR hok
  · have hR := hR.trans (if_pos c1)
    have hok := hok.1 c1
    refine x_iconst (pc := 9) (v := 0) C dX7_remembers_9 (by decide) ?_
    refine x_istore_n (pc := 10) (i := 1) (ls2 := [(1, .int 0), (0, .ref (ad 193))]) C dX7_remembers_10 rfl (by decide) rfl ?_
    refine x_sub [1, 0] (ls2 := [(0, .ref (ad 193)), (1, .int 0)]) rfl ?_
    obtain ⟨z9, ez9⟩ : ∃ z : StM, z = f_X7_remembers_L11 fu M 0 := ⟨_, rfl⟩
    refine t_X7_remembers_L11 C fu M 0 B O z9 ez9 hok.1 ?_
    have hR := nmE hR ez9
    have hok := hok.2 z9 ez9
    refine x_aload_n (pc := 39) (i := 0) C 0 dX7_remembers_39 rfl rfl ?_
    refine x_dup (pc := 40) C dX7_remembers_40 rfl ?_
    refine x_get (pc := 41) (q := 193) (i := 6) C e_M rfl ttX7 (by decide) wd_6_233 rfl dX7_remembers_41 ?_
    refine x_iconst (pc := 44) (v := 1) C dX7_remembers_44 (by decide) ?_
    refine x_isub (pc := 45) C dX7_remembers_45 ?_
    refine x_put (pc := 46) (M2 := (smi z9 6 ((mi z9 6) - 1))) (B2 := B) (O2 := O) (q := 193) (i := 6) C tyX7 tyX7_ok nmX7 e_M rfl ttX7 (by decide) wd_6_233 rfl rfl rfl (Nat.le_of_ble_eq_true rfl) dX7_remembers_46 (put_M_6 ) (o_smi 6 ((mi z9 6) - 1)) ?_
    refine x_nmM (fun M10 eM10 => ?_)
    have hR := nmE hR eM10
    have hok := hok M10 eM10
    refine x_sub [0] (ls2 := [(0, .ref (ad 193))]) rfl ?_
    exact t_X7_remembers_J49 C M10 B O _ hR hok
set_option maxHeartbeats 4000000 in
set_option maxRecDepth 100000 in
theorem c_X7_isAmount {l : Launch} {A : Nat → Prop} {G : GT} {ad : Nat → Nat} (gl : Gl l A ad)  (B : StB) (M : StM) (O : StO) (x0 : Int32) (hok : ok_X7_isAmount x0) : Met l yX7_isAmount (wof yX7_isAmount cX7_isAmount 1 (some .boolean)) (rmd 2 0 0) (va_Pc [.int x0] (PW G A ad B M O)) (QI G A ad (f_X7_isAmount x0) B M O) 0 0 A := by
  refine x_body (own := RX7) (by decide +kernel) rfl gl (Nat.le_of_ble_eq_true rfl) (ls := [(0, .int x0)]) rfl ?_
  intro p0 e s m args below meth c C
  have hR : (f_X7_isAmount x0) = (nm (f_X7_isIn x0 1 999) (fun (r1 : Int32) => r1)) := rfl
  have hok : (∀ r1 : Int32, r1 = (f_X7_isIn x0 1 999) → (narrow .boolean (.int r1) = .int r1)) := hok
  refine x_iload_n (pc := 0) (i := 0) C 0 dX7_isAmount_0 rfl rfl ?_
  refine x_iconst (pc := 1) (v := 1) C dX7_isAmount_1 (by decide) ?_
  refine x_sipush (pc := 2) (v := 999) C dX7_isAmount_2 (by decide) ?_
  refine x_cIS (pc := 5) (as := [.int x0, .int 1, .int 999]) C (c_X7_isIn C.2.2.2.2.2.2.2.1  B M O x0 1 999) wd_7_91 cd_X7_isIn wd_7_90 ⟨Nat.le_of_ble_eq_true rfl, Nat.le_of_ble_eq_true rfl⟩ ⟨Nat.le_of_ble_eq_true rfl, Nat.le_of_ble_eq_true rfl⟩ rfl rfl (Nat.le_of_ble_eq_true rfl) dX7_isAmount_5 ?_
  refine x_nmI (fun r1 er1 => ?_)
  have hR := nmE hR er1
  have hok := hok r1 er1
  have h2 := hok
  exact x_zret (pc := 8) C rfl h2 hR dX7_isAmount_8
set_option maxHeartbeats 4000000 in
set_option maxRecDepth 100000 in
theorem c_X7_isAccount {l : Launch} {A : Nat → Prop} {G : GT} {ad : Nat → Nat} (gl : Gl l A ad)  (B : StB) (M : StM) (O : StO) (x0 : Int32) (hok : ok_X7_isAccount M x0) : Met l yX7_isAccount (wof yX7_isAccount cX7_isAccount 2 (some .boolean)) (rmd 2 0 0) (va_Pc [.ref (ad 193), .int x0] (PW G A ad B M O)) (QI G A ad (f_X7_isAccount M x0) B M O) 0 0 A := by
  refine x_body (own := RX7) (by decide +kernel) rfl gl (Nat.le_of_ble_eq_true rfl) (ls := [(0, .ref (ad 193)), (1, .int x0)]) rfl ?_
  intro p0 e s m args below meth c C
  have hR : (f_X7_isAccount M x0) = (nm (f_X7_isIn x0 0 ((ma M 0 (ix 1)) - 1)) (fun (r2 : Int32) => r2)) := rfl
  have hok : (∀ r2 : Int32, r2 = (f_X7_isIn x0 0 ((ma M 0 (ix 1)) - 1)) → (narrow .boolean (.int r2) = .int r2)) := hok
  refine x_iload_n (pc := 0) (i := 1) C 1 dX7_isAccount_0 rfl rfl ?_
  refine x_iconst (pc := 1) (v := 0) C dX7_isAccount_1 (by decide) ?_
  refine x_aload_n (pc := 2) (i := 0) C 0 dX7_isAccount_2 rfl rfl ?_
  refine x_get (pc := 3) (q := 193) (i := 0) C e_M rfl ttX7 (by decide) wd_6_227 rfl dX7_isAccount_3 ?_
  refine x_iconst (pc := 6) (v := 1) C dX7_isAccount_6 (by decide) ?_
  have h1 : vp_in (1) 124 := (by decide : ¬ ((1 : Int32) < 0 ∨ 124 ≤ Int32.toNatClampNeg 1))
  refine x_iald (pc := 7) (q := 194) C e_M0 h1 dX7_isAccount_7 ?_
  refine x_iconst (pc := 8) (v := 1) C dX7_isAccount_8 (by decide) ?_
  refine x_isub (pc := 9) C dX7_isAccount_9 ?_
  refine x_cIS (pc := 10) (as := [.int x0, .int 0, .int ((ma M 0 (ix 1)) - 1)]) C (c_X7_isIn C.2.2.2.2.2.2.2.1  B M O x0 0 ((ma M 0 (ix 1)) - 1)) wd_7_91 cd_X7_isIn wd_7_90 ⟨Nat.le_of_ble_eq_true rfl, Nat.le_of_ble_eq_true rfl⟩ ⟨Nat.le_of_ble_eq_true rfl, Nat.le_of_ble_eq_true rfl⟩ rfl rfl (Nat.le_of_ble_eq_true rfl) dX7_isAccount_10 ?_
  refine x_nmI (fun r2 er2 => ?_)
  have hR := nmE hR er2
  have hok := hok r2 er2
  have h3 := hok
  exact x_zret (pc := 13) C rfl h3 hR dX7_isAccount_13
set_option maxHeartbeats 4000000 in
set_option maxRecDepth 100000 in
theorem c_X7_changes {l : Launch} {A : Nat → Prop} {G : GT} {ad : Nat → Nat} (gl : Gl l A ad)  (B : StB) (M : StM) (O : StO) (x0 : Int32) (x1 : Int32) (hok : ok_X7_changes M x0 x1) : Met l yX7_changes (wof yX7_changes cX7_changes 3 none) (rmd 2 0 0) (va_Pc [.ref (ad 193), .int x0, .int x1] (PW G A ad B M O)) (QV G A ad B (f_X7_changes M x0 x1) O) 0 0 A := by
  refine x_body (own := RX7) (by decide +kernel) rfl gl (Nat.le_of_ble_eq_true rfl) (ls := [(0, .ref (ad 193)), (1, .int x0), (2, .int x1)]) rfl ?_
  intro p0 e s m args below meth c C
  have hR : (f_X7_changes M x0 x1) = (nm (f_X7_accountAt x0) (fun (r1 : Int32) => (nm (sma M 0 (ix (r1 + 1)) ((ma M 0 (ix (r1 + 1))) + x1)) (fun (M4 : StM) => M4)))) := rfl
  have hok : (∀ r1 : Int32, r1 = (f_X7_accountAt x0) → (vp_in (r1 + 1) 124 ∧ (vp_in (r1 + 1) 124))) := hok
  refine x_aload_n (pc := 0) (i := 0) C 0 dX7_changes_0 rfl rfl ?_
  refine x_get (pc := 1) (q := 193) (i := 0) C e_M rfl ttX7 (by decide) wd_6_227 rfl dX7_changes_1 ?_
  refine x_iload_n (pc := 4) (i := 1) C 1 dX7_changes_4 rfl rfl ?_
  refine x_cIS (pc := 5) (as := [.int x0]) C (c_X7_accountAt C.2.2.2.2.2.2.2.1  B M O x0) wd_7_94 cd_X7_accountAt wd_7_93 ⟨Nat.le_of_ble_eq_true rfl, Nat.le_of_ble_eq_true rfl⟩ ⟨Nat.le_of_ble_eq_true rfl, Nat.le_of_ble_eq_true rfl⟩ rfl rfl (Nat.le_of_ble_eq_true rfl) dX7_changes_5 ?_
  refine x_nmI (fun r1 er1 => ?_)
  have hR := nmE hR er1
  have hok := hok r1 er1
  refine x_iconst (pc := 8) (v := 1) C dX7_changes_8 (by decide) ?_
  refine x_iadd (pc := 9) C dX7_changes_9 ?_
  refine x_dup2 (pc := 10) C dX7_changes_10 rfl rfl ?_
  have h2 := hok.1
  have hok := hok.2
  refine x_iald (pc := 11) (q := 194) C e_M0 h2 dX7_changes_11 ?_
  refine x_iload_n (pc := 12) (i := 2) C 2 dX7_changes_12 rfl rfl ?_
  refine x_iadd (pc := 13) C dX7_changes_13 ?_
  have h3 := hok
  refine x_iastM (pc := 14) (j := 0) C (by decide) e_M0 e_M0.2 h3 dX7_changes_14 ?_
  refine x_nmM (fun M4 eM4 => ?_)
  have hR := nmE hR eM4
  exact x_vretM (pc := 15) C rfl hR dX7_changes_15
set_option maxHeartbeats 4000000 in
set_option maxRecDepth 100000 in
theorem t_X7_writesNumber_L25 {p0 : Program} {l : Launch} {e : Env} {s : State} {m : MethodId} {args : Array Value} {below : List Frame} {meth : Method} {c : Code} {A : Nat → Prop} {G : GT} {ad : Nat → Nat} {Q : State → Prop} (C : CX p0 l s m args meth c A G ad cX7_writesNumber RX7 7 (some .int))  (n : Nat) (M : StM) (a3 : Int32) (a4 : Int32) (a5 : Int32) (B : StB) (O : StO) : ∀ (R0 : Int32) (hR : R0 = f_X7_writesNumber_L25 n M a3 a4 a5) (hok : ok_X7_writesNumber_L25 n M a3 a4 a5) (k : X p0 l e (rmd 2 0 0) s m args below meth c A G ad 7 0 0 Q B M O [(0, .ref (ad 193)), (3, .int a3), (4, .int a4), (5, .int R0)] 45 []), X p0 l e (rmd 2 0 0) s m args below meth c A G ad 7 0 0 Q B M O [(0, .ref (ad 193)), (3, .int a3), (4, .int a4), (5, .int a5)] 25 [] := by
  induction n generalizing M a3 a4 a5 with
  | zero => intro R0 hR hok k; exact False.elim hok
  | succ n ih =>
    intro R0 hR hok k
    have hR : R0 = (if (a4 / a5) ≤ 9 then a5 else (nm (a5 * 10) (fun (v5 : Int32) => (f_X7_writesNumber_L25 n M a3 a4 v5)))) := hR
    have hok : (¬ a5 = 0 ∧ (((a4 / a5) ≤ 9 → True) ∧ (¬ (a4 / a5) ≤ 9 → (∀ v5 : Int32, v5 = (a5 * 10) → (ok_X7_writesNumber_L25 n M a3 a4 v5))))) := hok
    refine x_iload (pc := 25) (i := 4) C 2 dX7_writesNumber_25 rfl ?_
    refine x_iload (pc := 27) (i := 5) C 3 dX7_writesNumber_27 rfl ?_
    have h3 := hok.1
    have hok := hok.2
    refine x_idiv (pc := 29) C dX7_writesNumber_29 h3 ?_
    refine x_bipush (pc := 30) (v := 9) C dX7_writesNumber_30 (by decide) ?_
    refine x_icmp_le (pc := 32) (tgt := 45) C dX7_writesNumber_32 (by decide) (fun c4 => ?_) (fun c4 => ?_)
    · have hR := hR.trans (if_pos c4)
      refine x_sub [0, 1, 2, 3] (ls2 := [(0, .ref (ad 193)), (3, .int a3), (4, .int a4), (5, .int a5)]) rfl ?_
      subst hR
      exact k
    · have hR := hR.trans (if_neg c4)
      have hok := hok.2 c4
      refine x_iload (pc := 35) (i := 5) C 3 dX7_writesNumber_35 rfl ?_
      refine x_bipush (pc := 37) (v := 10) C dX7_writesNumber_37 (by decide) ?_
      refine x_imul (pc := 39) C dX7_writesNumber_39 ?_
      refine x_nmI (fun v5 ev5 => ?_)
      have hR := nmE hR ev5
      have hok := hok v5 ev5
      refine x_istore (pc := 40) (i := 5) (ls2 := [(5, .int v5), (0, .ref (ad 193)), (3, .int a3), (4, .int a4)]) C dX7_writesNumber_40 (by decide) rfl ?_
      refine x_goto (pc := 42) (tgt := 25) C dX7_writesNumber_42 (by decide) ?_
      refine x_sub [1, 2, 3, 0] (ls2 := [(0, .ref (ad 193)), (3, .int a3), (4, .int a4), (5, .int v5)]) rfl ?_
      exact ih M a3 a4 v5 R0 hR hok k
set_option maxHeartbeats 4000000 in
set_option maxRecDepth 100000 in
theorem t_X7_writesNumber_L49 {p0 : Program} {l : Launch} {e : Env} {s : State} {m : MethodId} {args : Array Value} {below : List Frame} {meth : Method} {c : Code} {A : Nat → Prop} {G : GT} {ad : Nat → Nat} {Q : State → Prop} (C : CX p0 l s m args meth c A G ad cX7_writesNumber RX7 7 (some .int))  (n : Nat) (M : StM) (a3 : Int32) (a4 : Int32) (a6 : Int32) (B : StB) (O : StO) : ∀ (R0 : Int32 × StM) (hR : R0 = f_X7_writesNumber_L49 n M a3 a4 a6) (hok : ok_X7_writesNumber_L49 n M a3 a4 a6) (k : X p0 l e (rmd 2 0 0) s m args below meth c A G ad 7 0 0 Q B R0.2 O [(3, .int R0.1)] 81 []), X p0 l e (rmd 2 0 0) s m args below meth c A G ad 7 0 0 Q B M O [(0, .ref (ad 193)), (3, .int a3), (4, .int a4), (6, .int a6)] 49 [] := by
  induction n generalizing M a3 a4 a6 with
  | zero => intro R0 hR hok k; exact False.elim hok
  | succ n ih =>
    intro R0 hR hok k
    have hR : R0 = (if a6 ≤ 0 then (a3, M) else (nm (f_X7_put M a3 (48 + ((a4 / a6) - (a4 / a6) / 10 * 10))) (fun (z10 : Int32 × StM) => (nm (a6 / 10) (fun (v11 : Int32) => (f_X7_writesNumber_L49 n z10.2 z10.1 a4 v11)))))) := hR
    have hok : ((a6 ≤ 0 → True) ∧ (¬ a6 ≤ 0 → (¬ a6 = 0 ∧ ((ok_X7_put M a3 (48 + ((a4 / a6) - (a4 / a6) / 10 * 10))) ∧ (∀ z10 : Int32 × StM, z10 = (f_X7_put M a3 (48 + ((a4 / a6) - (a4 / a6) / 10 * 10))) → (∀ v11 : Int32, v11 = (a6 / 10) → (ok_X7_writesNumber_L49 n z10.2 z10.1 a4 v11))))))) := hok
    refine x_iload (pc := 49) (i := 6) C 3 dX7_writesNumber_49 rfl ?_
    refine x_if_le (pc := 51) (tgt := 81) C dX7_writesNumber_51 (by decide) (fun c7 => ?_) (fun c7 => ?_)
    · have hR := hR.trans (if_pos c7)
      refine x_sub [1] (ls2 := [(3, .int a3)]) rfl ?_
      subst hR
      exact k
    · have hR := hR.trans (if_neg c7)
      have hok := hok.2 c7
      refine x_aload_n (pc := 54) (i := 0) C 0 dX7_writesNumber_54 rfl rfl ?_
      refine x_iload_n (pc := 55) (i := 3) C 1 dX7_writesNumber_55 rfl rfl ?_
      refine x_bipush (pc := 56) (v := 48) C dX7_writesNumber_56 (by decide) ?_
      refine x_iload (pc := 58) (i := 4) C 2 dX7_writesNumber_58 rfl ?_
      refine x_iload (pc := 60) (i := 6) C 3 dX7_writesNumber_60 rfl ?_
      have h8 := hok.1
      have hok := hok.2
      refine x_idiv (pc := 62) C dX7_writesNumber_62 h8 ?_
      refine x_bipush (pc := 63) (v := 10) C dX7_writesNumber_63 (by decide) ?_
      refine x_irem (pc := 65) C dX7_writesNumber_65 (by decide) ?_
      refine x_iadd (pc := 66) C dX7_writesNumber_66 ?_
      have h9 := hok.1
      have hok := hok.2
      refine x_cIV (pc := 67) (as := [.int a3, .int (48 + ((a4 / a6) - (a4 / a6) / 10 * 10))]) (q := 193) C (c_X7_put C.2.2.2.2.2.2.2.1  B M O a3 (48 + ((a4 / a6) - (a4 / a6) / 10 * 10)) h9) (fs := _) e_M rfl cv_X7_put cd_X7_put wd_8_124 ⟨Nat.le_of_ble_eq_true rfl, Nat.le_of_ble_eq_true rfl⟩ ⟨Nat.le_of_ble_eq_true rfl, Nat.le_of_ble_eq_true rfl⟩ rfl rfl (Nat.le_of_ble_eq_true rfl) dX7_writesNumber_67 ?_
      refine x_nmIM (fun z10 ez10 => ?_)
      have hR := nmE hR ez10
      have hok := hok z10 ez10
      refine x_istore_n (pc := 70) (i := 3) (ls2 := [(3, .int z10.1), (0, .ref (ad 193)), (4, .int a4), (6, .int a6)]) C dX7_writesNumber_70 rfl (by decide) rfl ?_
      refine x_iload (pc := 71) (i := 6) C 3 dX7_writesNumber_71 rfl ?_
      refine x_bipush (pc := 73) (v := 10) C dX7_writesNumber_73 (by decide) ?_
      refine x_idiv (pc := 75) C dX7_writesNumber_75 (by decide) ?_
      refine x_nmI (fun v11 ev11 => ?_)
      have hR := nmE hR ev11
      have hok := hok v11 ev11
      refine x_istore (pc := 76) (i := 6) (ls2 := [(6, .int v11), (3, .int z10.1), (0, .ref (ad 193)), (4, .int a4)]) C dX7_writesNumber_76 (by decide) rfl ?_
      refine x_goto (pc := 78) (tgt := 49) C dX7_writesNumber_78 (by decide) ?_
      refine x_sub [2, 1, 3, 0] (ls2 := [(0, .ref (ad 193)), (3, .int z10.1), (4, .int a4), (6, .int v11)]) rfl ?_
      exact ih z10.2 z10.1 a4 v11 R0 hR hok k
set_option maxHeartbeats 4000000 in
set_option maxRecDepth 100000 in
theorem t_X7_writesNumber_J15 {p0 : Program} {l : Launch} {e : Env} {s : State} {m : MethodId} {args : Array Value} {below : List Frame} {meth : Method} {c : Code} {A : Nat → Prop} {G : GT} {ad : Nat → Nat} (C : CX p0 l s m args meth c A G ad cX7_writesNumber RX7 7 (some .int))  (M : StM) (a2 : Int32) (s0 : Int32) (B : StB) (O : StO) (R0 : Int32 × StM) (hR : R0 = f_X7_writesNumber_J15 M a2 s0) (hok : ok_X7_writesNumber_J15 M a2 s0) : X p0 l e (rmd 2 0 0) s m args below meth c A G ad 7 0 0 (MQ below (QI G A ad R0.1 B R0.2 O) args s 0 0 A) B M O [(0, .ref (ad 193)), (2, .int a2)] 15 [.int s0] := by
  have hR : R0 = (nm (mabs a2) (fun (v2 : Int32) => (nm (f_X7_writesNumber_L25 fu M s0 v2 1) (fun (z6 : Int32) => (nm (f_X7_writesNumber_L49 fu M s0 v2 z6) (fun (z12 : Int32 × StM) => (z12.1, z12.2))))))) := hR
  have hok : (∀ v2 : Int32, v2 = (mabs a2) → ((ok_X7_writesNumber_L25 fu M s0 v2 1) ∧ ∀ z6 : Int32, z6 = f_X7_writesNumber_L25 fu M s0 v2 1 → (ok_X7_writesNumber_L49 fu M s0 v2 z6))) := hok
  refine x_istore_n (pc := 15) (i := 3) (ls2 := [(3, .int s0), (0, .ref (ad 193)), (2, .int a2)]) C dX7_writesNumber_15 rfl (by decide) rfl ?_
  refine x_iload_n (pc := 16) (i := 2) C 2 dX7_writesNumber_16 rfl rfl ?_
  refine x_mabs (pc := 17) C wd_8_132 wd_8_133 wd_1_21 wd_8_134 ⟨Nat.le_of_ble_eq_true rfl, Nat.le_of_ble_eq_true rfl⟩ ⟨Nat.le_of_ble_eq_true rfl, Nat.le_of_ble_eq_true rfl⟩ dX7_writesNumber_17 ?_
  refine x_nmI (fun v2 ev2 => ?_)
  have hR := nmE hR ev2
  have hok := hok v2 ev2
  refine x_istore (pc := 20) (i := 4) (ls2 := [(4, .int v2), (3, .int s0), (0, .ref (ad 193)), (2, .int a2)]) C dX7_writesNumber_20 (by decide) rfl ?_
  refine x_iconst (pc := 22) (v := 1) C dX7_writesNumber_22 (by decide) ?_
  refine x_istore (pc := 23) (i := 5) (ls2 := [(5, .int 1), (4, .int v2), (3, .int s0), (0, .ref (ad 193)), (2, .int a2)]) C dX7_writesNumber_23 (by decide) rfl ?_
  refine x_sub [3, 2, 1, 0] (ls2 := [(0, .ref (ad 193)), (3, .int s0), (4, .int v2), (5, .int 1)]) rfl ?_
  obtain ⟨z6, ez6⟩ : ∃ z : Int32, z = f_X7_writesNumber_L25 fu M s0 v2 1 := ⟨_, rfl⟩
  refine t_X7_writesNumber_L25 C fu M s0 v2 1 B O z6 ez6 hok.1 ?_
  have hR := nmE hR ez6
  have hok := hok.2 z6 ez6
  refine x_iload (pc := 45) (i := 5) C 3 dX7_writesNumber_45 rfl ?_
  refine x_istore (pc := 47) (i := 6) (ls2 := [(6, .int z6), (0, .ref (ad 193)), (3, .int s0), (4, .int v2), (5, .int z6)]) C dX7_writesNumber_47 (by decide) rfl ?_
  refine x_sub [1, 2, 3, 0] (ls2 := [(0, .ref (ad 193)), (3, .int s0), (4, .int v2), (6, .int z6)]) rfl ?_
  obtain ⟨z12, ez12⟩ : ∃ z : Int32 × StM, z = f_X7_writesNumber_L49 fu M s0 v2 z6 := ⟨_, rfl⟩
  refine t_X7_writesNumber_L49 C fu M s0 v2 z6 B O z12 ez12 hok ?_
  have hR := nmE hR ez12
  refine x_iload_n (pc := 81) (i := 3) C 0 dX7_writesNumber_81 rfl rfl ?_
  exact x_iretM (pc := 82) C rfl hR dX7_writesNumber_82
set_option maxHeartbeats 4000000 in
set_option maxRecDepth 100000 in
theorem c_X7_writesNumber {l : Launch} {A : Nat → Prop} {G : GT} {ad : Nat → Nat} (gl : Gl l A ad)  (B : StB) (M : StM) (O : StO) (x0 : Int32) (x1 : Int32) (hok : ok_X7_writesNumber M x0 x1) : Met l yX7_writesNumber (wof yX7_writesNumber cX7_writesNumber 7 (some .int)) (rmd 2 0 0) (va_Pc [.ref (ad 193), .int x0, .int x1] (PW G A ad B M O)) (QI G A ad (f_X7_writesNumber M x0 x1).1 B (f_X7_writesNumber M x0 x1).2 O) 0 0 A := by
  refine x_body (own := RX7) (by decide +kernel) rfl gl (Nat.le_of_ble_eq_true rfl) (ls := [(0, .ref (ad 193)), (1, .int x0), (2, .int x1)]) rfl ?_
  intro p0 e s m args below meth c C
  have hR : (f_X7_writesNumber M x0 x1) = (if 0 ≤ x1 then (f_X7_writesNumber_J15 M x1 x0) else (nm (f_X7_put M x0 45) (fun (z14 : Int32 × StM) => (f_X7_writesNumber_J15 z14.2 x1 z14.1)))) := rfl
  have hok : ((0 ≤ x1 → (ok_X7_writesNumber_J15 M x1 x0)) ∧ (¬ 0 ≤ x1 → ((ok_X7_put M x0 45) ∧ (∀ z14 : Int32 × StM, z14 = (f_X7_put M x0 45) → (ok_X7_writesNumber_J15 z14.2 x1 z14.1))))) := hok
  refine x_iload_n (pc := 0) (i := 2) C 2 dX7_writesNumber_0 rfl rfl ?_
  refine x_if_ge (pc := 1) (tgt := 14) C dX7_writesNumber_1 (by decide) (fun c1 => ?_) (fun c1 => ?_)
  · have hR := hR.trans (if_pos c1)
    have hok := hok.1 c1
    refine x_iload_n (pc := 14) (i := 1) C 1 dX7_writesNumber_14 rfl rfl ?_
    refine x_sub [0, 2] (ls2 := [(0, .ref (ad 193)), (2, .int x1)]) rfl ?_
    exact t_X7_writesNumber_J15 C M x1 x0 B O _ hR hok
  · have hR := hR.trans (if_neg c1)
    have hok := hok.2 c1
    refine x_aload_n (pc := 4) (i := 0) C 0 dX7_writesNumber_4 rfl rfl ?_
    refine x_iload_n (pc := 5) (i := 1) C 1 dX7_writesNumber_5 rfl rfl ?_
    refine x_bipush (pc := 6) (v := 45) C dX7_writesNumber_6 (by decide) ?_
    have h13 := hok.1
    have hok := hok.2
    refine x_cIV (pc := 8) (as := [.int x0, .int 45]) (q := 193) C (c_X7_put C.2.2.2.2.2.2.2.1  B M O x0 45 h13) (fs := _) e_M rfl cv_X7_put cd_X7_put wd_8_124 ⟨Nat.le_of_ble_eq_true rfl, Nat.le_of_ble_eq_true rfl⟩ ⟨Nat.le_of_ble_eq_true rfl, Nat.le_of_ble_eq_true rfl⟩ rfl rfl (Nat.le_of_ble_eq_true rfl) dX7_writesNumber_8 ?_
    refine x_nmIM (fun z14 ez14 => ?_)
    have hR := nmE hR ez14
    have hok := hok z14 ez14
    refine x_goto (pc := 11) (tgt := 15) C dX7_writesNumber_11 (by decide) ?_
    refine x_sub [0, 2] (ls2 := [(0, .ref (ad 193)), (2, .int x1)]) rfl ?_
    exact t_X7_writesNumber_J15 C z14.2 x1 z14.1 B O _ hR hok
set_option maxHeartbeats 4000000 in
set_option maxRecDepth 100000 in
theorem t_X7_type_J23 {p0 : Program} {l : Launch} {e : Env} {s : State} {m : MethodId} {args : Array Value} {below : List Frame} {meth : Method} {c : Code} {A : Nat → Prop} {G : GT} {ad : Nat → Nat} (C : CX p0 l s m args meth c A G ad cX7_type RX7 2 (some .int))  (M : StM) (a1 : Int32) (s0 : Int32) (s1 : Int32) (B : StB) (O : StO) (R0 : Int32 × StM) (hR : R0 = f_X7_type_J23 M a1 s0 s1) (hok : ok_X7_type_J23 M a1 s0 s1) : X p0 l e (rmd 2 0 0) s m args below meth c A G ad 2 0 0 (MQ below (QI G A ad R0.1 B R0.2 O) args s 0 0 A) B M O [(0, .ref (ad 193)), (1, .int a1)] 23 [.int s0, .int s1, .ref (ad 193)] := by
  have hR : R0 = (nm (f_X7_holds M s1 s0 1 1) (fun (z3 : Int32 × StM) => (if z3.1 = 0 then (0, z3.2) else (nm (sma z3.2 5 (ix (mi z3.2 12)) a1) (fun (M6 : StM) => (nm (smi M6 12 ((mi M6 12) + 1)) (fun (M7 : StM) => ((mi M7 12), M7)))))))) := hR
  have hok : (∀ z3 : Int32 × StM, z3 = (f_X7_holds M s1 s0 1 1) → ((z3.1 = 0 → True) ∧ (¬ z3.1 = 0 → (vp_in (mi z3.2 12) 60)))) := hok
  refine x_iconst (pc := 23) (v := 1) C dX7_type_23 (by decide) ?_
  refine x_iconst (pc := 24) (v := 1) C dX7_type_24 (by decide) ?_
  refine x_cIV (pc := 25) (as := [.int s1, .int s0, .int 1, .int 1]) (q := 193) C (c_X7_holds C.2.2.2.2.2.2.2.1  B M O s1 s0 1 1) (fs := _) e_M rfl cv_X7_holds cd_X7_holds wd_7_63 ⟨Nat.le_of_ble_eq_true rfl, Nat.le_of_ble_eq_true rfl⟩ ⟨Nat.le_of_ble_eq_true rfl, Nat.le_of_ble_eq_true rfl⟩ rfl rfl (Nat.le_of_ble_eq_true rfl) dX7_type_25 ?_
  refine x_nmIM (fun z3 ez3 => ?_)
  have hR := nmE hR ez3
  have hok := hok z3 ez3
  refine x_if_ne (pc := 28) (tgt := 33) C dX7_type_28 (by decide) (fun c4 => ?_) (fun c4 => ?_)
  · have hR := hR.trans (if_neg c4)
    have hok := hok.2 c4
    refine x_aload_n (pc := 33) (i := 0) C 0 dX7_type_33 rfl rfl ?_
    refine x_get (pc := 34) (q := 193) (i := 11) C e_M rfl ttX7 (by decide) wd_6_238 rfl dX7_type_34 ?_
    refine x_aload_n (pc := 37) (i := 0) C 0 dX7_type_37 rfl rfl ?_
    refine x_get (pc := 38) (q := 193) (i := 12) C e_M rfl ttX7 (by decide) wd_6_239 rfl dX7_type_38 ?_
    refine x_iload_n (pc := 41) (i := 1) C 1 dX7_type_41 rfl rfl ?_
    have h5 := hok
    refine x_iastM (pc := 42) (j := 5) C (by decide) e_M5 e_M5.2 h5 dX7_type_42 ?_
    refine x_nmM (fun M6 eM6 => ?_)
    have hR := nmE hR eM6
    refine x_aload_n (pc := 43) (i := 0) C 0 dX7_type_43 rfl rfl ?_
    refine x_dup (pc := 44) C dX7_type_44 rfl ?_
    refine x_get (pc := 45) (q := 193) (i := 12) C e_M rfl ttX7 (by decide) wd_6_239 rfl dX7_type_45 ?_
    refine x_iconst (pc := 48) (v := 1) C dX7_type_48 (by decide) ?_
    refine x_iadd (pc := 49) C dX7_type_49 ?_
    refine x_put (pc := 50) (M2 := (smi M6 12 ((mi M6 12) + 1))) (B2 := B) (O2 := O) (q := 193) (i := 12) C tyX7 tyX7_ok nmX7 e_M rfl ttX7 (by decide) wd_6_239 rfl rfl rfl (Nat.le_of_ble_eq_true rfl) dX7_type_50 (put_M_12 ) (o_smi 12 ((mi M6 12) + 1)) ?_
    refine x_nmM (fun M7 eM7 => ?_)
    have hR := nmE hR eM7
    refine x_aload_n (pc := 53) (i := 0) C 0 dX7_type_53 rfl rfl ?_
    refine x_get (pc := 54) (q := 193) (i := 12) C e_M rfl ttX7 (by decide) wd_6_239 rfl dX7_type_54 ?_
    exact x_iretM (pc := 57) C rfl hR dX7_type_57
  · have hR := hR.trans (if_pos c4)
    refine x_iconst (pc := 31) (v := 0) C dX7_type_31 (by decide) ?_
    exact x_iretM (pc := 32) C rfl hR dX7_type_32
set_option maxHeartbeats 4000000 in
set_option maxRecDepth 100000 in
theorem c_X7_type {l : Launch} {A : Nat → Prop} {G : GT} {ad : Nat → Nat} (gl : Gl l A ad)  (B : StB) (M : StM) (O : StO) (x0 : Int32) (hok : ok_X7_type M x0) : Met l yX7_type (wof yX7_type cX7_type 2 (some .int)) (rmd 2 0 0) (va_Pc [.ref (ad 193), .int x0] (PW G A ad B M O)) (QI G A ad (f_X7_type M x0).1 B (f_X7_type M x0).2 O) 0 0 A := by
  refine x_body (own := RX7) (by decide +kernel) rfl gl (Nat.le_of_ble_eq_true rfl) (ls := [(0, .ref (ad 193)), (1, .int x0)]) rfl ?_
  intro p0 e s m args below meth c C
  have hR : (f_X7_type M x0) = (nm (f_X7_isIn x0 32 126) (fun (r1 : Int32) => (if 60 ≤ (mi M 12) then (f_X7_type_J23 M x0 0 r1) else (f_X7_type_J23 M x0 1 r1)))) := rfl
  have hok : (∀ r1 : Int32, r1 = (f_X7_isIn x0 32 126) → ((60 ≤ (mi M 12) → (ok_X7_type_J23 M x0 0 r1)) ∧ (¬ 60 ≤ (mi M 12) → (ok_X7_type_J23 M x0 1 r1)))) := hok
  refine x_aload_n (pc := 0) (i := 0) C 0 dX7_type_0 rfl rfl ?_
  refine x_iload_n (pc := 1) (i := 1) C 1 dX7_type_1 rfl rfl ?_
  refine x_bipush (pc := 2) (v := 32) C dX7_type_2 (by decide) ?_
  refine x_bipush (pc := 4) (v := 126) C dX7_type_4 (by decide) ?_
  refine x_cIS (pc := 6) (as := [.int x0, .int 32, .int 126]) C (c_X7_isIn C.2.2.2.2.2.2.2.1  B M O x0 32 126) wd_7_91 cd_X7_isIn wd_7_90 ⟨Nat.le_of_ble_eq_true rfl, Nat.le_of_ble_eq_true rfl⟩ ⟨Nat.le_of_ble_eq_true rfl, Nat.le_of_ble_eq_true rfl⟩ rfl rfl (Nat.le_of_ble_eq_true rfl) dX7_type_6 ?_
  refine x_nmI (fun r1 er1 => ?_)
  have hR := nmE hR er1
  have hok := hok r1 er1
  refine x_aload_n (pc := 9) (i := 0) C 0 dX7_type_9 rfl rfl ?_
  refine x_get (pc := 10) (q := 193) (i := 12) C e_M rfl ttX7 (by decide) wd_6_239 rfl dX7_type_10 ?_
  refine x_bipush (pc := 13) (v := 60) C dX7_type_13 (by decide) ?_
  refine x_icmp_ge (pc := 15) (tgt := 22) C dX7_type_15 (by decide) (fun c2 => ?_) (fun c2 => ?_)
  · have hR := hR.trans (if_pos c2)
    have hok := hok.1 c2
    refine x_iconst (pc := 22) (v := 0) C dX7_type_22 (by decide) ?_
    refine x_sub [0, 1] (ls2 := [(0, .ref (ad 193)), (1, .int x0)]) rfl ?_
    exact t_X7_type_J23 C M x0 0 r1 B O _ hR hok
  · have hR := hR.trans (if_neg c2)
    have hok := hok.2 c2
    refine x_iconst (pc := 18) (v := 1) C dX7_type_18 (by decide) ?_
    refine x_goto (pc := 19) (tgt := 23) C dX7_type_19 (by decide) ?_
    refine x_sub [0, 1] (ls2 := [(0, .ref (ad 193)), (1, .int x0)]) rfl ?_
    exact t_X7_type_J23 C M x0 1 r1 B O _ hR hok
set_option maxHeartbeats 4000000 in
set_option maxRecDepth 100000 in
theorem t_X7_reads_J44 {p0 : Program} {l : Launch} {e : Env} {s : State} {m : MethodId} {args : Array Value} {below : List Frame} {meth : Method} {c : Code} {A : Nat → Prop} {G : GT} {ad : Nat → Nat} (C : CX p0 l s m args meth c A G ad cX7_reads RX7 3 (some .int))  (M : StM)  (B : StB) (O : StO) (R0 : Int32 × StM) (hR : R0 = f_X7_reads_J44 M) : X p0 l e (rmd 2 0 0) s m args below meth c A G ad 3 0 0 (MQ below (QI G A ad R0.1 B R0.2 O) args s 0 0 A) B M O [(0, .ref (ad 193))] 44 [] := by
  have hR : R0 = (if (mi M 18) = (-1) then (nm (smi M 18 (mi M 17)) (fun (M4 : StM) => (0, M4))) else (nm (smi M 18 (mi M 18)) (fun (M3 : StM) => (0, M3)))) := hR
  refine x_aload_n (pc := 44) (i := 0) C 0 dX7_reads_44 rfl rfl ?_
  refine x_aload_n (pc := 45) (i := 0) C 0 dX7_reads_45 rfl rfl ?_
  refine x_get (pc := 46) (q := 193) (i := 18) C e_M rfl ttX7 (by decide) wd_7_5 rfl dX7_reads_46 ?_
  refine x_iconst (pc := 49) (v := (-1)) C dX7_reads_49 (by decide) ?_
  refine x_icmp_ne (pc := 50) (tgt := 60) C dX7_reads_50 (by decide) (fun c2 => ?_) (fun c2 => ?_)
  · have hR := hR.trans (if_neg c2)
    refine x_aload_n (pc := 60) (i := 0) C 0 dX7_reads_60 rfl rfl ?_
    refine x_get (pc := 61) (q := 193) (i := 18) C e_M rfl ttX7 (by decide) wd_7_5 rfl dX7_reads_61 ?_
    refine x_put (pc := 64) (M2 := (smi M 18 (mi M 18))) (B2 := B) (O2 := O) (q := 193) (i := 18) C tyX7 tyX7_ok nmX7 e_M rfl ttX7 (by decide) wd_7_5 rfl rfl rfl (Nat.le_of_ble_eq_true rfl) dX7_reads_64 (put_M_18 ) (o_smi 18 (mi M 18)) ?_
    refine x_nmM (fun M3 eM3 => ?_)
    have hR := nmE hR eM3
    refine x_iconst (pc := 67) (v := 0) C dX7_reads_67 (by decide) ?_
    exact x_iretM (pc := 68) C rfl hR dX7_reads_68
  · have hR := hR.trans (if_pos c2)
    refine x_aload_n (pc := 53) (i := 0) C 0 dX7_reads_53 rfl rfl ?_
    refine x_get (pc := 54) (q := 193) (i := 17) C e_M rfl ttX7 (by decide) wd_7_4 rfl dX7_reads_54 ?_
    refine x_goto (pc := 57) (tgt := 64) C dX7_reads_57 (by decide) ?_
    refine x_put (pc := 64) (M2 := (smi M 18 (mi M 17))) (B2 := B) (O2 := O) (q := 193) (i := 18) C tyX7 tyX7_ok nmX7 e_M rfl ttX7 (by decide) wd_7_5 rfl rfl rfl (Nat.le_of_ble_eq_true rfl) dX7_reads_64 (put_M_18 ) (o_smi 18 (mi M 17)) ?_
    refine x_nmM (fun M4 eM4 => ?_)
    have hR := nmE hR eM4
    refine x_iconst (pc := 67) (v := 0) C dX7_reads_67 (by decide) ?_
    exact x_iretM (pc := 68) C rfl hR dX7_reads_68
set_option maxHeartbeats 4000000 in
set_option maxRecDepth 100000 in
theorem c_X7_reads {l : Launch} {A : Nat → Prop} {G : GT} {ad : Nat → Nat} (gl : Gl l A ad)  (B : StB) (M : StM) (O : StO) (x0 : Int32) (x1 : Int32) (hok : ok_X7_reads M x0 x1) : Met l yX7_reads (wof yX7_reads cX7_reads 3 (some .int)) (rmd 2 0 0) (va_Pc [.ref (ad 193), .int x0, .int x1] (PW G A ad B M O)) (QI G A ad (f_X7_reads M x0 x1).1 B (f_X7_reads M x0 x1).2 O) 0 0 A := by
  refine x_body (own := RX7) (by decide +kernel) rfl gl (Nat.le_of_ble_eq_true rfl) (ls := [(0, .ref (ad 193)), (1, .int x0), (2, .int x1)]) rfl ?_
  intro p0 e s m args below meth c C
  have hR : (f_X7_reads M x0 x1) = (if (mi M 18) = (-1) then (nm (f_X7_letterHere M) (fun (r6 : Int32) => (nm (f_X7_isIn r6 x0 x1) (fun (r7 : Int32) => (if r7 = 0 then (f_X7_reads_J44 M) else (nm (smi M 17 ((mi M 17) + 1)) (fun (M9 : StM) => (((ma M9 5 (ix ((mi M9 17) - 1))) - x0), M9)))))))) else (f_X7_reads_J44 M)) := rfl
  have hok : (((mi M 18) = (-1) → ((ok_X7_letterHere M) ∧ (∀ r6 : Int32, r6 = (f_X7_letterHere M) → (∀ r7 : Int32, r7 = (f_X7_isIn r6 x0 x1) → ((r7 = 0 → True) ∧ (¬ r7 = 0 → (∀ M9 : StM, M9 = (smi M 17 ((mi M 17) + 1)) → (vp_in ((mi M9 17) - 1) 60)))))))) ∧ (¬ (mi M 18) = (-1) → True)) := hok
  refine x_aload_n (pc := 0) (i := 0) C 0 dX7_reads_0 rfl rfl ?_
  refine x_get (pc := 1) (q := 193) (i := 18) C e_M rfl ttX7 (by decide) wd_7_5 rfl dX7_reads_1 ?_
  refine x_iconst (pc := 4) (v := (-1)) C dX7_reads_4 (by decide) ?_
  refine x_icmp_ne (pc := 5) (tgt := 44) C dX7_reads_5 (by decide) (fun c1 => ?_) (fun c1 => ?_)
  · have hR := hR.trans (if_neg c1)
    refine x_sub [0] (ls2 := [(0, .ref (ad 193))]) rfl ?_
    exact t_X7_reads_J44 C M B O _ hR
  · have hR := hR.trans (if_pos c1)
    have hok := hok.1 c1
    refine x_aload_n (pc := 8) (i := 0) C 0 dX7_reads_8 rfl rfl ?_
    have h5 := hok.1
    have hok := hok.2
    refine x_cIV (pc := 9) (as := []) (q := 193) C (c_X7_letterHere C.2.2.2.2.2.2.2.1  B M O  h5) (fs := _) e_M rfl cv_X7_letterHere cd_X7_letterHere wd_8_172 ⟨Nat.le_of_ble_eq_true rfl, Nat.le_of_ble_eq_true rfl⟩ ⟨Nat.le_of_ble_eq_true rfl, Nat.le_of_ble_eq_true rfl⟩ rfl rfl (Nat.le_of_ble_eq_true rfl) dX7_reads_9 ?_
    refine x_nmI (fun r6 er6 => ?_)
    have hR := nmE hR er6
    have hok := hok r6 er6
    refine x_iload_n (pc := 12) (i := 1) C 1 dX7_reads_12 rfl rfl ?_
    refine x_iload_n (pc := 13) (i := 2) C 2 dX7_reads_13 rfl rfl ?_
    refine x_cIS (pc := 14) (as := [.int r6, .int x0, .int x1]) C (c_X7_isIn C.2.2.2.2.2.2.2.1  B M O r6 x0 x1) wd_7_91 cd_X7_isIn wd_7_90 ⟨Nat.le_of_ble_eq_true rfl, Nat.le_of_ble_eq_true rfl⟩ ⟨Nat.le_of_ble_eq_true rfl, Nat.le_of_ble_eq_true rfl⟩ rfl rfl (Nat.le_of_ble_eq_true rfl) dX7_reads_14 ?_
    refine x_nmI (fun r7 er7 => ?_)
    have hR := nmE hR er7
    have hok := hok r7 er7
    refine x_if_eq (pc := 17) (tgt := 44) C dX7_reads_17 (by decide) (fun c8 => ?_) (fun c8 => ?_)
    · have hR := hR.trans (if_pos c8)
      refine x_sub [0] (ls2 := [(0, .ref (ad 193))]) rfl ?_
      exact t_X7_reads_J44 C M B O _ hR
    · have hR := hR.trans (if_neg c8)
      have hok := hok.2 c8
      refine x_aload_n (pc := 20) (i := 0) C 0 dX7_reads_20 rfl rfl ?_
      refine x_dup (pc := 21) C dX7_reads_21 rfl ?_
      refine x_get (pc := 22) (q := 193) (i := 17) C e_M rfl ttX7 (by decide) wd_7_4 rfl dX7_reads_22 ?_
      refine x_iconst (pc := 25) (v := 1) C dX7_reads_25 (by decide) ?_
      refine x_iadd (pc := 26) C dX7_reads_26 ?_
      refine x_put (pc := 27) (M2 := (smi M 17 ((mi M 17) + 1))) (B2 := B) (O2 := O) (q := 193) (i := 17) C tyX7 tyX7_ok nmX7 e_M rfl ttX7 (by decide) wd_7_4 rfl rfl rfl (Nat.le_of_ble_eq_true rfl) dX7_reads_27 (put_M_17 ) (o_smi 17 ((mi M 17) + 1)) ?_
      refine x_nmM (fun M9 eM9 => ?_)
      have hR := nmE hR eM9
      have hok := hok M9 eM9
      refine x_aload_n (pc := 30) (i := 0) C 0 dX7_reads_30 rfl rfl ?_
      refine x_get (pc := 31) (q := 193) (i := 11) C e_M rfl ttX7 (by decide) wd_6_238 rfl dX7_reads_31 ?_
      refine x_aload_n (pc := 34) (i := 0) C 0 dX7_reads_34 rfl rfl ?_
      refine x_get (pc := 35) (q := 193) (i := 17) C e_M rfl ttX7 (by decide) wd_7_4 rfl dX7_reads_35 ?_
      refine x_iconst (pc := 38) (v := 1) C dX7_reads_38 (by decide) ?_
      refine x_isub (pc := 39) C dX7_reads_39 ?_
      have h10 := hok
      refine x_iald (pc := 40) (q := 199) C e_M5 h10 dX7_reads_40 ?_
      refine x_iload_n (pc := 41) (i := 1) C 1 dX7_reads_41 rfl rfl ?_
      refine x_isub (pc := 42) C dX7_reads_42 ?_
      exact x_iretM (pc := 43) C rfl hR dX7_reads_43
set_option maxHeartbeats 4000000 in
set_option maxRecDepth 100000 in
theorem t_X7_undo_J13 {p0 : Program} {l : Launch} {e : Env} {s : State} {m : MethodId} {args : Array Value} {below : List Frame} {meth : Method} {c : Code} {A : Nat → Prop} {G : GT} {ad : Nat → Nat} (C : CX p0 l s m args meth c A G ad cX7_undo RX7 1 (some .int))  (M : StM) (s0 : Int32) (B : StB) (O : StO) (R0 : Int32 × StM) (hR : R0 = f_X7_undo_J13 M s0) (hok : ok_X7_undo_J13 M s0) : X p0 l e (rmd 3 0 0) s m args below meth c A G ad 1 0 0 (MQ below (QI G A ad R0.1 B R0.2 O) args s 0 0 A) B M O [(0, .ref (ad 193))] 13 [.int s0, .ref (ad 193)] := by
  have hR : R0 = (nm (f_X7_goes M s0) (fun (z3 : Int32 × StM) => (if z3.1 = 0 then (0, z3.2) else (nm (smi z3.2 6 ((mi z3.2 6) - 1)) (fun (M5 : StM) => (nm (f_X7_copies_M4_M0 M5 ((mi M5 6) * 124) 0) (fun (M7 : StM) => ((mi M7 6), M7)))))))) := hR
  have hok : ((ok_X7_goes M s0) ∧ (∀ z3 : Int32 × StM, z3 = (f_X7_goes M s0) → ((z3.1 = 0 → True) ∧ (¬ z3.1 = 0 → (∀ M5 : StM, M5 = (smi z3.2 6 ((mi z3.2 6) - 1)) → ((ok_X7_copies_M4_M0 M5 ((mi M5 6) * 124) 0))))))) := hok
  have h2 := hok.1
  have hok := hok.2
  refine x_cIV (pc := 13) (as := [.int s0]) (q := 193) C (c_X7_goes C.2.2.2.2.2.2.2.1  B M O s0 h2) (fs := _) e_M rfl cv_X7_goes cd_X7_goes wd_7_59 ⟨Nat.le_of_ble_eq_true rfl, Nat.le_of_ble_eq_true rfl⟩ ⟨Nat.le_of_ble_eq_true rfl, Nat.le_of_ble_eq_true rfl⟩ rfl rfl (Nat.le_of_ble_eq_true rfl) dX7_undo_13 ?_
  refine x_nmIM (fun z3 ez3 => ?_)
  have hR := nmE hR ez3
  have hok := hok z3 ez3
  refine x_if_ne (pc := 16) (tgt := 21) C dX7_undo_16 (by decide) (fun c4 => ?_) (fun c4 => ?_)
  · have hR := hR.trans (if_neg c4)
    have hok := hok.2 c4
    refine x_aload_n (pc := 21) (i := 0) C 0 dX7_undo_21 rfl rfl ?_
    refine x_dup (pc := 22) C dX7_undo_22 rfl ?_
    refine x_get (pc := 23) (q := 193) (i := 6) C e_M rfl ttX7 (by decide) wd_6_233 rfl dX7_undo_23 ?_
    refine x_iconst (pc := 26) (v := 1) C dX7_undo_26 (by decide) ?_
    refine x_isub (pc := 27) C dX7_undo_27 ?_
    refine x_put (pc := 28) (M2 := (smi z3.2 6 ((mi z3.2 6) - 1))) (B2 := B) (O2 := O) (q := 193) (i := 6) C tyX7 tyX7_ok nmX7 e_M rfl ttX7 (by decide) wd_6_233 rfl rfl rfl (Nat.le_of_ble_eq_true rfl) dX7_undo_28 (put_M_6 ) (o_smi 6 ((mi z3.2 6) - 1)) ?_
    refine x_nmM (fun M5 eM5 => ?_)
    have hR := nmE hR eM5
    have hok := hok M5 eM5
    refine x_aload_n (pc := 31) (i := 0) C 0 dX7_undo_31 rfl rfl ?_
    refine x_get (pc := 32) (q := 193) (i := 4) C e_M rfl ttX7 (by decide) wd_6_231 rfl dX7_undo_32 ?_
    refine x_aload_n (pc := 35) (i := 0) C 0 dX7_undo_35 rfl rfl ?_
    refine x_get (pc := 36) (q := 193) (i := 6) C e_M rfl ttX7 (by decide) wd_6_233 rfl dX7_undo_36 ?_
    refine x_bipush (pc := 39) (v := 124) C dX7_undo_39 (by decide) ?_
    refine x_imul (pc := 41) C dX7_undo_41 ?_
    refine x_aload_n (pc := 42) (i := 0) C 0 dX7_undo_42 rfl rfl ?_
    refine x_get (pc := 43) (q := 193) (i := 0) C e_M rfl ttX7 (by decide) wd_6_227 rfl dX7_undo_43 ?_
    refine x_iconst (pc := 46) (v := 0) C dX7_undo_46 (by decide) ?_
    have h6 := hok
    refine x_cVS (pc := 47) (as := [.ref (ad 198), .int ((mi M5 6) * 124), .ref (ad 194), .int 0]) C (c_X7_copies_M4_M0 C.2.2.2.2.2.2.2.1  B M5 O ((mi M5 6) * 124) 0 h6) wd_7_68 cd_X7_copies wd_7_67 ⟨Nat.le_of_ble_eq_true rfl, Nat.le_of_ble_eq_true rfl⟩ ⟨Nat.le_of_ble_eq_true rfl, Nat.le_of_ble_eq_true rfl⟩ rfl rfl (Nat.le_of_ble_eq_true rfl) dX7_undo_47 ?_
    refine x_nmM (fun M7 eM7 => ?_)
    have hR := nmE hR eM7
    refine x_aload_n (pc := 50) (i := 0) C 0 dX7_undo_50 rfl rfl ?_
    refine x_get (pc := 51) (q := 193) (i := 6) C e_M rfl ttX7 (by decide) wd_6_233 rfl dX7_undo_51 ?_
    exact x_iretM (pc := 54) C rfl hR dX7_undo_54
  · have hR := hR.trans (if_pos c4)
    refine x_iconst (pc := 19) (v := 0) C dX7_undo_19 (by decide) ?_
    exact x_iretM (pc := 20) C rfl hR dX7_undo_20
set_option maxHeartbeats 4000000 in
set_option maxRecDepth 100000 in
theorem c_X7_undo {l : Launch} {A : Nat → Prop} {G : GT} {ad : Nat → Nat} (gl : Gl l A ad)  (B : StB) (M : StM) (O : StO)  (hok : ok_X7_undo M) : Met l yX7_undo (wof yX7_undo cX7_undo 1 (some .int)) (rmd 3 0 0) (va_Pc [.ref (ad 193)] (PW G A ad B M O)) (QI G A ad (f_X7_undo M).1 B (f_X7_undo M).2 O) 0 0 A := by
  refine x_body (own := RX7) (by decide +kernel) rfl gl (Nat.le_of_ble_eq_true rfl) (ls := [(0, .ref (ad 193))]) rfl ?_
  intro p0 e s m args below meth c C
  have hR : (f_X7_undo M) = (if (mi M 6) ≤ 0 then (f_X7_undo_J13 M 0) else (f_X7_undo_J13 M 1)) := rfl
  have hok : (((mi M 6) ≤ 0 → (ok_X7_undo_J13 M 0)) ∧ (¬ (mi M 6) ≤ 0 → (ok_X7_undo_J13 M 1))) := hok
  refine x_aload_n (pc := 0) (i := 0) C 0 dX7_undo_0 rfl rfl ?_
  refine x_aload_n (pc := 1) (i := 0) C 0 dX7_undo_1 rfl rfl ?_
  refine x_get (pc := 2) (q := 193) (i := 6) C e_M rfl ttX7 (by decide) wd_6_233 rfl dX7_undo_2 ?_
  refine x_if_le (pc := 5) (tgt := 12) C dX7_undo_5 (by decide) (fun c1 => ?_) (fun c1 => ?_)
  · have hR := hR.trans (if_pos c1)
    have hok := hok.1 c1
    refine x_iconst (pc := 12) (v := 0) C dX7_undo_12 (by decide) ?_
    refine x_sub [0] (ls2 := [(0, .ref (ad 193))]) rfl ?_
    exact t_X7_undo_J13 C M 0 B O _ hR hok
  · have hR := hR.trans (if_neg c1)
    have hok := hok.2 c1
    refine x_iconst (pc := 8) (v := 1) C dX7_undo_8 (by decide) ?_
    refine x_goto (pc := 9) (tgt := 13) C dX7_undo_9 (by decide) ?_
    refine x_sub [0] (ls2 := [(0, .ref (ad 193))]) rfl ?_
    exact t_X7_undo_J13 C M 1 B O _ hR hok
set_option maxHeartbeats 4000000 in
set_option maxRecDepth 100000 in
theorem c_X7_restore {l : Launch} {A : Nat → Prop} {G : GT} {ad : Nat → Nat} (gl : Gl l A ad)  (B : StB) (M : StM) (O : StO)  (hok : ok_X7_restore M) : Met l yX7_restore (wof yX7_restore cX7_restore 1 (some .int)) (rmd 3 0 0) (va_Pc [.ref (ad 193)] (PW G A ad B M O)) (QI G A ad (f_X7_restore M).1 B (f_X7_restore M).2 O) 0 0 A := by
  refine x_body (own := RX7) (by decide +kernel) rfl gl (Nat.le_of_ble_eq_true rfl) (ls := [(0, .ref (ad 193))]) rfl ?_
  intro p0 e s m args below meth c C
  have hR : (f_X7_restore M) = (nm (f_X7_goes M (mi M 5)) (fun (z2 : Int32 × StM) => (if z2.1 = 0 then (0, z2.2) else (nm (f_X7_copies_M3_M0 z2.2 0 0) (fun (M5 : StM) => (nm (smi M5 6 0) (fun (M6 : StM) => ((ma M6 0 (ix 0)), M6)))))))) := rfl
  have hok : ((ok_X7_goes M (mi M 5)) ∧ (∀ z2 : Int32 × StM, z2 = (f_X7_goes M (mi M 5)) → ((z2.1 = 0 → True) ∧ (¬ z2.1 = 0 → ((ok_X7_copies_M3_M0 z2.2 0 0)))))) := hok
  refine x_aload_n (pc := 0) (i := 0) C 0 dX7_restore_0 rfl rfl ?_
  refine x_aload_n (pc := 1) (i := 0) C 0 dX7_restore_1 rfl rfl ?_
  refine x_get (pc := 2) (q := 193) (i := 5) C e_M rfl ttX7 (by decide) wd_6_232 rfl dX7_restore_2 ?_
  have h1 := hok.1
  have hok := hok.2
  refine x_cIV (pc := 5) (as := [.int (mi M 5)]) (q := 193) C (c_X7_goes C.2.2.2.2.2.2.2.1  B M O (mi M 5) h1) (fs := _) e_M rfl cv_X7_goes cd_X7_goes wd_7_59 ⟨Nat.le_of_ble_eq_true rfl, Nat.le_of_ble_eq_true rfl⟩ ⟨Nat.le_of_ble_eq_true rfl, Nat.le_of_ble_eq_true rfl⟩ rfl rfl (Nat.le_of_ble_eq_true rfl) dX7_restore_5 ?_
  refine x_nmIM (fun z2 ez2 => ?_)
  have hR := nmE hR ez2
  have hok := hok z2 ez2
  refine x_if_ne (pc := 8) (tgt := 13) C dX7_restore_8 (by decide) (fun c3 => ?_) (fun c3 => ?_)
  · have hR := hR.trans (if_neg c3)
    have hok := hok.2 c3
    refine x_aload_n (pc := 13) (i := 0) C 0 dX7_restore_13 rfl rfl ?_
    refine x_get (pc := 14) (q := 193) (i := 3) C e_M rfl ttX7 (by decide) wd_6_230 rfl dX7_restore_14 ?_
    refine x_iconst (pc := 17) (v := 0) C dX7_restore_17 (by decide) ?_
    refine x_aload_n (pc := 18) (i := 0) C 0 dX7_restore_18 rfl rfl ?_
    refine x_get (pc := 19) (q := 193) (i := 0) C e_M rfl ttX7 (by decide) wd_6_227 rfl dX7_restore_19 ?_
    refine x_iconst (pc := 22) (v := 0) C dX7_restore_22 (by decide) ?_
    have h4 := hok
    refine x_cVS (pc := 23) (as := [.ref (ad 197), .int 0, .ref (ad 194), .int 0]) C (c_X7_copies_M3_M0 C.2.2.2.2.2.2.2.1  B z2.2 O 0 0 h4) wd_7_68 cd_X7_copies wd_7_67 ⟨Nat.le_of_ble_eq_true rfl, Nat.le_of_ble_eq_true rfl⟩ ⟨Nat.le_of_ble_eq_true rfl, Nat.le_of_ble_eq_true rfl⟩ rfl rfl (Nat.le_of_ble_eq_true rfl) dX7_restore_23 ?_
    refine x_nmM (fun M5 eM5 => ?_)
    have hR := nmE hR eM5
    refine x_aload_n (pc := 26) (i := 0) C 0 dX7_restore_26 rfl rfl ?_
    refine x_iconst (pc := 27) (v := 0) C dX7_restore_27 (by decide) ?_
    refine x_put (pc := 28) (M2 := (smi M5 6 0)) (B2 := B) (O2 := O) (q := 193) (i := 6) C tyX7 tyX7_ok nmX7 e_M rfl ttX7 (by decide) wd_6_233 rfl rfl rfl (Nat.le_of_ble_eq_true rfl) dX7_restore_28 (put_M_6 ) (o_smi 6 0) ?_
    refine x_nmM (fun M6 eM6 => ?_)
    have hR := nmE hR eM6
    refine x_aload_n (pc := 31) (i := 0) C 0 dX7_restore_31 rfl rfl ?_
    refine x_get (pc := 32) (q := 193) (i := 0) C e_M rfl ttX7 (by decide) wd_6_227 rfl dX7_restore_32 ?_
    refine x_iconst (pc := 35) (v := 0) C dX7_restore_35 (by decide) ?_
    have h7 : vp_in (0) 124 := (by decide : ¬ ((0 : Int32) < 0 ∨ 124 ≤ Int32.toNatClampNeg 0))
    refine x_iald (pc := 36) (q := 194) C e_M0 h7 dX7_restore_36 ?_
    exact x_iretM (pc := 37) C rfl hR dX7_restore_37
  · have hR := hR.trans (if_pos c3)
    refine x_iconst (pc := 11) (v := 0) C dX7_restore_11 (by decide) ?_
    exact x_iretM (pc := 12) C rfl hR dX7_restore_12
set_option maxHeartbeats 4000000 in
set_option maxRecDepth 100000 in
theorem c_X7_ends {l : Launch} {A : Nat → Prop} {G : GT} {ad : Nat → Nat} (gl : Gl l A ad)  (B : StB) (M : StM) (O : StO) (x0 : Int32) (hok : ok_X7_ends M x0) : Met l yX7_ends (wof yX7_ends cX7_ends 2 (some .int)) (rmd 3 0 0) (va_Pc [.ref (ad 193), .int x0] (PW G A ad B M O)) (QI G A ad (f_X7_ends M x0).1 B (f_X7_ends M x0).2 O) 0 0 A := by
  refine x_body (own := RX7) (by decide +kernel) rfl gl (Nat.le_of_ble_eq_true rfl) (ls := [(0, .ref (ad 193)), (1, .int x0)]) rfl ?_
  intro p0 e s m args below meth c C
  have hR : (f_X7_ends M x0) = (if (mi M 15) = 0 then (nm (f_X7_remembers M) (fun (M3 : StM) => (x0, M3))) else (nm (f_X7_copies_M1_M0 M 0 0) (fun (M5 : StM) => (0, M5)))) := rfl
  have hok : (((mi M 15) = 0 → ((ok_X7_remembers M))) ∧ (¬ (mi M 15) = 0 → ((ok_X7_copies_M1_M0 M 0 0)))) := hok
  refine x_aload_n (pc := 0) (i := 0) C 0 dX7_ends_0 rfl rfl ?_
  refine x_get (pc := 1) (q := 193) (i := 15) C e_M rfl ttX7 (by decide) wd_7_2 rfl dX7_ends_1 ?_
  refine x_if_eq (pc := 4) (tgt := 22) C dX7_ends_4 (by decide) (fun c1 => ?_) (fun c1 => ?_)
  · have hR := hR.trans (if_pos c1)
    have hok := hok.1 c1
    refine x_aload_n (pc := 22) (i := 0) C 0 dX7_ends_22 rfl rfl ?_
    have h2 := hok
    refine x_cVV (pc := 23) (as := []) (q := 193) C (c_X7_remembers C.2.2.2.2.2.2.2.1  B M O  h2) (fs := _) e_M rfl cv_X7_remembers cd_X7_remembers wd_7_100 ⟨Nat.le_of_ble_eq_true rfl, Nat.le_of_ble_eq_true rfl⟩ ⟨Nat.le_of_ble_eq_true rfl, Nat.le_of_ble_eq_true rfl⟩ rfl rfl (Nat.le_of_ble_eq_true rfl) dX7_ends_23 ?_
    refine x_nmM (fun M3 eM3 => ?_)
    have hR := nmE hR eM3
    refine x_iload_n (pc := 26) (i := 1) C 1 dX7_ends_26 rfl rfl ?_
    exact x_iretM (pc := 27) C rfl hR dX7_ends_27
  · have hR := hR.trans (if_neg c1)
    have hok := hok.2 c1
    refine x_aload_n (pc := 7) (i := 0) C 0 dX7_ends_7 rfl rfl ?_
    refine x_get (pc := 8) (q := 193) (i := 1) C e_M rfl ttX7 (by decide) wd_6_228 rfl dX7_ends_8 ?_
    refine x_iconst (pc := 11) (v := 0) C dX7_ends_11 (by decide) ?_
    refine x_aload_n (pc := 12) (i := 0) C 0 dX7_ends_12 rfl rfl ?_
    refine x_get (pc := 13) (q := 193) (i := 0) C e_M rfl ttX7 (by decide) wd_6_227 rfl dX7_ends_13 ?_
    refine x_iconst (pc := 16) (v := 0) C dX7_ends_16 (by decide) ?_
    have h4 := hok
    refine x_cVS (pc := 17) (as := [.ref (ad 195), .int 0, .ref (ad 194), .int 0]) C (c_X7_copies_M1_M0 C.2.2.2.2.2.2.2.1  B M O 0 0 h4) wd_7_68 cd_X7_copies wd_7_67 ⟨Nat.le_of_ble_eq_true rfl, Nat.le_of_ble_eq_true rfl⟩ ⟨Nat.le_of_ble_eq_true rfl, Nat.le_of_ble_eq_true rfl⟩ rfl rfl (Nat.le_of_ble_eq_true rfl) dX7_ends_17 ?_
    refine x_nmM (fun M5 eM5 => ?_)
    have hR := nmE hR eM5
    refine x_iconst (pc := 20) (v := 0) C dX7_ends_20 (by decide) ?_
    exact x_iretM (pc := 21) C rfl hR dX7_ends_21
set_option maxHeartbeats 4000000 in
set_option maxRecDepth 100000 in
theorem t_X7_of_J17 {p0 : Program} {l : Launch} {e : Env} {s : State} {m : MethodId} {args : Array Value} {below : List Frame} {meth : Method} {c : Code} {A : Nat → Prop} {G : GT} {ad : Nat → Nat} (C : CX p0 l s m args meth c A G ad cX7_of RX7 3 (some .int))  (M : StM) (a2 : Int32) (s0 : Int32) (B : StB) (O : StO) (R0 : Int32) (hR : R0 = f_X7_of_J17 M a2 s0) (hok : ok_X7_of_J17 M a2 s0) : X p0 l e (rmd 3 0 0) s m args below meth c A G ad 3 0 0 (MQ below (QI G A ad R0 B M O) args s 0 0 A) B M O [(2, .int a2)] 17 [.int s0, .ref (ad 194)] := by
  have hR : R0 = (nm (f_X7_accountAt s0) (fun (r4 : Int32) => (ma M 0 (ix (r4 + a2))))) := hR
  have hok : (∀ r4 : Int32, r4 = (f_X7_accountAt s0) → (vp_in (r4 + a2) 124)) := hok
  refine x_cIS (pc := 17) (as := [.int s0]) C (c_X7_accountAt C.2.2.2.2.2.2.2.1  B M O s0) wd_7_94 cd_X7_accountAt wd_7_93 ⟨Nat.le_of_ble_eq_true rfl, Nat.le_of_ble_eq_true rfl⟩ ⟨Nat.le_of_ble_eq_true rfl, Nat.le_of_ble_eq_true rfl⟩ rfl rfl (Nat.le_of_ble_eq_true rfl) dX7_of_17 ?_
  refine x_nmI (fun r4 er4 => ?_)
  have hR := nmE hR er4
  have hok := hok r4 er4
  refine x_iload_n (pc := 20) (i := 2) C 0 dX7_of_20 rfl rfl ?_
  refine x_iadd (pc := 21) C dX7_of_21 ?_
  have h5 := hok
  refine x_iald (pc := 22) (q := 194) C e_M0 h5 dX7_of_22 ?_
  exact x_iret (pc := 23) C rfl hR dX7_of_23
set_option maxHeartbeats 4000000 in
set_option maxRecDepth 100000 in
theorem c_X7_of {l : Launch} {A : Nat → Prop} {G : GT} {ad : Nat → Nat} (gl : Gl l A ad)  (B : StB) (M : StM) (O : StO) (x0 : Int32) (x1 : Int32) (hok : ok_X7_of M x0 x1) : Met l yX7_of (wof yX7_of cX7_of 3 (some .int)) (rmd 3 0 0) (va_Pc [.ref (ad 193), .int x0, .int x1] (PW G A ad B M O)) (QI G A ad (f_X7_of M x0 x1) B M O) 0 0 A := by
  refine x_body (own := RX7) (by decide +kernel) rfl gl (Nat.le_of_ble_eq_true rfl) (ls := [(0, .ref (ad 193)), (1, .int x0), (2, .int x1)]) rfl ?_
  intro p0 e s m args below meth c C
  have hR : (f_X7_of M x0 x1) = (nm (f_X7_isAccount M x0) (fun (r2 : Int32) => (if r2 = 0 then (f_X7_of_J17 M x1 0) else (f_X7_of_J17 M x1 x0)))) := rfl
  have hok : ((ok_X7_isAccount M x0) ∧ (∀ r2 : Int32, r2 = (f_X7_isAccount M x0) → ((r2 = 0 → (ok_X7_of_J17 M x1 0)) ∧ (¬ r2 = 0 → (ok_X7_of_J17 M x1 x0))))) := hok
  refine x_aload_n (pc := 0) (i := 0) C 0 dX7_of_0 rfl rfl ?_
  refine x_get (pc := 1) (q := 193) (i := 0) C e_M rfl ttX7 (by decide) wd_6_227 rfl dX7_of_1 ?_
  refine x_aload_n (pc := 4) (i := 0) C 0 dX7_of_4 rfl rfl ?_
  refine x_iload_n (pc := 5) (i := 1) C 1 dX7_of_5 rfl rfl ?_
  have h1 := hok.1
  have hok := hok.2
  refine x_cIV (pc := 6) (as := [.int x0]) (q := 193) C (c_X7_isAccount C.2.2.2.2.2.2.2.1  B M O x0 h1) (fs := _) e_M rfl cv_X7_isAccount cd_X7_isAccount wd_7_115 ⟨Nat.le_of_ble_eq_true rfl, Nat.le_of_ble_eq_true rfl⟩ ⟨Nat.le_of_ble_eq_true rfl, Nat.le_of_ble_eq_true rfl⟩ rfl rfl (Nat.le_of_ble_eq_true rfl) dX7_of_6 ?_
  refine x_nmI (fun r2 er2 => ?_)
  have hR := nmE hR er2
  have hok := hok r2 er2
  refine x_if_eq (pc := 9) (tgt := 16) C dX7_of_9 (by decide) (fun c3 => ?_) (fun c3 => ?_)
  · have hR := hR.trans (if_pos c3)
    have hok := hok.1 c3
    refine x_iconst (pc := 16) (v := 0) C dX7_of_16 (by decide) ?_
    refine x_sub [2] (ls2 := [(2, .int x1)]) rfl ?_
    exact t_X7_of_J17 C M x1 0 B O _ hR hok
  · have hR := hR.trans (if_neg c3)
    have hok := hok.2 c3
    refine x_iload_n (pc := 12) (i := 1) C 1 dX7_of_12 rfl rfl ?_
    refine x_goto (pc := 13) (tgt := 17) C dX7_of_13 (by decide) ?_
    refine x_sub [2] (ls2 := [(2, .int x1)]) rfl ?_
    exact t_X7_of_J17 C M x1 x0 B O _ hR hok
set_option maxHeartbeats 4000000 in
set_option maxRecDepth 100000 in
theorem t_X7_seals_J70 {p0 : Program} {l : Launch} {e : Env} {s : State} {m : MethodId} {args : Array Value} {below : List Frame} {meth : Method} {c : Code} {A : Nat → Prop} {G : GT} {ad : Nat → Nat} (C : CX p0 l s m args meth c A G ad cX7_seals RX7 7 (some .int))  (M : StM) (a1 : Int32) (a2 : Int32) (a3 : Int32) (a4 : Int32) (s0 : Int32) (s1 : Int32) (s2 : Int32) (B : StB) (O : StO) (R0 : Int32 × StM) (hR : R0 = f_X7_seals_J70 M a1 a2 a3 a4 s0 s1 s2) (hok : ok_X7_seals_J70 M a1 a2 a3 a4 s0 s1 s2) : X p0 l e (rmd 3 0 0) s m args below meth c A G ad 7 0 0 (MQ below (QI G A ad R0.1 B R0.2 O) args s 0 0 A) B M O [(0, .ref (ad 193)), (1, .int a1), (2, .int a2), (3, .int a3), (4, .int a4)] 70 [.int s0, .int s1, .int s2, .ref (ad 193)] := by
  have hR : R0 = (nm (f_X7_holds M s2 s1 s0 1) (fun (z7 : Int32 × StM) => (if z7.1 = 0 then (0, z7.2) else (nm (44 + (5 * (ma z7.2 0 (ix 3)))) (fun (v10 : Int32) => (nm (sma z7.2 0 (ix (v10 + 0)) (ma z7.2 0 (ix 2))) (fun (M13 : StM) => (nm (sma M13 0 (ix (v10 + 1)) a1) (fun (M15 : StM) => (nm (sma M15 0 (ix (v10 + 2)) a2) (fun (M17 : StM) => (nm (sma M17 0 (ix (v10 + 3)) a3) (fun (M19 : StM) => (nm (sma M19 0 (ix (v10 + 4)) ((ma M19 0 (ix 0)) + a4)) (fun (M22 : StM) => (nm (sma M22 0 (ix 3) ((ma M22 0 (ix 3)) + 1)) (fun (M25 : StM) => (nm (sma M25 0 (ix 2) ((ma M25 0 (ix 2)) + 1)) (fun (M28 : StM) => (((ma M28 0 (ix 2)) - 1), M28)))))))))))))))))))) := hR
  have hok : (∀ z7 : Int32 × StM, z7 = (f_X7_holds M s2 s1 s0 1) → ((z7.1 = 0 → True) ∧ (¬ z7.1 = 0 → (∀ v10 : Int32, v10 = (44 + (5 * (ma z7.2 0 (ix 3)))) → (vp_in (v10 + 0) 124 ∧ (∀ M13 : StM, M13 = (sma z7.2 0 (ix (v10 + 0)) (ma z7.2 0 (ix 2))) → (vp_in (v10 + 1) 124 ∧ (∀ M15 : StM, M15 = (sma M13 0 (ix (v10 + 1)) a1) → (vp_in (v10 + 2) 124 ∧ (∀ M17 : StM, M17 = (sma M15 0 (ix (v10 + 2)) a2) → (vp_in (v10 + 3) 124 ∧ (∀ M19 : StM, M19 = (sma M17 0 (ix (v10 + 3)) a3) → (vp_in (v10 + 4) 124))))))))))))) := hok
  refine x_iconst (pc := 70) (v := 1) C dX7_seals_70 (by decide) ?_
  refine x_cIV (pc := 71) (as := [.int s2, .int s1, .int s0, .int 1]) (q := 193) C (c_X7_holds C.2.2.2.2.2.2.2.1  B M O s2 s1 s0 1) (fs := _) e_M rfl cv_X7_holds cd_X7_holds wd_7_63 ⟨Nat.le_of_ble_eq_true rfl, Nat.le_of_ble_eq_true rfl⟩ ⟨Nat.le_of_ble_eq_true rfl, Nat.le_of_ble_eq_true rfl⟩ rfl rfl (Nat.le_of_ble_eq_true rfl) dX7_seals_71 ?_
  refine x_nmIM (fun z7 ez7 => ?_)
  have hR := nmE hR ez7
  have hok := hok z7 ez7
  refine x_if_ne (pc := 74) (tgt := 79) C dX7_seals_74 (by decide) (fun c8 => ?_) (fun c8 => ?_)
  · have hR := hR.trans (if_neg c8)
    have hok := hok.2 c8
    refine x_bipush (pc := 79) (v := 44) C dX7_seals_79 (by decide) ?_
    refine x_iconst (pc := 81) (v := 5) C dX7_seals_81 (by decide) ?_
    refine x_aload_n (pc := 82) (i := 0) C 0 dX7_seals_82 rfl rfl ?_
    refine x_get (pc := 83) (q := 193) (i := 0) C e_M rfl ttX7 (by decide) wd_6_227 rfl dX7_seals_83 ?_
    refine x_iconst (pc := 86) (v := 3) C dX7_seals_86 (by decide) ?_
    have h9 : vp_in (3) 124 := (by decide : ¬ ((3 : Int32) < 0 ∨ 124 ≤ Int32.toNatClampNeg 3))
    refine x_iald (pc := 87) (q := 194) C e_M0 h9 dX7_seals_87 ?_
    refine x_imul (pc := 88) C dX7_seals_88 ?_
    refine x_iadd (pc := 89) C dX7_seals_89 ?_
    refine x_nmI (fun v10 ev10 => ?_)
    have hR := nmE hR ev10
    have hok := hok v10 ev10
    refine x_istore (pc := 90) (i := 6) (ls2 := [(6, .int v10), (0, .ref (ad 193)), (1, .int a1), (2, .int a2), (3, .int a3), (4, .int a4)]) C dX7_seals_90 (by decide) rfl ?_
    refine x_aload_n (pc := 92) (i := 0) C 1 dX7_seals_92 rfl rfl ?_
    refine x_get (pc := 93) (q := 193) (i := 0) C e_M rfl ttX7 (by decide) wd_6_227 rfl dX7_seals_93 ?_
    refine x_iload (pc := 96) (i := 6) C 0 dX7_seals_96 rfl ?_
    refine x_iconst (pc := 98) (v := 0) C dX7_seals_98 (by decide) ?_
    refine x_iadd (pc := 99) C dX7_seals_99 ?_
    refine x_aload_n (pc := 100) (i := 0) C 1 dX7_seals_100 rfl rfl ?_
    refine x_get (pc := 101) (q := 193) (i := 0) C e_M rfl ttX7 (by decide) wd_6_227 rfl dX7_seals_101 ?_
    refine x_iconst (pc := 104) (v := 2) C dX7_seals_104 (by decide) ?_
    have h11 : vp_in (2) 124 := (by decide : ¬ ((2 : Int32) < 0 ∨ 124 ≤ Int32.toNatClampNeg 2))
    refine x_iald (pc := 105) (q := 194) C e_M0 h11 dX7_seals_105 ?_
    have h12 := hok.1
    have hok := hok.2
    refine x_iastM (pc := 106) (j := 0) C (by decide) e_M0 e_M0.2 h12 dX7_seals_106 ?_
    refine x_nmM (fun M13 eM13 => ?_)
    have hR := nmE hR eM13
    have hok := hok M13 eM13
    refine x_aload_n (pc := 107) (i := 0) C 1 dX7_seals_107 rfl rfl ?_
    refine x_get (pc := 108) (q := 193) (i := 0) C e_M rfl ttX7 (by decide) wd_6_227 rfl dX7_seals_108 ?_
    refine x_iload (pc := 111) (i := 6) C 0 dX7_seals_111 rfl ?_
    refine x_iconst (pc := 113) (v := 1) C dX7_seals_113 (by decide) ?_
    refine x_iadd (pc := 114) C dX7_seals_114 ?_
    refine x_iload_n (pc := 115) (i := 1) C 2 dX7_seals_115 rfl rfl ?_
    have h14 := hok.1
    have hok := hok.2
    refine x_iastM (pc := 116) (j := 0) C (by decide) e_M0 e_M0.2 h14 dX7_seals_116 ?_
    refine x_nmM (fun M15 eM15 => ?_)
    have hR := nmE hR eM15
    have hok := hok M15 eM15
    refine x_aload_n (pc := 117) (i := 0) C 1 dX7_seals_117 rfl rfl ?_
    refine x_get (pc := 118) (q := 193) (i := 0) C e_M rfl ttX7 (by decide) wd_6_227 rfl dX7_seals_118 ?_
    refine x_iload (pc := 121) (i := 6) C 0 dX7_seals_121 rfl ?_
    refine x_iconst (pc := 123) (v := 2) C dX7_seals_123 (by decide) ?_
    refine x_iadd (pc := 124) C dX7_seals_124 ?_
    refine x_iload_n (pc := 125) (i := 2) C 3 dX7_seals_125 rfl rfl ?_
    have h16 := hok.1
    have hok := hok.2
    refine x_iastM (pc := 126) (j := 0) C (by decide) e_M0 e_M0.2 h16 dX7_seals_126 ?_
    refine x_nmM (fun M17 eM17 => ?_)
    have hR := nmE hR eM17
    have hok := hok M17 eM17
    refine x_aload_n (pc := 127) (i := 0) C 1 dX7_seals_127 rfl rfl ?_
    refine x_get (pc := 128) (q := 193) (i := 0) C e_M rfl ttX7 (by decide) wd_6_227 rfl dX7_seals_128 ?_
    refine x_iload (pc := 131) (i := 6) C 0 dX7_seals_131 rfl ?_
    refine x_iconst (pc := 133) (v := 3) C dX7_seals_133 (by decide) ?_
    refine x_iadd (pc := 134) C dX7_seals_134 ?_
    refine x_iload_n (pc := 135) (i := 3) C 4 dX7_seals_135 rfl rfl ?_
    have h18 := hok.1
    have hok := hok.2
    refine x_iastM (pc := 136) (j := 0) C (by decide) e_M0 e_M0.2 h18 dX7_seals_136 ?_
    refine x_nmM (fun M19 eM19 => ?_)
    have hR := nmE hR eM19
    have hok := hok M19 eM19
    refine x_aload_n (pc := 137) (i := 0) C 1 dX7_seals_137 rfl rfl ?_
    refine x_get (pc := 138) (q := 193) (i := 0) C e_M rfl ttX7 (by decide) wd_6_227 rfl dX7_seals_138 ?_
    refine x_iload (pc := 141) (i := 6) C 0 dX7_seals_141 rfl ?_
    refine x_iconst (pc := 143) (v := 4) C dX7_seals_143 (by decide) ?_
    refine x_iadd (pc := 144) C dX7_seals_144 ?_
    refine x_aload_n (pc := 145) (i := 0) C 1 dX7_seals_145 rfl rfl ?_
    refine x_get (pc := 146) (q := 193) (i := 0) C e_M rfl ttX7 (by decide) wd_6_227 rfl dX7_seals_146 ?_
    refine x_iconst (pc := 149) (v := 0) C dX7_seals_149 (by decide) ?_
    have h20 : vp_in (0) 124 := (by decide : ¬ ((0 : Int32) < 0 ∨ 124 ≤ Int32.toNatClampNeg 0))
    refine x_iald (pc := 150) (q := 194) C e_M0 h20 dX7_seals_150 ?_
    refine x_iload (pc := 151) (i := 4) C 5 dX7_seals_151 rfl ?_
    refine x_iadd (pc := 153) C dX7_seals_153 ?_
    have h21 := hok
    refine x_iastM (pc := 154) (j := 0) C (by decide) e_M0 e_M0.2 h21 dX7_seals_154 ?_
    refine x_nmM (fun M22 eM22 => ?_)
    have hR := nmE hR eM22
    refine x_aload_n (pc := 155) (i := 0) C 1 dX7_seals_155 rfl rfl ?_
    refine x_get (pc := 156) (q := 193) (i := 0) C e_M rfl ttX7 (by decide) wd_6_227 rfl dX7_seals_156 ?_
    refine x_iconst (pc := 159) (v := 3) C dX7_seals_159 (by decide) ?_
    refine x_dup2 (pc := 160) C dX7_seals_160 rfl rfl ?_
    have h23 : vp_in (3) 124 := (by decide : ¬ ((3 : Int32) < 0 ∨ 124 ≤ Int32.toNatClampNeg 3))
    refine x_iald (pc := 161) (q := 194) C e_M0 h23 dX7_seals_161 ?_
    refine x_iconst (pc := 162) (v := 1) C dX7_seals_162 (by decide) ?_
    refine x_iadd (pc := 163) C dX7_seals_163 ?_
    have h24 : vp_in (3) 124 := (by decide : ¬ ((3 : Int32) < 0 ∨ 124 ≤ Int32.toNatClampNeg 3))
    refine x_iastM (pc := 164) (j := 0) C (by decide) e_M0 e_M0.2 h24 dX7_seals_164 ?_
    refine x_nmM (fun M25 eM25 => ?_)
    have hR := nmE hR eM25
    refine x_aload_n (pc := 165) (i := 0) C 1 dX7_seals_165 rfl rfl ?_
    refine x_get (pc := 166) (q := 193) (i := 0) C e_M rfl ttX7 (by decide) wd_6_227 rfl dX7_seals_166 ?_
    refine x_iconst (pc := 169) (v := 2) C dX7_seals_169 (by decide) ?_
    refine x_dup2 (pc := 170) C dX7_seals_170 rfl rfl ?_
    have h26 : vp_in (2) 124 := (by decide : ¬ ((2 : Int32) < 0 ∨ 124 ≤ Int32.toNatClampNeg 2))
    refine x_iald (pc := 171) (q := 194) C e_M0 h26 dX7_seals_171 ?_
    refine x_iconst (pc := 172) (v := 1) C dX7_seals_172 (by decide) ?_
    refine x_iadd (pc := 173) C dX7_seals_173 ?_
    have h27 : vp_in (2) 124 := (by decide : ¬ ((2 : Int32) < 0 ∨ 124 ≤ Int32.toNatClampNeg 2))
    refine x_iastM (pc := 174) (j := 0) C (by decide) e_M0 e_M0.2 h27 dX7_seals_174 ?_
    refine x_nmM (fun M28 eM28 => ?_)
    have hR := nmE hR eM28
    refine x_aload_n (pc := 175) (i := 0) C 1 dX7_seals_175 rfl rfl ?_
    refine x_get (pc := 176) (q := 193) (i := 0) C e_M rfl ttX7 (by decide) wd_6_227 rfl dX7_seals_176 ?_
    refine x_iconst (pc := 179) (v := 2) C dX7_seals_179 (by decide) ?_
    have h29 : vp_in (2) 124 := (by decide : ¬ ((2 : Int32) < 0 ∨ 124 ≤ Int32.toNatClampNeg 2))
    refine x_iald (pc := 180) (q := 194) C e_M0 h29 dX7_seals_180 ?_
    refine x_iconst (pc := 181) (v := 1) C dX7_seals_181 (by decide) ?_
    refine x_isub (pc := 182) C dX7_seals_182 ?_
    exact x_iretM (pc := 183) C rfl hR dX7_seals_183
  · have hR := hR.trans (if_pos c8)
    refine x_iconst (pc := 77) (v := 0) C dX7_seals_77 (by decide) ?_
    exact x_iretM (pc := 78) C rfl hR dX7_seals_78
set_option maxHeartbeats 4000000 in
set_option maxRecDepth 100000 in
theorem t_X7_seals_J52 {p0 : Program} {l : Launch} {e : Env} {s : State} {m : MethodId} {args : Array Value} {below : List Frame} {meth : Method} {c : Code} {A : Nat → Prop} {G : GT} {ad : Nat → Nat} (C : CX p0 l s m args meth c A G ad cX7_seals RX7 7 (some .int))  (M : StM) (a1 : Int32) (a2 : Int32) (a3 : Int32) (a4 : Int32) (a5 : Int32) (s0 : Int32) (B : StB) (O : StO) (R0 : Int32 × StM) (hR : R0 = f_X7_seals_J52 M a1 a2 a3 a4 a5 s0) (hok : ok_X7_seals_J52 M a1 a2 a3 a4 a5 s0) : X p0 l e (rmd 3 0 0) s m args below meth c A G ad 7 0 0 (MQ below (QI G A ad R0.1 B R0.2 O) args s 0 0 A) B M O [(0, .ref (ad 193)), (1, .int a1), (2, .int a2), (3, .int a3), (4, .int a4), (5, .int a5)] 52 [.int s0, .ref (ad 193)] := by
  have hR : R0 = (if 10 ≤ (ma M 0 (ix 3)) then (f_X7_seals_J70 M a1 a2 a3 a4 0 a5 s0) else (f_X7_seals_J70 M a1 a2 a3 a4 1 a5 s0)) := hR
  have hok : ((10 ≤ (ma M 0 (ix 3)) → (ok_X7_seals_J70 M a1 a2 a3 a4 0 a5 s0)) ∧ (¬ 10 ≤ (ma M 0 (ix 3)) → (ok_X7_seals_J70 M a1 a2 a3 a4 1 a5 s0))) := hok
  refine x_iload (pc := 52) (i := 5) C 5 dX7_seals_52 rfl ?_
  refine x_aload_n (pc := 54) (i := 0) C 0 dX7_seals_54 rfl rfl ?_
  refine x_get (pc := 55) (q := 193) (i := 0) C e_M rfl ttX7 (by decide) wd_6_227 rfl dX7_seals_55 ?_
  refine x_iconst (pc := 58) (v := 3) C dX7_seals_58 (by decide) ?_
  have h5 : vp_in (3) 124 := (by decide : ¬ ((3 : Int32) < 0 ∨ 124 ≤ Int32.toNatClampNeg 3))
  refine x_iald (pc := 59) (q := 194) C e_M0 h5 dX7_seals_59 ?_
  refine x_bipush (pc := 60) (v := 10) C dX7_seals_60 (by decide) ?_
  refine x_icmp_ge (pc := 62) (tgt := 69) C dX7_seals_62 (by decide) (fun c6 => ?_) (fun c6 => ?_)
  · have hR := hR.trans (if_pos c6)
    have hok := hok.1 c6
    refine x_iconst (pc := 69) (v := 0) C dX7_seals_69 (by decide) ?_
    refine x_sub [0, 1, 2, 3, 4] (ls2 := [(0, .ref (ad 193)), (1, .int a1), (2, .int a2), (3, .int a3), (4, .int a4)]) rfl ?_
    exact t_X7_seals_J70 C M a1 a2 a3 a4 0 a5 s0 B O _ hR hok
  · have hR := hR.trans (if_neg c6)
    have hok := hok.2 c6
    refine x_iconst (pc := 65) (v := 1) C dX7_seals_65 (by decide) ?_
    refine x_goto (pc := 66) (tgt := 70) C dX7_seals_66 (by decide) ?_
    refine x_sub [0, 1, 2, 3, 4] (ls2 := [(0, .ref (ad 193)), (1, .int a1), (2, .int a2), (3, .int a3), (4, .int a4)]) rfl ?_
    exact t_X7_seals_J70 C M a1 a2 a3 a4 1 a5 s0 B O _ hR hok
set_option maxHeartbeats 4000000 in
set_option maxRecDepth 100000 in
theorem t_X7_seals_J51 {p0 : Program} {l : Launch} {e : Env} {s : State} {m : MethodId} {args : Array Value} {below : List Frame} {meth : Method} {c : Code} {A : Nat → Prop} {G : GT} {ad : Nat → Nat} (C : CX p0 l s m args meth c A G ad cX7_seals RX7 7 (some .int))  (M : StM) (a1 : Int32) (a2 : Int32) (a3 : Int32) (a4 : Int32) (a5 : Int32) (B : StB) (O : StO) (R0 : Int32 × StM) (hR : R0 = f_X7_seals_J51 M a1 a2 a3 a4 a5) (hok : ok_X7_seals_J51 M a1 a2 a3 a4 a5) : X p0 l e (rmd 3 0 0) s m args below meth c A G ad 7 0 0 (MQ below (QI G A ad R0.1 B R0.2 O) args s 0 0 A) B M O [(0, .ref (ad 193)), (1, .int a1), (2, .int a2), (3, .int a3), (4, .int a4), (5, .int a5)] 51 [.ref (ad 193)] := by
  have hR : R0 = (f_X7_seals_J52 M a1 a2 a3 a4 a5 0) := hR
  have hok : (ok_X7_seals_J52 M a1 a2 a3 a4 a5 0) := hok
  refine x_iconst (pc := 51) (v := 0) C dX7_seals_51 (by decide) ?_
  refine x_sub [0, 1, 2, 3, 4, 5] (ls2 := [(0, .ref (ad 193)), (1, .int a1), (2, .int a2), (3, .int a3), (4, .int a4), (5, .int a5)]) rfl ?_
  exact t_X7_seals_J52 C M a1 a2 a3 a4 a5 0 B O _ hR hok
set_option maxHeartbeats 4000000 in
set_option maxRecDepth 100000 in
theorem t_X7_seals_J28 {p0 : Program} {l : Launch} {e : Env} {s : State} {m : MethodId} {args : Array Value} {below : List Frame} {meth : Method} {c : Code} {A : Nat → Prop} {G : GT} {ad : Nat → Nat} (C : CX p0 l s m args meth c A G ad cX7_seals RX7 7 (some .int))  (M : StM) (a1 : Int32) (a2 : Int32) (a3 : Int32) (a4 : Int32) (s0 : Int32) (B : StB) (O : StO) (R0 : Int32 × StM) (hR : R0 = f_X7_seals_J28 M a1 a2 a3 a4 s0) (hok : ok_X7_seals_J28 M a1 a2 a3 a4 s0) : X p0 l e (rmd 3 0 0) s m args below meth c A G ad 7 0 0 (MQ below (QI G A ad R0.1 B R0.2 O) args s 0 0 A) B M O [(0, .ref (ad 193)), (1, .int a1), (2, .int a2), (3, .int a3), (4, .int a4)] 28 [.int s0] := by
  have hR : R0 = (nm (f_X7_isAccount M a1) (fun (r3 : Int32) => (if r3 = 0 then (f_X7_seals_J51 M a1 a2 a3 a4 s0) else (nm (f_X7_isAccount M a2) (fun (r31 : Int32) => (if r31 = 0 then (f_X7_seals_J51 M a1 a2 a3 a4 s0) else (f_X7_seals_J52 M a1 a2 a3 a4 s0 1))))))) := hR
  have hok : ((ok_X7_isAccount M a1) ∧ (∀ r3 : Int32, r3 = (f_X7_isAccount M a1) → ((r3 = 0 → (ok_X7_seals_J51 M a1 a2 a3 a4 s0)) ∧ (¬ r3 = 0 → ((ok_X7_isAccount M a2) ∧ (∀ r31 : Int32, r31 = (f_X7_isAccount M a2) → ((r31 = 0 → (ok_X7_seals_J51 M a1 a2 a3 a4 s0)) ∧ (¬ r31 = 0 → (ok_X7_seals_J52 M a1 a2 a3 a4 s0 1))))))))) := hok
  refine x_istore (pc := 28) (i := 5) (ls2 := [(5, .int s0), (0, .ref (ad 193)), (1, .int a1), (2, .int a2), (3, .int a3), (4, .int a4)]) C dX7_seals_28 (by decide) rfl ?_
  refine x_aload_n (pc := 30) (i := 0) C 1 dX7_seals_30 rfl rfl ?_
  refine x_aload_n (pc := 31) (i := 0) C 1 dX7_seals_31 rfl rfl ?_
  refine x_iload_n (pc := 32) (i := 1) C 2 dX7_seals_32 rfl rfl ?_
  have h2 := hok.1
  have hok := hok.2
  refine x_cIV (pc := 33) (as := [.int a1]) (q := 193) C (c_X7_isAccount C.2.2.2.2.2.2.2.1  B M O a1 h2) (fs := _) e_M rfl cv_X7_isAccount cd_X7_isAccount wd_7_115 ⟨Nat.le_of_ble_eq_true rfl, Nat.le_of_ble_eq_true rfl⟩ ⟨Nat.le_of_ble_eq_true rfl, Nat.le_of_ble_eq_true rfl⟩ rfl rfl (Nat.le_of_ble_eq_true rfl) dX7_seals_33 ?_
  refine x_nmI (fun r3 er3 => ?_)
  have hR := nmE hR er3
  have hok := hok r3 er3
  refine x_if_eq (pc := 36) (tgt := 51) C dX7_seals_36 (by decide) (fun c4 => ?_) (fun c4 => ?_)
  · have hR := hR.trans (if_pos c4)
    have hok := hok.1 c4
    refine x_sub [1, 2, 3, 4, 5, 0] (ls2 := [(0, .ref (ad 193)), (1, .int a1), (2, .int a2), (3, .int a3), (4, .int a4), (5, .int s0)]) rfl ?_
    exact t_X7_seals_J51 C M a1 a2 a3 a4 s0 B O _ hR hok
  · have hR := hR.trans (if_neg c4)
    have hok := hok.2 c4
    refine x_aload_n (pc := 39) (i := 0) C 1 dX7_seals_39 rfl rfl ?_
    refine x_iload_n (pc := 40) (i := 2) C 3 dX7_seals_40 rfl rfl ?_
    have h30 := hok.1
    have hok := hok.2
    refine x_cIV (pc := 41) (as := [.int a2]) (q := 193) C (c_X7_isAccount C.2.2.2.2.2.2.2.1  B M O a2 h30) (fs := _) e_M rfl cv_X7_isAccount cd_X7_isAccount wd_7_115 ⟨Nat.le_of_ble_eq_true rfl, Nat.le_of_ble_eq_true rfl⟩ ⟨Nat.le_of_ble_eq_true rfl, Nat.le_of_ble_eq_true rfl⟩ rfl rfl (Nat.le_of_ble_eq_true rfl) dX7_seals_41 ?_
    refine x_nmI (fun r31 er31 => ?_)
    have hR := nmE hR er31
    have hok := hok r31 er31
    refine x_if_eq (pc := 44) (tgt := 51) C dX7_seals_44 (by decide) (fun c32 => ?_) (fun c32 => ?_)
    · have hR := hR.trans (if_pos c32)
      have hok := hok.1 c32
      refine x_sub [1, 2, 3, 4, 5, 0] (ls2 := [(0, .ref (ad 193)), (1, .int a1), (2, .int a2), (3, .int a3), (4, .int a4), (5, .int s0)]) rfl ?_
      exact t_X7_seals_J51 C M a1 a2 a3 a4 s0 B O _ hR hok
    · have hR := hR.trans (if_neg c32)
      have hok := hok.2 c32
      refine x_iconst (pc := 47) (v := 1) C dX7_seals_47 (by decide) ?_
      refine x_goto (pc := 48) (tgt := 52) C dX7_seals_48 (by decide) ?_
      refine x_sub [1, 2, 3, 4, 5, 0] (ls2 := [(0, .ref (ad 193)), (1, .int a1), (2, .int a2), (3, .int a3), (4, .int a4), (5, .int s0)]) rfl ?_
      exact t_X7_seals_J52 C M a1 a2 a3 a4 s0 1 B O _ hR hok
set_option maxHeartbeats 4000000 in
set_option maxRecDepth 100000 in
theorem t_X7_seals_J27 {p0 : Program} {l : Launch} {e : Env} {s : State} {m : MethodId} {args : Array Value} {below : List Frame} {meth : Method} {c : Code} {A : Nat → Prop} {G : GT} {ad : Nat → Nat} (C : CX p0 l s m args meth c A G ad cX7_seals RX7 7 (some .int))  (M : StM) (a1 : Int32) (a2 : Int32) (a3 : Int32) (a4 : Int32) (B : StB) (O : StO) (R0 : Int32 × StM) (hR : R0 = f_X7_seals_J27 M a1 a2 a3 a4) (hok : ok_X7_seals_J27 M a1 a2 a3 a4) : X p0 l e (rmd 3 0 0) s m args below meth c A G ad 7 0 0 (MQ below (QI G A ad R0.1 B R0.2 O) args s 0 0 A) B M O [(0, .ref (ad 193)), (1, .int a1), (2, .int a2), (3, .int a3), (4, .int a4)] 27 [] := by
  have hR : R0 = (f_X7_seals_J28 M a1 a2 a3 a4 0) := hR
  have hok : (ok_X7_seals_J28 M a1 a2 a3 a4 0) := hok
  refine x_iconst (pc := 27) (v := 0) C dX7_seals_27 (by decide) ?_
  refine x_sub [0, 1, 2, 3, 4] (ls2 := [(0, .ref (ad 193)), (1, .int a1), (2, .int a2), (3, .int a3), (4, .int a4)]) rfl ?_
  exact t_X7_seals_J28 C M a1 a2 a3 a4 0 B O _ hR hok
set_option maxHeartbeats 4000000 in
set_option maxRecDepth 100000 in
theorem c_X7_seals {l : Launch} {A : Nat → Prop} {G : GT} {ad : Nat → Nat} (gl : Gl l A ad)  (B : StB) (M : StM) (O : StO) (x0 : Int32) (x1 : Int32) (x2 : Int32) (x3 : Int32) (hok : ok_X7_seals M x0 x1 x2 x3) : Met l yX7_seals (wof yX7_seals cX7_seals 7 (some .int)) (rmd 3 0 0) (va_Pc [.ref (ad 193), .int x0, .int x1, .int x2, .int x3] (PW G A ad B M O)) (QI G A ad (f_X7_seals M x0 x1 x2 x3).1 B (f_X7_seals M x0 x1 x2 x3).2 O) 0 0 A := by
  refine x_body (own := RX7) (by decide +kernel) rfl gl (Nat.le_of_ble_eq_true rfl) (ls := [(0, .ref (ad 193)), (1, .int x0), (2, .int x1), (3, .int x2), (4, .int x3)]) rfl ?_
  intro p0 e s m args below meth c C
  have hR : (f_X7_seals M x0 x1 x2 x3) = (if x0 = x1 then (f_X7_seals_J27 M x0 x1 x2 x3) else (nm (f_X7_isAmount x2) (fun (r34 : Int32) => (if r34 = 0 then (f_X7_seals_J27 M x0 x1 x2 x3) else (nm (f_X7_isIn x3 0 60) (fun (r36 : Int32) => (if r36 = 0 then (f_X7_seals_J27 M x0 x1 x2 x3) else (f_X7_seals_J28 M x0 x1 x2 x3 1)))))))) := rfl
  have hok : ((x0 = x1 → (ok_X7_seals_J27 M x0 x1 x2 x3)) ∧ (¬ x0 = x1 → ((ok_X7_isAmount x2) ∧ (∀ r34 : Int32, r34 = (f_X7_isAmount x2) → ((r34 = 0 → (ok_X7_seals_J27 M x0 x1 x2 x3)) ∧ (¬ r34 = 0 → (∀ r36 : Int32, r36 = (f_X7_isIn x3 0 60) → ((r36 = 0 → (ok_X7_seals_J27 M x0 x1 x2 x3)) ∧ (¬ r36 = 0 → (ok_X7_seals_J28 M x0 x1 x2 x3 1)))))))))) := hok
  refine x_iload_n (pc := 0) (i := 1) C 1 dX7_seals_0 rfl rfl ?_
  refine x_iload_n (pc := 1) (i := 2) C 2 dX7_seals_1 rfl rfl ?_
  refine x_icmp_eq (pc := 2) (tgt := 27) C dX7_seals_2 (by decide) (fun c1 => ?_) (fun c1 => ?_)
  · have hR := hR.trans (if_pos c1)
    have hok := hok.1 c1
    refine x_sub [0, 1, 2, 3, 4] (ls2 := [(0, .ref (ad 193)), (1, .int x0), (2, .int x1), (3, .int x2), (4, .int x3)]) rfl ?_
    exact t_X7_seals_J27 C M x0 x1 x2 x3 B O _ hR hok
  · have hR := hR.trans (if_neg c1)
    have hok := hok.2 c1
    refine x_iload_n (pc := 5) (i := 3) C 3 dX7_seals_5 rfl rfl ?_
    have h33 := hok.1
    have hok := hok.2
    refine x_cIS (pc := 6) (as := [.int x2]) C (c_X7_isAmount C.2.2.2.2.2.2.2.1  B M O x2 h33) wd_7_113 cd_X7_isAmount wd_7_112 ⟨Nat.le_of_ble_eq_true rfl, Nat.le_of_ble_eq_true rfl⟩ ⟨Nat.le_of_ble_eq_true rfl, Nat.le_of_ble_eq_true rfl⟩ rfl rfl (Nat.le_of_ble_eq_true rfl) dX7_seals_6 ?_
    refine x_nmI (fun r34 er34 => ?_)
    have hR := nmE hR er34
    have hok := hok r34 er34
    refine x_if_eq (pc := 9) (tgt := 27) C dX7_seals_9 (by decide) (fun c35 => ?_) (fun c35 => ?_)
    · have hR := hR.trans (if_pos c35)
      have hok := hok.1 c35
      refine x_sub [0, 1, 2, 3, 4] (ls2 := [(0, .ref (ad 193)), (1, .int x0), (2, .int x1), (3, .int x2), (4, .int x3)]) rfl ?_
      exact t_X7_seals_J27 C M x0 x1 x2 x3 B O _ hR hok
    · have hR := hR.trans (if_neg c35)
      have hok := hok.2 c35
      refine x_iload (pc := 12) (i := 4) C 4 dX7_seals_12 rfl ?_
      refine x_iconst (pc := 14) (v := 0) C dX7_seals_14 (by decide) ?_
      refine x_bipush (pc := 15) (v := 60) C dX7_seals_15 (by decide) ?_
      refine x_cIS (pc := 17) (as := [.int x3, .int 0, .int 60]) C (c_X7_isIn C.2.2.2.2.2.2.2.1  B M O x3 0 60) wd_7_91 cd_X7_isIn wd_7_90 ⟨Nat.le_of_ble_eq_true rfl, Nat.le_of_ble_eq_true rfl⟩ ⟨Nat.le_of_ble_eq_true rfl, Nat.le_of_ble_eq_true rfl⟩ rfl rfl (Nat.le_of_ble_eq_true rfl) dX7_seals_17 ?_
      refine x_nmI (fun r36 er36 => ?_)
      have hR := nmE hR er36
      have hok := hok r36 er36
      refine x_if_eq (pc := 20) (tgt := 27) C dX7_seals_20 (by decide) (fun c37 => ?_) (fun c37 => ?_)
      · have hR := hR.trans (if_pos c37)
        have hok := hok.1 c37
        refine x_sub [0, 1, 2, 3, 4] (ls2 := [(0, .ref (ad 193)), (1, .int x0), (2, .int x1), (3, .int x2), (4, .int x3)]) rfl ?_
        exact t_X7_seals_J27 C M x0 x1 x2 x3 B O _ hR hok
      · have hR := hR.trans (if_neg c37)
        have hok := hok.2 c37
        refine x_iconst (pc := 23) (v := 1) C dX7_seals_23 (by decide) ?_
        refine x_goto (pc := 24) (tgt := 28) C dX7_seals_24 (by decide) ?_
        refine x_sub [0, 1, 2, 3, 4] (ls2 := [(0, .ref (ad 193)), (1, .int x0), (2, .int x1), (3, .int x2), (4, .int x3)]) rfl ?_
        exact t_X7_seals_J28 C M x0 x1 x2 x3 1 B O _ hR hok
set_option maxHeartbeats 4000000 in
set_option maxRecDepth 100000 in
theorem t_X7_voids_J17 {p0 : Program} {l : Launch} {e : Env} {s : State} {m : MethodId} {args : Array Value} {below : List Frame} {meth : Method} {c : Code} {A : Nat → Prop} {G : GT} {ad : Nat → Nat} (C : CX p0 l s m args meth c A G ad cX7_voids RX7 4 (some .int))  (M : StM) (a2 : Int32) (s0 : Int32) (B : StB) (O : StO) (R0 : Int32 × StM) (hR : R0 = f_X7_voids_J17 M a2 s0) (hok : ok_X7_voids_J17 M a2 s0) : X p0 l e (rmd 3 0 0) s m args below meth c A G ad 4 0 0 (MQ below (QI G A ad R0.1 B R0.2 O) args s 0 0 A) B M O [(0, .ref (ad 193)), (2, .int a2)] 17 [.int s0, .ref (ad 193)] := by
  have hR : R0 = (nm (f_X7_goes M s0) (fun (z5 : Int32 × StM) => (if z5.1 = 0 then (0, z5.2) else (nm (f_X7_ofPlace z5.2 a2 3) (fun (r8 : Int32) => (nm (f_X7_drops z5.2 a2) (fun (M10 : StM) => (r8, M10)))))))) := hR
  have hok : ((ok_X7_goes M s0) ∧ (∀ z5 : Int32 × StM, z5 = (f_X7_goes M s0) → ((z5.1 = 0 → True) ∧ (¬ z5.1 = 0 → ((ok_X7_ofPlace z5.2 a2 3) ∧ (∀ r8 : Int32, r8 = (f_X7_ofPlace z5.2 a2 3) → ((ok_X7_drops z5.2 a2)))))))) := hok
  have h4 := hok.1
  have hok := hok.2
  refine x_cIV (pc := 17) (as := [.int s0]) (q := 193) C (c_X7_goes C.2.2.2.2.2.2.2.1  B M O s0 h4) (fs := _) e_M rfl cv_X7_goes cd_X7_goes wd_7_59 ⟨Nat.le_of_ble_eq_true rfl, Nat.le_of_ble_eq_true rfl⟩ ⟨Nat.le_of_ble_eq_true rfl, Nat.le_of_ble_eq_true rfl⟩ rfl rfl (Nat.le_of_ble_eq_true rfl) dX7_voids_17 ?_
  refine x_nmIM (fun z5 ez5 => ?_)
  have hR := nmE hR ez5
  have hok := hok z5 ez5
  refine x_if_ne (pc := 20) (tgt := 25) C dX7_voids_20 (by decide) (fun c6 => ?_) (fun c6 => ?_)
  · have hR := hR.trans (if_neg c6)
    have hok := hok.2 c6
    refine x_aload_n (pc := 25) (i := 0) C 0 dX7_voids_25 rfl rfl ?_
    refine x_iload_n (pc := 26) (i := 2) C 1 dX7_voids_26 rfl rfl ?_
    refine x_iconst (pc := 27) (v := 3) C dX7_voids_27 (by decide) ?_
    have h7 := hok.1
    have hok := hok.2
    refine x_cIV (pc := 28) (as := [.int a2, .int 3]) (q := 193) C (c_X7_ofPlace C.2.2.2.2.2.2.2.1  B z5.2 O a2 3 h7) (fs := _) e_M rfl cv_X7_ofPlace cd_X7_ofPlace wd_7_168 ⟨Nat.le_of_ble_eq_true rfl, Nat.le_of_ble_eq_true rfl⟩ ⟨Nat.le_of_ble_eq_true rfl, Nat.le_of_ble_eq_true rfl⟩ rfl rfl (Nat.le_of_ble_eq_true rfl) dX7_voids_28 ?_
    refine x_nmI (fun r8 er8 => ?_)
    have hR := nmE hR er8
    have hok := hok r8 er8
    refine x_istore_n (pc := 31) (i := 3) (ls2 := [(3, .int r8), (0, .ref (ad 193)), (2, .int a2)]) C dX7_voids_31 rfl (by decide) rfl ?_
    refine x_aload_n (pc := 32) (i := 0) C 1 dX7_voids_32 rfl rfl ?_
    refine x_iload_n (pc := 33) (i := 2) C 2 dX7_voids_33 rfl rfl ?_
    have h9 := hok
    refine x_cVV (pc := 34) (as := [.int a2]) (q := 193) C (c_X7_drops C.2.2.2.2.2.2.2.1  B z5.2 O a2 h9) (fs := _) e_M rfl cv_X7_drops cd_X7_drops wd_7_172 ⟨Nat.le_of_ble_eq_true rfl, Nat.le_of_ble_eq_true rfl⟩ ⟨Nat.le_of_ble_eq_true rfl, Nat.le_of_ble_eq_true rfl⟩ rfl rfl (Nat.le_of_ble_eq_true rfl) dX7_voids_34 ?_
    refine x_nmM (fun M10 eM10 => ?_)
    have hR := nmE hR eM10
    refine x_iload_n (pc := 37) (i := 3) C 0 dX7_voids_37 rfl rfl ?_
    exact x_iretM (pc := 38) C rfl hR dX7_voids_38
  · have hR := hR.trans (if_pos c6)
    refine x_iconst (pc := 23) (v := 0) C dX7_voids_23 (by decide) ?_
    exact x_iretM (pc := 24) C rfl hR dX7_voids_24
set_option maxHeartbeats 4000000 in
set_option maxRecDepth 100000 in
theorem c_X7_voids {l : Launch} {A : Nat → Prop} {G : GT} {ad : Nat → Nat} (gl : Gl l A ad)  (B : StB) (M : StM) (O : StO) (x0 : Int32) (hok : ok_X7_voids M x0) : Met l yX7_voids (wof yX7_voids cX7_voids 4 (some .int)) (rmd 3 0 0) (va_Pc [.ref (ad 193), .int x0] (PW G A ad B M O)) (QI G A ad (f_X7_voids M x0).1 B (f_X7_voids M x0).2 O) 0 0 A := by
  refine x_body (own := RX7) (by decide +kernel) rfl gl (Nat.le_of_ble_eq_true rfl) (ls := [(0, .ref (ad 193)), (1, .int x0)]) rfl ?_
  intro p0 e s m args below meth c C
  have hR : (f_X7_voids M x0) = (nm (f_X7_find M x0) (fun (r2 : Int32) => (if r2 = (-1) then (f_X7_voids_J17 M r2 0) else (f_X7_voids_J17 M r2 1)))) := rfl
  have hok : ((ok_X7_find M x0) ∧ (∀ r2 : Int32, r2 = (f_X7_find M x0) → ((r2 = (-1) → (ok_X7_voids_J17 M r2 0)) ∧ (¬ r2 = (-1) → (ok_X7_voids_J17 M r2 1))))) := hok
  refine x_aload_n (pc := 0) (i := 0) C 0 dX7_voids_0 rfl rfl ?_
  refine x_iload_n (pc := 1) (i := 1) C 1 dX7_voids_1 rfl rfl ?_
  have h1 := hok.1
  have hok := hok.2
  refine x_cIV (pc := 2) (as := [.int x0]) (q := 193) C (c_X7_find C.2.2.2.2.2.2.2.1  B M O x0 h1) (fs := _) e_M rfl cv_X7_find cd_X7_find wd_7_164 ⟨Nat.le_of_ble_eq_true rfl, Nat.le_of_ble_eq_true rfl⟩ ⟨Nat.le_of_ble_eq_true rfl, Nat.le_of_ble_eq_true rfl⟩ rfl rfl (Nat.le_of_ble_eq_true rfl) dX7_voids_2 ?_
  refine x_nmI (fun r2 er2 => ?_)
  have hR := nmE hR er2
  have hok := hok r2 er2
  refine x_istore_n (pc := 5) (i := 2) (ls2 := [(2, .int r2), (0, .ref (ad 193)), (1, .int x0)]) C dX7_voids_5 rfl (by decide) rfl ?_
  refine x_aload_n (pc := 6) (i := 0) C 1 dX7_voids_6 rfl rfl ?_
  refine x_iload_n (pc := 7) (i := 2) C 0 dX7_voids_7 rfl rfl ?_
  refine x_iconst (pc := 8) (v := (-1)) C dX7_voids_8 (by decide) ?_
  refine x_icmp_eq (pc := 9) (tgt := 16) C dX7_voids_9 (by decide) (fun c3 => ?_) (fun c3 => ?_)
  · have hR := hR.trans (if_pos c3)
    have hok := hok.1 c3
    refine x_iconst (pc := 16) (v := 0) C dX7_voids_16 (by decide) ?_
    refine x_sub [1, 0] (ls2 := [(0, .ref (ad 193)), (2, .int r2)]) rfl ?_
    exact t_X7_voids_J17 C M r2 0 B O _ hR hok
  · have hR := hR.trans (if_neg c3)
    have hok := hok.2 c3
    refine x_iconst (pc := 12) (v := 1) C dX7_voids_12 (by decide) ?_
    refine x_goto (pc := 13) (tgt := 17) C dX7_voids_13 (by decide) ?_
    refine x_sub [1, 0] (ls2 := [(0, .ref (ad 193)), (2, .int r2)]) rfl ?_
    exact t_X7_voids_J17 C M r2 1 B O _ hR hok
set_option maxHeartbeats 4000000 in
set_option maxRecDepth 100000 in
theorem c_X7_gives {l : Launch} {A : Nat → Prop} {G : GT} {ad : Nat → Nat} (gl : Gl l A ad)  (B : StB) (M : StM) (O : StO) (x0 : Int32) (x1 : Int32) (x2 : Int32) (hok : ok_X7_gives M x0 x1 x2) : Met l yX7_gives (wof yX7_gives cX7_gives 4 none) (rmd 3 0 0) (va_Pc [.ref (ad 193), .int x0, .int x1, .int x2] (PW G A ad B M O)) (QV G A ad B (f_X7_gives M x0 x1 x2) O) 0 0 A := by
  refine x_body (own := RX7) (by decide +kernel) rfl gl (Nat.le_of_ble_eq_true rfl) (ls := [(0, .ref (ad 193)), (1, .int x0), (2, .int x1), (3, .int x2)]) rfl ?_
  intro p0 e s m args below meth c C
  have hR : (f_X7_gives M x0 x1 x2) = (if x2 ≤ 0 then M else (nm (f_X7_changes M x0 (-x2)) (fun (M3 : StM) => (nm (sma M3 0 (ix 4) ((ma M3 0 (ix 4)) + x2)) (fun (M6 : StM) => (nm (sma M6 0 (ix 9) ((ma M6 0 (ix 9)) + x2)) (fun (M9 : StM) => (nm (f_X7_writes M9 x1 x2 x0) (fun (M11 : StM) => M11))))))))) := rfl
  have hok : ((x2 ≤ 0 → True) ∧ (¬ x2 ≤ 0 → ((ok_X7_changes M x0 (-x2)) ∧ (∀ M3 : StM, M3 = (f_X7_changes M x0 (-x2)) → (∀ M6 : StM, M6 = (sma M3 0 (ix 4) ((ma M3 0 (ix 4)) + x2)) → (∀ M9 : StM, M9 = (sma M6 0 (ix 9) ((ma M6 0 (ix 9)) + x2)) → ((ok_X7_writes M9 x1 x2 x0)))))))) := hok
  refine x_iload_n (pc := 0) (i := 3) C 3 dX7_gives_0 rfl rfl ?_
  refine x_if_le (pc := 1) (tgt := 39) C dX7_gives_1 (by decide) (fun c1 => ?_) (fun c1 => ?_)
  · have hR := hR.trans (if_pos c1)
    exact x_vretM (pc := 39) C rfl hR dX7_gives_39
  · have hR := hR.trans (if_neg c1)
    have hok := hok.2 c1
    refine x_aload_n (pc := 4) (i := 0) C 0 dX7_gives_4 rfl rfl ?_
    refine x_iload_n (pc := 5) (i := 1) C 1 dX7_gives_5 rfl rfl ?_
    refine x_iload_n (pc := 6) (i := 3) C 3 dX7_gives_6 rfl rfl ?_
    refine x_ineg (pc := 7) C dX7_gives_7 ?_
    have h2 := hok.1
    have hok := hok.2
    refine x_cVV (pc := 8) (as := [.int x0, .int (-x2)]) (q := 193) C (c_X7_changes C.2.2.2.2.2.2.2.1  B M O x0 (-x2) h2) (fs := _) e_M rfl cv_X7_changes cd_X7_changes wd_7_123 ⟨Nat.le_of_ble_eq_true rfl, Nat.le_of_ble_eq_true rfl⟩ ⟨Nat.le_of_ble_eq_true rfl, Nat.le_of_ble_eq_true rfl⟩ rfl rfl (Nat.le_of_ble_eq_true rfl) dX7_gives_8 ?_
    refine x_nmM (fun M3 eM3 => ?_)
    have hR := nmE hR eM3
    have hok := hok M3 eM3
    refine x_aload_n (pc := 11) (i := 0) C 0 dX7_gives_11 rfl rfl ?_
    refine x_get (pc := 12) (q := 193) (i := 0) C e_M rfl ttX7 (by decide) wd_6_227 rfl dX7_gives_12 ?_
    refine x_iconst (pc := 15) (v := 4) C dX7_gives_15 (by decide) ?_
    refine x_dup2 (pc := 16) C dX7_gives_16 rfl rfl ?_
    have h4 : vp_in (4) 124 := (by decide : ¬ ((4 : Int32) < 0 ∨ 124 ≤ Int32.toNatClampNeg 4))
    refine x_iald (pc := 17) (q := 194) C e_M0 h4 dX7_gives_17 ?_
    refine x_iload_n (pc := 18) (i := 3) C 3 dX7_gives_18 rfl rfl ?_
    refine x_iadd (pc := 19) C dX7_gives_19 ?_
    have h5 : vp_in (4) 124 := (by decide : ¬ ((4 : Int32) < 0 ∨ 124 ≤ Int32.toNatClampNeg 4))
    refine x_iastM (pc := 20) (j := 0) C (by decide) e_M0 e_M0.2 h5 dX7_gives_20 ?_
    refine x_nmM (fun M6 eM6 => ?_)
    have hR := nmE hR eM6
    have hok := hok M6 eM6
    refine x_aload_n (pc := 21) (i := 0) C 0 dX7_gives_21 rfl rfl ?_
    refine x_get (pc := 22) (q := 193) (i := 0) C e_M rfl ttX7 (by decide) wd_6_227 rfl dX7_gives_22 ?_
    refine x_bipush (pc := 25) (v := 9) C dX7_gives_25 (by decide) ?_
    refine x_dup2 (pc := 27) C dX7_gives_27 rfl rfl ?_
    have h7 : vp_in (9) 124 := (by decide : ¬ ((9 : Int32) < 0 ∨ 124 ≤ Int32.toNatClampNeg 9))
    refine x_iald (pc := 28) (q := 194) C e_M0 h7 dX7_gives_28 ?_
    refine x_iload_n (pc := 29) (i := 3) C 3 dX7_gives_29 rfl rfl ?_
    refine x_iadd (pc := 30) C dX7_gives_30 ?_
    have h8 : vp_in (9) 124 := (by decide : ¬ ((9 : Int32) < 0 ∨ 124 ≤ Int32.toNatClampNeg 9))
    refine x_iastM (pc := 31) (j := 0) C (by decide) e_M0 e_M0.2 h8 dX7_gives_31 ?_
    refine x_nmM (fun M9 eM9 => ?_)
    have hR := nmE hR eM9
    have hok := hok M9 eM9
    refine x_aload_n (pc := 32) (i := 0) C 0 dX7_gives_32 rfl rfl ?_
    refine x_iload_n (pc := 33) (i := 2) C 2 dX7_gives_33 rfl rfl ?_
    refine x_iload_n (pc := 34) (i := 3) C 3 dX7_gives_34 rfl rfl ?_
    refine x_iload_n (pc := 35) (i := 1) C 1 dX7_gives_35 rfl rfl ?_
    have h10 := hok
    refine x_cVV (pc := 36) (as := [.int x1, .int x2, .int x0]) (q := 193) C (c_X7_writes C.2.2.2.2.2.2.2.1  B M9 O x1 x2 x0 h10) (fs := _) e_M rfl cv_X7_writes cd_X7_writes wd_7_127 ⟨Nat.le_of_ble_eq_true rfl, Nat.le_of_ble_eq_true rfl⟩ ⟨Nat.le_of_ble_eq_true rfl, Nat.le_of_ble_eq_true rfl⟩ rfl rfl (Nat.le_of_ble_eq_true rfl) dX7_gives_36 ?_
    refine x_nmM (fun M11 eM11 => ?_)
    have hR := nmE hR eM11
    exact x_vretM (pc := 39) C rfl hR dX7_gives_39
set_option maxHeartbeats 4000000 in
set_option maxRecDepth 100000 in
theorem t_X7_transferAt_L20 {p0 : Program} {l : Launch} {e : Env} {s : State} {m : MethodId} {args : Array Value} {below : List Frame} {meth : Method} {c : Code} {A : Nat → Prop} {G : GT} {ad : Nat → Nat} {Q : State → Prop} (C : CX p0 l s m args meth c A G ad cX7_transferAt RX7 7 (some .int))  (n : Nat) (M : StM) (a1 : Int32) (a2 : Int32) (a3 : Int32) (a4 : Int32) (a5 : Int32) (B : StB) (O : StO) : ∀ (R0 : Int32) (hR : R0 = f_X7_transferAt_L20 n M a1 a2 a3 a4 a5) (hok : ok_X7_transferAt_L20 n M a1 a2 a3 a4 a5) (k : X p0 l e (rmd 3 0 0) s m args below meth c A G ad 7 0 0 Q B M O [(0, .ref (ad 193)), (1, .int a1), (2, .int a2), (3, .int a3), (4, .int R0)] 79 []), X p0 l e (rmd 3 0 0) s m args below meth c A G ad 7 0 0 Q B M O [(0, .ref (ad 193)), (1, .int a1), (2, .int a2), (3, .int a3), (4, .int a4), (5, .int a5)] 20 [] := by
  induction n generalizing M a1 a2 a3 a4 a5 with
  | zero => intro R0 hR hok k; exact False.elim hok
  | succ n ih =>
    intro R0 hR hok k
    have hR : R0 = (if (ma M 0 (ix 3)) ≤ a5 then a4 else (nm (f_X7_ofPlace M a3 4) (fun (r6 : Int32) => (nm (f_X7_ofPlace M a5 4) (fun (r8 : Int32) => (nm (r6 - r8) (fun (v9 : Int32) => (if 0 < v9 then (nm (a4 + 1) (fun (v11 : Int32) => (f_X7_transferAt_L20 n M a1 a2 a3 v11 (a5 + 1)))) else (if v9 = 0 then (if a3 ≤ a5 then (nm (a4 + 0) (fun (v15 : Int32) => (f_X7_transferAt_L20 n M a1 a2 a3 v15 (a5 + 1)))) else (nm (a4 + 1) (fun (v16 : Int32) => (f_X7_transferAt_L20 n M a1 a2 a3 v16 (a5 + 1))))) else (nm (a4 + 0) (fun (v13 : Int32) => (f_X7_transferAt_L20 n M a1 a2 a3 v13 (a5 + 1))))))))))))) := hR
    have hok : (((ma M 0 (ix 3)) ≤ a5 → True) ∧ (¬ (ma M 0 (ix 3)) ≤ a5 → ((ok_X7_ofPlace M a3 4) ∧ (∀ r6 : Int32, r6 = (f_X7_ofPlace M a3 4) → ((ok_X7_ofPlace M a5 4) ∧ (∀ r8 : Int32, r8 = (f_X7_ofPlace M a5 4) → (∀ v9 : Int32, v9 = (r6 - r8) → ((0 < v9 → (∀ v11 : Int32, v11 = (a4 + 1) → (ok_X7_transferAt_L20 n M a1 a2 a3 v11 (a5 + 1)))) ∧ (¬ 0 < v9 → ((v9 = 0 → ((a3 ≤ a5 → (∀ v15 : Int32, v15 = (a4 + 0) → (ok_X7_transferAt_L20 n M a1 a2 a3 v15 (a5 + 1)))) ∧ (¬ a3 ≤ a5 → (∀ v16 : Int32, v16 = (a4 + 1) → (ok_X7_transferAt_L20 n M a1 a2 a3 v16 (a5 + 1)))))) ∧ (¬ v9 = 0 → (∀ v13 : Int32, v13 = (a4 + 0) → (ok_X7_transferAt_L20 n M a1 a2 a3 v13 (a5 + 1)))))))))))))) := hok
    refine x_iload (pc := 20) (i := 5) C 5 dX7_transferAt_20 rfl ?_
    refine x_aload_n (pc := 22) (i := 0) C 0 dX7_transferAt_22 rfl rfl ?_
    refine x_get (pc := 23) (q := 193) (i := 0) C e_M rfl ttX7 (by decide) wd_6_227 rfl dX7_transferAt_23 ?_
    refine x_iconst (pc := 26) (v := 3) C dX7_transferAt_26 (by decide) ?_
    have h3 : vp_in (3) 124 := (by decide : ¬ ((3 : Int32) < 0 ∨ 124 ≤ Int32.toNatClampNeg 3))
    refine x_iald (pc := 27) (q := 194) C e_M0 h3 dX7_transferAt_27 ?_
    refine x_icmp_ge (pc := 28) (tgt := 79) C dX7_transferAt_28 (by decide) (fun c4 => ?_) (fun c4 => ?_)
    · have hR := hR.trans (if_pos c4)
      refine x_sub [0, 1, 2, 3, 4] (ls2 := [(0, .ref (ad 193)), (1, .int a1), (2, .int a2), (3, .int a3), (4, .int a4)]) rfl ?_
      subst hR
      exact k
    · have hR := hR.trans (if_neg c4)
      have hok := hok.2 c4
      refine x_aload_n (pc := 31) (i := 0) C 0 dX7_transferAt_31 rfl rfl ?_
      refine x_iload_n (pc := 32) (i := 3) C 3 dX7_transferAt_32 rfl rfl ?_
      refine x_iconst (pc := 33) (v := 4) C dX7_transferAt_33 (by decide) ?_
      have h5 := hok.1
      have hok := hok.2
      refine x_cIV (pc := 34) (as := [.int a3, .int 4]) (q := 193) C (c_X7_ofPlace C.2.2.2.2.2.2.2.1  B M O a3 4 h5) (fs := _) e_M rfl cv_X7_ofPlace cd_X7_ofPlace wd_7_168 ⟨Nat.le_of_ble_eq_true rfl, Nat.le_of_ble_eq_true rfl⟩ ⟨Nat.le_of_ble_eq_true rfl, Nat.le_of_ble_eq_true rfl⟩ rfl rfl (Nat.le_of_ble_eq_true rfl) dX7_transferAt_34 ?_
      refine x_nmI (fun r6 er6 => ?_)
      have hR := nmE hR er6
      have hok := hok r6 er6
      refine x_aload_n (pc := 37) (i := 0) C 0 dX7_transferAt_37 rfl rfl ?_
      refine x_iload (pc := 38) (i := 5) C 5 dX7_transferAt_38 rfl ?_
      refine x_iconst (pc := 40) (v := 4) C dX7_transferAt_40 (by decide) ?_
      have h7 := hok.1
      have hok := hok.2
      refine x_cIV (pc := 41) (as := [.int a5, .int 4]) (q := 193) C (c_X7_ofPlace C.2.2.2.2.2.2.2.1  B M O a5 4 h7) (fs := _) e_M rfl cv_X7_ofPlace cd_X7_ofPlace wd_7_168 ⟨Nat.le_of_ble_eq_true rfl, Nat.le_of_ble_eq_true rfl⟩ ⟨Nat.le_of_ble_eq_true rfl, Nat.le_of_ble_eq_true rfl⟩ rfl rfl (Nat.le_of_ble_eq_true rfl) dX7_transferAt_41 ?_
      refine x_nmI (fun r8 er8 => ?_)
      have hR := nmE hR er8
      have hok := hok r8 er8
      refine x_isub (pc := 44) C dX7_transferAt_44 ?_
      refine x_nmI (fun v9 ev9 => ?_)
      have hR := nmE hR ev9
      have hok := hok v9 ev9
      refine x_istore (pc := 45) (i := 6) (ls2 := [(6, .int v9), (0, .ref (ad 193)), (1, .int a1), (2, .int a2), (3, .int a3), (4, .int a4), (5, .int a5)]) C dX7_transferAt_45 (by decide) rfl ?_
      refine x_iload (pc := 47) (i := 4) C 5 dX7_transferAt_47 rfl ?_
      refine x_iload (pc := 49) (i := 6) C 0 dX7_transferAt_49 rfl ?_
      refine x_if_gt (pc := 51) (tgt := 65) C dX7_transferAt_51 (by decide) (fun c10 => ?_) (fun c10 => ?_)
      · have hR := hR.trans (if_pos c10)
        have hok := hok.1 c10
        refine x_iconst (pc := 65) (v := 1) C dX7_transferAt_65 (by decide) ?_
        refine x_goto (pc := 66) (tgt := 70) C dX7_transferAt_66 (by decide) ?_
        refine x_iadd (pc := 70) C dX7_transferAt_70 ?_
        refine x_nmI (fun v11 ev11 => ?_)
        have hR := nmE hR ev11
        have hok := hok v11 ev11
        refine x_istore (pc := 71) (i := 4) (ls2 := [(4, .int v11), (6, .int v9), (0, .ref (ad 193)), (1, .int a1), (2, .int a2), (3, .int a3), (5, .int a5)]) C dX7_transferAt_71 (by decide) rfl ?_
        refine x_iinc (pc := 73) (i := 5) (v := (a5 + 1)) (ls2 := [(5, .int (a5 + 1)), (4, .int v11), (6, .int v9), (0, .ref (ad 193)), (1, .int a1), (2, .int a2), (3, .int a3)]) C 6 dX7_transferAt_73 rfl rfl (by decide) rfl ?_
        refine x_goto (pc := 76) (tgt := 20) C dX7_transferAt_76 (by decide) ?_
        refine x_sub [3, 4, 5, 6, 1, 0] (ls2 := [(0, .ref (ad 193)), (1, .int a1), (2, .int a2), (3, .int a3), (4, .int v11), (5, .int (a5 + 1))]) rfl ?_
        exact ih M a1 a2 a3 v11 (a5 + 1) R0 hR hok k
      · have hR := hR.trans (if_neg c10)
        have hok := hok.2 c10
        refine x_iload (pc := 54) (i := 6) C 0 dX7_transferAt_54 rfl ?_
        refine x_if_ne (pc := 56) (tgt := 69) C dX7_transferAt_56 (by decide) (fun c12 => ?_) (fun c12 => ?_)
        · have hR := hR.trans (if_neg c12)
          have hok := hok.2 c12
          refine x_iconst (pc := 69) (v := 0) C dX7_transferAt_69 (by decide) ?_
          refine x_iadd (pc := 70) C dX7_transferAt_70 ?_
          refine x_nmI (fun v13 ev13 => ?_)
          have hR := nmE hR ev13
          have hok := hok v13 ev13
          refine x_istore (pc := 71) (i := 4) (ls2 := [(4, .int v13), (6, .int v9), (0, .ref (ad 193)), (1, .int a1), (2, .int a2), (3, .int a3), (5, .int a5)]) C dX7_transferAt_71 (by decide) rfl ?_
          refine x_iinc (pc := 73) (i := 5) (v := (a5 + 1)) (ls2 := [(5, .int (a5 + 1)), (4, .int v13), (6, .int v9), (0, .ref (ad 193)), (1, .int a1), (2, .int a2), (3, .int a3)]) C 6 dX7_transferAt_73 rfl rfl (by decide) rfl ?_
          refine x_goto (pc := 76) (tgt := 20) C dX7_transferAt_76 (by decide) ?_
          refine x_sub [3, 4, 5, 6, 1, 0] (ls2 := [(0, .ref (ad 193)), (1, .int a1), (2, .int a2), (3, .int a3), (4, .int v13), (5, .int (a5 + 1))]) rfl ?_
          exact ih M a1 a2 a3 v13 (a5 + 1) R0 hR hok k
        · have hR := hR.trans (if_pos c12)
          have hok := hok.1 c12
          refine x_iload (pc := 59) (i := 5) C 6 dX7_transferAt_59 rfl ?_
          refine x_iload_n (pc := 61) (i := 3) C 4 dX7_transferAt_61 rfl rfl ?_
          refine x_icmp_ge (pc := 62) (tgt := 69) C dX7_transferAt_62 (by decide) (fun c14 => ?_) (fun c14 => ?_)
          · have hR := hR.trans (if_pos c14)
            have hok := hok.1 c14
            refine x_iconst (pc := 69) (v := 0) C dX7_transferAt_69 (by decide) ?_
            refine x_iadd (pc := 70) C dX7_transferAt_70 ?_
            refine x_nmI (fun v15 ev15 => ?_)
            have hR := nmE hR ev15
            have hok := hok v15 ev15
            refine x_istore (pc := 71) (i := 4) (ls2 := [(4, .int v15), (6, .int v9), (0, .ref (ad 193)), (1, .int a1), (2, .int a2), (3, .int a3), (5, .int a5)]) C dX7_transferAt_71 (by decide) rfl ?_
            refine x_iinc (pc := 73) (i := 5) (v := (a5 + 1)) (ls2 := [(5, .int (a5 + 1)), (4, .int v15), (6, .int v9), (0, .ref (ad 193)), (1, .int a1), (2, .int a2), (3, .int a3)]) C 6 dX7_transferAt_73 rfl rfl (by decide) rfl ?_
            refine x_goto (pc := 76) (tgt := 20) C dX7_transferAt_76 (by decide) ?_
            refine x_sub [3, 4, 5, 6, 1, 0] (ls2 := [(0, .ref (ad 193)), (1, .int a1), (2, .int a2), (3, .int a3), (4, .int v15), (5, .int (a5 + 1))]) rfl ?_
            exact ih M a1 a2 a3 v15 (a5 + 1) R0 hR hok k
          · have hR := hR.trans (if_neg c14)
            have hok := hok.2 c14
            refine x_iconst (pc := 65) (v := 1) C dX7_transferAt_65 (by decide) ?_
            refine x_goto (pc := 66) (tgt := 70) C dX7_transferAt_66 (by decide) ?_
            refine x_iadd (pc := 70) C dX7_transferAt_70 ?_
            refine x_nmI (fun v16 ev16 => ?_)
            have hR := nmE hR ev16
            have hok := hok v16 ev16
            refine x_istore (pc := 71) (i := 4) (ls2 := [(4, .int v16), (6, .int v9), (0, .ref (ad 193)), (1, .int a1), (2, .int a2), (3, .int a3), (5, .int a5)]) C dX7_transferAt_71 (by decide) rfl ?_
            refine x_iinc (pc := 73) (i := 5) (v := (a5 + 1)) (ls2 := [(5, .int (a5 + 1)), (4, .int v16), (6, .int v9), (0, .ref (ad 193)), (1, .int a1), (2, .int a2), (3, .int a3)]) C 6 dX7_transferAt_73 rfl rfl (by decide) rfl ?_
            refine x_goto (pc := 76) (tgt := 20) C dX7_transferAt_76 (by decide) ?_
            refine x_sub [3, 4, 5, 6, 1, 0] (ls2 := [(0, .ref (ad 193)), (1, .int a1), (2, .int a2), (3, .int a3), (4, .int v16), (5, .int (a5 + 1))]) rfl ?_
            exact ih M a1 a2 a3 v16 (a5 + 1) R0 hR hok k
set_option maxHeartbeats 4000000 in
set_option maxRecDepth 100000 in
theorem t_X7_transferAt_L4 {p0 : Program} {l : Launch} {e : Env} {s : State} {m : MethodId} {args : Array Value} {below : List Frame} {meth : Method} {c : Code} {A : Nat → Prop} {G : GT} {ad : Nat → Nat} {Q : State → Prop} (C : CX p0 l s m args meth c A G ad cX7_transferAt RX7 7 (some .int))  (n : Nat) (M : StM) (a1 : Int32) (a2 : Int32) (a3 : Int32) (B : StB) (O : StO) : ∀ (R0 : Int32) (hR : R0 = f_X7_transferAt_L4 n M a1 a2 a3) (hok : ok_X7_transferAt_L4 n M a1 a2 a3) (k : X p0 l e (rmd 3 0 0) s m args below meth c A G ad 7 0 0 Q B M O [(0, .ref (ad 193)), (2, .int R0)] 102 []), X p0 l e (rmd 3 0 0) s m args below meth c A G ad 7 0 0 Q B M O [(0, .ref (ad 193)), (1, .int a1), (2, .int a2), (3, .int a3)] 4 [] := by
  induction n generalizing M a1 a2 a3 with
  | zero => intro R0 hR hok k; exact False.elim hok
  | succ n ih =>
    intro R0 hR hok k
    have hR : R0 = (if (ma M 0 (ix 3)) ≤ a3 then a2 else (nm (f_X7_transferAt_L20 fu M a1 a2 a3 0 0) (fun (z17 : Int32) => (if z17 = a1 then (nm (f_X7_ofPlace M a3 0) (fun (r20 : Int32) => (f_X7_transferAt_L4 n M a1 r20 (a3 + 1)))) else (f_X7_transferAt_L4 n M a1 a2 (a3 + 1)))))) := hR
    have hok : (((ma M 0 (ix 3)) ≤ a3 → True) ∧ (¬ (ma M 0 (ix 3)) ≤ a3 → ((ok_X7_transferAt_L20 fu M a1 a2 a3 0 0) ∧ ∀ z17 : Int32, z17 = f_X7_transferAt_L20 fu M a1 a2 a3 0 0 → ((z17 = a1 → ((ok_X7_ofPlace M a3 0) ∧ (∀ r20 : Int32, r20 = (f_X7_ofPlace M a3 0) → (ok_X7_transferAt_L4 n M a1 r20 (a3 + 1))))) ∧ (¬ z17 = a1 → (ok_X7_transferAt_L4 n M a1 a2 (a3 + 1))))))) := hok
    refine x_iload_n (pc := 4) (i := 3) C 3 dX7_transferAt_4 rfl rfl ?_
    refine x_aload_n (pc := 5) (i := 0) C 0 dX7_transferAt_5 rfl rfl ?_
    refine x_get (pc := 6) (q := 193) (i := 0) C e_M rfl ttX7 (by decide) wd_6_227 rfl dX7_transferAt_6 ?_
    refine x_iconst (pc := 9) (v := 3) C dX7_transferAt_9 (by decide) ?_
    have h1 : vp_in (3) 124 := (by decide : ¬ ((3 : Int32) < 0 ∨ 124 ≤ Int32.toNatClampNeg 3))
    refine x_iald (pc := 10) (q := 194) C e_M0 h1 dX7_transferAt_10 ?_
    refine x_icmp_ge (pc := 11) (tgt := 102) C dX7_transferAt_11 (by decide) (fun c2 => ?_) (fun c2 => ?_)
    · have hR := hR.trans (if_pos c2)
      refine x_sub [0, 2] (ls2 := [(0, .ref (ad 193)), (2, .int a2)]) rfl ?_
      subst hR
      exact k
    · have hR := hR.trans (if_neg c2)
      have hok := hok.2 c2
      refine x_iconst (pc := 14) (v := 0) C dX7_transferAt_14 (by decide) ?_
      refine x_istore (pc := 15) (i := 4) (ls2 := [(4, .int 0), (0, .ref (ad 193)), (1, .int a1), (2, .int a2), (3, .int a3)]) C dX7_transferAt_15 (by decide) rfl ?_
      refine x_iconst (pc := 17) (v := 0) C dX7_transferAt_17 (by decide) ?_
      refine x_istore (pc := 18) (i := 5) (ls2 := [(5, .int 0), (4, .int 0), (0, .ref (ad 193)), (1, .int a1), (2, .int a2), (3, .int a3)]) C dX7_transferAt_18 (by decide) rfl ?_
      refine x_sub [2, 3, 4, 5, 1, 0] (ls2 := [(0, .ref (ad 193)), (1, .int a1), (2, .int a2), (3, .int a3), (4, .int 0), (5, .int 0)]) rfl ?_
      obtain ⟨z17, ez17⟩ : ∃ z : Int32, z = f_X7_transferAt_L20 fu M a1 a2 a3 0 0 := ⟨_, rfl⟩
      refine t_X7_transferAt_L20 C fu M a1 a2 a3 0 0 B O z17 ez17 hok.1 ?_
      have hR := nmE hR ez17
      have hok := hok.2 z17 ez17
      refine x_iload (pc := 79) (i := 4) C 4 dX7_transferAt_79 rfl ?_
      refine x_iload_n (pc := 81) (i := 1) C 1 dX7_transferAt_81 rfl rfl ?_
      refine x_icmp_ne (pc := 82) (tgt := 94) C dX7_transferAt_82 (by decide) (fun c18 => ?_) (fun c18 => ?_)
      · have hR := hR.trans (if_neg c18)
        have hok := hok.2 c18
        refine x_iload_n (pc := 94) (i := 2) C 2 dX7_transferAt_94 rfl rfl ?_
        refine x_istore_n (pc := 95) (i := 2) (ls2 := [(2, .int a2), (0, .ref (ad 193)), (1, .int a1), (3, .int a3), (4, .int z17)]) C dX7_transferAt_95 rfl (by decide) rfl ?_
        refine x_iinc (pc := 96) (i := 3) (v := (a3 + 1)) (ls2 := [(3, .int (a3 + 1)), (2, .int a2), (0, .ref (ad 193)), (1, .int a1), (4, .int z17)]) C 3 dX7_transferAt_96 rfl rfl (by decide) rfl ?_
        refine x_goto (pc := 99) (tgt := 4) C dX7_transferAt_99 (by decide) ?_
        refine x_sub [2, 3, 1, 0] (ls2 := [(0, .ref (ad 193)), (1, .int a1), (2, .int a2), (3, .int (a3 + 1))]) rfl ?_
        exact ih M a1 a2 (a3 + 1) R0 hR hok k
      · have hR := hR.trans (if_pos c18)
        have hok := hok.1 c18
        refine x_aload_n (pc := 85) (i := 0) C 0 dX7_transferAt_85 rfl rfl ?_
        refine x_iload_n (pc := 86) (i := 3) C 3 dX7_transferAt_86 rfl rfl ?_
        refine x_iconst (pc := 87) (v := 0) C dX7_transferAt_87 (by decide) ?_
        have h19 := hok.1
        have hok := hok.2
        refine x_cIV (pc := 88) (as := [.int a3, .int 0]) (q := 193) C (c_X7_ofPlace C.2.2.2.2.2.2.2.1  B M O a3 0 h19) (fs := _) e_M rfl cv_X7_ofPlace cd_X7_ofPlace wd_7_168 ⟨Nat.le_of_ble_eq_true rfl, Nat.le_of_ble_eq_true rfl⟩ ⟨Nat.le_of_ble_eq_true rfl, Nat.le_of_ble_eq_true rfl⟩ rfl rfl (Nat.le_of_ble_eq_true rfl) dX7_transferAt_88 ?_
        refine x_nmI (fun r20 er20 => ?_)
        have hR := nmE hR er20
        have hok := hok r20 er20
        refine x_goto (pc := 91) (tgt := 95) C dX7_transferAt_91 (by decide) ?_
        refine x_istore_n (pc := 95) (i := 2) (ls2 := [(2, .int r20), (0, .ref (ad 193)), (1, .int a1), (3, .int a3), (4, .int z17)]) C dX7_transferAt_95 rfl (by decide) rfl ?_
        refine x_iinc (pc := 96) (i := 3) (v := (a3 + 1)) (ls2 := [(3, .int (a3 + 1)), (2, .int r20), (0, .ref (ad 193)), (1, .int a1), (4, .int z17)]) C 3 dX7_transferAt_96 rfl rfl (by decide) rfl ?_
        refine x_goto (pc := 99) (tgt := 4) C dX7_transferAt_99 (by decide) ?_
        refine x_sub [2, 3, 1, 0] (ls2 := [(0, .ref (ad 193)), (1, .int a1), (2, .int r20), (3, .int (a3 + 1))]) rfl ?_
        exact ih M a1 r20 (a3 + 1) R0 hR hok k
set_option maxHeartbeats 4000000 in
set_option maxRecDepth 100000 in
theorem t_X7_transferAt_J113 {p0 : Program} {l : Launch} {e : Env} {s : State} {m : MethodId} {args : Array Value} {below : List Frame} {meth : Method} {c : Code} {A : Nat → Prop} {G : GT} {ad : Nat → Nat} (C : CX p0 l s m args meth c A G ad cX7_transferAt RX7 7 (some .int))  (M : StM) (a2 : Int32) (s0 : Int32) (B : StB) (O : StO) (R0 : Int32 × StM) (hR : R0 = f_X7_transferAt_J113 M a2 s0) (hok : ok_X7_transferAt_J113 M a2 s0) : X p0 l e (rmd 3 0 0) s m args below meth c A G ad 7 0 0 (MQ below (QI G A ad R0.1 B R0.2 O) args s 0 0 A) B M O [(2, .int a2)] 113 [.int s0, .ref (ad 193)] := by
  have hR : R0 = (nm (f_X7_goes M s0) (fun (z24 : Int32 × StM) => (if z24.1 = 0 then (0, z24.2) else (a2, z24.2)))) := hR
  have hok : ((ok_X7_goes M s0)) := hok
  have h23 := hok
  refine x_cIV (pc := 113) (as := [.int s0]) (q := 193) C (c_X7_goes C.2.2.2.2.2.2.2.1  B M O s0 h23) (fs := _) e_M rfl cv_X7_goes cd_X7_goes wd_7_59 ⟨Nat.le_of_ble_eq_true rfl, Nat.le_of_ble_eq_true rfl⟩ ⟨Nat.le_of_ble_eq_true rfl, Nat.le_of_ble_eq_true rfl⟩ rfl rfl (Nat.le_of_ble_eq_true rfl) dX7_transferAt_113 ?_
  refine x_nmIM (fun z24 ez24 => ?_)
  have hR := nmE hR ez24
  refine x_if_eq (pc := 116) (tgt := 123) C dX7_transferAt_116 (by decide) (fun c25 => ?_) (fun c25 => ?_)
  · have hR := hR.trans (if_pos c25)
    refine x_iconst (pc := 123) (v := 0) C dX7_transferAt_123 (by decide) ?_
    exact x_iretM (pc := 124) C rfl hR dX7_transferAt_124
  · have hR := hR.trans (if_neg c25)
    refine x_iload_n (pc := 119) (i := 2) C 0 dX7_transferAt_119 rfl rfl ?_
    refine x_goto (pc := 120) (tgt := 124) C dX7_transferAt_120 (by decide) ?_
    exact x_iretM (pc := 124) C rfl hR dX7_transferAt_124
set_option maxHeartbeats 4000000 in
set_option maxRecDepth 100000 in
theorem c_X7_transferAt {l : Launch} {A : Nat → Prop} {G : GT} {ad : Nat → Nat} (gl : Gl l A ad)  (B : StB) (M : StM) (O : StO) (x0 : Int32) (hok : ok_X7_transferAt M x0) : Met l yX7_transferAt (wof yX7_transferAt cX7_transferAt 7 (some .int)) (rmd 3 0 0) (va_Pc [.ref (ad 193), .int x0] (PW G A ad B M O)) (QI G A ad (f_X7_transferAt M x0).1 B (f_X7_transferAt M x0).2 O) 0 0 A := by
  refine x_body (own := RX7) (by decide +kernel) rfl gl (Nat.le_of_ble_eq_true rfl) (ls := [(0, .ref (ad 193)), (1, .int x0)]) rfl ?_
  intro p0 e s m args below meth c C
  have hR : (f_X7_transferAt M x0) = (nm (f_X7_transferAt_L4 fu M x0 (-1) 0) (fun (z21 : Int32) => (if z21 = (-1) then (f_X7_transferAt_J113 M z21 0) else (f_X7_transferAt_J113 M z21 1)))) := rfl
  have hok : ((ok_X7_transferAt_L4 fu M x0 (-1) 0) ∧ ∀ z21 : Int32, z21 = f_X7_transferAt_L4 fu M x0 (-1) 0 → ((z21 = (-1) → (ok_X7_transferAt_J113 M z21 0)) ∧ (¬ z21 = (-1) → (ok_X7_transferAt_J113 M z21 1)))) := hok
  refine x_iconst (pc := 0) (v := (-1)) C dX7_transferAt_0 (by decide) ?_
  refine x_istore_n (pc := 1) (i := 2) (ls2 := [(2, .int (-1)), (0, .ref (ad 193)), (1, .int x0)]) C dX7_transferAt_1 rfl (by decide) rfl ?_
  refine x_iconst (pc := 2) (v := 0) C dX7_transferAt_2 (by decide) ?_
  refine x_istore_n (pc := 3) (i := 3) (ls2 := [(3, .int 0), (2, .int (-1)), (0, .ref (ad 193)), (1, .int x0)]) C dX7_transferAt_3 rfl (by decide) rfl ?_
  refine x_sub [2, 3, 1, 0] (ls2 := [(0, .ref (ad 193)), (1, .int x0), (2, .int (-1)), (3, .int 0)]) rfl ?_
  obtain ⟨z21, ez21⟩ : ∃ z : Int32, z = f_X7_transferAt_L4 fu M x0 (-1) 0 := ⟨_, rfl⟩
  refine t_X7_transferAt_L4 C fu M x0 (-1) 0 B O z21 ez21 hok.1 ?_
  have hR := nmE hR ez21
  have hok := hok.2 z21 ez21
  refine x_aload_n (pc := 102) (i := 0) C 0 dX7_transferAt_102 rfl rfl ?_
  refine x_iload_n (pc := 103) (i := 2) C 1 dX7_transferAt_103 rfl rfl ?_
  refine x_iconst (pc := 104) (v := (-1)) C dX7_transferAt_104 (by decide) ?_
  refine x_icmp_eq (pc := 105) (tgt := 112) C dX7_transferAt_105 (by decide) (fun c22 => ?_) (fun c22 => ?_)
  · have hR := hR.trans (if_pos c22)
    have hok := hok.1 c22
    refine x_iconst (pc := 112) (v := 0) C dX7_transferAt_112 (by decide) ?_
    refine x_sub [1] (ls2 := [(2, .int z21)]) rfl ?_
    exact t_X7_transferAt_J113 C M z21 0 B O _ hR hok
  · have hR := hR.trans (if_neg c22)
    have hok := hok.2 c22
    refine x_iconst (pc := 108) (v := 1) C dX7_transferAt_108 (by decide) ?_
    refine x_goto (pc := 109) (tgt := 113) C dX7_transferAt_109 (by decide) ?_
    refine x_sub [1] (ls2 := [(2, .int z21)]) rfl ?_
    exact t_X7_transferAt_J113 C M z21 1 B O _ hR hok
set_option maxHeartbeats 4000000 in
set_option maxRecDepth 100000 in
theorem t_X7_asksTransfer_J17 {p0 : Program} {l : Launch} {e : Env} {s : State} {m : MethodId} {args : Array Value} {below : List Frame} {meth : Method} {c : Code} {A : Nat → Prop} {G : GT} {ad : Nat → Nat} (C : CX p0 l s m args meth c A G ad cX7_asksTransfer RX7 4 (some .int))  (M : StM) (a2 : Int32) (a3 : Int32) (s0 : Int32) (B : StB) (O : StO) (R0 : Int32 × StM) (hR : R0 = f_X7_asksTransfer_J17 M a2 a3 s0) (hok : ok_X7_asksTransfer_J17 M a2 a3 s0) : X p0 l e (rmd 3 0 0) s m args below meth c A G ad 4 0 0 (MQ below (QI G A ad R0.1 B R0.2 O) args s 0 0 A) B M O [(0, .ref (ad 193)), (2, .int a2), (3, .int a3)] 17 [.int s0, .ref (ad 193)] := by
  have hR : R0 = (nm (f_X7_goes M s0) (fun (z5 : Int32 × StM) => (if z5.1 = 0 then (0, z5.2) else (nm (f_X7_ofPlace z5.2 a3 a2) (fun (r8 : Int32) => (r8, z5.2)))))) := hR
  have hok : ((ok_X7_goes M s0) ∧ (∀ z5 : Int32 × StM, z5 = (f_X7_goes M s0) → ((z5.1 = 0 → True) ∧ (¬ z5.1 = 0 → ((ok_X7_ofPlace z5.2 a3 a2)))))) := hok
  have h4 := hok.1
  have hok := hok.2
  refine x_cIV (pc := 17) (as := [.int s0]) (q := 193) C (c_X7_goes C.2.2.2.2.2.2.2.1  B M O s0 h4) (fs := _) e_M rfl cv_X7_goes cd_X7_goes wd_7_59 ⟨Nat.le_of_ble_eq_true rfl, Nat.le_of_ble_eq_true rfl⟩ ⟨Nat.le_of_ble_eq_true rfl, Nat.le_of_ble_eq_true rfl⟩ rfl rfl (Nat.le_of_ble_eq_true rfl) dX7_asksTransfer_17 ?_
  refine x_nmIM (fun z5 ez5 => ?_)
  have hR := nmE hR ez5
  have hok := hok z5 ez5
  refine x_if_eq (pc := 20) (tgt := 32) C dX7_asksTransfer_20 (by decide) (fun c6 => ?_) (fun c6 => ?_)
  · have hR := hR.trans (if_pos c6)
    refine x_iconst (pc := 32) (v := 0) C dX7_asksTransfer_32 (by decide) ?_
    exact x_iretM (pc := 33) C rfl hR dX7_asksTransfer_33
  · have hR := hR.trans (if_neg c6)
    have hok := hok.2 c6
    refine x_aload_n (pc := 23) (i := 0) C 0 dX7_asksTransfer_23 rfl rfl ?_
    refine x_iload_n (pc := 24) (i := 3) C 2 dX7_asksTransfer_24 rfl rfl ?_
    refine x_iload_n (pc := 25) (i := 2) C 1 dX7_asksTransfer_25 rfl rfl ?_
    have h7 := hok
    refine x_cIV (pc := 26) (as := [.int a3, .int a2]) (q := 193) C (c_X7_ofPlace C.2.2.2.2.2.2.2.1  B z5.2 O a3 a2 h7) (fs := _) e_M rfl cv_X7_ofPlace cd_X7_ofPlace wd_7_168 ⟨Nat.le_of_ble_eq_true rfl, Nat.le_of_ble_eq_true rfl⟩ ⟨Nat.le_of_ble_eq_true rfl, Nat.le_of_ble_eq_true rfl⟩ rfl rfl (Nat.le_of_ble_eq_true rfl) dX7_asksTransfer_26 ?_
    refine x_nmI (fun r8 er8 => ?_)
    have hR := nmE hR er8
    refine x_goto (pc := 29) (tgt := 33) C dX7_asksTransfer_29 (by decide) ?_
    exact x_iretM (pc := 33) C rfl hR dX7_asksTransfer_33
set_option maxHeartbeats 4000000 in
set_option maxRecDepth 100000 in
theorem c_X7_asksTransfer {l : Launch} {A : Nat → Prop} {G : GT} {ad : Nat → Nat} (gl : Gl l A ad)  (B : StB) (M : StM) (O : StO) (x0 : Int32) (x1 : Int32) (hok : ok_X7_asksTransfer M x0 x1) : Met l yX7_asksTransfer (wof yX7_asksTransfer cX7_asksTransfer 4 (some .int)) (rmd 3 0 0) (va_Pc [.ref (ad 193), .int x0, .int x1] (PW G A ad B M O)) (QI G A ad (f_X7_asksTransfer M x0 x1).1 B (f_X7_asksTransfer M x0 x1).2 O) 0 0 A := by
  refine x_body (own := RX7) (by decide +kernel) rfl gl (Nat.le_of_ble_eq_true rfl) (ls := [(0, .ref (ad 193)), (1, .int x0), (2, .int x1)]) rfl ?_
  intro p0 e s m args below meth c C
  have hR : (f_X7_asksTransfer M x0 x1) = (nm (f_X7_find M x0) (fun (r2 : Int32) => (if r2 = (-1) then (f_X7_asksTransfer_J17 M x1 r2 0) else (f_X7_asksTransfer_J17 M x1 r2 1)))) := rfl
  have hok : ((ok_X7_find M x0) ∧ (∀ r2 : Int32, r2 = (f_X7_find M x0) → ((r2 = (-1) → (ok_X7_asksTransfer_J17 M x1 r2 0)) ∧ (¬ r2 = (-1) → (ok_X7_asksTransfer_J17 M x1 r2 1))))) := hok
  refine x_aload_n (pc := 0) (i := 0) C 0 dX7_asksTransfer_0 rfl rfl ?_
  refine x_iload_n (pc := 1) (i := 1) C 1 dX7_asksTransfer_1 rfl rfl ?_
  have h1 := hok.1
  have hok := hok.2
  refine x_cIV (pc := 2) (as := [.int x0]) (q := 193) C (c_X7_find C.2.2.2.2.2.2.2.1  B M O x0 h1) (fs := _) e_M rfl cv_X7_find cd_X7_find wd_7_164 ⟨Nat.le_of_ble_eq_true rfl, Nat.le_of_ble_eq_true rfl⟩ ⟨Nat.le_of_ble_eq_true rfl, Nat.le_of_ble_eq_true rfl⟩ rfl rfl (Nat.le_of_ble_eq_true rfl) dX7_asksTransfer_2 ?_
  refine x_nmI (fun r2 er2 => ?_)
  have hR := nmE hR er2
  have hok := hok r2 er2
  refine x_istore_n (pc := 5) (i := 3) (ls2 := [(3, .int r2), (0, .ref (ad 193)), (1, .int x0), (2, .int x1)]) C dX7_asksTransfer_5 rfl (by decide) rfl ?_
  refine x_aload_n (pc := 6) (i := 0) C 1 dX7_asksTransfer_6 rfl rfl ?_
  refine x_iload_n (pc := 7) (i := 3) C 0 dX7_asksTransfer_7 rfl rfl ?_
  refine x_iconst (pc := 8) (v := (-1)) C dX7_asksTransfer_8 (by decide) ?_
  refine x_icmp_eq (pc := 9) (tgt := 16) C dX7_asksTransfer_9 (by decide) (fun c3 => ?_) (fun c3 => ?_)
  · have hR := hR.trans (if_pos c3)
    have hok := hok.1 c3
    refine x_iconst (pc := 16) (v := 0) C dX7_asksTransfer_16 (by decide) ?_
    refine x_sub [1, 3, 0] (ls2 := [(0, .ref (ad 193)), (2, .int x1), (3, .int r2)]) rfl ?_
    exact t_X7_asksTransfer_J17 C M x1 r2 0 B O _ hR hok
  · have hR := hR.trans (if_neg c3)
    have hok := hok.2 c3
    refine x_iconst (pc := 12) (v := 1) C dX7_asksTransfer_12 (by decide) ?_
    refine x_goto (pc := 13) (tgt := 17) C dX7_asksTransfer_13 (by decide) ?_
    refine x_sub [1, 3, 0] (ls2 := [(0, .ref (ad 193)), (2, .int x1), (3, .int r2)]) rfl ?_
    exact t_X7_asksTransfer_J17 C M x1 r2 1 B O _ hR hok
set_option maxHeartbeats 4000000 in
set_option maxRecDepth 100000 in
theorem t_X7_net_L4 {p0 : Program} {l : Launch} {e : Env} {s : State} {m : MethodId} {args : Array Value} {below : List Frame} {meth : Method} {c : Code} {A : Nat → Prop} {G : GT} {ad : Nat → Nat} {Q : State → Prop} (C : CX p0 l s m args meth c A G ad cX7_net RX7 4 (some .int))  (n : Nat) (M : StM) (a1 : Int32) (a2 : Int32) (a3 : Int32) (B : StB) (O : StO) : ∀ (R0 : Int32) (hR : R0 = f_X7_net_L4 n M a1 a2 a3) (hok : ok_X7_net_L4 n M a1 a2 a3) (k : X p0 l e (rmd 3 0 0) s m args below meth c A G ad 4 0 0 Q B M O [(0, .ref (ad 193)), (1, .int a1), (2, .int R0)] 66 []), X p0 l e (rmd 3 0 0) s m args below meth c A G ad 4 0 0 Q B M O [(0, .ref (ad 193)), (1, .int a1), (2, .int a2), (3, .int a3)] 4 [] := by
  induction n generalizing M a1 a2 a3 with
  | zero => intro R0 hR hok k; exact False.elim hok
  | succ n ih =>
    intro R0 hR hok k
    have hR : R0 = (if (ma M 0 (ix 3)) ≤ a3 then a2 else (nm (f_X7_ofPlace M a3 2) (fun (r4 : Int32) => (if r4 = a1 then (nm (f_X7_ofPlace M a3 3) (fun (r15 : Int32) => (nm (a2 + r15) (fun (v16 : Int32) => (nm (f_X7_ofPlace M a3 1) (fun (r18 : Int32) => (if r18 = a1 then (nm (f_X7_ofPlace M a3 3) (fun (r22 : Int32) => (nm (v16 - r22) (fun (v23 : Int32) => (f_X7_net_L4 n M a1 v23 (a3 + 1)))))) else (nm (v16 - 0) (fun (v20 : Int32) => (f_X7_net_L4 n M a1 v20 (a3 + 1))))))))))) else (nm (a2 + 0) (fun (v6 : Int32) => (nm (f_X7_ofPlace M a3 1) (fun (r8 : Int32) => (if r8 = a1 then (nm (f_X7_ofPlace M a3 3) (fun (r12 : Int32) => (nm (v6 - r12) (fun (v13 : Int32) => (f_X7_net_L4 n M a1 v13 (a3 + 1)))))) else (nm (v6 - 0) (fun (v10 : Int32) => (f_X7_net_L4 n M a1 v10 (a3 + 1))))))))))))) := hR
    have hok : (((ma M 0 (ix 3)) ≤ a3 → True) ∧ (¬ (ma M 0 (ix 3)) ≤ a3 → ((ok_X7_ofPlace M a3 2) ∧ (∀ r4 : Int32, r4 = (f_X7_ofPlace M a3 2) → ((r4 = a1 → ((ok_X7_ofPlace M a3 3) ∧ (∀ r15 : Int32, r15 = (f_X7_ofPlace M a3 3) → (∀ v16 : Int32, v16 = (a2 + r15) → ((ok_X7_ofPlace M a3 1) ∧ (∀ r18 : Int32, r18 = (f_X7_ofPlace M a3 1) → ((r18 = a1 → ((ok_X7_ofPlace M a3 3) ∧ (∀ r22 : Int32, r22 = (f_X7_ofPlace M a3 3) → (∀ v23 : Int32, v23 = (v16 - r22) → (ok_X7_net_L4 n M a1 v23 (a3 + 1)))))) ∧ (¬ r18 = a1 → (∀ v20 : Int32, v20 = (v16 - 0) → (ok_X7_net_L4 n M a1 v20 (a3 + 1))))))))))) ∧ (¬ r4 = a1 → (∀ v6 : Int32, v6 = (a2 + 0) → ((ok_X7_ofPlace M a3 1) ∧ (∀ r8 : Int32, r8 = (f_X7_ofPlace M a3 1) → ((r8 = a1 → ((ok_X7_ofPlace M a3 3) ∧ (∀ r12 : Int32, r12 = (f_X7_ofPlace M a3 3) → (∀ v13 : Int32, v13 = (v6 - r12) → (ok_X7_net_L4 n M a1 v13 (a3 + 1)))))) ∧ (¬ r8 = a1 → (∀ v10 : Int32, v10 = (v6 - 0) → (ok_X7_net_L4 n M a1 v10 (a3 + 1)))))))))))))) := hok
    refine x_iload_n (pc := 4) (i := 3) C 3 dX7_net_4 rfl rfl ?_
    refine x_aload_n (pc := 5) (i := 0) C 0 dX7_net_5 rfl rfl ?_
    refine x_get (pc := 6) (q := 193) (i := 0) C e_M rfl ttX7 (by decide) wd_6_227 rfl dX7_net_6 ?_
    refine x_iconst (pc := 9) (v := 3) C dX7_net_9 (by decide) ?_
    have h1 : vp_in (3) 124 := (by decide : ¬ ((3 : Int32) < 0 ∨ 124 ≤ Int32.toNatClampNeg 3))
    refine x_iald (pc := 10) (q := 194) C e_M0 h1 dX7_net_10 ?_
    refine x_icmp_ge (pc := 11) (tgt := 66) C dX7_net_11 (by decide) (fun c2 => ?_) (fun c2 => ?_)
    · have hR := hR.trans (if_pos c2)
      refine x_sub [0, 1, 2] (ls2 := [(0, .ref (ad 193)), (1, .int a1), (2, .int a2)]) rfl ?_
      subst hR
      exact k
    · have hR := hR.trans (if_neg c2)
      have hok := hok.2 c2
      refine x_iload_n (pc := 14) (i := 2) C 2 dX7_net_14 rfl rfl ?_
      refine x_aload_n (pc := 15) (i := 0) C 0 dX7_net_15 rfl rfl ?_
      refine x_iload_n (pc := 16) (i := 3) C 3 dX7_net_16 rfl rfl ?_
      refine x_iconst (pc := 17) (v := 2) C dX7_net_17 (by decide) ?_
      have h3 := hok.1
      have hok := hok.2
      refine x_cIV (pc := 18) (as := [.int a3, .int 2]) (q := 193) C (c_X7_ofPlace C.2.2.2.2.2.2.2.1  B M O a3 2 h3) (fs := _) e_M rfl cv_X7_ofPlace cd_X7_ofPlace wd_7_168 ⟨Nat.le_of_ble_eq_true rfl, Nat.le_of_ble_eq_true rfl⟩ ⟨Nat.le_of_ble_eq_true rfl, Nat.le_of_ble_eq_true rfl⟩ rfl rfl (Nat.le_of_ble_eq_true rfl) dX7_net_18 ?_
      refine x_nmI (fun r4 er4 => ?_)
      have hR := nmE hR er4
      have hok := hok r4 er4
      refine x_iload_n (pc := 21) (i := 1) C 1 dX7_net_21 rfl rfl ?_
      refine x_icmp_ne (pc := 22) (tgt := 34) C dX7_net_22 (by decide) (fun c5 => ?_) (fun c5 => ?_)
      · have hR := hR.trans (if_neg c5)
        have hok := hok.2 c5
        refine x_iconst (pc := 34) (v := 0) C dX7_net_34 (by decide) ?_
        refine x_iadd (pc := 35) C dX7_net_35 ?_
        refine x_nmI (fun v6 ev6 => ?_)
        have hR := nmE hR ev6
        have hok := hok v6 ev6
        refine x_istore_n (pc := 36) (i := 2) (ls2 := [(2, .int v6), (0, .ref (ad 193)), (1, .int a1), (3, .int a3)]) C dX7_net_36 rfl (by decide) rfl ?_
        refine x_iload_n (pc := 37) (i := 2) C 0 dX7_net_37 rfl rfl ?_
        refine x_aload_n (pc := 38) (i := 0) C 1 dX7_net_38 rfl rfl ?_
        refine x_iload_n (pc := 39) (i := 3) C 3 dX7_net_39 rfl rfl ?_
        refine x_iconst (pc := 40) (v := 1) C dX7_net_40 (by decide) ?_
        have h7 := hok.1
        have hok := hok.2
        refine x_cIV (pc := 41) (as := [.int a3, .int 1]) (q := 193) C (c_X7_ofPlace C.2.2.2.2.2.2.2.1  B M O a3 1 h7) (fs := _) e_M rfl cv_X7_ofPlace cd_X7_ofPlace wd_7_168 ⟨Nat.le_of_ble_eq_true rfl, Nat.le_of_ble_eq_true rfl⟩ ⟨Nat.le_of_ble_eq_true rfl, Nat.le_of_ble_eq_true rfl⟩ rfl rfl (Nat.le_of_ble_eq_true rfl) dX7_net_41 ?_
        refine x_nmI (fun r8 er8 => ?_)
        have hR := nmE hR er8
        have hok := hok r8 er8
        refine x_iload_n (pc := 44) (i := 1) C 2 dX7_net_44 rfl rfl ?_
        refine x_icmp_ne (pc := 45) (tgt := 57) C dX7_net_45 (by decide) (fun c9 => ?_) (fun c9 => ?_)
        · have hR := hR.trans (if_neg c9)
          have hok := hok.2 c9
          refine x_iconst (pc := 57) (v := 0) C dX7_net_57 (by decide) ?_
          refine x_isub (pc := 58) C dX7_net_58 ?_
          refine x_nmI (fun v10 ev10 => ?_)
          have hR := nmE hR ev10
          have hok := hok v10 ev10
          refine x_istore_n (pc := 59) (i := 2) (ls2 := [(2, .int v10), (0, .ref (ad 193)), (1, .int a1), (3, .int a3)]) C dX7_net_59 rfl (by decide) rfl ?_
          refine x_iinc (pc := 60) (i := 3) (v := (a3 + 1)) (ls2 := [(3, .int (a3 + 1)), (2, .int v10), (0, .ref (ad 193)), (1, .int a1)]) C 3 dX7_net_60 rfl rfl (by decide) rfl ?_
          refine x_goto (pc := 63) (tgt := 4) C dX7_net_63 (by decide) ?_
          refine x_sub [2, 3, 1, 0] (ls2 := [(0, .ref (ad 193)), (1, .int a1), (2, .int v10), (3, .int (a3 + 1))]) rfl ?_
          exact ih M a1 v10 (a3 + 1) R0 hR hok k
        · have hR := hR.trans (if_pos c9)
          have hok := hok.1 c9
          refine x_aload_n (pc := 48) (i := 0) C 1 dX7_net_48 rfl rfl ?_
          refine x_iload_n (pc := 49) (i := 3) C 3 dX7_net_49 rfl rfl ?_
          refine x_iconst (pc := 50) (v := 3) C dX7_net_50 (by decide) ?_
          have h11 := hok.1
          have hok := hok.2
          refine x_cIV (pc := 51) (as := [.int a3, .int 3]) (q := 193) C (c_X7_ofPlace C.2.2.2.2.2.2.2.1  B M O a3 3 h11) (fs := _) e_M rfl cv_X7_ofPlace cd_X7_ofPlace wd_7_168 ⟨Nat.le_of_ble_eq_true rfl, Nat.le_of_ble_eq_true rfl⟩ ⟨Nat.le_of_ble_eq_true rfl, Nat.le_of_ble_eq_true rfl⟩ rfl rfl (Nat.le_of_ble_eq_true rfl) dX7_net_51 ?_
          refine x_nmI (fun r12 er12 => ?_)
          have hR := nmE hR er12
          have hok := hok r12 er12
          refine x_goto (pc := 54) (tgt := 58) C dX7_net_54 (by decide) ?_
          refine x_isub (pc := 58) C dX7_net_58 ?_
          refine x_nmI (fun v13 ev13 => ?_)
          have hR := nmE hR ev13
          have hok := hok v13 ev13
          refine x_istore_n (pc := 59) (i := 2) (ls2 := [(2, .int v13), (0, .ref (ad 193)), (1, .int a1), (3, .int a3)]) C dX7_net_59 rfl (by decide) rfl ?_
          refine x_iinc (pc := 60) (i := 3) (v := (a3 + 1)) (ls2 := [(3, .int (a3 + 1)), (2, .int v13), (0, .ref (ad 193)), (1, .int a1)]) C 3 dX7_net_60 rfl rfl (by decide) rfl ?_
          refine x_goto (pc := 63) (tgt := 4) C dX7_net_63 (by decide) ?_
          refine x_sub [2, 3, 1, 0] (ls2 := [(0, .ref (ad 193)), (1, .int a1), (2, .int v13), (3, .int (a3 + 1))]) rfl ?_
          exact ih M a1 v13 (a3 + 1) R0 hR hok k
      · have hR := hR.trans (if_pos c5)
        have hok := hok.1 c5
        refine x_aload_n (pc := 25) (i := 0) C 0 dX7_net_25 rfl rfl ?_
        refine x_iload_n (pc := 26) (i := 3) C 3 dX7_net_26 rfl rfl ?_
        refine x_iconst (pc := 27) (v := 3) C dX7_net_27 (by decide) ?_
        have h14 := hok.1
        have hok := hok.2
        refine x_cIV (pc := 28) (as := [.int a3, .int 3]) (q := 193) C (c_X7_ofPlace C.2.2.2.2.2.2.2.1  B M O a3 3 h14) (fs := _) e_M rfl cv_X7_ofPlace cd_X7_ofPlace wd_7_168 ⟨Nat.le_of_ble_eq_true rfl, Nat.le_of_ble_eq_true rfl⟩ ⟨Nat.le_of_ble_eq_true rfl, Nat.le_of_ble_eq_true rfl⟩ rfl rfl (Nat.le_of_ble_eq_true rfl) dX7_net_28 ?_
        refine x_nmI (fun r15 er15 => ?_)
        have hR := nmE hR er15
        have hok := hok r15 er15
        refine x_goto (pc := 31) (tgt := 35) C dX7_net_31 (by decide) ?_
        refine x_iadd (pc := 35) C dX7_net_35 ?_
        refine x_nmI (fun v16 ev16 => ?_)
        have hR := nmE hR ev16
        have hok := hok v16 ev16
        refine x_istore_n (pc := 36) (i := 2) (ls2 := [(2, .int v16), (0, .ref (ad 193)), (1, .int a1), (3, .int a3)]) C dX7_net_36 rfl (by decide) rfl ?_
        refine x_iload_n (pc := 37) (i := 2) C 0 dX7_net_37 rfl rfl ?_
        refine x_aload_n (pc := 38) (i := 0) C 1 dX7_net_38 rfl rfl ?_
        refine x_iload_n (pc := 39) (i := 3) C 3 dX7_net_39 rfl rfl ?_
        refine x_iconst (pc := 40) (v := 1) C dX7_net_40 (by decide) ?_
        have h17 := hok.1
        have hok := hok.2
        refine x_cIV (pc := 41) (as := [.int a3, .int 1]) (q := 193) C (c_X7_ofPlace C.2.2.2.2.2.2.2.1  B M O a3 1 h17) (fs := _) e_M rfl cv_X7_ofPlace cd_X7_ofPlace wd_7_168 ⟨Nat.le_of_ble_eq_true rfl, Nat.le_of_ble_eq_true rfl⟩ ⟨Nat.le_of_ble_eq_true rfl, Nat.le_of_ble_eq_true rfl⟩ rfl rfl (Nat.le_of_ble_eq_true rfl) dX7_net_41 ?_
        refine x_nmI (fun r18 er18 => ?_)
        have hR := nmE hR er18
        have hok := hok r18 er18
        refine x_iload_n (pc := 44) (i := 1) C 2 dX7_net_44 rfl rfl ?_
        refine x_icmp_ne (pc := 45) (tgt := 57) C dX7_net_45 (by decide) (fun c19 => ?_) (fun c19 => ?_)
        · have hR := hR.trans (if_neg c19)
          have hok := hok.2 c19
          refine x_iconst (pc := 57) (v := 0) C dX7_net_57 (by decide) ?_
          refine x_isub (pc := 58) C dX7_net_58 ?_
          refine x_nmI (fun v20 ev20 => ?_)
          have hR := nmE hR ev20
          have hok := hok v20 ev20
          refine x_istore_n (pc := 59) (i := 2) (ls2 := [(2, .int v20), (0, .ref (ad 193)), (1, .int a1), (3, .int a3)]) C dX7_net_59 rfl (by decide) rfl ?_
          refine x_iinc (pc := 60) (i := 3) (v := (a3 + 1)) (ls2 := [(3, .int (a3 + 1)), (2, .int v20), (0, .ref (ad 193)), (1, .int a1)]) C 3 dX7_net_60 rfl rfl (by decide) rfl ?_
          refine x_goto (pc := 63) (tgt := 4) C dX7_net_63 (by decide) ?_
          refine x_sub [2, 3, 1, 0] (ls2 := [(0, .ref (ad 193)), (1, .int a1), (2, .int v20), (3, .int (a3 + 1))]) rfl ?_
          exact ih M a1 v20 (a3 + 1) R0 hR hok k
        · have hR := hR.trans (if_pos c19)
          have hok := hok.1 c19
          refine x_aload_n (pc := 48) (i := 0) C 1 dX7_net_48 rfl rfl ?_
          refine x_iload_n (pc := 49) (i := 3) C 3 dX7_net_49 rfl rfl ?_
          refine x_iconst (pc := 50) (v := 3) C dX7_net_50 (by decide) ?_
          have h21 := hok.1
          have hok := hok.2
          refine x_cIV (pc := 51) (as := [.int a3, .int 3]) (q := 193) C (c_X7_ofPlace C.2.2.2.2.2.2.2.1  B M O a3 3 h21) (fs := _) e_M rfl cv_X7_ofPlace cd_X7_ofPlace wd_7_168 ⟨Nat.le_of_ble_eq_true rfl, Nat.le_of_ble_eq_true rfl⟩ ⟨Nat.le_of_ble_eq_true rfl, Nat.le_of_ble_eq_true rfl⟩ rfl rfl (Nat.le_of_ble_eq_true rfl) dX7_net_51 ?_
          refine x_nmI (fun r22 er22 => ?_)
          have hR := nmE hR er22
          have hok := hok r22 er22
          refine x_goto (pc := 54) (tgt := 58) C dX7_net_54 (by decide) ?_
          refine x_isub (pc := 58) C dX7_net_58 ?_
          refine x_nmI (fun v23 ev23 => ?_)
          have hR := nmE hR ev23
          have hok := hok v23 ev23
          refine x_istore_n (pc := 59) (i := 2) (ls2 := [(2, .int v23), (0, .ref (ad 193)), (1, .int a1), (3, .int a3)]) C dX7_net_59 rfl (by decide) rfl ?_
          refine x_iinc (pc := 60) (i := 3) (v := (a3 + 1)) (ls2 := [(3, .int (a3 + 1)), (2, .int v23), (0, .ref (ad 193)), (1, .int a1)]) C 3 dX7_net_60 rfl rfl (by decide) rfl ?_
          refine x_goto (pc := 63) (tgt := 4) C dX7_net_63 (by decide) ?_
          refine x_sub [2, 3, 1, 0] (ls2 := [(0, .ref (ad 193)), (1, .int a1), (2, .int v23), (3, .int (a3 + 1))]) rfl ?_
          exact ih M a1 v23 (a3 + 1) R0 hR hok k
set_option maxHeartbeats 4000000 in
set_option maxRecDepth 100000 in
theorem c_X7_net {l : Launch} {A : Nat → Prop} {G : GT} {ad : Nat → Nat} (gl : Gl l A ad)  (B : StB) (M : StM) (O : StO) (x0 : Int32) (hok : ok_X7_net M x0) : Met l yX7_net (wof yX7_net cX7_net 4 (some .int)) (rmd 3 0 0) (va_Pc [.ref (ad 193), .int x0] (PW G A ad B M O)) (QI G A ad (f_X7_net M x0).1 B (f_X7_net M x0).2 O) 0 0 A := by
  refine x_body (own := RX7) (by decide +kernel) rfl gl (Nat.le_of_ble_eq_true rfl) (ls := [(0, .ref (ad 193)), (1, .int x0)]) rfl ?_
  intro p0 e s m args below meth c C
  have hR : (f_X7_net M x0) = (nm (f_X7_net_L4 fu M x0 0 0) (fun (z24 : Int32) => (nm (f_X7_isAccount M x0) (fun (r26 : Int32) => (nm (f_X7_goes M r26) (fun (z28 : Int32 × StM) => (if z28.1 = 0 then (0, z28.2) else (z24, z28.2)))))))) := rfl
  have hok : ((ok_X7_net_L4 fu M x0 0 0) ∧ ∀ z24 : Int32, z24 = f_X7_net_L4 fu M x0 0 0 → ((ok_X7_isAccount M x0) ∧ (∀ r26 : Int32, r26 = (f_X7_isAccount M x0) → ((ok_X7_goes M r26))))) := hok
  refine x_iconst (pc := 0) (v := 0) C dX7_net_0 (by decide) ?_
  refine x_istore_n (pc := 1) (i := 2) (ls2 := [(2, .int 0), (0, .ref (ad 193)), (1, .int x0)]) C dX7_net_1 rfl (by decide) rfl ?_
  refine x_iconst (pc := 2) (v := 0) C dX7_net_2 (by decide) ?_
  refine x_istore_n (pc := 3) (i := 3) (ls2 := [(3, .int 0), (2, .int 0), (0, .ref (ad 193)), (1, .int x0)]) C dX7_net_3 rfl (by decide) rfl ?_
  refine x_sub [2, 3, 1, 0] (ls2 := [(0, .ref (ad 193)), (1, .int x0), (2, .int 0), (3, .int 0)]) rfl ?_
  obtain ⟨z24, ez24⟩ : ∃ z : Int32, z = f_X7_net_L4 fu M x0 0 0 := ⟨_, rfl⟩
  refine t_X7_net_L4 C fu M x0 0 0 B O z24 ez24 hok.1 ?_
  have hR := nmE hR ez24
  have hok := hok.2 z24 ez24
  refine x_aload_n (pc := 66) (i := 0) C 0 dX7_net_66 rfl rfl ?_
  refine x_aload_n (pc := 67) (i := 0) C 0 dX7_net_67 rfl rfl ?_
  refine x_iload_n (pc := 68) (i := 1) C 1 dX7_net_68 rfl rfl ?_
  have h25 := hok.1
  have hok := hok.2
  refine x_cIV (pc := 69) (as := [.int x0]) (q := 193) C (c_X7_isAccount C.2.2.2.2.2.2.2.1  B M O x0 h25) (fs := _) e_M rfl cv_X7_isAccount cd_X7_isAccount wd_7_115 ⟨Nat.le_of_ble_eq_true rfl, Nat.le_of_ble_eq_true rfl⟩ ⟨Nat.le_of_ble_eq_true rfl, Nat.le_of_ble_eq_true rfl⟩ rfl rfl (Nat.le_of_ble_eq_true rfl) dX7_net_69 ?_
  refine x_nmI (fun r26 er26 => ?_)
  have hR := nmE hR er26
  have hok := hok r26 er26
  have h27 := hok
  refine x_cIV (pc := 72) (as := [.int r26]) (q := 193) C (c_X7_goes C.2.2.2.2.2.2.2.1  B M O r26 h27) (fs := _) e_M rfl cv_X7_goes cd_X7_goes wd_7_59 ⟨Nat.le_of_ble_eq_true rfl, Nat.le_of_ble_eq_true rfl⟩ ⟨Nat.le_of_ble_eq_true rfl, Nat.le_of_ble_eq_true rfl⟩ rfl rfl (Nat.le_of_ble_eq_true rfl) dX7_net_72 ?_
  refine x_nmIM (fun z28 ez28 => ?_)
  have hR := nmE hR ez28
  refine x_if_eq (pc := 75) (tgt := 82) C dX7_net_75 (by decide) (fun c29 => ?_) (fun c29 => ?_)
  · have hR := hR.trans (if_pos c29)
    refine x_iconst (pc := 82) (v := 0) C dX7_net_82 (by decide) ?_
    exact x_iretM (pc := 83) C rfl hR dX7_net_83
  · have hR := hR.trans (if_neg c29)
    refine x_iload_n (pc := 78) (i := 2) C 2 dX7_net_78 rfl rfl ?_
    refine x_goto (pc := 79) (tgt := 83) C dX7_net_79 (by decide) ?_
    exact x_iretM (pc := 83) C rfl hR dX7_net_83
set_option maxHeartbeats 4000000 in
set_option maxRecDepth 100000 in
theorem t_X7_leadsTo_L49 {p0 : Program} {l : Launch} {e : Env} {s : State} {m : MethodId} {args : Array Value} {below : List Frame} {meth : Method} {c : Code} {A : Nat → Prop} {G : GT} {ad : Nat → Nat} {Q : State → Prop} (C : CX p0 l s m args meth c A G ad cX7_leadsTo RX7 7 (some .boolean))  (n : Nat) (M : StM) (a1 : Int32) (a2 : Int32) (a3 : Int32) (a4 : Int32) (a5 : Int32) (B : StB) (O : StO) : ∀ (R0 : Int32) (hR : R0 = f_X7_leadsTo_L49 n M a1 a2 a3 a4 a5) (hok : ok_X7_leadsTo_L49 n M a1 a2 a3 a4 a5) (k : X p0 l e (rmd 3 0 0) s m args below meth c A G ad 7 0 0 Q B M O [(0, .ref (ad 193)), (1, .int a1), (2, .int a2), (3, .int R0), (4, .int a4)] 120 []), X p0 l e (rmd 3 0 0) s m args below meth c A G ad 7 0 0 Q B M O [(0, .ref (ad 193)), (1, .int a1), (2, .int a2), (3, .int a3), (4, .int a4), (5, .int a5)] 49 [] := by
  induction n generalizing M a1 a2 a3 a4 a5 with
  | zero => intro R0 hR hok k; exact False.elim hok
  | succ n ih =>
    intro R0 hR hok k
    have hR : R0 = (if (ma M 0 (ix 3)) ≤ a5 then a3 else (nm (f_X7_ofPlace M a5 1) (fun (r12 : Int32) => (if r12 = a1 then (nm (f_X7_ofPlace M a5 2) (fun (r16 : Int32) => (nm (a3 ||| (1 <<< (r16 &&& 31))) (fun (v17 : Int32) => (f_X7_leadsTo_L49 n M a1 a2 v17 a4 (a5 + 1)))))) else (nm (f_X7_ofPlace M a5 1) (fun (r19 : Int32) => (if ((a3 >>> (r19 &&& 31)) &&& 1) = 1 then (nm (f_X7_ofPlace M a5 2) (fun (r25 : Int32) => (nm (a3 ||| (1 <<< (r25 &&& 31))) (fun (v26 : Int32) => (f_X7_leadsTo_L49 n M a1 a2 v26 a4 (a5 + 1)))))) else (nm (a3 ||| 0) (fun (v22 : Int32) => (f_X7_leadsTo_L49 n M a1 a2 v22 a4 (a5 + 1))))))))))) := hR
    have hok : (((ma M 0 (ix 3)) ≤ a5 → True) ∧ (¬ (ma M 0 (ix 3)) ≤ a5 → ((ok_X7_ofPlace M a5 1) ∧ (∀ r12 : Int32, r12 = (f_X7_ofPlace M a5 1) → ((r12 = a1 → ((ok_X7_ofPlace M a5 2) ∧ (∀ r16 : Int32, r16 = (f_X7_ofPlace M a5 2) → (∀ v17 : Int32, v17 = (a3 ||| (1 <<< (r16 &&& 31))) → (ok_X7_leadsTo_L49 n M a1 a2 v17 a4 (a5 + 1)))))) ∧ (¬ r12 = a1 → ((ok_X7_ofPlace M a5 1) ∧ (∀ r19 : Int32, r19 = (f_X7_ofPlace M a5 1) → ((((a3 >>> (r19 &&& 31)) &&& 1) = 1 → ((ok_X7_ofPlace M a5 2) ∧ (∀ r25 : Int32, r25 = (f_X7_ofPlace M a5 2) → (∀ v26 : Int32, v26 = (a3 ||| (1 <<< (r25 &&& 31))) → (ok_X7_leadsTo_L49 n M a1 a2 v26 a4 (a5 + 1)))))) ∧ (¬ ((a3 >>> (r19 &&& 31)) &&& 1) = 1 → (∀ v22 : Int32, v22 = (a3 ||| 0) → (ok_X7_leadsTo_L49 n M a1 a2 v22 a4 (a5 + 1))))))))))))) := hok
    refine x_iload (pc := 49) (i := 5) C 5 dX7_leadsTo_49 rfl ?_
    refine x_aload_n (pc := 51) (i := 0) C 0 dX7_leadsTo_51 rfl rfl ?_
    refine x_get (pc := 52) (q := 193) (i := 0) C e_M rfl ttX7 (by decide) wd_6_227 rfl dX7_leadsTo_52 ?_
    refine x_iconst (pc := 55) (v := 3) C dX7_leadsTo_55 (by decide) ?_
    have h9 : vp_in (3) 124 := (by decide : ¬ ((3 : Int32) < 0 ∨ 124 ≤ Int32.toNatClampNeg 3))
    refine x_iald (pc := 56) (q := 194) C e_M0 h9 dX7_leadsTo_56 ?_
    refine x_icmp_ge (pc := 57) (tgt := 120) C dX7_leadsTo_57 (by decide) (fun c10 => ?_) (fun c10 => ?_)
    · have hR := hR.trans (if_pos c10)
      refine x_sub [0, 1, 2, 3, 4] (ls2 := [(0, .ref (ad 193)), (1, .int a1), (2, .int a2), (3, .int a3), (4, .int a4)]) rfl ?_
      subst hR
      exact k
    · have hR := hR.trans (if_neg c10)
      have hok := hok.2 c10
      refine x_aload_n (pc := 60) (i := 0) C 0 dX7_leadsTo_60 rfl rfl ?_
      refine x_iload (pc := 61) (i := 5) C 5 dX7_leadsTo_61 rfl ?_
      refine x_iconst (pc := 63) (v := 1) C dX7_leadsTo_63 (by decide) ?_
      have h11 := hok.1
      have hok := hok.2
      refine x_cIV (pc := 64) (as := [.int a5, .int 1]) (q := 193) C (c_X7_ofPlace C.2.2.2.2.2.2.2.1  B M O a5 1 h11) (fs := _) e_M rfl cv_X7_ofPlace cd_X7_ofPlace wd_7_168 ⟨Nat.le_of_ble_eq_true rfl, Nat.le_of_ble_eq_true rfl⟩ ⟨Nat.le_of_ble_eq_true rfl, Nat.le_of_ble_eq_true rfl⟩ rfl rfl (Nat.le_of_ble_eq_true rfl) dX7_leadsTo_64 ?_
      refine x_nmI (fun r12 er12 => ?_)
      have hR := nmE hR er12
      have hok := hok r12 er12
      refine x_iload_n (pc := 67) (i := 1) C 1 dX7_leadsTo_67 rfl rfl ?_
      refine x_icmp_eq (pc := 68) (tgt := 86) C dX7_leadsTo_68 (by decide) (fun c13 => ?_) (fun c13 => ?_)
      · have hR := hR.trans (if_pos c13)
        have hok := hok.1 c13
        refine x_iconst (pc := 86) (v := 1) C dX7_leadsTo_86 (by decide) ?_
        refine x_goto (pc := 87) (tgt := 91) C dX7_leadsTo_87 (by decide) ?_
        refine x_istore (pc := 91) (i := 6) (ls2 := [(6, .int 1), (0, .ref (ad 193)), (1, .int a1), (2, .int a2), (3, .int a3), (4, .int a4), (5, .int a5)]) C dX7_leadsTo_91 (by decide) rfl ?_
        refine x_iload_n (pc := 93) (i := 3) C 4 dX7_leadsTo_93 rfl rfl ?_
        refine x_iload (pc := 94) (i := 6) C 0 dX7_leadsTo_94 rfl ?_
        refine x_if_eq (pc := 96) (tgt := 111) C dX7_leadsTo_96 (by decide) (fun hf => absurd hf (by decide)) (fun _ => ?_)
        refine x_iconst (pc := 99) (v := 1) C dX7_leadsTo_99 (by decide) ?_
        refine x_aload_n (pc := 100) (i := 0) C 1 dX7_leadsTo_100 rfl rfl ?_
        refine x_iload (pc := 101) (i := 5) C 6 dX7_leadsTo_101 rfl ?_
        refine x_iconst (pc := 103) (v := 2) C dX7_leadsTo_103 (by decide) ?_
        have h15 := hok.1
        have hok := hok.2
        refine x_cIV (pc := 104) (as := [.int a5, .int 2]) (q := 193) C (c_X7_ofPlace C.2.2.2.2.2.2.2.1  B M O a5 2 h15) (fs := _) e_M rfl cv_X7_ofPlace cd_X7_ofPlace wd_7_168 ⟨Nat.le_of_ble_eq_true rfl, Nat.le_of_ble_eq_true rfl⟩ ⟨Nat.le_of_ble_eq_true rfl, Nat.le_of_ble_eq_true rfl⟩ rfl rfl (Nat.le_of_ble_eq_true rfl) dX7_leadsTo_104 ?_
        refine x_nmI (fun r16 er16 => ?_)
        have hR := nmE hR er16
        have hok := hok r16 er16
        refine x_ishl (pc := 107) C dX7_leadsTo_107 ?_
        refine x_goto (pc := 108) (tgt := 112) C dX7_leadsTo_108 (by decide) ?_
        refine x_ior (pc := 112) C dX7_leadsTo_112 ?_
        refine x_nmI (fun v17 ev17 => ?_)
        have hR := nmE hR ev17
        have hok := hok v17 ev17
        refine x_istore_n (pc := 113) (i := 3) (ls2 := [(3, .int v17), (6, .int 1), (0, .ref (ad 193)), (1, .int a1), (2, .int a2), (4, .int a4), (5, .int a5)]) C dX7_leadsTo_113 rfl (by decide) rfl ?_
        refine x_iinc (pc := 114) (i := 5) (v := (a5 + 1)) (ls2 := [(5, .int (a5 + 1)), (3, .int v17), (6, .int 1), (0, .ref (ad 193)), (1, .int a1), (2, .int a2), (4, .int a4)]) C 6 dX7_leadsTo_114 rfl rfl (by decide) rfl ?_
        refine x_goto (pc := 117) (tgt := 49) C dX7_leadsTo_117 (by decide) ?_
        refine x_sub [3, 4, 5, 1, 6, 0] (ls2 := [(0, .ref (ad 193)), (1, .int a1), (2, .int a2), (3, .int v17), (4, .int a4), (5, .int (a5 + 1))]) rfl ?_
        exact ih M a1 a2 v17 a4 (a5 + 1) R0 hR hok k
      · have hR := hR.trans (if_neg c13)
        have hok := hok.2 c13
        refine x_iload_n (pc := 71) (i := 3) C 3 dX7_leadsTo_71 rfl rfl ?_
        refine x_aload_n (pc := 72) (i := 0) C 0 dX7_leadsTo_72 rfl rfl ?_
        refine x_iload (pc := 73) (i := 5) C 5 dX7_leadsTo_73 rfl ?_
        refine x_iconst (pc := 75) (v := 1) C dX7_leadsTo_75 (by decide) ?_
        have h18 := hok.1
        have hok := hok.2
        refine x_cIV (pc := 76) (as := [.int a5, .int 1]) (q := 193) C (c_X7_ofPlace C.2.2.2.2.2.2.2.1  B M O a5 1 h18) (fs := _) e_M rfl cv_X7_ofPlace cd_X7_ofPlace wd_7_168 ⟨Nat.le_of_ble_eq_true rfl, Nat.le_of_ble_eq_true rfl⟩ ⟨Nat.le_of_ble_eq_true rfl, Nat.le_of_ble_eq_true rfl⟩ rfl rfl (Nat.le_of_ble_eq_true rfl) dX7_leadsTo_76 ?_
        refine x_nmI (fun r19 er19 => ?_)
        have hR := nmE hR er19
        have hok := hok r19 er19
        refine x_ishr (pc := 79) C dX7_leadsTo_79 ?_
        refine x_iconst (pc := 80) (v := 1) C dX7_leadsTo_80 (by decide) ?_
        refine x_iand (pc := 81) C dX7_leadsTo_81 ?_
        refine x_iconst (pc := 82) (v := 1) C dX7_leadsTo_82 (by decide) ?_
        refine x_icmp_ne (pc := 83) (tgt := 90) C dX7_leadsTo_83 (by decide) (fun c20 => ?_) (fun c20 => ?_)
        · have hR := hR.trans (if_neg c20)
          have hok := hok.2 c20
          refine x_iconst (pc := 90) (v := 0) C dX7_leadsTo_90 (by decide) ?_
          refine x_istore (pc := 91) (i := 6) (ls2 := [(6, .int 0), (0, .ref (ad 193)), (1, .int a1), (2, .int a2), (3, .int a3), (4, .int a4), (5, .int a5)]) C dX7_leadsTo_91 (by decide) rfl ?_
          refine x_iload_n (pc := 93) (i := 3) C 4 dX7_leadsTo_93 rfl rfl ?_
          refine x_iload (pc := 94) (i := 6) C 0 dX7_leadsTo_94 rfl ?_
          refine x_if_eq (pc := 96) (tgt := 111) C dX7_leadsTo_96 (by decide) (fun _ => ?_) (fun hf => absurd hf (by decide))
          refine x_iconst (pc := 111) (v := 0) C dX7_leadsTo_111 (by decide) ?_
          refine x_ior (pc := 112) C dX7_leadsTo_112 ?_
          refine x_nmI (fun v22 ev22 => ?_)
          have hR := nmE hR ev22
          have hok := hok v22 ev22
          refine x_istore_n (pc := 113) (i := 3) (ls2 := [(3, .int v22), (6, .int 0), (0, .ref (ad 193)), (1, .int a1), (2, .int a2), (4, .int a4), (5, .int a5)]) C dX7_leadsTo_113 rfl (by decide) rfl ?_
          refine x_iinc (pc := 114) (i := 5) (v := (a5 + 1)) (ls2 := [(5, .int (a5 + 1)), (3, .int v22), (6, .int 0), (0, .ref (ad 193)), (1, .int a1), (2, .int a2), (4, .int a4)]) C 6 dX7_leadsTo_114 rfl rfl (by decide) rfl ?_
          refine x_goto (pc := 117) (tgt := 49) C dX7_leadsTo_117 (by decide) ?_
          refine x_sub [3, 4, 5, 1, 6, 0] (ls2 := [(0, .ref (ad 193)), (1, .int a1), (2, .int a2), (3, .int v22), (4, .int a4), (5, .int (a5 + 1))]) rfl ?_
          exact ih M a1 a2 v22 a4 (a5 + 1) R0 hR hok k
        · have hR := hR.trans (if_pos c20)
          have hok := hok.1 c20
          refine x_iconst (pc := 86) (v := 1) C dX7_leadsTo_86 (by decide) ?_
          refine x_goto (pc := 87) (tgt := 91) C dX7_leadsTo_87 (by decide) ?_
          refine x_istore (pc := 91) (i := 6) (ls2 := [(6, .int 1), (0, .ref (ad 193)), (1, .int a1), (2, .int a2), (3, .int a3), (4, .int a4), (5, .int a5)]) C dX7_leadsTo_91 (by decide) rfl ?_
          refine x_iload_n (pc := 93) (i := 3) C 4 dX7_leadsTo_93 rfl rfl ?_
          refine x_iload (pc := 94) (i := 6) C 0 dX7_leadsTo_94 rfl ?_
          refine x_if_eq (pc := 96) (tgt := 111) C dX7_leadsTo_96 (by decide) (fun hf => absurd hf (by decide)) (fun _ => ?_)
          refine x_iconst (pc := 99) (v := 1) C dX7_leadsTo_99 (by decide) ?_
          refine x_aload_n (pc := 100) (i := 0) C 1 dX7_leadsTo_100 rfl rfl ?_
          refine x_iload (pc := 101) (i := 5) C 6 dX7_leadsTo_101 rfl ?_
          refine x_iconst (pc := 103) (v := 2) C dX7_leadsTo_103 (by decide) ?_
          have h24 := hok.1
          have hok := hok.2
          refine x_cIV (pc := 104) (as := [.int a5, .int 2]) (q := 193) C (c_X7_ofPlace C.2.2.2.2.2.2.2.1  B M O a5 2 h24) (fs := _) e_M rfl cv_X7_ofPlace cd_X7_ofPlace wd_7_168 ⟨Nat.le_of_ble_eq_true rfl, Nat.le_of_ble_eq_true rfl⟩ ⟨Nat.le_of_ble_eq_true rfl, Nat.le_of_ble_eq_true rfl⟩ rfl rfl (Nat.le_of_ble_eq_true rfl) dX7_leadsTo_104 ?_
          refine x_nmI (fun r25 er25 => ?_)
          have hR := nmE hR er25
          have hok := hok r25 er25
          refine x_ishl (pc := 107) C dX7_leadsTo_107 ?_
          refine x_goto (pc := 108) (tgt := 112) C dX7_leadsTo_108 (by decide) ?_
          refine x_ior (pc := 112) C dX7_leadsTo_112 ?_
          refine x_nmI (fun v26 ev26 => ?_)
          have hR := nmE hR ev26
          have hok := hok v26 ev26
          refine x_istore_n (pc := 113) (i := 3) (ls2 := [(3, .int v26), (6, .int 1), (0, .ref (ad 193)), (1, .int a1), (2, .int a2), (4, .int a4), (5, .int a5)]) C dX7_leadsTo_113 rfl (by decide) rfl ?_
          refine x_iinc (pc := 114) (i := 5) (v := (a5 + 1)) (ls2 := [(5, .int (a5 + 1)), (3, .int v26), (6, .int 1), (0, .ref (ad 193)), (1, .int a1), (2, .int a2), (4, .int a4)]) C 6 dX7_leadsTo_114 rfl rfl (by decide) rfl ?_
          refine x_goto (pc := 117) (tgt := 49) C dX7_leadsTo_117 (by decide) ?_
          refine x_sub [3, 4, 5, 1, 6, 0] (ls2 := [(0, .ref (ad 193)), (1, .int a1), (2, .int a2), (3, .int v26), (4, .int a4), (5, .int (a5 + 1))]) rfl ?_
          exact ih M a1 a2 v26 a4 (a5 + 1) R0 hR hok k
set_option maxHeartbeats 4000000 in
set_option maxRecDepth 100000 in
theorem t_X7_leadsTo_L35 {p0 : Program} {l : Launch} {e : Env} {s : State} {m : MethodId} {args : Array Value} {below : List Frame} {meth : Method} {c : Code} {A : Nat → Prop} {G : GT} {ad : Nat → Nat} {Q : State → Prop} (C : CX p0 l s m args meth c A G ad cX7_leadsTo RX7 7 (some .boolean))  (n : Nat) (M : StM) (a1 : Int32) (a2 : Int32) (a3 : Int32) (a4 : Int32) (B : StB) (O : StO) : ∀ (R0 : Int32) (hR : R0 = f_X7_leadsTo_L35 n M a1 a2 a3 a4) (hok : ok_X7_leadsTo_L35 n M a1 a2 a3 a4) (k : X p0 l e (rmd 3 0 0) s m args below meth c A G ad 7 0 0 Q B M O [(2, .int a2), (3, .int R0)] 126 []), X p0 l e (rmd 3 0 0) s m args below meth c A G ad 7 0 0 Q B M O [(0, .ref (ad 193)), (1, .int a1), (2, .int a2), (3, .int a3), (4, .int a4)] 35 [] := by
  induction n generalizing M a1 a2 a3 a4 with
  | zero => intro R0 hR hok k; exact False.elim hok
  | succ n ih =>
    intro R0 hR hok k
    have hR : R0 = (if (ma M 0 (ix 3)) < a4 then a3 else (nm (f_X7_leadsTo_L49 fu M a1 a2 a3 a4 0) (fun (z27 : Int32) => (f_X7_leadsTo_L35 n M a1 a2 z27 (a4 + 1))))) := hR
    have hok : (((ma M 0 (ix 3)) < a4 → True) ∧ (¬ (ma M 0 (ix 3)) < a4 → ((ok_X7_leadsTo_L49 fu M a1 a2 a3 a4 0) ∧ ∀ z27 : Int32, z27 = f_X7_leadsTo_L49 fu M a1 a2 a3 a4 0 → (ok_X7_leadsTo_L35 n M a1 a2 z27 (a4 + 1))))) := hok
    refine x_iload (pc := 35) (i := 4) C 4 dX7_leadsTo_35 rfl ?_
    refine x_aload_n (pc := 37) (i := 0) C 0 dX7_leadsTo_37 rfl rfl ?_
    refine x_get (pc := 38) (q := 193) (i := 0) C e_M rfl ttX7 (by decide) wd_6_227 rfl dX7_leadsTo_38 ?_
    refine x_iconst (pc := 41) (v := 3) C dX7_leadsTo_41 (by decide) ?_
    have h7 : vp_in (3) 124 := (by decide : ¬ ((3 : Int32) < 0 ∨ 124 ≤ Int32.toNatClampNeg 3))
    refine x_iald (pc := 42) (q := 194) C e_M0 h7 dX7_leadsTo_42 ?_
    refine x_icmp_gt (pc := 43) (tgt := 126) C dX7_leadsTo_43 (by decide) (fun c8 => ?_) (fun c8 => ?_)
    · have hR := hR.trans (if_pos c8)
      refine x_sub [2, 3] (ls2 := [(2, .int a2), (3, .int a3)]) rfl ?_
      subst hR
      exact k
    · have hR := hR.trans (if_neg c8)
      have hok := hok.2 c8
      refine x_iconst (pc := 46) (v := 0) C dX7_leadsTo_46 (by decide) ?_
      refine x_istore (pc := 47) (i := 5) (ls2 := [(5, .int 0), (0, .ref (ad 193)), (1, .int a1), (2, .int a2), (3, .int a3), (4, .int a4)]) C dX7_leadsTo_47 (by decide) rfl ?_
      refine x_sub [1, 2, 3, 4, 5, 0] (ls2 := [(0, .ref (ad 193)), (1, .int a1), (2, .int a2), (3, .int a3), (4, .int a4), (5, .int 0)]) rfl ?_
      obtain ⟨z27, ez27⟩ : ∃ z : Int32, z = f_X7_leadsTo_L49 fu M a1 a2 a3 a4 0 := ⟨_, rfl⟩
      refine t_X7_leadsTo_L49 C fu M a1 a2 a3 a4 0 B O z27 ez27 hok.1 ?_
      have hR := nmE hR ez27
      have hok := hok.2 z27 ez27
      refine x_iinc (pc := 120) (i := 4) (v := (a4 + 1)) (ls2 := [(4, .int (a4 + 1)), (0, .ref (ad 193)), (1, .int a1), (2, .int a2), (3, .int z27)]) C 4 dX7_leadsTo_120 rfl rfl (by decide) rfl ?_
      refine x_goto (pc := 123) (tgt := 35) C dX7_leadsTo_123 (by decide) ?_
      refine x_sub [1, 2, 3, 4, 0] (ls2 := [(0, .ref (ad 193)), (1, .int a1), (2, .int a2), (3, .int z27), (4, .int (a4 + 1))]) rfl ?_
      exact ih M a1 a2 z27 (a4 + 1) R0 hR hok k
set_option maxHeartbeats 4000000 in
set_option maxRecDepth 100000 in
theorem t_X7_leadsTo_J22 {p0 : Program} {l : Launch} {e : Env} {s : State} {m : MethodId} {args : Array Value} {below : List Frame} {meth : Method} {c : Code} {A : Nat → Prop} {G : GT} {ad : Nat → Nat} (C : CX p0 l s m args meth c A G ad cX7_leadsTo RX7 7 (some .boolean))  (M : StM) (a1 : Int32) (a2 : Int32) (s0 : Int32) (B : StB) (O : StO) (R0 : Int32 × StM) (hR : R0 = f_X7_leadsTo_J22 M a1 a2 s0) (hok : ok_X7_leadsTo_J22 M a1 a2 s0) : X p0 l e (rmd 3 0 0) s m args below meth c A G ad 7 0 0 (MQ below (QI G A ad R0.1 B R0.2 O) args s 0 0 A) B M O [(0, .ref (ad 193)), (1, .int a1), (2, .int a2)] 22 [.int s0, .ref (ad 193)] := by
  have hR : R0 = (nm (f_X7_goes M s0) (fun (z5 : Int32 × StM) => (if z5.1 = 0 then (0, z5.2) else (nm (f_X7_leadsTo_L35 fu z5.2 a1 a2 0 0) (fun (z28 : Int32) => (if ((z28 >>> (a2 &&& 31)) &&& 1) = 1 then (1, z5.2) else (0, z5.2))))))) := hR
  have hok : ((ok_X7_goes M s0) ∧ (∀ z5 : Int32 × StM, z5 = (f_X7_goes M s0) → ((z5.1 = 0 → True) ∧ (¬ z5.1 = 0 → (ok_X7_leadsTo_L35 fu z5.2 a1 a2 0 0))))) := hok
  have h4 := hok.1
  have hok := hok.2
  refine x_cIV (pc := 22) (as := [.int s0]) (q := 193) C (c_X7_goes C.2.2.2.2.2.2.2.1  B M O s0 h4) (fs := _) e_M rfl cv_X7_goes cd_X7_goes wd_7_59 ⟨Nat.le_of_ble_eq_true rfl, Nat.le_of_ble_eq_true rfl⟩ ⟨Nat.le_of_ble_eq_true rfl, Nat.le_of_ble_eq_true rfl⟩ rfl rfl (Nat.le_of_ble_eq_true rfl) dX7_leadsTo_22 ?_
  refine x_nmIM (fun z5 ez5 => ?_)
  have hR := nmE hR ez5
  have hok := hok z5 ez5
  refine x_if_ne (pc := 25) (tgt := 30) C dX7_leadsTo_25 (by decide) (fun c6 => ?_) (fun c6 => ?_)
  · have hR := hR.trans (if_neg c6)
    have hok := hok.2 c6
    refine x_iconst (pc := 30) (v := 0) C dX7_leadsTo_30 (by decide) ?_
    refine x_istore_n (pc := 31) (i := 3) (ls2 := [(3, .int 0), (0, .ref (ad 193)), (1, .int a1), (2, .int a2)]) C dX7_leadsTo_31 rfl (by decide) rfl ?_
    refine x_iconst (pc := 32) (v := 0) C dX7_leadsTo_32 (by decide) ?_
    refine x_istore (pc := 33) (i := 4) (ls2 := [(4, .int 0), (3, .int 0), (0, .ref (ad 193)), (1, .int a1), (2, .int a2)]) C dX7_leadsTo_33 (by decide) rfl ?_
    refine x_sub [2, 3, 4, 1, 0] (ls2 := [(0, .ref (ad 193)), (1, .int a1), (2, .int a2), (3, .int 0), (4, .int 0)]) rfl ?_
    obtain ⟨z28, ez28⟩ : ∃ z : Int32, z = f_X7_leadsTo_L35 fu z5.2 a1 a2 0 0 := ⟨_, rfl⟩
    refine t_X7_leadsTo_L35 C fu z5.2 a1 a2 0 0 B O z28 ez28 hok ?_
    have hR := nmE hR ez28
    refine x_iload_n (pc := 126) (i := 3) C 1 dX7_leadsTo_126 rfl rfl ?_
    refine x_iload_n (pc := 127) (i := 2) C 0 dX7_leadsTo_127 rfl rfl ?_
    refine x_ishr (pc := 128) C dX7_leadsTo_128 ?_
    refine x_iconst (pc := 129) (v := 1) C dX7_leadsTo_129 (by decide) ?_
    refine x_iand (pc := 130) C dX7_leadsTo_130 ?_
    refine x_iconst (pc := 131) (v := 1) C dX7_leadsTo_131 (by decide) ?_
    refine x_icmp_ne (pc := 132) (tgt := 139) C dX7_leadsTo_132 (by decide) (fun c29 => ?_) (fun c29 => ?_)
    · have hR := hR.trans (if_neg c29)
      refine x_iconst (pc := 139) (v := 0) C dX7_leadsTo_139 (by decide) ?_
      exact x_zretM (pc := 140) C rfl (by decide) hR dX7_leadsTo_140
    · have hR := hR.trans (if_pos c29)
      refine x_iconst (pc := 135) (v := 1) C dX7_leadsTo_135 (by decide) ?_
      refine x_goto (pc := 136) (tgt := 140) C dX7_leadsTo_136 (by decide) ?_
      exact x_zretM (pc := 140) C rfl (by decide) hR dX7_leadsTo_140
  · have hR := hR.trans (if_pos c6)
    refine x_iconst (pc := 28) (v := 0) C dX7_leadsTo_28 (by decide) ?_
    exact x_zretM (pc := 29) C rfl (by decide) hR dX7_leadsTo_29
set_option maxHeartbeats 4000000 in
set_option maxRecDepth 100000 in
theorem t_X7_leadsTo_J21 {p0 : Program} {l : Launch} {e : Env} {s : State} {m : MethodId} {args : Array Value} {below : List Frame} {meth : Method} {c : Code} {A : Nat → Prop} {G : GT} {ad : Nat → Nat} (C : CX p0 l s m args meth c A G ad cX7_leadsTo RX7 7 (some .boolean))  (M : StM) (a1 : Int32) (a2 : Int32) (B : StB) (O : StO) (R0 : Int32 × StM) (hR : R0 = f_X7_leadsTo_J21 M a1 a2) (hok : ok_X7_leadsTo_J21 M a1 a2) : X p0 l e (rmd 3 0 0) s m args below meth c A G ad 7 0 0 (MQ below (QI G A ad R0.1 B R0.2 O) args s 0 0 A) B M O [(0, .ref (ad 193)), (1, .int a1), (2, .int a2)] 21 [.ref (ad 193)] := by
  have hR : R0 = (f_X7_leadsTo_J22 M a1 a2 0) := hR
  have hok : (ok_X7_leadsTo_J22 M a1 a2 0) := hok
  refine x_iconst (pc := 21) (v := 0) C dX7_leadsTo_21 (by decide) ?_
  refine x_sub [0, 1, 2] (ls2 := [(0, .ref (ad 193)), (1, .int a1), (2, .int a2)]) rfl ?_
  exact t_X7_leadsTo_J22 C M a1 a2 0 B O _ hR hok
set_option maxHeartbeats 4000000 in
set_option maxRecDepth 100000 in
theorem c_X7_leadsTo {l : Launch} {A : Nat → Prop} {G : GT} {ad : Nat → Nat} (gl : Gl l A ad)  (B : StB) (M : StM) (O : StO) (x0 : Int32) (x1 : Int32) (hok : ok_X7_leadsTo M x0 x1) : Met l yX7_leadsTo (wof yX7_leadsTo cX7_leadsTo 7 (some .boolean)) (rmd 3 0 0) (va_Pc [.ref (ad 193), .int x0, .int x1] (PW G A ad B M O)) (QI G A ad (f_X7_leadsTo M x0 x1).1 B (f_X7_leadsTo M x0 x1).2 O) 0 0 A := by
  refine x_body (own := RX7) (by decide +kernel) rfl gl (Nat.le_of_ble_eq_true rfl) (ls := [(0, .ref (ad 193)), (1, .int x0), (2, .int x1)]) rfl ?_
  intro p0 e s m args below meth c C
  have hR : (f_X7_leadsTo M x0 x1) = (nm (f_X7_isAccount M x0) (fun (r2 : Int32) => (if r2 = 0 then (f_X7_leadsTo_J21 M x0 x1) else (nm (f_X7_isAccount M x1) (fun (r31 : Int32) => (if r31 = 0 then (f_X7_leadsTo_J21 M x0 x1) else (f_X7_leadsTo_J22 M x0 x1 1))))))) := rfl
  have hok : ((ok_X7_isAccount M x0) ∧ (∀ r2 : Int32, r2 = (f_X7_isAccount M x0) → ((r2 = 0 → (ok_X7_leadsTo_J21 M x0 x1)) ∧ (¬ r2 = 0 → ((ok_X7_isAccount M x1) ∧ (∀ r31 : Int32, r31 = (f_X7_isAccount M x1) → ((r31 = 0 → (ok_X7_leadsTo_J21 M x0 x1)) ∧ (¬ r31 = 0 → (ok_X7_leadsTo_J22 M x0 x1 1))))))))) := hok
  refine x_aload_n (pc := 0) (i := 0) C 0 dX7_leadsTo_0 rfl rfl ?_
  refine x_aload_n (pc := 1) (i := 0) C 0 dX7_leadsTo_1 rfl rfl ?_
  refine x_iload_n (pc := 2) (i := 1) C 1 dX7_leadsTo_2 rfl rfl ?_
  have h1 := hok.1
  have hok := hok.2
  refine x_cIV (pc := 3) (as := [.int x0]) (q := 193) C (c_X7_isAccount C.2.2.2.2.2.2.2.1  B M O x0 h1) (fs := _) e_M rfl cv_X7_isAccount cd_X7_isAccount wd_7_115 ⟨Nat.le_of_ble_eq_true rfl, Nat.le_of_ble_eq_true rfl⟩ ⟨Nat.le_of_ble_eq_true rfl, Nat.le_of_ble_eq_true rfl⟩ rfl rfl (Nat.le_of_ble_eq_true rfl) dX7_leadsTo_3 ?_
  refine x_nmI (fun r2 er2 => ?_)
  have hR := nmE hR er2
  have hok := hok r2 er2
  refine x_if_eq (pc := 6) (tgt := 21) C dX7_leadsTo_6 (by decide) (fun c3 => ?_) (fun c3 => ?_)
  · have hR := hR.trans (if_pos c3)
    have hok := hok.1 c3
    refine x_sub [0, 1, 2] (ls2 := [(0, .ref (ad 193)), (1, .int x0), (2, .int x1)]) rfl ?_
    exact t_X7_leadsTo_J21 C M x0 x1 B O _ hR hok
  · have hR := hR.trans (if_neg c3)
    have hok := hok.2 c3
    refine x_aload_n (pc := 9) (i := 0) C 0 dX7_leadsTo_9 rfl rfl ?_
    refine x_iload_n (pc := 10) (i := 2) C 2 dX7_leadsTo_10 rfl rfl ?_
    have h30 := hok.1
    have hok := hok.2
    refine x_cIV (pc := 11) (as := [.int x1]) (q := 193) C (c_X7_isAccount C.2.2.2.2.2.2.2.1  B M O x1 h30) (fs := _) e_M rfl cv_X7_isAccount cd_X7_isAccount wd_7_115 ⟨Nat.le_of_ble_eq_true rfl, Nat.le_of_ble_eq_true rfl⟩ ⟨Nat.le_of_ble_eq_true rfl, Nat.le_of_ble_eq_true rfl⟩ rfl rfl (Nat.le_of_ble_eq_true rfl) dX7_leadsTo_11 ?_
    refine x_nmI (fun r31 er31 => ?_)
    have hR := nmE hR er31
    have hok := hok r31 er31
    refine x_if_eq (pc := 14) (tgt := 21) C dX7_leadsTo_14 (by decide) (fun c32 => ?_) (fun c32 => ?_)
    · have hR := hR.trans (if_pos c32)
      have hok := hok.1 c32
      refine x_sub [0, 1, 2] (ls2 := [(0, .ref (ad 193)), (1, .int x0), (2, .int x1)]) rfl ?_
      exact t_X7_leadsTo_J21 C M x0 x1 B O _ hR hok
    · have hR := hR.trans (if_neg c32)
      have hok := hok.2 c32
      refine x_iconst (pc := 17) (v := 1) C dX7_leadsTo_17 (by decide) ?_
      refine x_goto (pc := 18) (tgt := 22) C dX7_leadsTo_18 (by decide) ?_
      refine x_sub [0, 1, 2] (ls2 := [(0, .ref (ad 193)), (1, .int x0), (2, .int x1)]) rfl ?_
      exact t_X7_leadsTo_J22 C M x0 x1 1 B O _ hR hok
set_option maxHeartbeats 4000000 in
set_option maxRecDepth 100000 in
theorem c_X7_written {l : Launch} {A : Nat → Prop} {G : GT} {ad : Nat → Nat} (gl : Gl l A ad)  (B : StB) (M : StM) (O : StO) (x0 : Int32) (x1 : Int32) (hok : ok_X7_written M x0 x1) : Met l yX7_written (wof yX7_written cX7_written 3 (some .int)) (rmd 3 0 0) (va_Pc [.ref (ad 193), .int x0, .int x1] (PW G A ad B M O)) (QI G A ad (f_X7_written M x0 x1).1 B (f_X7_written M x0 x1).2 O) 0 0 A := by
  refine x_body (own := RX7) (by decide +kernel) rfl gl (Nat.le_of_ble_eq_true rfl) (ls := [(0, .ref (ad 193)), (1, .int x0), (2, .int x1)]) rfl ?_
  intro p0 e s m args below meth c C
  have hR : (f_X7_written M x0 x1) = (nm (f_X7_isIn x0 0 ((ma M 0 (ix 11)) - 1)) (fun (r2 : Int32) => (nm (f_X7_goes M r2) (fun (z4 : Int32 × StM) => (if z4.1 = 0 then (0, z4.2) else ((ma z4.2 0 (ix ((94 + (3 * x0)) + x1))), z4.2)))))) := rfl
  have hok : (∀ r2 : Int32, r2 = (f_X7_isIn x0 0 ((ma M 0 (ix 11)) - 1)) → ((ok_X7_goes M r2) ∧ (∀ z4 : Int32 × StM, z4 = (f_X7_goes M r2) → ((z4.1 = 0 → True) ∧ (¬ z4.1 = 0 → (vp_in ((94 + (3 * x0)) + x1) 124)))))) := hok
  refine x_aload_n (pc := 0) (i := 0) C 0 dX7_written_0 rfl rfl ?_
  refine x_iload_n (pc := 1) (i := 1) C 1 dX7_written_1 rfl rfl ?_
  refine x_iconst (pc := 2) (v := 0) C dX7_written_2 (by decide) ?_
  refine x_aload_n (pc := 3) (i := 0) C 0 dX7_written_3 rfl rfl ?_
  refine x_get (pc := 4) (q := 193) (i := 0) C e_M rfl ttX7 (by decide) wd_6_227 rfl dX7_written_4 ?_
  refine x_bipush (pc := 7) (v := 11) C dX7_written_7 (by decide) ?_
  have h1 : vp_in (11) 124 := (by decide : ¬ ((11 : Int32) < 0 ∨ 124 ≤ Int32.toNatClampNeg 11))
  refine x_iald (pc := 9) (q := 194) C e_M0 h1 dX7_written_9 ?_
  refine x_iconst (pc := 10) (v := 1) C dX7_written_10 (by decide) ?_
  refine x_isub (pc := 11) C dX7_written_11 ?_
  refine x_cIS (pc := 12) (as := [.int x0, .int 0, .int ((ma M 0 (ix 11)) - 1)]) C (c_X7_isIn C.2.2.2.2.2.2.2.1  B M O x0 0 ((ma M 0 (ix 11)) - 1)) wd_7_91 cd_X7_isIn wd_7_90 ⟨Nat.le_of_ble_eq_true rfl, Nat.le_of_ble_eq_true rfl⟩ ⟨Nat.le_of_ble_eq_true rfl, Nat.le_of_ble_eq_true rfl⟩ rfl rfl (Nat.le_of_ble_eq_true rfl) dX7_written_12 ?_
  refine x_nmI (fun r2 er2 => ?_)
  have hR := nmE hR er2
  have hok := hok r2 er2
  have h3 := hok.1
  have hok := hok.2
  refine x_cIV (pc := 15) (as := [.int r2]) (q := 193) C (c_X7_goes C.2.2.2.2.2.2.2.1  B M O r2 h3) (fs := _) e_M rfl cv_X7_goes cd_X7_goes wd_7_59 ⟨Nat.le_of_ble_eq_true rfl, Nat.le_of_ble_eq_true rfl⟩ ⟨Nat.le_of_ble_eq_true rfl, Nat.le_of_ble_eq_true rfl⟩ rfl rfl (Nat.le_of_ble_eq_true rfl) dX7_written_15 ?_
  refine x_nmIM (fun z4 ez4 => ?_)
  have hR := nmE hR ez4
  have hok := hok z4 ez4
  refine x_if_eq (pc := 18) (tgt := 37) C dX7_written_18 (by decide) (fun c5 => ?_) (fun c5 => ?_)
  · have hR := hR.trans (if_pos c5)
    refine x_iconst (pc := 37) (v := 0) C dX7_written_37 (by decide) ?_
    exact x_iretM (pc := 38) C rfl hR dX7_written_38
  · have hR := hR.trans (if_neg c5)
    have hok := hok.2 c5
    refine x_aload_n (pc := 21) (i := 0) C 0 dX7_written_21 rfl rfl ?_
    refine x_get (pc := 22) (q := 193) (i := 0) C e_M rfl ttX7 (by decide) wd_6_227 rfl dX7_written_22 ?_
    refine x_bipush (pc := 25) (v := 94) C dX7_written_25 (by decide) ?_
    refine x_iconst (pc := 27) (v := 3) C dX7_written_27 (by decide) ?_
    refine x_iload_n (pc := 28) (i := 1) C 1 dX7_written_28 rfl rfl ?_
    refine x_imul (pc := 29) C dX7_written_29 ?_
    refine x_iadd (pc := 30) C dX7_written_30 ?_
    refine x_iload_n (pc := 31) (i := 2) C 2 dX7_written_31 rfl rfl ?_
    refine x_iadd (pc := 32) C dX7_written_32 ?_
    have h6 := hok
    refine x_iald (pc := 33) (q := 194) C e_M0 h6 dX7_written_33 ?_
    refine x_goto (pc := 34) (tgt := 38) C dX7_written_34 (by decide) ?_
    exact x_iretM (pc := 38) C rfl hR dX7_written_38
set_option maxHeartbeats 4000000 in
set_option maxRecDepth 100000 in
theorem c_X7_statementAt {l : Launch} {A : Nat → Prop} {G : GT} {ad : Nat → Nat} (gl : Gl l A ad)  (B : StB) (M : StM) (O : StO) (x0 : Int32) (hok : ok_X7_statementAt M x0) : Met l yX7_statementAt (wof yX7_statementAt cX7_statementAt 2 (some .char)) (rmd 3 0 0) (va_Pc [.ref (ad 193), .int x0] (PW G A ad B M O)) (QI G A ad (f_X7_statementAt M x0).1 B (f_X7_statementAt M x0).2 O) 0 0 A := by
  refine x_body (own := RX7) (by decide +kernel) rfl gl (Nat.le_of_ble_eq_true rfl) (ls := [(0, .ref (ad 193)), (1, .int x0)]) rfl ?_
  intro p0 e s m args below meth c C
  have hR : (f_X7_statementAt M x0) = (nm (f_X7_isIn x0 0 ((mi M 14) - 1)) (fun (r1 : Int32) => (nm (f_X7_goes M r1) (fun (z3 : Int32 × StM) => (if z3.1 = 0 then (0, z3.2) else ((Int32.toUInt32 (ma z3.2 6 (ix x0)) % 65536).toInt32, z3.2)))))) := rfl
  have hok : (∀ r1 : Int32, r1 = (f_X7_isIn x0 0 ((mi M 14) - 1)) → ((ok_X7_goes M r1) ∧ (∀ z3 : Int32 × StM, z3 = (f_X7_goes M r1) → ((z3.1 = 0 → True) ∧ (¬ z3.1 = 0 → (vp_in x0 40 ∧ (narrow .char (.int ((Int32.toUInt32 (ma z3.2 6 (ix x0)) % 65536).toInt32)) = .int ((Int32.toUInt32 (ma z3.2 6 (ix x0)) % 65536).toInt32)))))))) := hok
  refine x_aload_n (pc := 0) (i := 0) C 0 dX7_statementAt_0 rfl rfl ?_
  refine x_iload_n (pc := 1) (i := 1) C 1 dX7_statementAt_1 rfl rfl ?_
  refine x_iconst (pc := 2) (v := 0) C dX7_statementAt_2 (by decide) ?_
  refine x_aload_n (pc := 3) (i := 0) C 0 dX7_statementAt_3 rfl rfl ?_
  refine x_get (pc := 4) (q := 193) (i := 14) C e_M rfl ttX7 (by decide) wd_7_1 rfl dX7_statementAt_4 ?_
  refine x_iconst (pc := 7) (v := 1) C dX7_statementAt_7 (by decide) ?_
  refine x_isub (pc := 8) C dX7_statementAt_8 ?_
  refine x_cIS (pc := 9) (as := [.int x0, .int 0, .int ((mi M 14) - 1)]) C (c_X7_isIn C.2.2.2.2.2.2.2.1  B M O x0 0 ((mi M 14) - 1)) wd_7_91 cd_X7_isIn wd_7_90 ⟨Nat.le_of_ble_eq_true rfl, Nat.le_of_ble_eq_true rfl⟩ ⟨Nat.le_of_ble_eq_true rfl, Nat.le_of_ble_eq_true rfl⟩ rfl rfl (Nat.le_of_ble_eq_true rfl) dX7_statementAt_9 ?_
  refine x_nmI (fun r1 er1 => ?_)
  have hR := nmE hR er1
  have hok := hok r1 er1
  have h2 := hok.1
  have hok := hok.2
  refine x_cIV (pc := 12) (as := [.int r1]) (q := 193) C (c_X7_goes C.2.2.2.2.2.2.2.1  B M O r1 h2) (fs := _) e_M rfl cv_X7_goes cd_X7_goes wd_7_59 ⟨Nat.le_of_ble_eq_true rfl, Nat.le_of_ble_eq_true rfl⟩ ⟨Nat.le_of_ble_eq_true rfl, Nat.le_of_ble_eq_true rfl⟩ rfl rfl (Nat.le_of_ble_eq_true rfl) dX7_statementAt_12 ?_
  refine x_nmIM (fun z3 ez3 => ?_)
  have hR := nmE hR ez3
  have hok := hok z3 ez3
  refine x_if_eq (pc := 15) (tgt := 28) C dX7_statementAt_15 (by decide) (fun c4 => ?_) (fun c4 => ?_)
  · have hR := hR.trans (if_pos c4)
    refine x_iconst (pc := 28) (v := 0) C dX7_statementAt_28 (by decide) ?_
    exact x_zretM (pc := 29) C rfl (by decide) hR dX7_statementAt_29
  · have hR := hR.trans (if_neg c4)
    have hok := hok.2 c4
    refine x_aload_n (pc := 18) (i := 0) C 0 dX7_statementAt_18 rfl rfl ?_
    refine x_get (pc := 19) (q := 193) (i := 13) C e_M rfl ttX7 (by decide) wd_7_0 rfl dX7_statementAt_19 ?_
    refine x_iload_n (pc := 22) (i := 1) C 1 dX7_statementAt_22 rfl rfl ?_
    have h5 := hok.1
    have hok := hok.2
    refine x_iald (pc := 23) (q := 200) C e_M6 h5 dX7_statementAt_23 ?_
    refine x_i2c (pc := 24) C dX7_statementAt_24 ?_
    refine x_goto (pc := 25) (tgt := 29) C dX7_statementAt_25 (by decide) ?_
    have h6 := hok
    exact x_zretM (pc := 29) C rfl h6 hR dX7_statementAt_29
set_option maxHeartbeats 4000000 in
set_option maxRecDepth 100000 in
theorem c_X7_digit {l : Launch} {A : Nat → Prop} {G : GT} {ad : Nat → Nat} (gl : Gl l A ad)  (B : StB) (M : StM) (O : StO)  (hok : ok_X7_digit M) : Met l yX7_digit (wof yX7_digit cX7_digit 1 (some .int)) (rmd 3 0 0) (va_Pc [.ref (ad 193)] (PW G A ad B M O)) (QI G A ad (f_X7_digit M).1 B (f_X7_digit M).2 O) 0 0 A := by
  refine x_body (own := RX7) (by decide +kernel) rfl gl (Nat.le_of_ble_eq_true rfl) (ls := [(0, .ref (ad 193))]) rfl ?_
  intro p0 e s m args below meth c C
  have hR : (f_X7_digit M) = (nm (f_X7_reads M 48 57) (fun (z2 : Int32 × StM) => (z2.1, z2.2))) := rfl
  have hok : ((ok_X7_reads M 48 57)) := hok
  refine x_aload_n (pc := 0) (i := 0) C 0 dX7_digit_0 rfl rfl ?_
  refine x_bipush (pc := 1) (v := 48) C dX7_digit_1 (by decide) ?_
  refine x_bipush (pc := 3) (v := 57) C dX7_digit_3 (by decide) ?_
  have h1 := hok
  refine x_cIV (pc := 5) (as := [.int 48, .int 57]) (q := 193) C (c_X7_reads C.2.2.2.2.2.2.2.1  B M O 48 57 h1) (fs := _) e_M rfl cv_X7_reads cd_X7_reads wd_8_168 ⟨Nat.le_of_ble_eq_true rfl, Nat.le_of_ble_eq_true rfl⟩ ⟨Nat.le_of_ble_eq_true rfl, Nat.le_of_ble_eq_true rfl⟩ rfl rfl (Nat.le_of_ble_eq_true rfl) dX7_digit_5 ?_
  refine x_nmIM (fun z2 ez2 => ?_)
  have hR := nmE hR ez2
  exact x_iretM (pc := 8) C rfl hR dX7_digit_8
set_option maxHeartbeats 4000000 in
set_option maxRecDepth 100000 in
theorem t_X7_errorPosition_J14 {p0 : Program} {l : Launch} {e : Env} {s : State} {m : MethodId} {args : Array Value} {below : List Frame} {meth : Method} {c : Code} {A : Nat → Prop} {G : GT} {ad : Nat → Nat} (C : CX p0 l s m args meth c A G ad cX7_errorPosition RX7 1 (some .int))  (M : StM) (s0 : Int32) (B : StB) (O : StO) (R0 : Int32 × StM) (hR : R0 = f_X7_errorPosition_J14 M s0) (hok : ok_X7_errorPosition_J14 M s0) : X p0 l e (rmd 3 0 0) s m args below meth c A G ad 1 0 0 (MQ below (QI G A ad R0.1 B R0.2 O) args s 0 0 A) B M O [(0, .ref (ad 193))] 14 [.int s0, .ref (ad 193)] := by
  have hR : R0 = (nm (f_X7_goes M s0) (fun (z3 : Int32 × StM) => (if z3.1 = 0 then (0, z3.2) else ((mi z3.2 7), z3.2)))) := hR
  have hok : ((ok_X7_goes M s0)) := hok
  have h2 := hok
  refine x_cIV (pc := 14) (as := [.int s0]) (q := 193) C (c_X7_goes C.2.2.2.2.2.2.2.1  B M O s0 h2) (fs := _) e_M rfl cv_X7_goes cd_X7_goes wd_7_59 ⟨Nat.le_of_ble_eq_true rfl, Nat.le_of_ble_eq_true rfl⟩ ⟨Nat.le_of_ble_eq_true rfl, Nat.le_of_ble_eq_true rfl⟩ rfl rfl (Nat.le_of_ble_eq_true rfl) dX7_errorPosition_14 ?_
  refine x_nmIM (fun z3 ez3 => ?_)
  have hR := nmE hR ez3
  refine x_if_eq (pc := 17) (tgt := 27) C dX7_errorPosition_17 (by decide) (fun c4 => ?_) (fun c4 => ?_)
  · have hR := hR.trans (if_pos c4)
    refine x_iconst (pc := 27) (v := 0) C dX7_errorPosition_27 (by decide) ?_
    exact x_iretM (pc := 28) C rfl hR dX7_errorPosition_28
  · have hR := hR.trans (if_neg c4)
    refine x_aload_n (pc := 20) (i := 0) C 0 dX7_errorPosition_20 rfl rfl ?_
    refine x_get (pc := 21) (q := 193) (i := 7) C e_M rfl ttX7 (by decide) wd_6_234 rfl dX7_errorPosition_21 ?_
    refine x_goto (pc := 24) (tgt := 28) C dX7_errorPosition_24 (by decide) ?_
    exact x_iretM (pc := 28) C rfl hR dX7_errorPosition_28
set_option maxHeartbeats 4000000 in
set_option maxRecDepth 100000 in
theorem c_X7_errorPosition {l : Launch} {A : Nat → Prop} {G : GT} {ad : Nat → Nat} (gl : Gl l A ad)  (B : StB) (M : StM) (O : StO)  (hok : ok_X7_errorPosition M) : Met l yX7_errorPosition (wof yX7_errorPosition cX7_errorPosition 1 (some .int)) (rmd 3 0 0) (va_Pc [.ref (ad 193)] (PW G A ad B M O)) (QI G A ad (f_X7_errorPosition M).1 B (f_X7_errorPosition M).2 O) 0 0 A := by
  refine x_body (own := RX7) (by decide +kernel) rfl gl (Nat.le_of_ble_eq_true rfl) (ls := [(0, .ref (ad 193))]) rfl ?_
  intro p0 e s m args below meth c C
  have hR : (f_X7_errorPosition M) = (if (mi M 7) = (-1) then (f_X7_errorPosition_J14 M 0) else (f_X7_errorPosition_J14 M 1)) := rfl
  have hok : (((mi M 7) = (-1) → (ok_X7_errorPosition_J14 M 0)) ∧ (¬ (mi M 7) = (-1) → (ok_X7_errorPosition_J14 M 1))) := hok
  refine x_aload_n (pc := 0) (i := 0) C 0 dX7_errorPosition_0 rfl rfl ?_
  refine x_aload_n (pc := 1) (i := 0) C 0 dX7_errorPosition_1 rfl rfl ?_
  refine x_get (pc := 2) (q := 193) (i := 7) C e_M rfl ttX7 (by decide) wd_6_234 rfl dX7_errorPosition_2 ?_
  refine x_iconst (pc := 5) (v := (-1)) C dX7_errorPosition_5 (by decide) ?_
  refine x_icmp_eq (pc := 6) (tgt := 13) C dX7_errorPosition_6 (by decide) (fun c1 => ?_) (fun c1 => ?_)
  · have hR := hR.trans (if_pos c1)
    have hok := hok.1 c1
    refine x_iconst (pc := 13) (v := 0) C dX7_errorPosition_13 (by decide) ?_
    refine x_sub [0] (ls2 := [(0, .ref (ad 193))]) rfl ?_
    exact t_X7_errorPosition_J14 C M 0 B O _ hR hok
  · have hR := hR.trans (if_neg c1)
    have hok := hok.2 c1
    refine x_iconst (pc := 9) (v := 1) C dX7_errorPosition_9 (by decide) ?_
    refine x_goto (pc := 10) (tgt := 14) C dX7_errorPosition_10 (by decide) ?_
    refine x_sub [0] (ls2 := [(0, .ref (ad 193))]) rfl ?_
    exact t_X7_errorPosition_J14 C M 1 B O _ hR hok
set_option maxHeartbeats 4000000 in
set_option maxRecDepth 100000 in
theorem t_X7_failedCommand_J14 {p0 : Program} {l : Launch} {e : Env} {s : State} {m : MethodId} {args : Array Value} {below : List Frame} {meth : Method} {c : Code} {A : Nat → Prop} {G : GT} {ad : Nat → Nat} (C : CX p0 l s m args meth c A G ad cX7_failedCommand RX7 1 (some .int))  (M : StM) (s0 : Int32) (B : StB) (O : StO) (R0 : Int32 × StM) (hR : R0 = f_X7_failedCommand_J14 M s0) (hok : ok_X7_failedCommand_J14 M s0) : X p0 l e (rmd 3 0 0) s m args below meth c A G ad 1 0 0 (MQ below (QI G A ad R0.1 B R0.2 O) args s 0 0 A) B M O [(0, .ref (ad 193))] 14 [.int s0, .ref (ad 193)] := by
  have hR : R0 = (nm (f_X7_goes M s0) (fun (z3 : Int32 × StM) => (if z3.1 = 0 then (0, z3.2) else ((mi z3.2 8), z3.2)))) := hR
  have hok : ((ok_X7_goes M s0)) := hok
  have h2 := hok
  refine x_cIV (pc := 14) (as := [.int s0]) (q := 193) C (c_X7_goes C.2.2.2.2.2.2.2.1  B M O s0 h2) (fs := _) e_M rfl cv_X7_goes cd_X7_goes wd_7_59 ⟨Nat.le_of_ble_eq_true rfl, Nat.le_of_ble_eq_true rfl⟩ ⟨Nat.le_of_ble_eq_true rfl, Nat.le_of_ble_eq_true rfl⟩ rfl rfl (Nat.le_of_ble_eq_true rfl) dX7_failedCommand_14 ?_
  refine x_nmIM (fun z3 ez3 => ?_)
  have hR := nmE hR ez3
  refine x_if_eq (pc := 17) (tgt := 27) C dX7_failedCommand_17 (by decide) (fun c4 => ?_) (fun c4 => ?_)
  · have hR := hR.trans (if_pos c4)
    refine x_iconst (pc := 27) (v := 0) C dX7_failedCommand_27 (by decide) ?_
    exact x_iretM (pc := 28) C rfl hR dX7_failedCommand_28
  · have hR := hR.trans (if_neg c4)
    refine x_aload_n (pc := 20) (i := 0) C 0 dX7_failedCommand_20 rfl rfl ?_
    refine x_get (pc := 21) (q := 193) (i := 8) C e_M rfl ttX7 (by decide) wd_6_235 rfl dX7_failedCommand_21 ?_
    refine x_goto (pc := 24) (tgt := 28) C dX7_failedCommand_24 (by decide) ?_
    exact x_iretM (pc := 28) C rfl hR dX7_failedCommand_28
set_option maxHeartbeats 4000000 in
set_option maxRecDepth 100000 in
theorem c_X7_failedCommand {l : Launch} {A : Nat → Prop} {G : GT} {ad : Nat → Nat} (gl : Gl l A ad)  (B : StB) (M : StM) (O : StO)  (hok : ok_X7_failedCommand M) : Met l yX7_failedCommand (wof yX7_failedCommand cX7_failedCommand 1 (some .int)) (rmd 3 0 0) (va_Pc [.ref (ad 193)] (PW G A ad B M O)) (QI G A ad (f_X7_failedCommand M).1 B (f_X7_failedCommand M).2 O) 0 0 A := by
  refine x_body (own := RX7) (by decide +kernel) rfl gl (Nat.le_of_ble_eq_true rfl) (ls := [(0, .ref (ad 193))]) rfl ?_
  intro p0 e s m args below meth c C
  have hR : (f_X7_failedCommand M) = (if (mi M 8) = (-1) then (f_X7_failedCommand_J14 M 0) else (f_X7_failedCommand_J14 M 1)) := rfl
  have hok : (((mi M 8) = (-1) → (ok_X7_failedCommand_J14 M 0)) ∧ (¬ (mi M 8) = (-1) → (ok_X7_failedCommand_J14 M 1))) := hok
  refine x_aload_n (pc := 0) (i := 0) C 0 dX7_failedCommand_0 rfl rfl ?_
  refine x_aload_n (pc := 1) (i := 0) C 0 dX7_failedCommand_1 rfl rfl ?_
  refine x_get (pc := 2) (q := 193) (i := 8) C e_M rfl ttX7 (by decide) wd_6_235 rfl dX7_failedCommand_2 ?_
  refine x_iconst (pc := 5) (v := (-1)) C dX7_failedCommand_5 (by decide) ?_
  refine x_icmp_eq (pc := 6) (tgt := 13) C dX7_failedCommand_6 (by decide) (fun c1 => ?_) (fun c1 => ?_)
  · have hR := hR.trans (if_pos c1)
    have hok := hok.1 c1
    refine x_iconst (pc := 13) (v := 0) C dX7_failedCommand_13 (by decide) ?_
    refine x_sub [0] (ls2 := [(0, .ref (ad 193))]) rfl ?_
    exact t_X7_failedCommand_J14 C M 0 B O _ hR hok
  · have hR := hR.trans (if_neg c1)
    have hok := hok.2 c1
    refine x_iconst (pc := 9) (v := 1) C dX7_failedCommand_9 (by decide) ?_
    refine x_goto (pc := 10) (tgt := 14) C dX7_failedCommand_10 (by decide) ?_
    refine x_sub [0] (ls2 := [(0, .ref (ad 193))]) rfl ?_
    exact t_X7_failedCommand_J14 C M 1 B O _ hR hok
set_option maxHeartbeats 4000000 in
set_option maxRecDepth 100000 in
theorem c_X7_open {l : Launch} {A : Nat → Prop} {G : GT} {ad : Nat → Nat} (gl : Gl l A ad)  (B : StB) (M : StM) (O : StO) (x0 : Int32) (hok : ok_X7_open M x0) : Met l yX7_open (wof yX7_open cX7_open 2 (some .int)) (rmd 4 0 0) (va_Pc [.ref (ad 193), .int x0] (PW G A ad B M O)) (QI G A ad (f_X7_open M x0).1 B (f_X7_open M x0).2 O) 0 0 A := by
  refine x_body (own := RX7) (by decide +kernel) rfl gl (Nat.le_of_ble_eq_true rfl) (ls := [(0, .ref (ad 193)), (1, .int x0)]) rfl ?_
  intro p0 e s m args below meth c C
  have hR : (f_X7_open M x0) = (nm (f_X7_begins M) (fun (M2 : StM) => (nm (f_X7_opens M2 x0) (fun (z4 : Int32 × StM) => (nm (f_X7_ends z4.2 z4.1) (fun (z6 : Int32 × StM) => (z6.1, z6.2))))))) := rfl
  have hok : ((ok_X7_begins M) ∧ (∀ M2 : StM, M2 = (f_X7_begins M) → ((ok_X7_opens M2 x0) ∧ (∀ z4 : Int32 × StM, z4 = (f_X7_opens M2 x0) → ((ok_X7_ends z4.2 z4.1)))))) := hok
  refine x_aload_n (pc := 0) (i := 0) C 0 dX7_open_0 rfl rfl ?_
  have h1 := hok.1
  have hok := hok.2
  refine x_cVV (pc := 1) (as := []) (q := 193) C (c_X7_begins C.2.2.2.2.2.2.2.1  B M O  h1) (fs := _) e_M rfl cv_X7_begins cd_X7_begins wd_7_82 ⟨Nat.le_of_ble_eq_true rfl, Nat.le_of_ble_eq_true rfl⟩ ⟨Nat.le_of_ble_eq_true rfl, Nat.le_of_ble_eq_true rfl⟩ rfl rfl (Nat.le_of_ble_eq_true rfl) dX7_open_1 ?_
  refine x_nmM (fun M2 eM2 => ?_)
  have hR := nmE hR eM2
  have hok := hok M2 eM2
  refine x_aload_n (pc := 4) (i := 0) C 0 dX7_open_4 rfl rfl ?_
  refine x_aload_n (pc := 5) (i := 0) C 0 dX7_open_5 rfl rfl ?_
  refine x_iload_n (pc := 6) (i := 1) C 1 dX7_open_6 rfl rfl ?_
  have h3 := hok.1
  have hok := hok.2
  refine x_cIV (pc := 7) (as := [.int x0]) (q := 193) C (c_X7_opens C.2.2.2.2.2.2.2.1  B M2 O x0 h3) (fs := _) e_M rfl cv_X7_opens cd_X7_opens wd_7_86 ⟨Nat.le_of_ble_eq_true rfl, Nat.le_of_ble_eq_true rfl⟩ ⟨Nat.le_of_ble_eq_true rfl, Nat.le_of_ble_eq_true rfl⟩ rfl rfl (Nat.le_of_ble_eq_true rfl) dX7_open_7 ?_
  refine x_nmIM (fun z4 ez4 => ?_)
  have hR := nmE hR ez4
  have hok := hok z4 ez4
  have h5 := hok
  refine x_cIV (pc := 10) (as := [.int z4.1]) (q := 193) C (c_X7_ends C.2.2.2.2.2.2.2.1  B z4.2 O z4.1 h5) (fs := _) e_M rfl cv_X7_ends cd_X7_ends wd_7_96 ⟨Nat.le_of_ble_eq_true rfl, Nat.le_of_ble_eq_true rfl⟩ ⟨Nat.le_of_ble_eq_true rfl, Nat.le_of_ble_eq_true rfl⟩ rfl rfl (Nat.le_of_ble_eq_true rfl) dX7_open_10 ?_
  refine x_nmIM (fun z6 ez6 => ?_)
  have hR := nmE hR ez6
  exact x_iretM (pc := 13) C rfl hR dX7_open_13
set_option maxHeartbeats 4000000 in
set_option maxRecDepth 100000 in
theorem t_X7_pays_J35 {p0 : Program} {l : Launch} {e : Env} {s : State} {m : MethodId} {args : Array Value} {below : List Frame} {meth : Method} {c : Code} {A : Nat → Prop} {G : GT} {ad : Nat → Nat} (C : CX p0 l s m args meth c A G ad cX7_pays RX7 4 (some .int))  (M : StM) (a1 : Int32) (a2 : Int32) (s0 : Int32) (s1 : Int32) (s2 : Int32) (B : StB) (O : StO) (R0 : Int32 × StM) (hR : R0 = f_X7_pays_J35 M a1 a2 s0 s1 s2) (hok : ok_X7_pays_J35 M a1 a2 s0 s1 s2) : X p0 l e (rmd 4 0 0) s m args below meth c A G ad 4 0 0 (MQ below (QI G A ad R0.1 B R0.2 O) args s 0 0 A) B M O [(0, .ref (ad 193)), (1, .int a1), (2, .int a2)] 35 [.int s0, .int s1, .int s2, .ref (ad 193)] := by
  have hR : R0 = (nm (f_X7_holds M s2 s1 s0 1) (fun (z6 : Int32 × StM) => (if z6.1 = 0 then (0, z6.2) else (nm (f_X7_changes z6.2 a1 a2) (fun (M9 : StM) => (nm (sma M9 0 (ix 5) ((ma M9 0 (ix 5)) + a2)) (fun (M12 : StM) => (nm (f_X7_writes M12 100 a2 a1) (fun (M14 : StM) => (nm (f_X7_of M14 a1 1) (fun (r16 : Int32) => (r16, M14)))))))))))) := hR
  have hok : (∀ z6 : Int32 × StM, z6 = (f_X7_holds M s2 s1 s0 1) → ((z6.1 = 0 → True) ∧ (¬ z6.1 = 0 → ((ok_X7_changes z6.2 a1 a2) ∧ (∀ M9 : StM, M9 = (f_X7_changes z6.2 a1 a2) → (∀ M12 : StM, M12 = (sma M9 0 (ix 5) ((ma M9 0 (ix 5)) + a2)) → ((ok_X7_writes M12 100 a2 a1) ∧ (∀ M14 : StM, M14 = (f_X7_writes M12 100 a2 a1) → ((ok_X7_of M14 a1 1)))))))))) := hok
  refine x_iconst (pc := 35) (v := 1) C dX7_pays_35 (by decide) ?_
  refine x_cIV (pc := 36) (as := [.int s2, .int s1, .int s0, .int 1]) (q := 193) C (c_X7_holds C.2.2.2.2.2.2.2.1  B M O s2 s1 s0 1) (fs := _) e_M rfl cv_X7_holds cd_X7_holds wd_7_63 ⟨Nat.le_of_ble_eq_true rfl, Nat.le_of_ble_eq_true rfl⟩ ⟨Nat.le_of_ble_eq_true rfl, Nat.le_of_ble_eq_true rfl⟩ rfl rfl (Nat.le_of_ble_eq_true rfl) dX7_pays_36 ?_
  refine x_nmIM (fun z6 ez6 => ?_)
  have hR := nmE hR ez6
  have hok := hok z6 ez6
  refine x_if_ne (pc := 39) (tgt := 44) C dX7_pays_39 (by decide) (fun c7 => ?_) (fun c7 => ?_)
  · have hR := hR.trans (if_neg c7)
    have hok := hok.2 c7
    refine x_aload_n (pc := 44) (i := 0) C 0 dX7_pays_44 rfl rfl ?_
    refine x_iload_n (pc := 45) (i := 1) C 1 dX7_pays_45 rfl rfl ?_
    refine x_iload_n (pc := 46) (i := 2) C 2 dX7_pays_46 rfl rfl ?_
    have h8 := hok.1
    have hok := hok.2
    refine x_cVV (pc := 47) (as := [.int a1, .int a2]) (q := 193) C (c_X7_changes C.2.2.2.2.2.2.2.1  B z6.2 O a1 a2 h8) (fs := _) e_M rfl cv_X7_changes cd_X7_changes wd_7_123 ⟨Nat.le_of_ble_eq_true rfl, Nat.le_of_ble_eq_true rfl⟩ ⟨Nat.le_of_ble_eq_true rfl, Nat.le_of_ble_eq_true rfl⟩ rfl rfl (Nat.le_of_ble_eq_true rfl) dX7_pays_47 ?_
    refine x_nmM (fun M9 eM9 => ?_)
    have hR := nmE hR eM9
    have hok := hok M9 eM9
    refine x_aload_n (pc := 50) (i := 0) C 0 dX7_pays_50 rfl rfl ?_
    refine x_get (pc := 51) (q := 193) (i := 0) C e_M rfl ttX7 (by decide) wd_6_227 rfl dX7_pays_51 ?_
    refine x_iconst (pc := 54) (v := 5) C dX7_pays_54 (by decide) ?_
    refine x_dup2 (pc := 55) C dX7_pays_55 rfl rfl ?_
    have h10 : vp_in (5) 124 := (by decide : ¬ ((5 : Int32) < 0 ∨ 124 ≤ Int32.toNatClampNeg 5))
    refine x_iald (pc := 56) (q := 194) C e_M0 h10 dX7_pays_56 ?_
    refine x_iload_n (pc := 57) (i := 2) C 2 dX7_pays_57 rfl rfl ?_
    refine x_iadd (pc := 58) C dX7_pays_58 ?_
    have h11 : vp_in (5) 124 := (by decide : ¬ ((5 : Int32) < 0 ∨ 124 ≤ Int32.toNatClampNeg 5))
    refine x_iastM (pc := 59) (j := 0) C (by decide) e_M0 e_M0.2 h11 dX7_pays_59 ?_
    refine x_nmM (fun M12 eM12 => ?_)
    have hR := nmE hR eM12
    have hok := hok M12 eM12
    refine x_aload_n (pc := 60) (i := 0) C 0 dX7_pays_60 rfl rfl ?_
    refine x_bipush (pc := 61) (v := 100) C dX7_pays_61 (by decide) ?_
    refine x_iload_n (pc := 63) (i := 2) C 2 dX7_pays_63 rfl rfl ?_
    refine x_iload_n (pc := 64) (i := 1) C 1 dX7_pays_64 rfl rfl ?_
    have h13 := hok.1
    have hok := hok.2
    refine x_cVV (pc := 65) (as := [.int 100, .int a2, .int a1]) (q := 193) C (c_X7_writes C.2.2.2.2.2.2.2.1  B M12 O 100 a2 a1 h13) (fs := _) e_M rfl cv_X7_writes cd_X7_writes wd_7_127 ⟨Nat.le_of_ble_eq_true rfl, Nat.le_of_ble_eq_true rfl⟩ ⟨Nat.le_of_ble_eq_true rfl, Nat.le_of_ble_eq_true rfl⟩ rfl rfl (Nat.le_of_ble_eq_true rfl) dX7_pays_65 ?_
    refine x_nmM (fun M14 eM14 => ?_)
    have hR := nmE hR eM14
    have hok := hok M14 eM14
    refine x_aload_n (pc := 68) (i := 0) C 0 dX7_pays_68 rfl rfl ?_
    refine x_iload_n (pc := 69) (i := 1) C 1 dX7_pays_69 rfl rfl ?_
    refine x_iconst (pc := 70) (v := 1) C dX7_pays_70 (by decide) ?_
    have h15 := hok
    refine x_cIV (pc := 71) (as := [.int a1, .int 1]) (q := 193) C (c_X7_of C.2.2.2.2.2.2.2.1  B M14 O a1 1 h15) (fs := _) e_M rfl cv_X7_of cd_X7_of wd_7_119 ⟨Nat.le_of_ble_eq_true rfl, Nat.le_of_ble_eq_true rfl⟩ ⟨Nat.le_of_ble_eq_true rfl, Nat.le_of_ble_eq_true rfl⟩ rfl rfl (Nat.le_of_ble_eq_true rfl) dX7_pays_71 ?_
    refine x_nmI (fun r16 er16 => ?_)
    have hR := nmE hR er16
    exact x_iretM (pc := 74) C rfl hR dX7_pays_74
  · have hR := hR.trans (if_pos c7)
    refine x_iconst (pc := 42) (v := 0) C dX7_pays_42 (by decide) ?_
    exact x_iretM (pc := 43) C rfl hR dX7_pays_43
set_option maxHeartbeats 4000000 in
set_option maxRecDepth 100000 in
theorem t_X7_pays_J34 {p0 : Program} {l : Launch} {e : Env} {s : State} {m : MethodId} {args : Array Value} {below : List Frame} {meth : Method} {c : Code} {A : Nat → Prop} {G : GT} {ad : Nat → Nat} (C : CX p0 l s m args meth c A G ad cX7_pays RX7 4 (some .int))  (M : StM) (a1 : Int32) (a2 : Int32) (s0 : Int32) (s1 : Int32) (B : StB) (O : StO) (R0 : Int32 × StM) (hR : R0 = f_X7_pays_J34 M a1 a2 s0 s1) (hok : ok_X7_pays_J34 M a1 a2 s0 s1) : X p0 l e (rmd 4 0 0) s m args below meth c A G ad 4 0 0 (MQ below (QI G A ad R0.1 B R0.2 O) args s 0 0 A) B M O [(0, .ref (ad 193)), (1, .int a1), (2, .int a2)] 34 [.int s0, .int s1, .ref (ad 193)] := by
  have hR : R0 = (f_X7_pays_J35 M a1 a2 0 s0 s1) := hR
  have hok : (ok_X7_pays_J35 M a1 a2 0 s0 s1) := hok
  refine x_iconst (pc := 34) (v := 0) C dX7_pays_34 (by decide) ?_
  refine x_sub [0, 1, 2] (ls2 := [(0, .ref (ad 193)), (1, .int a1), (2, .int a2)]) rfl ?_
  exact t_X7_pays_J35 C M a1 a2 0 s0 s1 B O _ hR hok
set_option maxHeartbeats 4000000 in
set_option maxRecDepth 100000 in
theorem c_X7_pays {l : Launch} {A : Nat → Prop} {G : GT} {ad : Nat → Nat} (gl : Gl l A ad)  (B : StB) (M : StM) (O : StO) (x0 : Int32) (x1 : Int32) (hok : ok_X7_pays M x0 x1) : Met l yX7_pays (wof yX7_pays cX7_pays 4 (some .int)) (rmd 4 0 0) (va_Pc [.ref (ad 193), .int x0, .int x1] (PW G A ad B M O)) (QI G A ad (f_X7_pays M x0 x1).1 B (f_X7_pays M x0 x1).2 O) 0 0 A := by
  refine x_body (own := RX7) (by decide +kernel) rfl gl (Nat.le_of_ble_eq_true rfl) (ls := [(0, .ref (ad 193)), (1, .int x0), (2, .int x1)]) rfl ?_
  intro p0 e s m args below meth c C
  have hR : (f_X7_pays M x0 x1) = (nm (f_X7_isAmount x1) (fun (r2 : Int32) => (nm (f_X7_isAccount M x0) (fun (r4 : Int32) => (if r2 = 0 then (f_X7_pays_J34 M x0 x1 r2 r4) else (nm (f_X7_of M x0 1) (fun (r18 : Int32) => (if (9999 - x1) < r18 then (f_X7_pays_J34 M x0 x1 r2 r4) else (f_X7_pays_J35 M x0 x1 1 r2 r4))))))))) := rfl
  have hok : ((ok_X7_isAmount x1) ∧ (∀ r2 : Int32, r2 = (f_X7_isAmount x1) → ((ok_X7_isAccount M x0) ∧ (∀ r4 : Int32, r4 = (f_X7_isAccount M x0) → ((r2 = 0 → (ok_X7_pays_J34 M x0 x1 r2 r4)) ∧ (¬ r2 = 0 → ((ok_X7_of M x0 1) ∧ (∀ r18 : Int32, r18 = (f_X7_of M x0 1) → (((9999 - x1) < r18 → (ok_X7_pays_J34 M x0 x1 r2 r4)) ∧ (¬ (9999 - x1) < r18 → (ok_X7_pays_J35 M x0 x1 1 r2 r4))))))))))) := hok
  refine x_iload_n (pc := 0) (i := 2) C 2 dX7_pays_0 rfl rfl ?_
  have h1 := hok.1
  have hok := hok.2
  refine x_cIS (pc := 1) (as := [.int x1]) C (c_X7_isAmount C.2.2.2.2.2.2.2.1  B M O x1 h1) wd_7_113 cd_X7_isAmount wd_7_112 ⟨Nat.le_of_ble_eq_true rfl, Nat.le_of_ble_eq_true rfl⟩ ⟨Nat.le_of_ble_eq_true rfl, Nat.le_of_ble_eq_true rfl⟩ rfl rfl (Nat.le_of_ble_eq_true rfl) dX7_pays_1 ?_
  refine x_nmI (fun r2 er2 => ?_)
  have hR := nmE hR er2
  have hok := hok r2 er2
  refine x_istore_n (pc := 4) (i := 3) (ls2 := [(3, .int r2), (0, .ref (ad 193)), (1, .int x0), (2, .int x1)]) C dX7_pays_4 rfl (by decide) rfl ?_
  refine x_aload_n (pc := 5) (i := 0) C 1 dX7_pays_5 rfl rfl ?_
  refine x_aload_n (pc := 6) (i := 0) C 1 dX7_pays_6 rfl rfl ?_
  refine x_iload_n (pc := 7) (i := 1) C 2 dX7_pays_7 rfl rfl ?_
  have h3 := hok.1
  have hok := hok.2
  refine x_cIV (pc := 8) (as := [.int x0]) (q := 193) C (c_X7_isAccount C.2.2.2.2.2.2.2.1  B M O x0 h3) (fs := _) e_M rfl cv_X7_isAccount cd_X7_isAccount wd_7_115 ⟨Nat.le_of_ble_eq_true rfl, Nat.le_of_ble_eq_true rfl⟩ ⟨Nat.le_of_ble_eq_true rfl, Nat.le_of_ble_eq_true rfl⟩ rfl rfl (Nat.le_of_ble_eq_true rfl) dX7_pays_8 ?_
  refine x_nmI (fun r4 er4 => ?_)
  have hR := nmE hR er4
  have hok := hok r4 er4
  refine x_iload_n (pc := 11) (i := 3) C 0 dX7_pays_11 rfl rfl ?_
  refine x_iload_n (pc := 12) (i := 3) C 0 dX7_pays_12 rfl rfl ?_
  refine x_if_eq (pc := 13) (tgt := 34) C dX7_pays_13 (by decide) (fun c5 => ?_) (fun c5 => ?_)
  · have hR := hR.trans (if_pos c5)
    have hok := hok.1 c5
    refine x_sub [1, 2, 3] (ls2 := [(0, .ref (ad 193)), (1, .int x0), (2, .int x1)]) rfl ?_
    exact t_X7_pays_J34 C M x0 x1 r2 r4 B O _ hR hok
  · have hR := hR.trans (if_neg c5)
    have hok := hok.2 c5
    refine x_aload_n (pc := 16) (i := 0) C 1 dX7_pays_16 rfl rfl ?_
    refine x_iload_n (pc := 17) (i := 1) C 2 dX7_pays_17 rfl rfl ?_
    refine x_iconst (pc := 18) (v := 1) C dX7_pays_18 (by decide) ?_
    have h17 := hok.1
    have hok := hok.2
    refine x_cIV (pc := 19) (as := [.int x0, .int 1]) (q := 193) C (c_X7_of C.2.2.2.2.2.2.2.1  B M O x0 1 h17) (fs := _) e_M rfl cv_X7_of cd_X7_of wd_7_119 ⟨Nat.le_of_ble_eq_true rfl, Nat.le_of_ble_eq_true rfl⟩ ⟨Nat.le_of_ble_eq_true rfl, Nat.le_of_ble_eq_true rfl⟩ rfl rfl (Nat.le_of_ble_eq_true rfl) dX7_pays_19 ?_
    refine x_nmI (fun r18 er18 => ?_)
    have hR := nmE hR er18
    have hok := hok r18 er18
    refine x_sipush (pc := 22) (v := 9999) C dX7_pays_22 (by decide) ?_
    refine x_iload_n (pc := 25) (i := 2) C 3 dX7_pays_25 rfl rfl ?_
    refine x_isub (pc := 26) C dX7_pays_26 ?_
    refine x_icmp_gt (pc := 27) (tgt := 34) C dX7_pays_27 (by decide) (fun c19 => ?_) (fun c19 => ?_)
    · have hR := hR.trans (if_pos c19)
      have hok := hok.1 c19
      refine x_sub [1, 2, 3] (ls2 := [(0, .ref (ad 193)), (1, .int x0), (2, .int x1)]) rfl ?_
      exact t_X7_pays_J34 C M x0 x1 r2 r4 B O _ hR hok
    · have hR := hR.trans (if_neg c19)
      have hok := hok.2 c19
      refine x_iconst (pc := 30) (v := 1) C dX7_pays_30 (by decide) ?_
      refine x_goto (pc := 31) (tgt := 35) C dX7_pays_31 (by decide) ?_
      refine x_sub [1, 2, 3] (ls2 := [(0, .ref (ad 193)), (1, .int x0), (2, .int x1)]) rfl ?_
      exact t_X7_pays_J35 C M x0 x1 1 r2 r4 B O _ hR hok
set_option maxHeartbeats 4000000 in
set_option maxRecDepth 100000 in
theorem t_X7_draws_J38 {p0 : Program} {l : Launch} {e : Env} {s : State} {m : MethodId} {args : Array Value} {below : List Frame} {meth : Method} {c : Code} {A : Nat → Prop} {G : GT} {ad : Nat → Nat} (C : CX p0 l s m args meth c A G ad cX7_draws RX7 4 (some .int))  (M : StM) (a1 : Int32) (a2 : Int32) (s0 : Int32) (s1 : Int32) (s2 : Int32) (B : StB) (O : StO) (R0 : Int32 × StM) (hR : R0 = f_X7_draws_J38 M a1 a2 s0 s1 s2) (hok : ok_X7_draws_J38 M a1 a2 s0 s1 s2) : X p0 l e (rmd 4 0 0) s m args below meth c A G ad 4 0 0 (MQ below (QI G A ad R0.1 B R0.2 O) args s 0 0 A) B M O [(0, .ref (ad 193)), (1, .int a1), (2, .int a2)] 38 [.int s0, .int s1, .int s2, .ref (ad 193)] := by
  have hR : R0 = (nm (f_X7_holds M s2 s1 s0 1) (fun (z6 : Int32 × StM) => (if z6.1 = 0 then (0, z6.2) else (nm (f_X7_changes z6.2 a1 (-a2)) (fun (M9 : StM) => (nm (f_X7_accountAt a1) (fun (r10 : Int32) => (nm (sma M9 0 (ix (r10 + 3)) 1) (fun (M12 : StM) => (nm (sma M12 0 (ix 6) ((ma M12 0 (ix 6)) + a2)) (fun (M15 : StM) => (nm (f_X7_writes M15 119 a2 a1) (fun (M17 : StM) => (nm (f_X7_of M17 a1 1) (fun (r19 : Int32) => (r19, M17)))))))))))))))) := hR
  have hok : (∀ z6 : Int32 × StM, z6 = (f_X7_holds M s2 s1 s0 1) → ((z6.1 = 0 → True) ∧ (¬ z6.1 = 0 → ((ok_X7_changes z6.2 a1 (-a2)) ∧ (∀ M9 : StM, M9 = (f_X7_changes z6.2 a1 (-a2)) → (∀ r10 : Int32, r10 = (f_X7_accountAt a1) → (vp_in (r10 + 3) 124 ∧ (∀ M12 : StM, M12 = (sma M9 0 (ix (r10 + 3)) 1) → (∀ M15 : StM, M15 = (sma M12 0 (ix 6) ((ma M12 0 (ix 6)) + a2)) → ((ok_X7_writes M15 119 a2 a1) ∧ (∀ M17 : StM, M17 = (f_X7_writes M15 119 a2 a1) → ((ok_X7_of M17 a1 1))))))))))))) := hok
  refine x_iconst (pc := 38) (v := 1) C dX7_draws_38 (by decide) ?_
  refine x_cIV (pc := 39) (as := [.int s2, .int s1, .int s0, .int 1]) (q := 193) C (c_X7_holds C.2.2.2.2.2.2.2.1  B M O s2 s1 s0 1) (fs := _) e_M rfl cv_X7_holds cd_X7_holds wd_7_63 ⟨Nat.le_of_ble_eq_true rfl, Nat.le_of_ble_eq_true rfl⟩ ⟨Nat.le_of_ble_eq_true rfl, Nat.le_of_ble_eq_true rfl⟩ rfl rfl (Nat.le_of_ble_eq_true rfl) dX7_draws_39 ?_
  refine x_nmIM (fun z6 ez6 => ?_)
  have hR := nmE hR ez6
  have hok := hok z6 ez6
  refine x_if_ne (pc := 42) (tgt := 47) C dX7_draws_42 (by decide) (fun c7 => ?_) (fun c7 => ?_)
  · have hR := hR.trans (if_neg c7)
    have hok := hok.2 c7
    refine x_aload_n (pc := 47) (i := 0) C 0 dX7_draws_47 rfl rfl ?_
    refine x_iload_n (pc := 48) (i := 1) C 1 dX7_draws_48 rfl rfl ?_
    refine x_iload_n (pc := 49) (i := 2) C 2 dX7_draws_49 rfl rfl ?_
    refine x_ineg (pc := 50) C dX7_draws_50 ?_
    have h8 := hok.1
    have hok := hok.2
    refine x_cVV (pc := 51) (as := [.int a1, .int (-a2)]) (q := 193) C (c_X7_changes C.2.2.2.2.2.2.2.1  B z6.2 O a1 (-a2) h8) (fs := _) e_M rfl cv_X7_changes cd_X7_changes wd_7_123 ⟨Nat.le_of_ble_eq_true rfl, Nat.le_of_ble_eq_true rfl⟩ ⟨Nat.le_of_ble_eq_true rfl, Nat.le_of_ble_eq_true rfl⟩ rfl rfl (Nat.le_of_ble_eq_true rfl) dX7_draws_51 ?_
    refine x_nmM (fun M9 eM9 => ?_)
    have hR := nmE hR eM9
    have hok := hok M9 eM9
    refine x_aload_n (pc := 54) (i := 0) C 0 dX7_draws_54 rfl rfl ?_
    refine x_get (pc := 55) (q := 193) (i := 0) C e_M rfl ttX7 (by decide) wd_6_227 rfl dX7_draws_55 ?_
    refine x_iload_n (pc := 58) (i := 1) C 1 dX7_draws_58 rfl rfl ?_
    refine x_cIS (pc := 59) (as := [.int a1]) C (c_X7_accountAt C.2.2.2.2.2.2.2.1  B M9 O a1) wd_7_94 cd_X7_accountAt wd_7_93 ⟨Nat.le_of_ble_eq_true rfl, Nat.le_of_ble_eq_true rfl⟩ ⟨Nat.le_of_ble_eq_true rfl, Nat.le_of_ble_eq_true rfl⟩ rfl rfl (Nat.le_of_ble_eq_true rfl) dX7_draws_59 ?_
    refine x_nmI (fun r10 er10 => ?_)
    have hR := nmE hR er10
    have hok := hok r10 er10
    refine x_iconst (pc := 62) (v := 3) C dX7_draws_62 (by decide) ?_
    refine x_iadd (pc := 63) C dX7_draws_63 ?_
    refine x_iconst (pc := 64) (v := 1) C dX7_draws_64 (by decide) ?_
    have h11 := hok.1
    have hok := hok.2
    refine x_iastM (pc := 65) (j := 0) C (by decide) e_M0 e_M0.2 h11 dX7_draws_65 ?_
    refine x_nmM (fun M12 eM12 => ?_)
    have hR := nmE hR eM12
    have hok := hok M12 eM12
    refine x_aload_n (pc := 66) (i := 0) C 0 dX7_draws_66 rfl rfl ?_
    refine x_get (pc := 67) (q := 193) (i := 0) C e_M rfl ttX7 (by decide) wd_6_227 rfl dX7_draws_67 ?_
    refine x_bipush (pc := 70) (v := 6) C dX7_draws_70 (by decide) ?_
    refine x_dup2 (pc := 72) C dX7_draws_72 rfl rfl ?_
    have h13 : vp_in (6) 124 := (by decide : ¬ ((6 : Int32) < 0 ∨ 124 ≤ Int32.toNatClampNeg 6))
    refine x_iald (pc := 73) (q := 194) C e_M0 h13 dX7_draws_73 ?_
    refine x_iload_n (pc := 74) (i := 2) C 2 dX7_draws_74 rfl rfl ?_
    refine x_iadd (pc := 75) C dX7_draws_75 ?_
    have h14 : vp_in (6) 124 := (by decide : ¬ ((6 : Int32) < 0 ∨ 124 ≤ Int32.toNatClampNeg 6))
    refine x_iastM (pc := 76) (j := 0) C (by decide) e_M0 e_M0.2 h14 dX7_draws_76 ?_
    refine x_nmM (fun M15 eM15 => ?_)
    have hR := nmE hR eM15
    have hok := hok M15 eM15
    refine x_aload_n (pc := 77) (i := 0) C 0 dX7_draws_77 rfl rfl ?_
    refine x_bipush (pc := 78) (v := 119) C dX7_draws_78 (by decide) ?_
    refine x_iload_n (pc := 80) (i := 2) C 2 dX7_draws_80 rfl rfl ?_
    refine x_iload_n (pc := 81) (i := 1) C 1 dX7_draws_81 rfl rfl ?_
    have h16 := hok.1
    have hok := hok.2
    refine x_cVV (pc := 82) (as := [.int 119, .int a2, .int a1]) (q := 193) C (c_X7_writes C.2.2.2.2.2.2.2.1  B M15 O 119 a2 a1 h16) (fs := _) e_M rfl cv_X7_writes cd_X7_writes wd_7_127 ⟨Nat.le_of_ble_eq_true rfl, Nat.le_of_ble_eq_true rfl⟩ ⟨Nat.le_of_ble_eq_true rfl, Nat.le_of_ble_eq_true rfl⟩ rfl rfl (Nat.le_of_ble_eq_true rfl) dX7_draws_82 ?_
    refine x_nmM (fun M17 eM17 => ?_)
    have hR := nmE hR eM17
    have hok := hok M17 eM17
    refine x_aload_n (pc := 85) (i := 0) C 0 dX7_draws_85 rfl rfl ?_
    refine x_iload_n (pc := 86) (i := 1) C 1 dX7_draws_86 rfl rfl ?_
    refine x_iconst (pc := 87) (v := 1) C dX7_draws_87 (by decide) ?_
    have h18 := hok
    refine x_cIV (pc := 88) (as := [.int a1, .int 1]) (q := 193) C (c_X7_of C.2.2.2.2.2.2.2.1  B M17 O a1 1 h18) (fs := _) e_M rfl cv_X7_of cd_X7_of wd_7_119 ⟨Nat.le_of_ble_eq_true rfl, Nat.le_of_ble_eq_true rfl⟩ ⟨Nat.le_of_ble_eq_true rfl, Nat.le_of_ble_eq_true rfl⟩ rfl rfl (Nat.le_of_ble_eq_true rfl) dX7_draws_88 ?_
    refine x_nmI (fun r19 er19 => ?_)
    have hR := nmE hR er19
    exact x_iretM (pc := 91) C rfl hR dX7_draws_91
  · have hR := hR.trans (if_pos c7)
    refine x_iconst (pc := 45) (v := 0) C dX7_draws_45 (by decide) ?_
    exact x_iretM (pc := 46) C rfl hR dX7_draws_46
set_option maxHeartbeats 4000000 in
set_option maxRecDepth 100000 in
theorem t_X7_draws_J37 {p0 : Program} {l : Launch} {e : Env} {s : State} {m : MethodId} {args : Array Value} {below : List Frame} {meth : Method} {c : Code} {A : Nat → Prop} {G : GT} {ad : Nat → Nat} (C : CX p0 l s m args meth c A G ad cX7_draws RX7 4 (some .int))  (M : StM) (a1 : Int32) (a2 : Int32) (s0 : Int32) (s1 : Int32) (B : StB) (O : StO) (R0 : Int32 × StM) (hR : R0 = f_X7_draws_J37 M a1 a2 s0 s1) (hok : ok_X7_draws_J37 M a1 a2 s0 s1) : X p0 l e (rmd 4 0 0) s m args below meth c A G ad 4 0 0 (MQ below (QI G A ad R0.1 B R0.2 O) args s 0 0 A) B M O [(0, .ref (ad 193)), (1, .int a1), (2, .int a2)] 37 [.int s0, .int s1, .ref (ad 193)] := by
  have hR : R0 = (f_X7_draws_J38 M a1 a2 0 s0 s1) := hR
  have hok : (ok_X7_draws_J38 M a1 a2 0 s0 s1) := hok
  refine x_iconst (pc := 37) (v := 0) C dX7_draws_37 (by decide) ?_
  refine x_sub [0, 1, 2] (ls2 := [(0, .ref (ad 193)), (1, .int a1), (2, .int a2)]) rfl ?_
  exact t_X7_draws_J38 C M a1 a2 0 s0 s1 B O _ hR hok
set_option maxHeartbeats 4000000 in
set_option maxRecDepth 100000 in
theorem c_X7_draws {l : Launch} {A : Nat → Prop} {G : GT} {ad : Nat → Nat} (gl : Gl l A ad)  (B : StB) (M : StM) (O : StO) (x0 : Int32) (x1 : Int32) (hok : ok_X7_draws M x0 x1) : Met l yX7_draws (wof yX7_draws cX7_draws 4 (some .int)) (rmd 4 0 0) (va_Pc [.ref (ad 193), .int x0, .int x1] (PW G A ad B M O)) (QI G A ad (f_X7_draws M x0 x1).1 B (f_X7_draws M x0 x1).2 O) 0 0 A := by
  refine x_body (own := RX7) (by decide +kernel) rfl gl (Nat.le_of_ble_eq_true rfl) (ls := [(0, .ref (ad 193)), (1, .int x0), (2, .int x1)]) rfl ?_
  intro p0 e s m args below meth c C
  have hR : (f_X7_draws M x0 x1) = (nm (f_X7_isAmount x1) (fun (r2 : Int32) => (nm (f_X7_isAccount M x0) (fun (r4 : Int32) => (if r2 = 0 then (f_X7_draws_J37 M x0 x1 r2 r4) else (nm (f_X7_of M x0 1) (fun (r21 : Int32) => (nm (f_X7_of M x0 2) (fun (r23 : Int32) => (if (r21 + r23) < x1 then (f_X7_draws_J37 M x0 x1 r2 r4) else (f_X7_draws_J38 M x0 x1 1 r2 r4))))))))))) := rfl
  have hok : ((ok_X7_isAmount x1) ∧ (∀ r2 : Int32, r2 = (f_X7_isAmount x1) → ((ok_X7_isAccount M x0) ∧ (∀ r4 : Int32, r4 = (f_X7_isAccount M x0) → ((r2 = 0 → (ok_X7_draws_J37 M x0 x1 r2 r4)) ∧ (¬ r2 = 0 → ((ok_X7_of M x0 1) ∧ (∀ r21 : Int32, r21 = (f_X7_of M x0 1) → ((ok_X7_of M x0 2) ∧ (∀ r23 : Int32, r23 = (f_X7_of M x0 2) → (((r21 + r23) < x1 → (ok_X7_draws_J37 M x0 x1 r2 r4)) ∧ (¬ (r21 + r23) < x1 → (ok_X7_draws_J38 M x0 x1 1 r2 r4))))))))))))) := hok
  refine x_iload_n (pc := 0) (i := 2) C 2 dX7_draws_0 rfl rfl ?_
  have h1 := hok.1
  have hok := hok.2
  refine x_cIS (pc := 1) (as := [.int x1]) C (c_X7_isAmount C.2.2.2.2.2.2.2.1  B M O x1 h1) wd_7_113 cd_X7_isAmount wd_7_112 ⟨Nat.le_of_ble_eq_true rfl, Nat.le_of_ble_eq_true rfl⟩ ⟨Nat.le_of_ble_eq_true rfl, Nat.le_of_ble_eq_true rfl⟩ rfl rfl (Nat.le_of_ble_eq_true rfl) dX7_draws_1 ?_
  refine x_nmI (fun r2 er2 => ?_)
  have hR := nmE hR er2
  have hok := hok r2 er2
  refine x_istore_n (pc := 4) (i := 3) (ls2 := [(3, .int r2), (0, .ref (ad 193)), (1, .int x0), (2, .int x1)]) C dX7_draws_4 rfl (by decide) rfl ?_
  refine x_aload_n (pc := 5) (i := 0) C 1 dX7_draws_5 rfl rfl ?_
  refine x_aload_n (pc := 6) (i := 0) C 1 dX7_draws_6 rfl rfl ?_
  refine x_iload_n (pc := 7) (i := 1) C 2 dX7_draws_7 rfl rfl ?_
  have h3 := hok.1
  have hok := hok.2
  refine x_cIV (pc := 8) (as := [.int x0]) (q := 193) C (c_X7_isAccount C.2.2.2.2.2.2.2.1  B M O x0 h3) (fs := _) e_M rfl cv_X7_isAccount cd_X7_isAccount wd_7_115 ⟨Nat.le_of_ble_eq_true rfl, Nat.le_of_ble_eq_true rfl⟩ ⟨Nat.le_of_ble_eq_true rfl, Nat.le_of_ble_eq_true rfl⟩ rfl rfl (Nat.le_of_ble_eq_true rfl) dX7_draws_8 ?_
  refine x_nmI (fun r4 er4 => ?_)
  have hR := nmE hR er4
  have hok := hok r4 er4
  refine x_iload_n (pc := 11) (i := 3) C 0 dX7_draws_11 rfl rfl ?_
  refine x_iload_n (pc := 12) (i := 3) C 0 dX7_draws_12 rfl rfl ?_
  refine x_if_eq (pc := 13) (tgt := 37) C dX7_draws_13 (by decide) (fun c5 => ?_) (fun c5 => ?_)
  · have hR := hR.trans (if_pos c5)
    have hok := hok.1 c5
    refine x_sub [1, 2, 3] (ls2 := [(0, .ref (ad 193)), (1, .int x0), (2, .int x1)]) rfl ?_
    exact t_X7_draws_J37 C M x0 x1 r2 r4 B O _ hR hok
  · have hR := hR.trans (if_neg c5)
    have hok := hok.2 c5
    refine x_aload_n (pc := 16) (i := 0) C 1 dX7_draws_16 rfl rfl ?_
    refine x_iload_n (pc := 17) (i := 1) C 2 dX7_draws_17 rfl rfl ?_
    refine x_iconst (pc := 18) (v := 1) C dX7_draws_18 (by decide) ?_
    have h20 := hok.1
    have hok := hok.2
    refine x_cIV (pc := 19) (as := [.int x0, .int 1]) (q := 193) C (c_X7_of C.2.2.2.2.2.2.2.1  B M O x0 1 h20) (fs := _) e_M rfl cv_X7_of cd_X7_of wd_7_119 ⟨Nat.le_of_ble_eq_true rfl, Nat.le_of_ble_eq_true rfl⟩ ⟨Nat.le_of_ble_eq_true rfl, Nat.le_of_ble_eq_true rfl⟩ rfl rfl (Nat.le_of_ble_eq_true rfl) dX7_draws_19 ?_
    refine x_nmI (fun r21 er21 => ?_)
    have hR := nmE hR er21
    have hok := hok r21 er21
    refine x_aload_n (pc := 22) (i := 0) C 1 dX7_draws_22 rfl rfl ?_
    refine x_iload_n (pc := 23) (i := 1) C 2 dX7_draws_23 rfl rfl ?_
    refine x_iconst (pc := 24) (v := 2) C dX7_draws_24 (by decide) ?_
    have h22 := hok.1
    have hok := hok.2
    refine x_cIV (pc := 25) (as := [.int x0, .int 2]) (q := 193) C (c_X7_of C.2.2.2.2.2.2.2.1  B M O x0 2 h22) (fs := _) e_M rfl cv_X7_of cd_X7_of wd_7_119 ⟨Nat.le_of_ble_eq_true rfl, Nat.le_of_ble_eq_true rfl⟩ ⟨Nat.le_of_ble_eq_true rfl, Nat.le_of_ble_eq_true rfl⟩ rfl rfl (Nat.le_of_ble_eq_true rfl) dX7_draws_25 ?_
    refine x_nmI (fun r23 er23 => ?_)
    have hR := nmE hR er23
    have hok := hok r23 er23
    refine x_iadd (pc := 28) C dX7_draws_28 ?_
    refine x_iload_n (pc := 29) (i := 2) C 3 dX7_draws_29 rfl rfl ?_
    refine x_icmp_lt (pc := 30) (tgt := 37) C dX7_draws_30 (by decide) (fun c24 => ?_) (fun c24 => ?_)
    · have hR := hR.trans (if_pos c24)
      have hok := hok.1 c24
      refine x_sub [1, 2, 3] (ls2 := [(0, .ref (ad 193)), (1, .int x0), (2, .int x1)]) rfl ?_
      exact t_X7_draws_J37 C M x0 x1 r2 r4 B O _ hR hok
    · have hR := hR.trans (if_neg c24)
      have hok := hok.2 c24
      refine x_iconst (pc := 33) (v := 1) C dX7_draws_33 (by decide) ?_
      refine x_goto (pc := 34) (tgt := 38) C dX7_draws_34 (by decide) ?_
      refine x_sub [1, 2, 3] (ls2 := [(0, .ref (ad 193)), (1, .int x0), (2, .int x1)]) rfl ?_
      exact t_X7_draws_J38 C M x0 x1 1 r2 r4 B O _ hR hok
set_option maxHeartbeats 4000000 in
set_option maxRecDepth 100000 in
theorem t_X7_limits_J64 {p0 : Program} {l : Launch} {e : Env} {s : State} {m : MethodId} {args : Array Value} {below : List Frame} {meth : Method} {c : Code} {A : Nat → Prop} {G : GT} {ad : Nat → Nat} (C : CX p0 l s m args meth c A G ad cX7_limits RX7 6 (some .int))  (M : StM) (a1 : Int32) (a2 : Int32) (a5 : Int32) (s0 : Int32) (s1 : Int32) (s2 : Int32) (s3 : Int32) (B : StB) (O : StO) (R0 : Int32 × StM) (hR : R0 = f_X7_limits_J64 M a1 a2 a5 s0 s1 s2 s3) (hok : ok_X7_limits_J64 M a1 a2 a5 s0 s1 s2 s3) : X p0 l e (rmd 4 0 0) s m args below meth c A G ad 6 0 0 (MQ below (QI G A ad R0.1 B R0.2 O) args s 0 0 A) B M O [(0, .ref (ad 193)), (1, .int a1), (2, .int a2), (5, .int a5)] 64 [.int s0, .int s1, .int s2, .int s3, .ref (ad 193)] := by
  have hR : R0 = (nm (f_X7_holds M s3 s2 s1 s0) (fun (z10 : Int32 × StM) => (if z10.1 = 0 then (a5, z10.2) else (nm (f_X7_accountAt a1) (fun (r12 : Int32) => (nm (sma z10.2 0 (ix (r12 + 2)) a2) (fun (M14 : StM) => (a5, M14)))))))) := hR
  have hok : (∀ z10 : Int32 × StM, z10 = (f_X7_holds M s3 s2 s1 s0) → ((z10.1 = 0 → True) ∧ (¬ z10.1 = 0 → (∀ r12 : Int32, r12 = (f_X7_accountAt a1) → (vp_in (r12 + 2) 124))))) := hok
  refine x_cIV (pc := 64) (as := [.int s3, .int s2, .int s1, .int s0]) (q := 193) C (c_X7_holds C.2.2.2.2.2.2.2.1  B M O s3 s2 s1 s0) (fs := _) e_M rfl cv_X7_holds cd_X7_holds wd_7_63 ⟨Nat.le_of_ble_eq_true rfl, Nat.le_of_ble_eq_true rfl⟩ ⟨Nat.le_of_ble_eq_true rfl, Nat.le_of_ble_eq_true rfl⟩ rfl rfl (Nat.le_of_ble_eq_true rfl) dX7_limits_64 ?_
  refine x_nmIM (fun z10 ez10 => ?_)
  have hR := nmE hR ez10
  have hok := hok z10 ez10
  refine x_if_eq (pc := 67) (tgt := 82) C dX7_limits_67 (by decide) (fun c11 => ?_) (fun c11 => ?_)
  · have hR := hR.trans (if_pos c11)
    refine x_iload (pc := 82) (i := 5) C 3 dX7_limits_82 rfl ?_
    exact x_iretM (pc := 84) C rfl hR dX7_limits_84
  · have hR := hR.trans (if_neg c11)
    have hok := hok.2 c11
    refine x_aload_n (pc := 70) (i := 0) C 0 dX7_limits_70 rfl rfl ?_
    refine x_get (pc := 71) (q := 193) (i := 0) C e_M rfl ttX7 (by decide) wd_6_227 rfl dX7_limits_71 ?_
    refine x_iload_n (pc := 74) (i := 1) C 1 dX7_limits_74 rfl rfl ?_
    refine x_cIS (pc := 75) (as := [.int a1]) C (c_X7_accountAt C.2.2.2.2.2.2.2.1  B z10.2 O a1) wd_7_94 cd_X7_accountAt wd_7_93 ⟨Nat.le_of_ble_eq_true rfl, Nat.le_of_ble_eq_true rfl⟩ ⟨Nat.le_of_ble_eq_true rfl, Nat.le_of_ble_eq_true rfl⟩ rfl rfl (Nat.le_of_ble_eq_true rfl) dX7_limits_75 ?_
    refine x_nmI (fun r12 er12 => ?_)
    have hR := nmE hR er12
    have hok := hok r12 er12
    refine x_iconst (pc := 78) (v := 2) C dX7_limits_78 (by decide) ?_
    refine x_iadd (pc := 79) C dX7_limits_79 ?_
    refine x_iload_n (pc := 80) (i := 2) C 2 dX7_limits_80 rfl rfl ?_
    have h13 := hok
    refine x_iastM (pc := 81) (j := 0) C (by decide) e_M0 e_M0.2 h13 dX7_limits_81 ?_
    refine x_nmM (fun M14 eM14 => ?_)
    have hR := nmE hR eM14
    refine x_iload (pc := 82) (i := 5) C 3 dX7_limits_82 rfl ?_
    exact x_iretM (pc := 84) C rfl hR dX7_limits_84
set_option maxHeartbeats 4000000 in
set_option maxRecDepth 100000 in
theorem t_X7_limits_J63 {p0 : Program} {l : Launch} {e : Env} {s : State} {m : MethodId} {args : Array Value} {below : List Frame} {meth : Method} {c : Code} {A : Nat → Prop} {G : GT} {ad : Nat → Nat} (C : CX p0 l s m args meth c A G ad cX7_limits RX7 6 (some .int))  (M : StM) (a1 : Int32) (a2 : Int32) (a5 : Int32) (s0 : Int32) (s1 : Int32) (s2 : Int32) (B : StB) (O : StO) (R0 : Int32 × StM) (hR : R0 = f_X7_limits_J63 M a1 a2 a5 s0 s1 s2) (hok : ok_X7_limits_J63 M a1 a2 a5 s0 s1 s2) : X p0 l e (rmd 4 0 0) s m args below meth c A G ad 6 0 0 (MQ below (QI G A ad R0.1 B R0.2 O) args s 0 0 A) B M O [(0, .ref (ad 193)), (1, .int a1), (2, .int a2), (5, .int a5)] 63 [.int s0, .int s1, .int s2, .ref (ad 193)] := by
  have hR : R0 = (f_X7_limits_J64 M a1 a2 a5 0 s0 s1 s2) := hR
  have hok : (ok_X7_limits_J64 M a1 a2 a5 0 s0 s1 s2) := hok
  refine x_iconst (pc := 63) (v := 0) C dX7_limits_63 (by decide) ?_
  refine x_sub [0, 1, 2, 3] (ls2 := [(0, .ref (ad 193)), (1, .int a1), (2, .int a2), (5, .int a5)]) rfl ?_
  exact t_X7_limits_J64 C M a1 a2 a5 0 s0 s1 s2 B O _ hR hok
set_option maxHeartbeats 4000000 in
set_option maxRecDepth 100000 in
theorem t_X7_limits_J25 {p0 : Program} {l : Launch} {e : Env} {s : State} {m : MethodId} {args : Array Value} {below : List Frame} {meth : Method} {c : Code} {A : Nat → Prop} {G : GT} {ad : Nat → Nat} (C : CX p0 l s m args meth c A G ad cX7_limits RX7 6 (some .int))  (M : StM) (a1 : Int32) (a2 : Int32) (a3 : Int32) (s0 : Int32) (B : StB) (O : StO) (R0 : Int32 × StM) (hR : R0 = f_X7_limits_J25 M a1 a2 a3 s0) (hok : ok_X7_limits_J25 M a1 a2 a3 s0) : X p0 l e (rmd 4 0 0) s m args below meth c A G ad 6 0 0 (MQ below (QI G A ad R0.1 B R0.2 O) args s 0 0 A) B M O [(0, .ref (ad 193)), (1, .int a1), (2, .int a2), (3, .int a3)] 25 [.int s0] := by
  have hR : R0 = (nm (f_X7_of M a1 2) (fun (r6 : Int32) => (nm (f_X7_isAccount M a1) (fun (r8 : Int32) => (if a3 = 0 then (f_X7_limits_J63 M a1 a2 r6 s0 a3 r8) else (nm (f_X7_of M a1 1) (fun (r16 : Int32) => (if (r16 + a2) < 0 then (f_X7_limits_J63 M a1 a2 r6 s0 a3 r8) else (f_X7_limits_J64 M a1 a2 r6 1 s0 a3 r8))))))))) := hR
  have hok : ((ok_X7_of M a1 2) ∧ (∀ r6 : Int32, r6 = (f_X7_of M a1 2) → ((ok_X7_isAccount M a1) ∧ (∀ r8 : Int32, r8 = (f_X7_isAccount M a1) → ((a3 = 0 → (ok_X7_limits_J63 M a1 a2 r6 s0 a3 r8)) ∧ (¬ a3 = 0 → ((ok_X7_of M a1 1) ∧ (∀ r16 : Int32, r16 = (f_X7_of M a1 1) → (((r16 + a2) < 0 → (ok_X7_limits_J63 M a1 a2 r6 s0 a3 r8)) ∧ (¬ (r16 + a2) < 0 → (ok_X7_limits_J64 M a1 a2 r6 1 s0 a3 r8))))))))))) := hok
  refine x_istore (pc := 25) (i := 4) (ls2 := [(4, .int s0), (0, .ref (ad 193)), (1, .int a1), (2, .int a2), (3, .int a3)]) C dX7_limits_25 (by decide) rfl ?_
  refine x_aload_n (pc := 27) (i := 0) C 1 dX7_limits_27 rfl rfl ?_
  refine x_iload_n (pc := 28) (i := 1) C 2 dX7_limits_28 rfl rfl ?_
  refine x_iconst (pc := 29) (v := 2) C dX7_limits_29 (by decide) ?_
  have h5 := hok.1
  have hok := hok.2
  refine x_cIV (pc := 30) (as := [.int a1, .int 2]) (q := 193) C (c_X7_of C.2.2.2.2.2.2.2.1  B M O a1 2 h5) (fs := _) e_M rfl cv_X7_of cd_X7_of wd_7_119 ⟨Nat.le_of_ble_eq_true rfl, Nat.le_of_ble_eq_true rfl⟩ ⟨Nat.le_of_ble_eq_true rfl, Nat.le_of_ble_eq_true rfl⟩ rfl rfl (Nat.le_of_ble_eq_true rfl) dX7_limits_30 ?_
  refine x_nmI (fun r6 er6 => ?_)
  have hR := nmE hR er6
  have hok := hok r6 er6
  refine x_istore (pc := 33) (i := 5) (ls2 := [(5, .int r6), (4, .int s0), (0, .ref (ad 193)), (1, .int a1), (2, .int a2), (3, .int a3)]) C dX7_limits_33 (by decide) rfl ?_
  refine x_aload_n (pc := 35) (i := 0) C 2 dX7_limits_35 rfl rfl ?_
  refine x_aload_n (pc := 36) (i := 0) C 2 dX7_limits_36 rfl rfl ?_
  refine x_iload_n (pc := 37) (i := 1) C 3 dX7_limits_37 rfl rfl ?_
  have h7 := hok.1
  have hok := hok.2
  refine x_cIV (pc := 38) (as := [.int a1]) (q := 193) C (c_X7_isAccount C.2.2.2.2.2.2.2.1  B M O a1 h7) (fs := _) e_M rfl cv_X7_isAccount cd_X7_isAccount wd_7_115 ⟨Nat.le_of_ble_eq_true rfl, Nat.le_of_ble_eq_true rfl⟩ ⟨Nat.le_of_ble_eq_true rfl, Nat.le_of_ble_eq_true rfl⟩ rfl rfl (Nat.le_of_ble_eq_true rfl) dX7_limits_38 ?_
  refine x_nmI (fun r8 er8 => ?_)
  have hR := nmE hR er8
  have hok := hok r8 er8
  refine x_iload_n (pc := 41) (i := 3) C 5 dX7_limits_41 rfl rfl ?_
  refine x_iload (pc := 42) (i := 4) C 1 dX7_limits_42 rfl ?_
  refine x_iload_n (pc := 44) (i := 3) C 5 dX7_limits_44 rfl rfl ?_
  refine x_if_eq (pc := 45) (tgt := 63) C dX7_limits_45 (by decide) (fun c9 => ?_) (fun c9 => ?_)
  · have hR := hR.trans (if_pos c9)
    have hok := hok.1 c9
    refine x_sub [2, 3, 4, 0] (ls2 := [(0, .ref (ad 193)), (1, .int a1), (2, .int a2), (5, .int r6)]) rfl ?_
    exact t_X7_limits_J63 C M a1 a2 r6 s0 a3 r8 B O _ hR hok
  · have hR := hR.trans (if_neg c9)
    have hok := hok.2 c9
    refine x_aload_n (pc := 48) (i := 0) C 2 dX7_limits_48 rfl rfl ?_
    refine x_iload_n (pc := 49) (i := 1) C 3 dX7_limits_49 rfl rfl ?_
    refine x_iconst (pc := 50) (v := 1) C dX7_limits_50 (by decide) ?_
    have h15 := hok.1
    have hok := hok.2
    refine x_cIV (pc := 51) (as := [.int a1, .int 1]) (q := 193) C (c_X7_of C.2.2.2.2.2.2.2.1  B M O a1 1 h15) (fs := _) e_M rfl cv_X7_of cd_X7_of wd_7_119 ⟨Nat.le_of_ble_eq_true rfl, Nat.le_of_ble_eq_true rfl⟩ ⟨Nat.le_of_ble_eq_true rfl, Nat.le_of_ble_eq_true rfl⟩ rfl rfl (Nat.le_of_ble_eq_true rfl) dX7_limits_51 ?_
    refine x_nmI (fun r16 er16 => ?_)
    have hR := nmE hR er16
    have hok := hok r16 er16
    refine x_iload_n (pc := 54) (i := 2) C 4 dX7_limits_54 rfl rfl ?_
    refine x_iadd (pc := 55) C dX7_limits_55 ?_
    refine x_if_lt (pc := 56) (tgt := 63) C dX7_limits_56 (by decide) (fun c17 => ?_) (fun c17 => ?_)
    · have hR := hR.trans (if_pos c17)
      have hok := hok.1 c17
      refine x_sub [2, 3, 4, 0] (ls2 := [(0, .ref (ad 193)), (1, .int a1), (2, .int a2), (5, .int r6)]) rfl ?_
      exact t_X7_limits_J63 C M a1 a2 r6 s0 a3 r8 B O _ hR hok
    · have hR := hR.trans (if_neg c17)
      have hok := hok.2 c17
      refine x_iconst (pc := 59) (v := 1) C dX7_limits_59 (by decide) ?_
      refine x_goto (pc := 60) (tgt := 64) C dX7_limits_60 (by decide) ?_
      refine x_sub [2, 3, 4, 0] (ls2 := [(0, .ref (ad 193)), (1, .int a1), (2, .int a2), (5, .int r6)]) rfl ?_
      exact t_X7_limits_J64 C M a1 a2 r6 1 s0 a3 r8 B O _ hR hok
set_option maxHeartbeats 4000000 in
set_option maxRecDepth 100000 in
theorem c_X7_limits {l : Launch} {A : Nat → Prop} {G : GT} {ad : Nat → Nat} (gl : Gl l A ad)  (B : StB) (M : StM) (O : StO) (x0 : Int32) (x1 : Int32) (hok : ok_X7_limits M x0 x1) : Met l yX7_limits (wof yX7_limits cX7_limits 6 (some .int)) (rmd 4 0 0) (va_Pc [.ref (ad 193), .int x0, .int x1] (PW G A ad B M O)) (QI G A ad (f_X7_limits M x0 x1).1 B (f_X7_limits M x0 x1).2 O) 0 0 A := by
  refine x_body (own := RX7) (by decide +kernel) rfl gl (Nat.le_of_ble_eq_true rfl) (ls := [(0, .ref (ad 193)), (1, .int x0), (2, .int x1)]) rfl ?_
  intro p0 e s m args below meth c C
  have hR : (f_X7_limits M x0 x1) = (nm (f_X7_isIn x1 0 500) (fun (r1 : Int32) => (nm (f_X7_of M x0 0) (fun (r3 : Int32) => (if (r3 - r3 / 2 * 2) = 0 then (f_X7_limits_J25 M x0 x1 r1 1) else (f_X7_limits_J25 M x0 x1 r1 0)))))) := rfl
  have hok : (∀ r1 : Int32, r1 = (f_X7_isIn x1 0 500) → ((ok_X7_of M x0 0) ∧ (∀ r3 : Int32, r3 = (f_X7_of M x0 0) → (((r3 - r3 / 2 * 2) = 0 → (ok_X7_limits_J25 M x0 x1 r1 1)) ∧ (¬ (r3 - r3 / 2 * 2) = 0 → (ok_X7_limits_J25 M x0 x1 r1 0)))))) := hok
  refine x_iload_n (pc := 0) (i := 2) C 2 dX7_limits_0 rfl rfl ?_
  refine x_iconst (pc := 1) (v := 0) C dX7_limits_1 (by decide) ?_
  refine x_sipush (pc := 2) (v := 500) C dX7_limits_2 (by decide) ?_
  refine x_cIS (pc := 5) (as := [.int x1, .int 0, .int 500]) C (c_X7_isIn C.2.2.2.2.2.2.2.1  B M O x1 0 500) wd_7_91 cd_X7_isIn wd_7_90 ⟨Nat.le_of_ble_eq_true rfl, Nat.le_of_ble_eq_true rfl⟩ ⟨Nat.le_of_ble_eq_true rfl, Nat.le_of_ble_eq_true rfl⟩ rfl rfl (Nat.le_of_ble_eq_true rfl) dX7_limits_5 ?_
  refine x_nmI (fun r1 er1 => ?_)
  have hR := nmE hR er1
  have hok := hok r1 er1
  refine x_istore_n (pc := 8) (i := 3) (ls2 := [(3, .int r1), (0, .ref (ad 193)), (1, .int x0), (2, .int x1)]) C dX7_limits_8 rfl (by decide) rfl ?_
  refine x_aload_n (pc := 9) (i := 0) C 1 dX7_limits_9 rfl rfl ?_
  refine x_iload_n (pc := 10) (i := 1) C 2 dX7_limits_10 rfl rfl ?_
  refine x_iconst (pc := 11) (v := 0) C dX7_limits_11 (by decide) ?_
  have h2 := hok.1
  have hok := hok.2
  refine x_cIV (pc := 12) (as := [.int x0, .int 0]) (q := 193) C (c_X7_of C.2.2.2.2.2.2.2.1  B M O x0 0 h2) (fs := _) e_M rfl cv_X7_of cd_X7_of wd_7_119 ⟨Nat.le_of_ble_eq_true rfl, Nat.le_of_ble_eq_true rfl⟩ ⟨Nat.le_of_ble_eq_true rfl, Nat.le_of_ble_eq_true rfl⟩ rfl rfl (Nat.le_of_ble_eq_true rfl) dX7_limits_12 ?_
  refine x_nmI (fun r3 er3 => ?_)
  have hR := nmE hR er3
  have hok := hok r3 er3
  refine x_iconst (pc := 15) (v := 2) C dX7_limits_15 (by decide) ?_
  refine x_irem (pc := 16) C dX7_limits_16 (by decide) ?_
  refine x_if_ne (pc := 17) (tgt := 24) C dX7_limits_17 (by decide) (fun c4 => ?_) (fun c4 => ?_)
  · have hR := hR.trans (if_neg c4)
    have hok := hok.2 c4
    refine x_iconst (pc := 24) (v := 0) C dX7_limits_24 (by decide) ?_
    refine x_sub [1, 2, 3, 0] (ls2 := [(0, .ref (ad 193)), (1, .int x0), (2, .int x1), (3, .int r1)]) rfl ?_
    exact t_X7_limits_J25 C M x0 x1 r1 0 B O _ hR hok
  · have hR := hR.trans (if_pos c4)
    have hok := hok.1 c4
    refine x_iconst (pc := 20) (v := 1) C dX7_limits_20 (by decide) ?_
    refine x_goto (pc := 21) (tgt := 25) C dX7_limits_21 (by decide) ?_
    refine x_sub [1, 2, 3, 0] (ls2 := [(0, .ref (ad 193)), (1, .int x0), (2, .int x1), (3, .int r1)]) rfl ?_
    exact t_X7_limits_J25 C M x0 x1 r1 1 B O _ hR hok
set_option maxHeartbeats 4000000 in
set_option maxRecDepth 100000 in
theorem c_X7_seal {l : Launch} {A : Nat → Prop} {G : GT} {ad : Nat → Nat} (gl : Gl l A ad)  (B : StB) (M : StM) (O : StO) (x0 : Int32) (x1 : Int32) (x2 : Int32) (x3 : Int32) (hok : ok_X7_seal M x0 x1 x2 x3) : Met l yX7_seal (wof yX7_seal cX7_seal 5 (some .int)) (rmd 4 0 0) (va_Pc [.ref (ad 193), .int x0, .int x1, .int x2, .int x3] (PW G A ad B M O)) (QI G A ad (f_X7_seal M x0 x1 x2 x3).1 B (f_X7_seal M x0 x1 x2 x3).2 O) 0 0 A := by
  refine x_body (own := RX7) (by decide +kernel) rfl gl (Nat.le_of_ble_eq_true rfl) (ls := [(0, .ref (ad 193)), (1, .int x0), (2, .int x1), (3, .int x2), (4, .int x3)]) rfl ?_
  intro p0 e s m args below meth c C
  have hR : (f_X7_seal M x0 x1 x2 x3) = (nm (f_X7_begins M) (fun (M2 : StM) => (nm (f_X7_seals M2 x0 x1 x2 x3) (fun (z4 : Int32 × StM) => (nm (f_X7_ends z4.2 z4.1) (fun (z6 : Int32 × StM) => (z6.1, z6.2))))))) := rfl
  have hok : ((ok_X7_begins M) ∧ (∀ M2 : StM, M2 = (f_X7_begins M) → ((ok_X7_seals M2 x0 x1 x2 x3) ∧ (∀ z4 : Int32 × StM, z4 = (f_X7_seals M2 x0 x1 x2 x3) → ((ok_X7_ends z4.2 z4.1)))))) := hok
  refine x_aload_n (pc := 0) (i := 0) C 0 dX7_seal_0 rfl rfl ?_
  have h1 := hok.1
  have hok := hok.2
  refine x_cVV (pc := 1) (as := []) (q := 193) C (c_X7_begins C.2.2.2.2.2.2.2.1  B M O  h1) (fs := _) e_M rfl cv_X7_begins cd_X7_begins wd_7_82 ⟨Nat.le_of_ble_eq_true rfl, Nat.le_of_ble_eq_true rfl⟩ ⟨Nat.le_of_ble_eq_true rfl, Nat.le_of_ble_eq_true rfl⟩ rfl rfl (Nat.le_of_ble_eq_true rfl) dX7_seal_1 ?_
  refine x_nmM (fun M2 eM2 => ?_)
  have hR := nmE hR eM2
  have hok := hok M2 eM2
  refine x_aload_n (pc := 4) (i := 0) C 0 dX7_seal_4 rfl rfl ?_
  refine x_aload_n (pc := 5) (i := 0) C 0 dX7_seal_5 rfl rfl ?_
  refine x_iload_n (pc := 6) (i := 1) C 1 dX7_seal_6 rfl rfl ?_
  refine x_iload_n (pc := 7) (i := 2) C 2 dX7_seal_7 rfl rfl ?_
  refine x_iload_n (pc := 8) (i := 3) C 3 dX7_seal_8 rfl rfl ?_
  refine x_iload (pc := 9) (i := 4) C 4 dX7_seal_9 rfl ?_
  have h3 := hok.1
  have hok := hok.2
  refine x_cIV (pc := 11) (as := [.int x0, .int x1, .int x2, .int x3]) (q := 193) C (c_X7_seals C.2.2.2.2.2.2.2.1  B M2 O x0 x1 x2 x3 h3) (fs := _) e_M rfl cv_X7_seals cd_X7_seals wd_7_152 ⟨Nat.le_of_ble_eq_true rfl, Nat.le_of_ble_eq_true rfl⟩ ⟨Nat.le_of_ble_eq_true rfl, Nat.le_of_ble_eq_true rfl⟩ rfl rfl (Nat.le_of_ble_eq_true rfl) dX7_seal_11 ?_
  refine x_nmIM (fun z4 ez4 => ?_)
  have hR := nmE hR ez4
  have hok := hok z4 ez4
  have h5 := hok
  refine x_cIV (pc := 14) (as := [.int z4.1]) (q := 193) C (c_X7_ends C.2.2.2.2.2.2.2.1  B z4.2 O z4.1 h5) (fs := _) e_M rfl cv_X7_ends cd_X7_ends wd_7_96 ⟨Nat.le_of_ble_eq_true rfl, Nat.le_of_ble_eq_true rfl⟩ ⟨Nat.le_of_ble_eq_true rfl, Nat.le_of_ble_eq_true rfl⟩ rfl rfl (Nat.le_of_ble_eq_true rfl) dX7_seal_14 ?_
  refine x_nmIM (fun z6 ez6 => ?_)
  have hR := nmE hR ez6
  exact x_iretM (pc := 17) C rfl hR dX7_seal_17
set_option maxHeartbeats 4000000 in
set_option maxRecDepth 100000 in
theorem c_X7_cancel {l : Launch} {A : Nat → Prop} {G : GT} {ad : Nat → Nat} (gl : Gl l A ad)  (B : StB) (M : StM) (O : StO) (x0 : Int32) (hok : ok_X7_cancel M x0) : Met l yX7_cancel (wof yX7_cancel cX7_cancel 2 (some .int)) (rmd 4 0 0) (va_Pc [.ref (ad 193), .int x0] (PW G A ad B M O)) (QI G A ad (f_X7_cancel M x0).1 B (f_X7_cancel M x0).2 O) 0 0 A := by
  refine x_body (own := RX7) (by decide +kernel) rfl gl (Nat.le_of_ble_eq_true rfl) (ls := [(0, .ref (ad 193)), (1, .int x0)]) rfl ?_
  intro p0 e s m args below meth c C
  have hR : (f_X7_cancel M x0) = (nm (f_X7_begins M) (fun (M2 : StM) => (nm (f_X7_voids M2 x0) (fun (z4 : Int32 × StM) => (nm (f_X7_ends z4.2 z4.1) (fun (z6 : Int32 × StM) => (z6.1, z6.2))))))) := rfl
  have hok : ((ok_X7_begins M) ∧ (∀ M2 : StM, M2 = (f_X7_begins M) → ((ok_X7_voids M2 x0) ∧ (∀ z4 : Int32 × StM, z4 = (f_X7_voids M2 x0) → ((ok_X7_ends z4.2 z4.1)))))) := hok
  refine x_aload_n (pc := 0) (i := 0) C 0 dX7_cancel_0 rfl rfl ?_
  have h1 := hok.1
  have hok := hok.2
  refine x_cVV (pc := 1) (as := []) (q := 193) C (c_X7_begins C.2.2.2.2.2.2.2.1  B M O  h1) (fs := _) e_M rfl cv_X7_begins cd_X7_begins wd_7_82 ⟨Nat.le_of_ble_eq_true rfl, Nat.le_of_ble_eq_true rfl⟩ ⟨Nat.le_of_ble_eq_true rfl, Nat.le_of_ble_eq_true rfl⟩ rfl rfl (Nat.le_of_ble_eq_true rfl) dX7_cancel_1 ?_
  refine x_nmM (fun M2 eM2 => ?_)
  have hR := nmE hR eM2
  have hok := hok M2 eM2
  refine x_aload_n (pc := 4) (i := 0) C 0 dX7_cancel_4 rfl rfl ?_
  refine x_aload_n (pc := 5) (i := 0) C 0 dX7_cancel_5 rfl rfl ?_
  refine x_iload_n (pc := 6) (i := 1) C 1 dX7_cancel_6 rfl rfl ?_
  have h3 := hok.1
  have hok := hok.2
  refine x_cIV (pc := 7) (as := [.int x0]) (q := 193) C (c_X7_voids C.2.2.2.2.2.2.2.1  B M2 O x0 h3) (fs := _) e_M rfl cv_X7_voids cd_X7_voids wd_7_160 ⟨Nat.le_of_ble_eq_true rfl, Nat.le_of_ble_eq_true rfl⟩ ⟨Nat.le_of_ble_eq_true rfl, Nat.le_of_ble_eq_true rfl⟩ rfl rfl (Nat.le_of_ble_eq_true rfl) dX7_cancel_7 ?_
  refine x_nmIM (fun z4 ez4 => ?_)
  have hR := nmE hR ez4
  have hok := hok z4 ez4
  have h5 := hok
  refine x_cIV (pc := 10) (as := [.int z4.1]) (q := 193) C (c_X7_ends C.2.2.2.2.2.2.2.1  B z4.2 O z4.1 h5) (fs := _) e_M rfl cv_X7_ends cd_X7_ends wd_7_96 ⟨Nat.le_of_ble_eq_true rfl, Nat.le_of_ble_eq_true rfl⟩ ⟨Nat.le_of_ble_eq_true rfl, Nat.le_of_ble_eq_true rfl⟩ rfl rfl (Nat.le_of_ble_eq_true rfl) dX7_cancel_10 ?_
  refine x_nmIM (fun z6 ez6 => ?_)
  have hR := nmE hR ez6
  exact x_iretM (pc := 13) C rfl hR dX7_cancel_13
set_option maxHeartbeats 4000000 in
set_option maxRecDepth 100000 in
theorem c_X7_atMost {l : Launch} {A : Nat → Prop} {G : GT} {ad : Nat → Nat} (gl : Gl l A ad)  (B : StB) (M : StM) (O : StO) (x0 : Int32) (x1 : Int32) (hok : ok_X7_atMost M x0 x1) : Met l yX7_atMost (wof yX7_atMost cX7_atMost 3 (some .int)) (rmd 4 0 0) (va_Pc [.ref (ad 193), .int x0, .int x1] (PW G A ad B M O)) (QI G A ad (f_X7_atMost M x0 x1) B M O) 0 0 A := by
  refine x_body (own := RX7) (by decide +kernel) rfl gl (Nat.le_of_ble_eq_true rfl) (ls := [(0, .ref (ad 193)), (1, .int x0), (2, .int x1)]) rfl ?_
  intro p0 e s m args below meth c C
  have hR : (f_X7_atMost M x0 x1) = (nm (f_X7_of M x0 1) (fun (r2 : Int32) => (nm (f_X7_of M x0 2) (fun (r4 : Int32) => (mn x1 (r2 + r4)))))) := rfl
  have hok : ((ok_X7_of M x0 1) ∧ (∀ r2 : Int32, r2 = (f_X7_of M x0 1) → ((ok_X7_of M x0 2)))) := hok
  refine x_iload_n (pc := 0) (i := 2) C 2 dX7_atMost_0 rfl rfl ?_
  refine x_aload_n (pc := 1) (i := 0) C 0 dX7_atMost_1 rfl rfl ?_
  refine x_iload_n (pc := 2) (i := 1) C 1 dX7_atMost_2 rfl rfl ?_
  refine x_iconst (pc := 3) (v := 1) C dX7_atMost_3 (by decide) ?_
  have h1 := hok.1
  have hok := hok.2
  refine x_cIV (pc := 4) (as := [.int x0, .int 1]) (q := 193) C (c_X7_of C.2.2.2.2.2.2.2.1  B M O x0 1 h1) (fs := _) e_M rfl cv_X7_of cd_X7_of wd_7_119 ⟨Nat.le_of_ble_eq_true rfl, Nat.le_of_ble_eq_true rfl⟩ ⟨Nat.le_of_ble_eq_true rfl, Nat.le_of_ble_eq_true rfl⟩ rfl rfl (Nat.le_of_ble_eq_true rfl) dX7_atMost_4 ?_
  refine x_nmI (fun r2 er2 => ?_)
  have hR := nmE hR er2
  have hok := hok r2 er2
  refine x_aload_n (pc := 7) (i := 0) C 0 dX7_atMost_7 rfl rfl ?_
  refine x_iload_n (pc := 8) (i := 1) C 1 dX7_atMost_8 rfl rfl ?_
  refine x_iconst (pc := 9) (v := 2) C dX7_atMost_9 (by decide) ?_
  have h3 := hok
  refine x_cIV (pc := 10) (as := [.int x0, .int 2]) (q := 193) C (c_X7_of C.2.2.2.2.2.2.2.1  B M O x0 2 h3) (fs := _) e_M rfl cv_X7_of cd_X7_of wd_7_119 ⟨Nat.le_of_ble_eq_true rfl, Nat.le_of_ble_eq_true rfl⟩ ⟨Nat.le_of_ble_eq_true rfl, Nat.le_of_ble_eq_true rfl⟩ rfl rfl (Nat.le_of_ble_eq_true rfl) dX7_atMost_10 ?_
  refine x_nmI (fun r4 er4 => ?_)
  have hR := nmE hR er4
  refine x_iadd (pc := 13) C dX7_atMost_13 ?_
  refine x_mmin (pc := 14) C wd_7_131 wd_3_52 wd_1_21 wd_3_53 ⟨Nat.le_of_ble_eq_true rfl, Nat.le_of_ble_eq_true rfl⟩ ⟨Nat.le_of_ble_eq_true rfl, Nat.le_of_ble_eq_true rfl⟩ dX7_atMost_14 ?_
  exact x_iret (pc := 17) C rfl hR dX7_atMost_17
set_option maxHeartbeats 4000000 in
set_option maxRecDepth 100000 in
theorem c_X7_asks {l : Launch} {A : Nat → Prop} {G : GT} {ad : Nat → Nat} (gl : Gl l A ad)  (B : StB) (M : StM) (O : StO) (x0 : Int32) (x1 : Int32) (hok : ok_X7_asks M x0 x1) : Met l yX7_asks (wof yX7_asks cX7_asks 3 (some .int)) (rmd 4 0 0) (va_Pc [.ref (ad 193), .int x0, .int x1] (PW G A ad B M O)) (QI G A ad (f_X7_asks M x0 x1).1 B (f_X7_asks M x0 x1).2 O) 0 0 A := by
  refine x_body (own := RX7) (by decide +kernel) rfl gl (Nat.le_of_ble_eq_true rfl) (ls := [(0, .ref (ad 193)), (1, .int x0), (2, .int x1)]) rfl ?_
  intro p0 e s m args below meth c C
  have hR : (f_X7_asks M x0 x1) = (nm (f_X7_isAccount M x0) (fun (r2 : Int32) => (nm (f_X7_goes M r2) (fun (z4 : Int32 × StM) => (if z4.1 = 0 then (0, z4.2) else (nm (f_X7_of z4.2 x0 x1) (fun (r7 : Int32) => (r7, z4.2)))))))) := rfl
  have hok : ((ok_X7_isAccount M x0) ∧ (∀ r2 : Int32, r2 = (f_X7_isAccount M x0) → ((ok_X7_goes M r2) ∧ (∀ z4 : Int32 × StM, z4 = (f_X7_goes M r2) → ((z4.1 = 0 → True) ∧ (¬ z4.1 = 0 → ((ok_X7_of z4.2 x0 x1)))))))) := hok
  refine x_aload_n (pc := 0) (i := 0) C 0 dX7_asks_0 rfl rfl ?_
  refine x_aload_n (pc := 1) (i := 0) C 0 dX7_asks_1 rfl rfl ?_
  refine x_iload_n (pc := 2) (i := 1) C 1 dX7_asks_2 rfl rfl ?_
  have h1 := hok.1
  have hok := hok.2
  refine x_cIV (pc := 3) (as := [.int x0]) (q := 193) C (c_X7_isAccount C.2.2.2.2.2.2.2.1  B M O x0 h1) (fs := _) e_M rfl cv_X7_isAccount cd_X7_isAccount wd_7_115 ⟨Nat.le_of_ble_eq_true rfl, Nat.le_of_ble_eq_true rfl⟩ ⟨Nat.le_of_ble_eq_true rfl, Nat.le_of_ble_eq_true rfl⟩ rfl rfl (Nat.le_of_ble_eq_true rfl) dX7_asks_3 ?_
  refine x_nmI (fun r2 er2 => ?_)
  have hR := nmE hR er2
  have hok := hok r2 er2
  have h3 := hok.1
  have hok := hok.2
  refine x_cIV (pc := 6) (as := [.int r2]) (q := 193) C (c_X7_goes C.2.2.2.2.2.2.2.1  B M O r2 h3) (fs := _) e_M rfl cv_X7_goes cd_X7_goes wd_7_59 ⟨Nat.le_of_ble_eq_true rfl, Nat.le_of_ble_eq_true rfl⟩ ⟨Nat.le_of_ble_eq_true rfl, Nat.le_of_ble_eq_true rfl⟩ rfl rfl (Nat.le_of_ble_eq_true rfl) dX7_asks_6 ?_
  refine x_nmIM (fun z4 ez4 => ?_)
  have hR := nmE hR ez4
  have hok := hok z4 ez4
  refine x_if_eq (pc := 9) (tgt := 21) C dX7_asks_9 (by decide) (fun c5 => ?_) (fun c5 => ?_)
  · have hR := hR.trans (if_pos c5)
    refine x_iconst (pc := 21) (v := 0) C dX7_asks_21 (by decide) ?_
    exact x_iretM (pc := 22) C rfl hR dX7_asks_22
  · have hR := hR.trans (if_neg c5)
    have hok := hok.2 c5
    refine x_aload_n (pc := 12) (i := 0) C 0 dX7_asks_12 rfl rfl ?_
    refine x_iload_n (pc := 13) (i := 1) C 1 dX7_asks_13 rfl rfl ?_
    refine x_iload_n (pc := 14) (i := 2) C 2 dX7_asks_14 rfl rfl ?_
    have h6 := hok
    refine x_cIV (pc := 15) (as := [.int x0, .int x1]) (q := 193) C (c_X7_of C.2.2.2.2.2.2.2.1  B z4.2 O x0 x1 h6) (fs := _) e_M rfl cv_X7_of cd_X7_of wd_7_119 ⟨Nat.le_of_ble_eq_true rfl, Nat.le_of_ble_eq_true rfl⟩ ⟨Nat.le_of_ble_eq_true rfl, Nat.le_of_ble_eq_true rfl⟩ rfl rfl (Nat.le_of_ble_eq_true rfl) dX7_asks_15 ?_
    refine x_nmI (fun r7 er7 => ?_)
    have hR := nmE hR er7
    refine x_goto (pc := 18) (tgt := 22) C dX7_asks_18 (by decide) ?_
    exact x_iretM (pc := 22) C rfl hR dX7_asks_22
set_option maxHeartbeats 4000000 in
set_option maxRecDepth 100000 in
theorem c_X7_availableIn {l : Launch} {A : Nat → Prop} {G : GT} {ad : Nat → Nat} (gl : Gl l A ad)  (B : StB) (M : StM) (O : StO) (x0 : Int32) (hok : ok_X7_availableIn M x0) : Met l yX7_availableIn (wof yX7_availableIn cX7_availableIn 2 (some .int)) (rmd 4 0 0) (va_Pc [.ref (ad 193), .int x0] (PW G A ad B M O)) (QI G A ad (f_X7_availableIn M x0).1 B (f_X7_availableIn M x0).2 O) 0 0 A := by
  refine x_body (own := RX7) (by decide +kernel) rfl gl (Nat.le_of_ble_eq_true rfl) (ls := [(0, .ref (ad 193)), (1, .int x0)]) rfl ?_
  intro p0 e s m args below meth c C
  have hR : (f_X7_availableIn M x0) = (nm (f_X7_isAccount M x0) (fun (r2 : Int32) => (nm (f_X7_goes M r2) (fun (z4 : Int32 × StM) => (if z4.1 = 0 then (0, z4.2) else (nm (f_X7_of z4.2 x0 1) (fun (r7 : Int32) => (nm (f_X7_of z4.2 x0 2) (fun (r9 : Int32) => ((r7 + r9), z4.2)))))))))) := rfl
  have hok : ((ok_X7_isAccount M x0) ∧ (∀ r2 : Int32, r2 = (f_X7_isAccount M x0) → ((ok_X7_goes M r2) ∧ (∀ z4 : Int32 × StM, z4 = (f_X7_goes M r2) → ((z4.1 = 0 → True) ∧ (¬ z4.1 = 0 → ((ok_X7_of z4.2 x0 1) ∧ (∀ r7 : Int32, r7 = (f_X7_of z4.2 x0 1) → ((ok_X7_of z4.2 x0 2)))))))))) := hok
  refine x_aload_n (pc := 0) (i := 0) C 0 dX7_availableIn_0 rfl rfl ?_
  refine x_aload_n (pc := 1) (i := 0) C 0 dX7_availableIn_1 rfl rfl ?_
  refine x_iload_n (pc := 2) (i := 1) C 1 dX7_availableIn_2 rfl rfl ?_
  have h1 := hok.1
  have hok := hok.2
  refine x_cIV (pc := 3) (as := [.int x0]) (q := 193) C (c_X7_isAccount C.2.2.2.2.2.2.2.1  B M O x0 h1) (fs := _) e_M rfl cv_X7_isAccount cd_X7_isAccount wd_7_115 ⟨Nat.le_of_ble_eq_true rfl, Nat.le_of_ble_eq_true rfl⟩ ⟨Nat.le_of_ble_eq_true rfl, Nat.le_of_ble_eq_true rfl⟩ rfl rfl (Nat.le_of_ble_eq_true rfl) dX7_availableIn_3 ?_
  refine x_nmI (fun r2 er2 => ?_)
  have hR := nmE hR er2
  have hok := hok r2 er2
  have h3 := hok.1
  have hok := hok.2
  refine x_cIV (pc := 6) (as := [.int r2]) (q := 193) C (c_X7_goes C.2.2.2.2.2.2.2.1  B M O r2 h3) (fs := _) e_M rfl cv_X7_goes cd_X7_goes wd_7_59 ⟨Nat.le_of_ble_eq_true rfl, Nat.le_of_ble_eq_true rfl⟩ ⟨Nat.le_of_ble_eq_true rfl, Nat.le_of_ble_eq_true rfl⟩ rfl rfl (Nat.le_of_ble_eq_true rfl) dX7_availableIn_6 ?_
  refine x_nmIM (fun z4 ez4 => ?_)
  have hR := nmE hR ez4
  have hok := hok z4 ez4
  refine x_if_eq (pc := 9) (tgt := 28) C dX7_availableIn_9 (by decide) (fun c5 => ?_) (fun c5 => ?_)
  · have hR := hR.trans (if_pos c5)
    refine x_iconst (pc := 28) (v := 0) C dX7_availableIn_28 (by decide) ?_
    exact x_iretM (pc := 29) C rfl hR dX7_availableIn_29
  · have hR := hR.trans (if_neg c5)
    have hok := hok.2 c5
    refine x_aload_n (pc := 12) (i := 0) C 0 dX7_availableIn_12 rfl rfl ?_
    refine x_iload_n (pc := 13) (i := 1) C 1 dX7_availableIn_13 rfl rfl ?_
    refine x_iconst (pc := 14) (v := 1) C dX7_availableIn_14 (by decide) ?_
    have h6 := hok.1
    have hok := hok.2
    refine x_cIV (pc := 15) (as := [.int x0, .int 1]) (q := 193) C (c_X7_of C.2.2.2.2.2.2.2.1  B z4.2 O x0 1 h6) (fs := _) e_M rfl cv_X7_of cd_X7_of wd_7_119 ⟨Nat.le_of_ble_eq_true rfl, Nat.le_of_ble_eq_true rfl⟩ ⟨Nat.le_of_ble_eq_true rfl, Nat.le_of_ble_eq_true rfl⟩ rfl rfl (Nat.le_of_ble_eq_true rfl) dX7_availableIn_15 ?_
    refine x_nmI (fun r7 er7 => ?_)
    have hR := nmE hR er7
    have hok := hok r7 er7
    refine x_aload_n (pc := 18) (i := 0) C 0 dX7_availableIn_18 rfl rfl ?_
    refine x_iload_n (pc := 19) (i := 1) C 1 dX7_availableIn_19 rfl rfl ?_
    refine x_iconst (pc := 20) (v := 2) C dX7_availableIn_20 (by decide) ?_
    have h8 := hok
    refine x_cIV (pc := 21) (as := [.int x0, .int 2]) (q := 193) C (c_X7_of C.2.2.2.2.2.2.2.1  B z4.2 O x0 2 h8) (fs := _) e_M rfl cv_X7_of cd_X7_of wd_7_119 ⟨Nat.le_of_ble_eq_true rfl, Nat.le_of_ble_eq_true rfl⟩ ⟨Nat.le_of_ble_eq_true rfl, Nat.le_of_ble_eq_true rfl⟩ rfl rfl (Nat.le_of_ble_eq_true rfl) dX7_availableIn_21 ?_
    refine x_nmI (fun r9 er9 => ?_)
    have hR := nmE hR er9
    refine x_iadd (pc := 24) C dX7_availableIn_24 ?_
    refine x_goto (pc := 25) (tgt := 29) C dX7_availableIn_25 (by decide) ?_
    exact x_iretM (pc := 29) C rfl hR dX7_availableIn_29
set_option maxHeartbeats 4000000 in
set_option maxRecDepth 100000 in
theorem t_X7_accountAtRank_L20 {p0 : Program} {l : Launch} {e : Env} {s : State} {m : MethodId} {args : Array Value} {below : List Frame} {meth : Method} {c : Code} {A : Nat → Prop} {G : GT} {ad : Nat → Nat} {Q : State → Prop} (C : CX p0 l s m args meth c A G ad cX7_accountAtRank RX7 7 (some .int))  (n : Nat) (M : StM) (a1 : Int32) (a2 : Int32) (a3 : Int32) (a4 : Int32) (a5 : Int32) (B : StB) (O : StO) : ∀ (R0 : Int32) (hR : R0 = f_X7_accountAtRank_L20 n M a1 a2 a3 a4 a5) (hok : ok_X7_accountAtRank_L20 n M a1 a2 a3 a4 a5) (k : X p0 l e (rmd 4 0 0) s m args below meth c A G ad 7 0 0 Q B M O [(0, .ref (ad 193)), (1, .int a1), (2, .int a2), (3, .int a3), (4, .int R0)] 79 []), X p0 l e (rmd 4 0 0) s m args below meth c A G ad 7 0 0 Q B M O [(0, .ref (ad 193)), (1, .int a1), (2, .int a2), (3, .int a3), (4, .int a4), (5, .int a5)] 20 [] := by
  induction n generalizing M a1 a2 a3 a4 a5 with
  | zero => intro R0 hR hok k; exact False.elim hok
  | succ n ih =>
    intro R0 hR hok k
    have hR : R0 = (if (ma M 0 (ix 1)) ≤ a5 then a4 else (nm (f_X7_of M a5 1) (fun (r6 : Int32) => (nm (f_X7_of M a3 1) (fun (r8 : Int32) => (nm (r6 - r8) (fun (v9 : Int32) => (if 0 < v9 then (nm (a4 + 1) (fun (v11 : Int32) => (f_X7_accountAtRank_L20 n M a1 a2 a3 v11 (a5 + 1)))) else (if v9 = 0 then (if a3 ≤ a5 then (nm (a4 + 0) (fun (v15 : Int32) => (f_X7_accountAtRank_L20 n M a1 a2 a3 v15 (a5 + 1)))) else (nm (a4 + 1) (fun (v16 : Int32) => (f_X7_accountAtRank_L20 n M a1 a2 a3 v16 (a5 + 1))))) else (nm (a4 + 0) (fun (v13 : Int32) => (f_X7_accountAtRank_L20 n M a1 a2 a3 v13 (a5 + 1))))))))))))) := hR
    have hok : (((ma M 0 (ix 1)) ≤ a5 → True) ∧ (¬ (ma M 0 (ix 1)) ≤ a5 → ((ok_X7_of M a5 1) ∧ (∀ r6 : Int32, r6 = (f_X7_of M a5 1) → ((ok_X7_of M a3 1) ∧ (∀ r8 : Int32, r8 = (f_X7_of M a3 1) → (∀ v9 : Int32, v9 = (r6 - r8) → ((0 < v9 → (∀ v11 : Int32, v11 = (a4 + 1) → (ok_X7_accountAtRank_L20 n M a1 a2 a3 v11 (a5 + 1)))) ∧ (¬ 0 < v9 → ((v9 = 0 → ((a3 ≤ a5 → (∀ v15 : Int32, v15 = (a4 + 0) → (ok_X7_accountAtRank_L20 n M a1 a2 a3 v15 (a5 + 1)))) ∧ (¬ a3 ≤ a5 → (∀ v16 : Int32, v16 = (a4 + 1) → (ok_X7_accountAtRank_L20 n M a1 a2 a3 v16 (a5 + 1)))))) ∧ (¬ v9 = 0 → (∀ v13 : Int32, v13 = (a4 + 0) → (ok_X7_accountAtRank_L20 n M a1 a2 a3 v13 (a5 + 1)))))))))))))) := hok
    refine x_iload (pc := 20) (i := 5) C 5 dX7_accountAtRank_20 rfl ?_
    refine x_aload_n (pc := 22) (i := 0) C 0 dX7_accountAtRank_22 rfl rfl ?_
    refine x_get (pc := 23) (q := 193) (i := 0) C e_M rfl ttX7 (by decide) wd_6_227 rfl dX7_accountAtRank_23 ?_
    refine x_iconst (pc := 26) (v := 1) C dX7_accountAtRank_26 (by decide) ?_
    have h3 : vp_in (1) 124 := (by decide : ¬ ((1 : Int32) < 0 ∨ 124 ≤ Int32.toNatClampNeg 1))
    refine x_iald (pc := 27) (q := 194) C e_M0 h3 dX7_accountAtRank_27 ?_
    refine x_icmp_ge (pc := 28) (tgt := 79) C dX7_accountAtRank_28 (by decide) (fun c4 => ?_) (fun c4 => ?_)
    · have hR := hR.trans (if_pos c4)
      refine x_sub [0, 1, 2, 3, 4] (ls2 := [(0, .ref (ad 193)), (1, .int a1), (2, .int a2), (3, .int a3), (4, .int a4)]) rfl ?_
      subst hR
      exact k
    · have hR := hR.trans (if_neg c4)
      have hok := hok.2 c4
      refine x_aload_n (pc := 31) (i := 0) C 0 dX7_accountAtRank_31 rfl rfl ?_
      refine x_iload (pc := 32) (i := 5) C 5 dX7_accountAtRank_32 rfl ?_
      refine x_iconst (pc := 34) (v := 1) C dX7_accountAtRank_34 (by decide) ?_
      have h5 := hok.1
      have hok := hok.2
      refine x_cIV (pc := 35) (as := [.int a5, .int 1]) (q := 193) C (c_X7_of C.2.2.2.2.2.2.2.1  B M O a5 1 h5) (fs := _) e_M rfl cv_X7_of cd_X7_of wd_7_119 ⟨Nat.le_of_ble_eq_true rfl, Nat.le_of_ble_eq_true rfl⟩ ⟨Nat.le_of_ble_eq_true rfl, Nat.le_of_ble_eq_true rfl⟩ rfl rfl (Nat.le_of_ble_eq_true rfl) dX7_accountAtRank_35 ?_
      refine x_nmI (fun r6 er6 => ?_)
      have hR := nmE hR er6
      have hok := hok r6 er6
      refine x_aload_n (pc := 38) (i := 0) C 0 dX7_accountAtRank_38 rfl rfl ?_
      refine x_iload_n (pc := 39) (i := 3) C 3 dX7_accountAtRank_39 rfl rfl ?_
      refine x_iconst (pc := 40) (v := 1) C dX7_accountAtRank_40 (by decide) ?_
      have h7 := hok.1
      have hok := hok.2
      refine x_cIV (pc := 41) (as := [.int a3, .int 1]) (q := 193) C (c_X7_of C.2.2.2.2.2.2.2.1  B M O a3 1 h7) (fs := _) e_M rfl cv_X7_of cd_X7_of wd_7_119 ⟨Nat.le_of_ble_eq_true rfl, Nat.le_of_ble_eq_true rfl⟩ ⟨Nat.le_of_ble_eq_true rfl, Nat.le_of_ble_eq_true rfl⟩ rfl rfl (Nat.le_of_ble_eq_true rfl) dX7_accountAtRank_41 ?_
      refine x_nmI (fun r8 er8 => ?_)
      have hR := nmE hR er8
      have hok := hok r8 er8
      refine x_isub (pc := 44) C dX7_accountAtRank_44 ?_
      refine x_nmI (fun v9 ev9 => ?_)
      have hR := nmE hR ev9
      have hok := hok v9 ev9
      refine x_istore (pc := 45) (i := 6) (ls2 := [(6, .int v9), (0, .ref (ad 193)), (1, .int a1), (2, .int a2), (3, .int a3), (4, .int a4), (5, .int a5)]) C dX7_accountAtRank_45 (by decide) rfl ?_
      refine x_iload (pc := 47) (i := 4) C 5 dX7_accountAtRank_47 rfl ?_
      refine x_iload (pc := 49) (i := 6) C 0 dX7_accountAtRank_49 rfl ?_
      refine x_if_gt (pc := 51) (tgt := 65) C dX7_accountAtRank_51 (by decide) (fun c10 => ?_) (fun c10 => ?_)
      · have hR := hR.trans (if_pos c10)
        have hok := hok.1 c10
        refine x_iconst (pc := 65) (v := 1) C dX7_accountAtRank_65 (by decide) ?_
        refine x_goto (pc := 66) (tgt := 70) C dX7_accountAtRank_66 (by decide) ?_
        refine x_iadd (pc := 70) C dX7_accountAtRank_70 ?_
        refine x_nmI (fun v11 ev11 => ?_)
        have hR := nmE hR ev11
        have hok := hok v11 ev11
        refine x_istore (pc := 71) (i := 4) (ls2 := [(4, .int v11), (6, .int v9), (0, .ref (ad 193)), (1, .int a1), (2, .int a2), (3, .int a3), (5, .int a5)]) C dX7_accountAtRank_71 (by decide) rfl ?_
        refine x_iinc (pc := 73) (i := 5) (v := (a5 + 1)) (ls2 := [(5, .int (a5 + 1)), (4, .int v11), (6, .int v9), (0, .ref (ad 193)), (1, .int a1), (2, .int a2), (3, .int a3)]) C 6 dX7_accountAtRank_73 rfl rfl (by decide) rfl ?_
        refine x_goto (pc := 76) (tgt := 20) C dX7_accountAtRank_76 (by decide) ?_
        refine x_sub [3, 4, 5, 6, 1, 0] (ls2 := [(0, .ref (ad 193)), (1, .int a1), (2, .int a2), (3, .int a3), (4, .int v11), (5, .int (a5 + 1))]) rfl ?_
        exact ih M a1 a2 a3 v11 (a5 + 1) R0 hR hok k
      · have hR := hR.trans (if_neg c10)
        have hok := hok.2 c10
        refine x_iload (pc := 54) (i := 6) C 0 dX7_accountAtRank_54 rfl ?_
        refine x_if_ne (pc := 56) (tgt := 69) C dX7_accountAtRank_56 (by decide) (fun c12 => ?_) (fun c12 => ?_)
        · have hR := hR.trans (if_neg c12)
          have hok := hok.2 c12
          refine x_iconst (pc := 69) (v := 0) C dX7_accountAtRank_69 (by decide) ?_
          refine x_iadd (pc := 70) C dX7_accountAtRank_70 ?_
          refine x_nmI (fun v13 ev13 => ?_)
          have hR := nmE hR ev13
          have hok := hok v13 ev13
          refine x_istore (pc := 71) (i := 4) (ls2 := [(4, .int v13), (6, .int v9), (0, .ref (ad 193)), (1, .int a1), (2, .int a2), (3, .int a3), (5, .int a5)]) C dX7_accountAtRank_71 (by decide) rfl ?_
          refine x_iinc (pc := 73) (i := 5) (v := (a5 + 1)) (ls2 := [(5, .int (a5 + 1)), (4, .int v13), (6, .int v9), (0, .ref (ad 193)), (1, .int a1), (2, .int a2), (3, .int a3)]) C 6 dX7_accountAtRank_73 rfl rfl (by decide) rfl ?_
          refine x_goto (pc := 76) (tgt := 20) C dX7_accountAtRank_76 (by decide) ?_
          refine x_sub [3, 4, 5, 6, 1, 0] (ls2 := [(0, .ref (ad 193)), (1, .int a1), (2, .int a2), (3, .int a3), (4, .int v13), (5, .int (a5 + 1))]) rfl ?_
          exact ih M a1 a2 a3 v13 (a5 + 1) R0 hR hok k
        · have hR := hR.trans (if_pos c12)
          have hok := hok.1 c12
          refine x_iload (pc := 59) (i := 5) C 6 dX7_accountAtRank_59 rfl ?_
          refine x_iload_n (pc := 61) (i := 3) C 4 dX7_accountAtRank_61 rfl rfl ?_
          refine x_icmp_ge (pc := 62) (tgt := 69) C dX7_accountAtRank_62 (by decide) (fun c14 => ?_) (fun c14 => ?_)
          · have hR := hR.trans (if_pos c14)
            have hok := hok.1 c14
            refine x_iconst (pc := 69) (v := 0) C dX7_accountAtRank_69 (by decide) ?_
            refine x_iadd (pc := 70) C dX7_accountAtRank_70 ?_
            refine x_nmI (fun v15 ev15 => ?_)
            have hR := nmE hR ev15
            have hok := hok v15 ev15
            refine x_istore (pc := 71) (i := 4) (ls2 := [(4, .int v15), (6, .int v9), (0, .ref (ad 193)), (1, .int a1), (2, .int a2), (3, .int a3), (5, .int a5)]) C dX7_accountAtRank_71 (by decide) rfl ?_
            refine x_iinc (pc := 73) (i := 5) (v := (a5 + 1)) (ls2 := [(5, .int (a5 + 1)), (4, .int v15), (6, .int v9), (0, .ref (ad 193)), (1, .int a1), (2, .int a2), (3, .int a3)]) C 6 dX7_accountAtRank_73 rfl rfl (by decide) rfl ?_
            refine x_goto (pc := 76) (tgt := 20) C dX7_accountAtRank_76 (by decide) ?_
            refine x_sub [3, 4, 5, 6, 1, 0] (ls2 := [(0, .ref (ad 193)), (1, .int a1), (2, .int a2), (3, .int a3), (4, .int v15), (5, .int (a5 + 1))]) rfl ?_
            exact ih M a1 a2 a3 v15 (a5 + 1) R0 hR hok k
          · have hR := hR.trans (if_neg c14)
            have hok := hok.2 c14
            refine x_iconst (pc := 65) (v := 1) C dX7_accountAtRank_65 (by decide) ?_
            refine x_goto (pc := 66) (tgt := 70) C dX7_accountAtRank_66 (by decide) ?_
            refine x_iadd (pc := 70) C dX7_accountAtRank_70 ?_
            refine x_nmI (fun v16 ev16 => ?_)
            have hR := nmE hR ev16
            have hok := hok v16 ev16
            refine x_istore (pc := 71) (i := 4) (ls2 := [(4, .int v16), (6, .int v9), (0, .ref (ad 193)), (1, .int a1), (2, .int a2), (3, .int a3), (5, .int a5)]) C dX7_accountAtRank_71 (by decide) rfl ?_
            refine x_iinc (pc := 73) (i := 5) (v := (a5 + 1)) (ls2 := [(5, .int (a5 + 1)), (4, .int v16), (6, .int v9), (0, .ref (ad 193)), (1, .int a1), (2, .int a2), (3, .int a3)]) C 6 dX7_accountAtRank_73 rfl rfl (by decide) rfl ?_
            refine x_goto (pc := 76) (tgt := 20) C dX7_accountAtRank_76 (by decide) ?_
            refine x_sub [3, 4, 5, 6, 1, 0] (ls2 := [(0, .ref (ad 193)), (1, .int a1), (2, .int a2), (3, .int a3), (4, .int v16), (5, .int (a5 + 1))]) rfl ?_
            exact ih M a1 a2 a3 v16 (a5 + 1) R0 hR hok k
set_option maxHeartbeats 4000000 in
set_option maxRecDepth 100000 in
theorem t_X7_accountAtRank_L4 {p0 : Program} {l : Launch} {e : Env} {s : State} {m : MethodId} {args : Array Value} {below : List Frame} {meth : Method} {c : Code} {A : Nat → Prop} {G : GT} {ad : Nat → Nat} {Q : State → Prop} (C : CX p0 l s m args meth c A G ad cX7_accountAtRank RX7 7 (some .int))  (n : Nat) (M : StM) (a1 : Int32) (a2 : Int32) (a3 : Int32) (B : StB) (O : StO) : ∀ (R0 : Int32) (hR : R0 = f_X7_accountAtRank_L4 n M a1 a2 a3) (hok : ok_X7_accountAtRank_L4 n M a1 a2 a3) (k : X p0 l e (rmd 4 0 0) s m args below meth c A G ad 7 0 0 Q B M O [(0, .ref (ad 193)), (2, .int R0)] 97 []), X p0 l e (rmd 4 0 0) s m args below meth c A G ad 7 0 0 Q B M O [(0, .ref (ad 193)), (1, .int a1), (2, .int a2), (3, .int a3)] 4 [] := by
  induction n generalizing M a1 a2 a3 with
  | zero => intro R0 hR hok k; exact False.elim hok
  | succ n ih =>
    intro R0 hR hok k
    have hR : R0 = (if (ma M 0 (ix 1)) ≤ a3 then a2 else (nm (f_X7_accountAtRank_L20 fu M a1 a2 a3 0 0) (fun (z17 : Int32) => (if z17 = a1 then (f_X7_accountAtRank_L4 n M a1 a3 (a3 + 1)) else (f_X7_accountAtRank_L4 n M a1 a2 (a3 + 1)))))) := hR
    have hok : (((ma M 0 (ix 1)) ≤ a3 → True) ∧ (¬ (ma M 0 (ix 1)) ≤ a3 → ((ok_X7_accountAtRank_L20 fu M a1 a2 a3 0 0) ∧ ∀ z17 : Int32, z17 = f_X7_accountAtRank_L20 fu M a1 a2 a3 0 0 → ((z17 = a1 → (ok_X7_accountAtRank_L4 n M a1 a3 (a3 + 1))) ∧ (¬ z17 = a1 → (ok_X7_accountAtRank_L4 n M a1 a2 (a3 + 1))))))) := hok
    refine x_iload_n (pc := 4) (i := 3) C 3 dX7_accountAtRank_4 rfl rfl ?_
    refine x_aload_n (pc := 5) (i := 0) C 0 dX7_accountAtRank_5 rfl rfl ?_
    refine x_get (pc := 6) (q := 193) (i := 0) C e_M rfl ttX7 (by decide) wd_6_227 rfl dX7_accountAtRank_6 ?_
    refine x_iconst (pc := 9) (v := 1) C dX7_accountAtRank_9 (by decide) ?_
    have h1 : vp_in (1) 124 := (by decide : ¬ ((1 : Int32) < 0 ∨ 124 ≤ Int32.toNatClampNeg 1))
    refine x_iald (pc := 10) (q := 194) C e_M0 h1 dX7_accountAtRank_10 ?_
    refine x_icmp_ge (pc := 11) (tgt := 97) C dX7_accountAtRank_11 (by decide) (fun c2 => ?_) (fun c2 => ?_)
    · have hR := hR.trans (if_pos c2)
      refine x_sub [0, 2] (ls2 := [(0, .ref (ad 193)), (2, .int a2)]) rfl ?_
      subst hR
      exact k
    · have hR := hR.trans (if_neg c2)
      have hok := hok.2 c2
      refine x_iconst (pc := 14) (v := 0) C dX7_accountAtRank_14 (by decide) ?_
      refine x_istore (pc := 15) (i := 4) (ls2 := [(4, .int 0), (0, .ref (ad 193)), (1, .int a1), (2, .int a2), (3, .int a3)]) C dX7_accountAtRank_15 (by decide) rfl ?_
      refine x_iconst (pc := 17) (v := 0) C dX7_accountAtRank_17 (by decide) ?_
      refine x_istore (pc := 18) (i := 5) (ls2 := [(5, .int 0), (4, .int 0), (0, .ref (ad 193)), (1, .int a1), (2, .int a2), (3, .int a3)]) C dX7_accountAtRank_18 (by decide) rfl ?_
      refine x_sub [2, 3, 4, 5, 1, 0] (ls2 := [(0, .ref (ad 193)), (1, .int a1), (2, .int a2), (3, .int a3), (4, .int 0), (5, .int 0)]) rfl ?_
      obtain ⟨z17, ez17⟩ : ∃ z : Int32, z = f_X7_accountAtRank_L20 fu M a1 a2 a3 0 0 := ⟨_, rfl⟩
      refine t_X7_accountAtRank_L20 C fu M a1 a2 a3 0 0 B O z17 ez17 hok.1 ?_
      have hR := nmE hR ez17
      have hok := hok.2 z17 ez17
      refine x_iload (pc := 79) (i := 4) C 4 dX7_accountAtRank_79 rfl ?_
      refine x_iload_n (pc := 81) (i := 1) C 1 dX7_accountAtRank_81 rfl rfl ?_
      refine x_icmp_ne (pc := 82) (tgt := 89) C dX7_accountAtRank_82 (by decide) (fun c18 => ?_) (fun c18 => ?_)
      · have hR := hR.trans (if_neg c18)
        have hok := hok.2 c18
        refine x_iload_n (pc := 89) (i := 2) C 2 dX7_accountAtRank_89 rfl rfl ?_
        refine x_istore_n (pc := 90) (i := 2) (ls2 := [(2, .int a2), (0, .ref (ad 193)), (1, .int a1), (3, .int a3), (4, .int z17)]) C dX7_accountAtRank_90 rfl (by decide) rfl ?_
        refine x_iinc (pc := 91) (i := 3) (v := (a3 + 1)) (ls2 := [(3, .int (a3 + 1)), (2, .int a2), (0, .ref (ad 193)), (1, .int a1), (4, .int z17)]) C 3 dX7_accountAtRank_91 rfl rfl (by decide) rfl ?_
        refine x_goto (pc := 94) (tgt := 4) C dX7_accountAtRank_94 (by decide) ?_
        refine x_sub [2, 3, 1, 0] (ls2 := [(0, .ref (ad 193)), (1, .int a1), (2, .int a2), (3, .int (a3 + 1))]) rfl ?_
        exact ih M a1 a2 (a3 + 1) R0 hR hok k
      · have hR := hR.trans (if_pos c18)
        have hok := hok.1 c18
        refine x_iload_n (pc := 85) (i := 3) C 3 dX7_accountAtRank_85 rfl rfl ?_
        refine x_goto (pc := 86) (tgt := 90) C dX7_accountAtRank_86 (by decide) ?_
        refine x_istore_n (pc := 90) (i := 2) (ls2 := [(2, .int a3), (0, .ref (ad 193)), (1, .int a1), (3, .int a3), (4, .int z17)]) C dX7_accountAtRank_90 rfl (by decide) rfl ?_
        refine x_iinc (pc := 91) (i := 3) (v := (a3 + 1)) (ls2 := [(3, .int (a3 + 1)), (2, .int a3), (0, .ref (ad 193)), (1, .int a1), (4, .int z17)]) C 3 dX7_accountAtRank_91 rfl rfl (by decide) rfl ?_
        refine x_goto (pc := 94) (tgt := 4) C dX7_accountAtRank_94 (by decide) ?_
        refine x_sub [2, 3, 1, 0] (ls2 := [(0, .ref (ad 193)), (1, .int a1), (2, .int a3), (3, .int (a3 + 1))]) rfl ?_
        exact ih M a1 a3 (a3 + 1) R0 hR hok k
set_option maxHeartbeats 4000000 in
set_option maxRecDepth 100000 in
theorem t_X7_accountAtRank_J108 {p0 : Program} {l : Launch} {e : Env} {s : State} {m : MethodId} {args : Array Value} {below : List Frame} {meth : Method} {c : Code} {A : Nat → Prop} {G : GT} {ad : Nat → Nat} (C : CX p0 l s m args meth c A G ad cX7_accountAtRank RX7 7 (some .int))  (M : StM) (a2 : Int32) (s0 : Int32) (B : StB) (O : StO) (R0 : Int32 × StM) (hR : R0 = f_X7_accountAtRank_J108 M a2 s0) (hok : ok_X7_accountAtRank_J108 M a2 s0) : X p0 l e (rmd 4 0 0) s m args below meth c A G ad 7 0 0 (MQ below (QI G A ad R0.1 B R0.2 O) args s 0 0 A) B M O [(2, .int a2)] 108 [.int s0, .ref (ad 193)] := by
  have hR : R0 = (nm (f_X7_goes M s0) (fun (z22 : Int32 × StM) => (if z22.1 = 0 then (0, z22.2) else (a2, z22.2)))) := hR
  have hok : ((ok_X7_goes M s0)) := hok
  have h21 := hok
  refine x_cIV (pc := 108) (as := [.int s0]) (q := 193) C (c_X7_goes C.2.2.2.2.2.2.2.1  B M O s0 h21) (fs := _) e_M rfl cv_X7_goes cd_X7_goes wd_7_59 ⟨Nat.le_of_ble_eq_true rfl, Nat.le_of_ble_eq_true rfl⟩ ⟨Nat.le_of_ble_eq_true rfl, Nat.le_of_ble_eq_true rfl⟩ rfl rfl (Nat.le_of_ble_eq_true rfl) dX7_accountAtRank_108 ?_
  refine x_nmIM (fun z22 ez22 => ?_)
  have hR := nmE hR ez22
  refine x_if_eq (pc := 111) (tgt := 118) C dX7_accountAtRank_111 (by decide) (fun c23 => ?_) (fun c23 => ?_)
  · have hR := hR.trans (if_pos c23)
    refine x_iconst (pc := 118) (v := 0) C dX7_accountAtRank_118 (by decide) ?_
    exact x_iretM (pc := 119) C rfl hR dX7_accountAtRank_119
  · have hR := hR.trans (if_neg c23)
    refine x_iload_n (pc := 114) (i := 2) C 0 dX7_accountAtRank_114 rfl rfl ?_
    refine x_goto (pc := 115) (tgt := 119) C dX7_accountAtRank_115 (by decide) ?_
    exact x_iretM (pc := 119) C rfl hR dX7_accountAtRank_119
set_option maxHeartbeats 4000000 in
set_option maxRecDepth 100000 in
theorem c_X7_accountAtRank {l : Launch} {A : Nat → Prop} {G : GT} {ad : Nat → Nat} (gl : Gl l A ad)  (B : StB) (M : StM) (O : StO) (x0 : Int32) (hok : ok_X7_accountAtRank M x0) : Met l yX7_accountAtRank (wof yX7_accountAtRank cX7_accountAtRank 7 (some .int)) (rmd 4 0 0) (va_Pc [.ref (ad 193), .int x0] (PW G A ad B M O)) (QI G A ad (f_X7_accountAtRank M x0).1 B (f_X7_accountAtRank M x0).2 O) 0 0 A := by
  refine x_body (own := RX7) (by decide +kernel) rfl gl (Nat.le_of_ble_eq_true rfl) (ls := [(0, .ref (ad 193)), (1, .int x0)]) rfl ?_
  intro p0 e s m args below meth c C
  have hR : (f_X7_accountAtRank M x0) = (nm (f_X7_accountAtRank_L4 fu M x0 (-1) 0) (fun (z19 : Int32) => (if z19 = (-1) then (f_X7_accountAtRank_J108 M z19 0) else (f_X7_accountAtRank_J108 M z19 1)))) := rfl
  have hok : ((ok_X7_accountAtRank_L4 fu M x0 (-1) 0) ∧ ∀ z19 : Int32, z19 = f_X7_accountAtRank_L4 fu M x0 (-1) 0 → ((z19 = (-1) → (ok_X7_accountAtRank_J108 M z19 0)) ∧ (¬ z19 = (-1) → (ok_X7_accountAtRank_J108 M z19 1)))) := hok
  refine x_iconst (pc := 0) (v := (-1)) C dX7_accountAtRank_0 (by decide) ?_
  refine x_istore_n (pc := 1) (i := 2) (ls2 := [(2, .int (-1)), (0, .ref (ad 193)), (1, .int x0)]) C dX7_accountAtRank_1 rfl (by decide) rfl ?_
  refine x_iconst (pc := 2) (v := 0) C dX7_accountAtRank_2 (by decide) ?_
  refine x_istore_n (pc := 3) (i := 3) (ls2 := [(3, .int 0), (2, .int (-1)), (0, .ref (ad 193)), (1, .int x0)]) C dX7_accountAtRank_3 rfl (by decide) rfl ?_
  refine x_sub [2, 3, 1, 0] (ls2 := [(0, .ref (ad 193)), (1, .int x0), (2, .int (-1)), (3, .int 0)]) rfl ?_
  obtain ⟨z19, ez19⟩ : ∃ z : Int32, z = f_X7_accountAtRank_L4 fu M x0 (-1) 0 := ⟨_, rfl⟩
  refine t_X7_accountAtRank_L4 C fu M x0 (-1) 0 B O z19 ez19 hok.1 ?_
  have hR := nmE hR ez19
  have hok := hok.2 z19 ez19
  refine x_aload_n (pc := 97) (i := 0) C 0 dX7_accountAtRank_97 rfl rfl ?_
  refine x_iload_n (pc := 98) (i := 2) C 1 dX7_accountAtRank_98 rfl rfl ?_
  refine x_iconst (pc := 99) (v := (-1)) C dX7_accountAtRank_99 (by decide) ?_
  refine x_icmp_eq (pc := 100) (tgt := 107) C dX7_accountAtRank_100 (by decide) (fun c20 => ?_) (fun c20 => ?_)
  · have hR := hR.trans (if_pos c20)
    have hok := hok.1 c20
    refine x_iconst (pc := 107) (v := 0) C dX7_accountAtRank_107 (by decide) ?_
    refine x_sub [1] (ls2 := [(2, .int z19)]) rfl ?_
    exact t_X7_accountAtRank_J108 C M z19 0 B O _ hR hok
  · have hR := hR.trans (if_neg c20)
    have hok := hok.2 c20
    refine x_iconst (pc := 103) (v := 1) C dX7_accountAtRank_103 (by decide) ?_
    refine x_goto (pc := 104) (tgt := 108) C dX7_accountAtRank_104 (by decide) ?_
    refine x_sub [1] (ls2 := [(2, .int z19)]) rfl ?_
    exact t_X7_accountAtRank_J108 C M z19 1 B O _ hR hok
set_option maxHeartbeats 4000000 in
set_option maxRecDepth 100000 in
theorem t_X7_balances_L4 {p0 : Program} {l : Launch} {e : Env} {s : State} {m : MethodId} {args : Array Value} {below : List Frame} {meth : Method} {c : Code} {A : Nat → Prop} {G : GT} {ad : Nat → Nat} {Q : State → Prop} (C : CX p0 l s m args meth c A G ad cX7_balances RX7 4 (some .long))  (n : Nat) (M : StM) (a1 : Int64) (a3 : Int32) (B : StB) (O : StO) : ∀ (R0 : Int64) (hR : R0 = f_X7_balances_L4 n M a1 a3) (hok : ok_X7_balances_L4 n M a1 a3) (k : X p0 l e (rmd 4 0 0) s m args below meth c A G ad 4 0 0 Q B M O [(1, .long R0)] 30 []), X p0 l e (rmd 4 0 0) s m args below meth c A G ad 4 0 0 Q B M O [(0, .ref (ad 193)), (1, .long a1), (3, .int a3)] 4 [] := by
  induction n generalizing M a1 a3 with
  | zero => intro R0 hR hok k; exact False.elim hok
  | succ n ih =>
    intro R0 hR hok k
    have hR : R0 = (if (ma M 0 (ix 1)) ≤ a3 then a1 else (nm (f_X7_of M a3 1) (fun (r4 : Int32) => (nm (a1 + (Int32.toInt64 r4)) (fun (v5 : Int64) => (f_X7_balances_L4 n M v5 (a3 + 1))))))) := hR
    have hok : (((ma M 0 (ix 1)) ≤ a3 → True) ∧ (¬ (ma M 0 (ix 1)) ≤ a3 → ((ok_X7_of M a3 1) ∧ (∀ r4 : Int32, r4 = (f_X7_of M a3 1) → (∀ v5 : Int64, v5 = (a1 + (Int32.toInt64 r4)) → (ok_X7_balances_L4 n M v5 (a3 + 1))))))) := hok
    refine x_iload_n (pc := 4) (i := 3) C 2 dX7_balances_4 rfl rfl ?_
    refine x_aload_n (pc := 5) (i := 0) C 0 dX7_balances_5 rfl rfl ?_
    refine x_get (pc := 6) (q := 193) (i := 0) C e_M rfl ttX7 (by decide) wd_6_227 rfl dX7_balances_6 ?_
    refine x_iconst (pc := 9) (v := 1) C dX7_balances_9 (by decide) ?_
    have h1 : vp_in (1) 124 := (by decide : ¬ ((1 : Int32) < 0 ∨ 124 ≤ Int32.toNatClampNeg 1))
    refine x_iald (pc := 10) (q := 194) C e_M0 h1 dX7_balances_10 ?_
    refine x_icmp_ge (pc := 11) (tgt := 30) C dX7_balances_11 (by decide) (fun c2 => ?_) (fun c2 => ?_)
    · have hR := hR.trans (if_pos c2)
      refine x_sub [1] (ls2 := [(1, .long a1)]) rfl ?_
      subst hR
      exact k
    · have hR := hR.trans (if_neg c2)
      have hok := hok.2 c2
      refine x_lload_n (pc := 14) (i := 1) C 1 dX7_balances_14 rfl rfl ?_
      refine x_aload_n (pc := 15) (i := 0) C 0 dX7_balances_15 rfl rfl ?_
      refine x_iload_n (pc := 16) (i := 3) C 2 dX7_balances_16 rfl rfl ?_
      refine x_iconst (pc := 17) (v := 1) C dX7_balances_17 (by decide) ?_
      have h3 := hok.1
      have hok := hok.2
      refine x_cIV (pc := 18) (as := [.int a3, .int 1]) (q := 193) C (c_X7_of C.2.2.2.2.2.2.2.1  B M O a3 1 h3) (fs := _) e_M rfl cv_X7_of cd_X7_of wd_7_119 ⟨Nat.le_of_ble_eq_true rfl, Nat.le_of_ble_eq_true rfl⟩ ⟨Nat.le_of_ble_eq_true rfl, Nat.le_of_ble_eq_true rfl⟩ rfl rfl (Nat.le_of_ble_eq_true rfl) dX7_balances_18 ?_
      refine x_nmI (fun r4 er4 => ?_)
      have hR := nmE hR er4
      have hok := hok r4 er4
      refine x_i2l (pc := 21) C dX7_balances_21 ?_
      refine x_ladd (pc := 22) C dX7_balances_22 ?_
      refine x_nmL (fun v5 ev5 => ?_)
      have hR := nmE hR ev5
      have hok := hok v5 ev5
      refine x_lstore_n (pc := 23) (i := 1) (ls2 := [(1, .long v5), (0, .ref (ad 193)), (3, .int a3)]) C dX7_balances_23 rfl (by decide) rfl ?_
      refine x_iinc (pc := 24) (i := 3) (v := (a3 + 1)) (ls2 := [(3, .int (a3 + 1)), (1, .long v5), (0, .ref (ad 193))]) C 2 dX7_balances_24 rfl rfl (by decide) rfl ?_
      refine x_goto (pc := 27) (tgt := 4) C dX7_balances_27 (by decide) ?_
      refine x_sub [2, 1, 0] (ls2 := [(0, .ref (ad 193)), (1, .long v5), (3, .int (a3 + 1))]) rfl ?_
      exact ih M v5 (a3 + 1) R0 hR hok k
set_option maxHeartbeats 4000000 in
set_option maxRecDepth 100000 in
theorem c_X7_balances {l : Launch} {A : Nat → Prop} {G : GT} {ad : Nat → Nat} (gl : Gl l A ad)  (B : StB) (M : StM) (O : StO)  (hok : ok_X7_balances M) : Met l yX7_balances (wof yX7_balances cX7_balances 4 (some .long)) (rmd 4 0 0) (va_Pc [.ref (ad 193)] (PW G A ad B M O)) (QL G A ad (f_X7_balances M) B M O) 0 0 A := by
  refine x_body (own := RX7) (by decide +kernel) rfl gl (Nat.le_of_ble_eq_true rfl) (ls := [(0, .ref (ad 193))]) rfl ?_
  intro p0 e s m args below meth c C
  have hR : (f_X7_balances M) = (nm (f_X7_balances_L4 fu M 0 0) (fun (z6 : Int64) => z6)) := rfl
  have hok : (ok_X7_balances_L4 fu M 0 0) := hok
  refine x_lconst (pc := 0) (v := 0) C dX7_balances_0 (by decide) ?_
  refine x_lstore_n (pc := 1) (i := 1) (ls2 := [(1, .long 0), (0, .ref (ad 193))]) C dX7_balances_1 rfl (by decide) rfl ?_
  refine x_iconst (pc := 2) (v := 0) C dX7_balances_2 (by decide) ?_
  refine x_istore_n (pc := 3) (i := 3) (ls2 := [(3, .int 0), (1, .long 0), (0, .ref (ad 193))]) C dX7_balances_3 rfl (by decide) rfl ?_
  refine x_sub [2, 1, 0] (ls2 := [(0, .ref (ad 193)), (1, .long 0), (3, .int 0)]) rfl ?_
  obtain ⟨z6, ez6⟩ : ∃ z : Int64, z = f_X7_balances_L4 fu M 0 0 := ⟨_, rfl⟩
  refine t_X7_balances_L4 C fu M 0 0 B O z6 ez6 hok ?_
  have hR := nmE hR ez6
  refine x_lload_n (pc := 30) (i := 1) C 0 dX7_balances_30 rfl rfl ?_
  exact x_lret (pc := 31) C rfl hR dX7_balances_31
set_option maxHeartbeats 4000000 in
set_option maxRecDepth 100000 in
theorem c_X7_senderOf {l : Launch} {A : Nat → Prop} {G : GT} {ad : Nat → Nat} (gl : Gl l A ad)  (B : StB) (M : StM) (O : StO) (x0 : Int32) (hok : ok_X7_senderOf M x0) : Met l yX7_senderOf (wof yX7_senderOf cX7_senderOf 2 (some .int)) (rmd 4 0 0) (va_Pc [.ref (ad 193), .int x0] (PW G A ad B M O)) (QI G A ad (f_X7_senderOf M x0).1 B (f_X7_senderOf M x0).2 O) 0 0 A := by
  refine x_body (own := RX7) (by decide +kernel) rfl gl (Nat.le_of_ble_eq_true rfl) (ls := [(0, .ref (ad 193)), (1, .int x0)]) rfl ?_
  intro p0 e s m args below meth c C
  have hR : (f_X7_senderOf M x0) = (nm (f_X7_asksTransfer M x0 1) (fun (z2 : Int32 × StM) => (z2.1, z2.2))) := rfl
  have hok : ((ok_X7_asksTransfer M x0 1)) := hok
  refine x_aload_n (pc := 0) (i := 0) C 0 dX7_senderOf_0 rfl rfl ?_
  refine x_iload_n (pc := 1) (i := 1) C 1 dX7_senderOf_1 rfl rfl ?_
  refine x_iconst (pc := 2) (v := 1) C dX7_senderOf_2 (by decide) ?_
  have h1 := hok
  refine x_cIV (pc := 3) (as := [.int x0, .int 1]) (q := 193) C (c_X7_asksTransfer C.2.2.2.2.2.2.2.1  B M O x0 1 h1) (fs := _) e_M rfl cv_X7_asksTransfer cd_X7_asksTransfer wd_8_57 ⟨Nat.le_of_ble_eq_true rfl, Nat.le_of_ble_eq_true rfl⟩ ⟨Nat.le_of_ble_eq_true rfl, Nat.le_of_ble_eq_true rfl⟩ rfl rfl (Nat.le_of_ble_eq_true rfl) dX7_senderOf_3 ?_
  refine x_nmIM (fun z2 ez2 => ?_)
  have hR := nmE hR ez2
  exact x_iretM (pc := 6) C rfl hR dX7_senderOf_6
set_option maxHeartbeats 4000000 in
set_option maxRecDepth 100000 in
theorem c_X7_receiverOf {l : Launch} {A : Nat → Prop} {G : GT} {ad : Nat → Nat} (gl : Gl l A ad)  (B : StB) (M : StM) (O : StO) (x0 : Int32) (hok : ok_X7_receiverOf M x0) : Met l yX7_receiverOf (wof yX7_receiverOf cX7_receiverOf 2 (some .int)) (rmd 4 0 0) (va_Pc [.ref (ad 193), .int x0] (PW G A ad B M O)) (QI G A ad (f_X7_receiverOf M x0).1 B (f_X7_receiverOf M x0).2 O) 0 0 A := by
  refine x_body (own := RX7) (by decide +kernel) rfl gl (Nat.le_of_ble_eq_true rfl) (ls := [(0, .ref (ad 193)), (1, .int x0)]) rfl ?_
  intro p0 e s m args below meth c C
  have hR : (f_X7_receiverOf M x0) = (nm (f_X7_asksTransfer M x0 2) (fun (z2 : Int32 × StM) => (z2.1, z2.2))) := rfl
  have hok : ((ok_X7_asksTransfer M x0 2)) := hok
  refine x_aload_n (pc := 0) (i := 0) C 0 dX7_receiverOf_0 rfl rfl ?_
  refine x_iload_n (pc := 1) (i := 1) C 1 dX7_receiverOf_1 rfl rfl ?_
  refine x_iconst (pc := 2) (v := 2) C dX7_receiverOf_2 (by decide) ?_
  have h1 := hok
  refine x_cIV (pc := 3) (as := [.int x0, .int 2]) (q := 193) C (c_X7_asksTransfer C.2.2.2.2.2.2.2.1  B M O x0 2 h1) (fs := _) e_M rfl cv_X7_asksTransfer cd_X7_asksTransfer wd_8_57 ⟨Nat.le_of_ble_eq_true rfl, Nat.le_of_ble_eq_true rfl⟩ ⟨Nat.le_of_ble_eq_true rfl, Nat.le_of_ble_eq_true rfl⟩ rfl rfl (Nat.le_of_ble_eq_true rfl) dX7_receiverOf_3 ?_
  refine x_nmIM (fun z2 ez2 => ?_)
  have hR := nmE hR ez2
  exact x_iretM (pc := 6) C rfl hR dX7_receiverOf_6
set_option maxHeartbeats 4000000 in
set_option maxRecDepth 100000 in
theorem c_X7_amountOf {l : Launch} {A : Nat → Prop} {G : GT} {ad : Nat → Nat} (gl : Gl l A ad)  (B : StB) (M : StM) (O : StO) (x0 : Int32) (hok : ok_X7_amountOf M x0) : Met l yX7_amountOf (wof yX7_amountOf cX7_amountOf 2 (some .int)) (rmd 4 0 0) (va_Pc [.ref (ad 193), .int x0] (PW G A ad B M O)) (QI G A ad (f_X7_amountOf M x0).1 B (f_X7_amountOf M x0).2 O) 0 0 A := by
  refine x_body (own := RX7) (by decide +kernel) rfl gl (Nat.le_of_ble_eq_true rfl) (ls := [(0, .ref (ad 193)), (1, .int x0)]) rfl ?_
  intro p0 e s m args below meth c C
  have hR : (f_X7_amountOf M x0) = (nm (f_X7_asksTransfer M x0 3) (fun (z2 : Int32 × StM) => (z2.1, z2.2))) := rfl
  have hok : ((ok_X7_asksTransfer M x0 3)) := hok
  refine x_aload_n (pc := 0) (i := 0) C 0 dX7_amountOf_0 rfl rfl ?_
  refine x_iload_n (pc := 1) (i := 1) C 1 dX7_amountOf_1 rfl rfl ?_
  refine x_iconst (pc := 2) (v := 3) C dX7_amountOf_2 (by decide) ?_
  have h1 := hok
  refine x_cIV (pc := 3) (as := [.int x0, .int 3]) (q := 193) C (c_X7_asksTransfer C.2.2.2.2.2.2.2.1  B M O x0 3 h1) (fs := _) e_M rfl cv_X7_asksTransfer cd_X7_asksTransfer wd_8_57 ⟨Nat.le_of_ble_eq_true rfl, Nat.le_of_ble_eq_true rfl⟩ ⟨Nat.le_of_ble_eq_true rfl, Nat.le_of_ble_eq_true rfl⟩ rfl rfl (Nat.le_of_ble_eq_true rfl) dX7_amountOf_3 ?_
  refine x_nmIM (fun z2 ez2 => ?_)
  have hR := nmE hR ez2
  exact x_iretM (pc := 6) C rfl hR dX7_amountOf_6
set_option maxHeartbeats 4000000 in
set_option maxRecDepth 100000 in
theorem c_X7_daysUntilDue {l : Launch} {A : Nat → Prop} {G : GT} {ad : Nat → Nat} (gl : Gl l A ad)  (B : StB) (M : StM) (O : StO) (x0 : Int32) (hok : ok_X7_daysUntilDue M x0) : Met l yX7_daysUntilDue (wof yX7_daysUntilDue cX7_daysUntilDue 3 (some .int)) (rmd 4 0 0) (va_Pc [.ref (ad 193), .int x0] (PW G A ad B M O)) (QI G A ad (f_X7_daysUntilDue M x0).1 B (f_X7_daysUntilDue M x0).2 O) 0 0 A := by
  refine x_body (own := RX7) (by decide +kernel) rfl gl (Nat.le_of_ble_eq_true rfl) (ls := [(0, .ref (ad 193)), (1, .int x0)]) rfl ?_
  intro p0 e s m args below meth c C
  have hR : (f_X7_daysUntilDue M x0) = (nm (f_X7_asksTransfer M x0 4) (fun (z2 : Int32 × StM) => (if (mi z2.2 15) = 0 then ((z2.1 - (ma z2.2 0 (ix 0))), z2.2) else (0, z2.2)))) := rfl
  have hok : ((ok_X7_asksTransfer M x0 4)) := hok
  refine x_aload_n (pc := 0) (i := 0) C 0 dX7_daysUntilDue_0 rfl rfl ?_
  refine x_iload_n (pc := 1) (i := 1) C 1 dX7_daysUntilDue_1 rfl rfl ?_
  refine x_iconst (pc := 2) (v := 4) C dX7_daysUntilDue_2 (by decide) ?_
  have h1 := hok
  refine x_cIV (pc := 3) (as := [.int x0, .int 4]) (q := 193) C (c_X7_asksTransfer C.2.2.2.2.2.2.2.1  B M O x0 4 h1) (fs := _) e_M rfl cv_X7_asksTransfer cd_X7_asksTransfer wd_8_57 ⟨Nat.le_of_ble_eq_true rfl, Nat.le_of_ble_eq_true rfl⟩ ⟨Nat.le_of_ble_eq_true rfl, Nat.le_of_ble_eq_true rfl⟩ rfl rfl (Nat.le_of_ble_eq_true rfl) dX7_daysUntilDue_3 ?_
  refine x_nmIM (fun z2 ez2 => ?_)
  have hR := nmE hR ez2
  refine x_istore_n (pc := 6) (i := 2) (ls2 := [(2, .int z2.1), (0, .ref (ad 193)), (1, .int x0)]) C dX7_daysUntilDue_6 rfl (by decide) rfl ?_
  refine x_aload_n (pc := 7) (i := 0) C 1 dX7_daysUntilDue_7 rfl rfl ?_
  refine x_get (pc := 8) (q := 193) (i := 15) C e_M rfl ttX7 (by decide) wd_7_2 rfl dX7_daysUntilDue_8 ?_
  refine x_if_ne (pc := 11) (tgt := 25) C dX7_daysUntilDue_11 (by decide) (fun c3 => ?_) (fun c3 => ?_)
  · have hR := hR.trans (if_neg c3)
    refine x_iconst (pc := 25) (v := 0) C dX7_daysUntilDue_25 (by decide) ?_
    exact x_iretM (pc := 26) C rfl hR dX7_daysUntilDue_26
  · have hR := hR.trans (if_pos c3)
    refine x_iload_n (pc := 14) (i := 2) C 0 dX7_daysUntilDue_14 rfl rfl ?_
    refine x_aload_n (pc := 15) (i := 0) C 1 dX7_daysUntilDue_15 rfl rfl ?_
    refine x_get (pc := 16) (q := 193) (i := 0) C e_M rfl ttX7 (by decide) wd_6_227 rfl dX7_daysUntilDue_16 ?_
    refine x_iconst (pc := 19) (v := 0) C dX7_daysUntilDue_19 (by decide) ?_
    have h4 : vp_in (0) 124 := (by decide : ¬ ((0 : Int32) < 0 ∨ 124 ≤ Int32.toNatClampNeg 0))
    refine x_iald (pc := 20) (q := 194) C e_M0 h4 dX7_daysUntilDue_20 ?_
    refine x_isub (pc := 21) C dX7_daysUntilDue_21 ?_
    refine x_goto (pc := 22) (tgt := 26) C dX7_daysUntilDue_22 (by decide) ?_
    exact x_iretM (pc := 26) C rfl hR dX7_daysUntilDue_26
set_option maxHeartbeats 4000000 in
set_option maxRecDepth 100000 in
theorem c_X7_netOf {l : Launch} {A : Nat → Prop} {G : GT} {ad : Nat → Nat} (gl : Gl l A ad)  (B : StB) (M : StM) (O : StO) (x0 : Int32) (hok : ok_X7_netOf M x0) : Met l yX7_netOf (wof yX7_netOf cX7_netOf 2 (some .int)) (rmd 4 0 0) (va_Pc [.ref (ad 193), .int x0] (PW G A ad B M O)) (QI G A ad (f_X7_netOf M x0).1 B (f_X7_netOf M x0).2 O) 0 0 A := by
  refine x_body (own := RX7) (by decide +kernel) rfl gl (Nat.le_of_ble_eq_true rfl) (ls := [(0, .ref (ad 193)), (1, .int x0)]) rfl ?_
  intro p0 e s m args below meth c C
  have hR : (f_X7_netOf M x0) = (nm (f_X7_net M x0) (fun (z2 : Int32 × StM) => (z2.1, z2.2))) := rfl
  have hok : ((ok_X7_net M x0)) := hok
  refine x_aload_n (pc := 0) (i := 0) C 0 dX7_netOf_0 rfl rfl ?_
  refine x_iload_n (pc := 1) (i := 1) C 1 dX7_netOf_1 rfl rfl ?_
  have h1 := hok
  refine x_cIV (pc := 2) (as := [.int x0]) (q := 193) C (c_X7_net C.2.2.2.2.2.2.2.1  B M O x0 h1) (fs := _) e_M rfl cv_X7_net cd_X7_net wd_8_85 ⟨Nat.le_of_ble_eq_true rfl, Nat.le_of_ble_eq_true rfl⟩ ⟨Nat.le_of_ble_eq_true rfl, Nat.le_of_ble_eq_true rfl⟩ rfl rfl (Nat.le_of_ble_eq_true rfl) dX7_netOf_2 ?_
  refine x_nmIM (fun z2 ez2 => ?_)
  have hR := nmE hR ez2
  exact x_iretM (pc := 5) C rfl hR dX7_netOf_5
set_option maxHeartbeats 4000000 in
set_option maxRecDepth 100000 in
theorem c_X7_netByTable {l : Launch} {A : Nat → Prop} {G : GT} {ad : Nat → Nat} (gl : Gl l A ad)  (B : StB) (M : StM) (O : StO) (x0 : Int32) (hok : ok_X7_netByTable M x0) : Met l yX7_netByTable (wof yX7_netByTable cX7_netByTable 2 (some .int)) (rmd 4 0 0) (va_Pc [.ref (ad 193), .int x0] (PW G A ad B M O)) (QI G A ad (f_X7_netByTable M x0).1 B (f_X7_netByTable M x0).2 O) 0 0 A := by
  refine x_body (own := RX7) (by decide +kernel) rfl gl (Nat.le_of_ble_eq_true rfl) (ls := [(0, .ref (ad 193)), (1, .int x0)]) rfl ?_
  intro p0 e s m args below meth c C
  have hR : (f_X7_netByTable M x0) = (nm (f_X7_net M x0) (fun (z2 : Int32 × StM) => (z2.1, z2.2))) := rfl
  have hok : ((ok_X7_net M x0)) := hok
  refine x_aload_n (pc := 0) (i := 0) C 0 dX7_netByTable_0 rfl rfl ?_
  refine x_iload_n (pc := 1) (i := 1) C 1 dX7_netByTable_1 rfl rfl ?_
  have h1 := hok
  refine x_cIV (pc := 2) (as := [.int x0]) (q := 193) C (c_X7_net C.2.2.2.2.2.2.2.1  B M O x0 h1) (fs := _) e_M rfl cv_X7_net cd_X7_net wd_8_85 ⟨Nat.le_of_ble_eq_true rfl, Nat.le_of_ble_eq_true rfl⟩ ⟨Nat.le_of_ble_eq_true rfl, Nat.le_of_ble_eq_true rfl⟩ rfl rfl (Nat.le_of_ble_eq_true rfl) dX7_netByTable_2 ?_
  refine x_nmIM (fun z2 ez2 => ?_)
  have hR := nmE hR ez2
  exact x_iretM (pc := 5) C rfl hR dX7_netByTable_5
set_option maxHeartbeats 4000000 in
set_option maxRecDepth 100000 in
theorem c_X7_movementKind {l : Launch} {A : Nat → Prop} {G : GT} {ad : Nat → Nat} (gl : Gl l A ad)  (B : StB) (M : StM) (O : StO) (x0 : Int32) (hok : ok_X7_movementKind M x0) : Met l yX7_movementKind (wof yX7_movementKind cX7_movementKind 2 (some .char)) (rmd 4 0 0) (va_Pc [.ref (ad 193), .int x0] (PW G A ad B M O)) (QI G A ad (f_X7_movementKind M x0).1 B (f_X7_movementKind M x0).2 O) 0 0 A := by
  refine x_body (own := RX7) (by decide +kernel) rfl gl (Nat.le_of_ble_eq_true rfl) (ls := [(0, .ref (ad 193)), (1, .int x0)]) rfl ?_
  intro p0 e s m args below meth c C
  have hR : (f_X7_movementKind M x0) = (nm (f_X7_written M x0 0) (fun (z2 : Int32 × StM) => ((Int32.toUInt32 z2.1 % 65536).toInt32, z2.2))) := rfl
  have hok : ((ok_X7_written M x0 0) ∧ (∀ z2 : Int32 × StM, z2 = (f_X7_written M x0 0) → (narrow .char (.int ((Int32.toUInt32 z2.1 % 65536).toInt32)) = .int ((Int32.toUInt32 z2.1 % 65536).toInt32)))) := hok
  refine x_aload_n (pc := 0) (i := 0) C 0 dX7_movementKind_0 rfl rfl ?_
  refine x_iload_n (pc := 1) (i := 1) C 1 dX7_movementKind_1 rfl rfl ?_
  refine x_iconst (pc := 2) (v := 0) C dX7_movementKind_2 (by decide) ?_
  have h1 := hok.1
  have hok := hok.2
  refine x_cIV (pc := 3) (as := [.int x0, .int 0]) (q := 193) C (c_X7_written C.2.2.2.2.2.2.2.1  B M O x0 0 h1) (fs := _) e_M rfl cv_X7_written cd_X7_written wd_8_105 ⟨Nat.le_of_ble_eq_true rfl, Nat.le_of_ble_eq_true rfl⟩ ⟨Nat.le_of_ble_eq_true rfl, Nat.le_of_ble_eq_true rfl⟩ rfl rfl (Nat.le_of_ble_eq_true rfl) dX7_movementKind_3 ?_
  refine x_nmIM (fun z2 ez2 => ?_)
  have hR := nmE hR ez2
  have hok := hok z2 ez2
  refine x_i2c (pc := 6) C dX7_movementKind_6 ?_
  have h3 := hok
  exact x_zretM (pc := 7) C rfl h3 hR dX7_movementKind_7
set_option maxHeartbeats 4000000 in
set_option maxRecDepth 100000 in
theorem c_X7_movementAmount {l : Launch} {A : Nat → Prop} {G : GT} {ad : Nat → Nat} (gl : Gl l A ad)  (B : StB) (M : StM) (O : StO) (x0 : Int32) (hok : ok_X7_movementAmount M x0) : Met l yX7_movementAmount (wof yX7_movementAmount cX7_movementAmount 2 (some .int)) (rmd 4 0 0) (va_Pc [.ref (ad 193), .int x0] (PW G A ad B M O)) (QI G A ad (f_X7_movementAmount M x0).1 B (f_X7_movementAmount M x0).2 O) 0 0 A := by
  refine x_body (own := RX7) (by decide +kernel) rfl gl (Nat.le_of_ble_eq_true rfl) (ls := [(0, .ref (ad 193)), (1, .int x0)]) rfl ?_
  intro p0 e s m args below meth c C
  have hR : (f_X7_movementAmount M x0) = (nm (f_X7_written M x0 1) (fun (z2 : Int32 × StM) => (z2.1, z2.2))) := rfl
  have hok : ((ok_X7_written M x0 1)) := hok
  refine x_aload_n (pc := 0) (i := 0) C 0 dX7_movementAmount_0 rfl rfl ?_
  refine x_iload_n (pc := 1) (i := 1) C 1 dX7_movementAmount_1 rfl rfl ?_
  refine x_iconst (pc := 2) (v := 1) C dX7_movementAmount_2 (by decide) ?_
  have h1 := hok
  refine x_cIV (pc := 3) (as := [.int x0, .int 1]) (q := 193) C (c_X7_written C.2.2.2.2.2.2.2.1  B M O x0 1 h1) (fs := _) e_M rfl cv_X7_written cd_X7_written wd_8_105 ⟨Nat.le_of_ble_eq_true rfl, Nat.le_of_ble_eq_true rfl⟩ ⟨Nat.le_of_ble_eq_true rfl, Nat.le_of_ble_eq_true rfl⟩ rfl rfl (Nat.le_of_ble_eq_true rfl) dX7_movementAmount_3 ?_
  refine x_nmIM (fun z2 ez2 => ?_)
  have hR := nmE hR ez2
  exact x_iretM (pc := 6) C rfl hR dX7_movementAmount_6
set_option maxHeartbeats 4000000 in
set_option maxRecDepth 100000 in
theorem c_X7_movementAccount {l : Launch} {A : Nat → Prop} {G : GT} {ad : Nat → Nat} (gl : Gl l A ad)  (B : StB) (M : StM) (O : StO) (x0 : Int32) (hok : ok_X7_movementAccount M x0) : Met l yX7_movementAccount (wof yX7_movementAccount cX7_movementAccount 2 (some .int)) (rmd 4 0 0) (va_Pc [.ref (ad 193), .int x0] (PW G A ad B M O)) (QI G A ad (f_X7_movementAccount M x0).1 B (f_X7_movementAccount M x0).2 O) 0 0 A := by
  refine x_body (own := RX7) (by decide +kernel) rfl gl (Nat.le_of_ble_eq_true rfl) (ls := [(0, .ref (ad 193)), (1, .int x0)]) rfl ?_
  intro p0 e s m args below meth c C
  have hR : (f_X7_movementAccount M x0) = (nm (f_X7_written M x0 2) (fun (z2 : Int32 × StM) => (z2.1, z2.2))) := rfl
  have hok : ((ok_X7_written M x0 2)) := hok
  refine x_aload_n (pc := 0) (i := 0) C 0 dX7_movementAccount_0 rfl rfl ?_
  refine x_iload_n (pc := 1) (i := 1) C 1 dX7_movementAccount_1 rfl rfl ?_
  refine x_iconst (pc := 2) (v := 2) C dX7_movementAccount_2 (by decide) ?_
  have h1 := hok
  refine x_cIV (pc := 3) (as := [.int x0, .int 2]) (q := 193) C (c_X7_written C.2.2.2.2.2.2.2.1  B M O x0 2 h1) (fs := _) e_M rfl cv_X7_written cd_X7_written wd_8_105 ⟨Nat.le_of_ble_eq_true rfl, Nat.le_of_ble_eq_true rfl⟩ ⟨Nat.le_of_ble_eq_true rfl, Nat.le_of_ble_eq_true rfl⟩ rfl rfl (Nat.le_of_ble_eq_true rfl) dX7_movementAccount_3 ?_
  refine x_nmIM (fun z2 ez2 => ?_)
  have hR := nmE hR ez2
  exact x_iretM (pc := 6) C rfl hR dX7_movementAccount_6
set_option maxHeartbeats 4000000 in
set_option maxRecDepth 100000 in
theorem c_X7_writeStatement {l : Launch} {A : Nat → Prop} {G : GT} {ad : Nat → Nat} (gl : Gl l A ad)  (B : StB) (M : StM) (O : StO) (x0 : Int32) (hok : ok_X7_writeStatement M x0) : Met l yX7_writeStatement (wof yX7_writeStatement cX7_writeStatement 3 (some .int)) (rmd 4 0 0) (va_Pc [.ref (ad 193), .int x0] (PW G A ad B M O)) (QI G A ad (f_X7_writeStatement M x0).1 B (f_X7_writeStatement M x0).2 O) 0 0 A := by
  refine x_body (own := RX7) (by decide +kernel) rfl gl (Nat.le_of_ble_eq_true rfl) (ls := [(0, .ref (ad 193)), (1, .int x0)]) rfl ?_
  intro p0 e s m args below meth c C
  have hR : (f_X7_writeStatement M x0) = (nm (f_X7_isAccount M x0) (fun (r2 : Int32) => (nm (f_X7_goes M r2) (fun (z4 : Int32 × StM) => (if z4.1 = 0 then (0, z4.2) else (nm (f_X7_of z4.2 x0 0) (fun (r7 : Int32) => (nm (f_X7_letterFor r7) (fun (r8 : Int32) => (nm (f_X7_put z4.2 0 r8) (fun (z10 : Int32 × StM) => (nm (f_X7_writesNumber z10.2 z10.1 x0) (fun (z12 : Int32 × StM) => (nm (f_X7_put z12.2 z12.1 58) (fun (z14 : Int32 × StM) => (nm (f_X7_of z14.2 x0 1) (fun (r16 : Int32) => (nm (f_X7_writesNumber z14.2 z14.1 r16) (fun (z18 : Int32 × StM) => (nm (f_X7_put z18.2 z18.1 47) (fun (z20 : Int32 × StM) => (nm (f_X7_of z20.2 x0 2) (fun (r22 : Int32) => (nm (f_X7_writesNumber z20.2 z20.1 r22) (fun (z24 : Int32 × StM) => (nm (f_X7_of z24.2 x0 3) (fun (r26 : Int32) => (if r26 = 1 then (nm (f_X7_put z24.2 z24.1 42) (fun (z30 : Int32 × StM) => (nm (smi z30.2 14 z30.1) (fun (M31 : StM) => ((mi M31 14), M31))))) else (nm (smi z24.2 14 z24.1) (fun (M28 : StM) => ((mi M28 14), M28))))))))))))))))))))))))))))))) := rfl
  have hok : ((ok_X7_isAccount M x0) ∧ (∀ r2 : Int32, r2 = (f_X7_isAccount M x0) → ((ok_X7_goes M r2) ∧ (∀ z4 : Int32 × StM, z4 = (f_X7_goes M r2) → ((z4.1 = 0 → True) ∧ (¬ z4.1 = 0 → ((ok_X7_of z4.2 x0 0) ∧ (∀ r7 : Int32, r7 = (f_X7_of z4.2 x0 0) → (∀ r8 : Int32, r8 = (f_X7_letterFor r7) → ((ok_X7_put z4.2 0 r8) ∧ (∀ z10 : Int32 × StM, z10 = (f_X7_put z4.2 0 r8) → ((ok_X7_writesNumber z10.2 z10.1 x0) ∧ (∀ z12 : Int32 × StM, z12 = (f_X7_writesNumber z10.2 z10.1 x0) → ((ok_X7_put z12.2 z12.1 58) ∧ (∀ z14 : Int32 × StM, z14 = (f_X7_put z12.2 z12.1 58) → ((ok_X7_of z14.2 x0 1) ∧ (∀ r16 : Int32, r16 = (f_X7_of z14.2 x0 1) → ((ok_X7_writesNumber z14.2 z14.1 r16) ∧ (∀ z18 : Int32 × StM, z18 = (f_X7_writesNumber z14.2 z14.1 r16) → ((ok_X7_put z18.2 z18.1 47) ∧ (∀ z20 : Int32 × StM, z20 = (f_X7_put z18.2 z18.1 47) → ((ok_X7_of z20.2 x0 2) ∧ (∀ r22 : Int32, r22 = (f_X7_of z20.2 x0 2) → ((ok_X7_writesNumber z20.2 z20.1 r22) ∧ (∀ z24 : Int32 × StM, z24 = (f_X7_writesNumber z20.2 z20.1 r22) → ((ok_X7_of z24.2 x0 3) ∧ (∀ r26 : Int32, r26 = (f_X7_of z24.2 x0 3) → ((r26 = 1 → ((ok_X7_put z24.2 z24.1 42))) ∧ (¬ r26 = 1 → True))))))))))))))))))))))))))))) := hok
  refine x_aload_n (pc := 0) (i := 0) C 0 dX7_writeStatement_0 rfl rfl ?_
  refine x_aload_n (pc := 1) (i := 0) C 0 dX7_writeStatement_1 rfl rfl ?_
  refine x_iload_n (pc := 2) (i := 1) C 1 dX7_writeStatement_2 rfl rfl ?_
  have h1 := hok.1
  have hok := hok.2
  refine x_cIV (pc := 3) (as := [.int x0]) (q := 193) C (c_X7_isAccount C.2.2.2.2.2.2.2.1  B M O x0 h1) (fs := _) e_M rfl cv_X7_isAccount cd_X7_isAccount wd_7_115 ⟨Nat.le_of_ble_eq_true rfl, Nat.le_of_ble_eq_true rfl⟩ ⟨Nat.le_of_ble_eq_true rfl, Nat.le_of_ble_eq_true rfl⟩ rfl rfl (Nat.le_of_ble_eq_true rfl) dX7_writeStatement_3 ?_
  refine x_nmI (fun r2 er2 => ?_)
  have hR := nmE hR er2
  have hok := hok r2 er2
  have h3 := hok.1
  have hok := hok.2
  refine x_cIV (pc := 6) (as := [.int r2]) (q := 193) C (c_X7_goes C.2.2.2.2.2.2.2.1  B M O r2 h3) (fs := _) e_M rfl cv_X7_goes cd_X7_goes wd_7_59 ⟨Nat.le_of_ble_eq_true rfl, Nat.le_of_ble_eq_true rfl⟩ ⟨Nat.le_of_ble_eq_true rfl, Nat.le_of_ble_eq_true rfl⟩ rfl rfl (Nat.le_of_ble_eq_true rfl) dX7_writeStatement_6 ?_
  refine x_nmIM (fun z4 ez4 => ?_)
  have hR := nmE hR ez4
  have hok := hok z4 ez4
  refine x_if_ne (pc := 9) (tgt := 14) C dX7_writeStatement_9 (by decide) (fun c5 => ?_) (fun c5 => ?_)
  · have hR := hR.trans (if_neg c5)
    have hok := hok.2 c5
    refine x_aload_n (pc := 14) (i := 0) C 0 dX7_writeStatement_14 rfl rfl ?_
    refine x_aload_n (pc := 15) (i := 0) C 0 dX7_writeStatement_15 rfl rfl ?_
    refine x_aload_n (pc := 16) (i := 0) C 0 dX7_writeStatement_16 rfl rfl ?_
    refine x_iconst (pc := 17) (v := 0) C dX7_writeStatement_17 (by decide) ?_
    refine x_aload_n (pc := 18) (i := 0) C 0 dX7_writeStatement_18 rfl rfl ?_
    refine x_iload_n (pc := 19) (i := 1) C 1 dX7_writeStatement_19 rfl rfl ?_
    refine x_iconst (pc := 20) (v := 0) C dX7_writeStatement_20 (by decide) ?_
    have h6 := hok.1
    have hok := hok.2
    refine x_cIV (pc := 21) (as := [.int x0, .int 0]) (q := 193) C (c_X7_of C.2.2.2.2.2.2.2.1  B z4.2 O x0 0 h6) (fs := _) e_M rfl cv_X7_of cd_X7_of wd_7_119 ⟨Nat.le_of_ble_eq_true rfl, Nat.le_of_ble_eq_true rfl⟩ ⟨Nat.le_of_ble_eq_true rfl, Nat.le_of_ble_eq_true rfl⟩ rfl rfl (Nat.le_of_ble_eq_true rfl) dX7_writeStatement_21 ?_
    refine x_nmI (fun r7 er7 => ?_)
    have hR := nmE hR er7
    have hok := hok r7 er7
    refine x_cIS (pc := 24) (as := [.int r7]) C (c_X7_letterFor C.2.2.2.2.2.2.2.1  B z4.2 O r7) wd_8_122 cd_X7_letterFor wd_8_121 ⟨Nat.le_of_ble_eq_true rfl, Nat.le_of_ble_eq_true rfl⟩ ⟨Nat.le_of_ble_eq_true rfl, Nat.le_of_ble_eq_true rfl⟩ rfl rfl (Nat.le_of_ble_eq_true rfl) dX7_writeStatement_24 ?_
    refine x_nmI (fun r8 er8 => ?_)
    have hR := nmE hR er8
    have hok := hok r8 er8
    have h9 := hok.1
    have hok := hok.2
    refine x_cIV (pc := 27) (as := [.int 0, .int r8]) (q := 193) C (c_X7_put C.2.2.2.2.2.2.2.1  B z4.2 O 0 r8 h9) (fs := _) e_M rfl cv_X7_put cd_X7_put wd_8_124 ⟨Nat.le_of_ble_eq_true rfl, Nat.le_of_ble_eq_true rfl⟩ ⟨Nat.le_of_ble_eq_true rfl, Nat.le_of_ble_eq_true rfl⟩ rfl rfl (Nat.le_of_ble_eq_true rfl) dX7_writeStatement_27 ?_
    refine x_nmIM (fun z10 ez10 => ?_)
    have hR := nmE hR ez10
    have hok := hok z10 ez10
    refine x_iload_n (pc := 30) (i := 1) C 1 dX7_writeStatement_30 rfl rfl ?_
    have h11 := hok.1
    have hok := hok.2
    refine x_cIV (pc := 31) (as := [.int z10.1, .int x0]) (q := 193) C (c_X7_writesNumber C.2.2.2.2.2.2.2.1  B z10.2 O z10.1 x0 h11) (fs := _) e_M rfl cv_X7_writesNumber cd_X7_writesNumber wd_8_128 ⟨Nat.le_of_ble_eq_true rfl, Nat.le_of_ble_eq_true rfl⟩ ⟨Nat.le_of_ble_eq_true rfl, Nat.le_of_ble_eq_true rfl⟩ rfl rfl (Nat.le_of_ble_eq_true rfl) dX7_writeStatement_31 ?_
    refine x_nmIM (fun z12 ez12 => ?_)
    have hR := nmE hR ez12
    have hok := hok z12 ez12
    refine x_bipush (pc := 34) (v := 58) C dX7_writeStatement_34 (by decide) ?_
    have h13 := hok.1
    have hok := hok.2
    refine x_cIV (pc := 36) (as := [.int z12.1, .int 58]) (q := 193) C (c_X7_put C.2.2.2.2.2.2.2.1  B z12.2 O z12.1 58 h13) (fs := _) e_M rfl cv_X7_put cd_X7_put wd_8_124 ⟨Nat.le_of_ble_eq_true rfl, Nat.le_of_ble_eq_true rfl⟩ ⟨Nat.le_of_ble_eq_true rfl, Nat.le_of_ble_eq_true rfl⟩ rfl rfl (Nat.le_of_ble_eq_true rfl) dX7_writeStatement_36 ?_
    refine x_nmIM (fun z14 ez14 => ?_)
    have hR := nmE hR ez14
    have hok := hok z14 ez14
    refine x_istore_n (pc := 39) (i := 2) (ls2 := [(2, .int z14.1), (0, .ref (ad 193)), (1, .int x0)]) C dX7_writeStatement_39 rfl (by decide) rfl ?_
    refine x_aload_n (pc := 40) (i := 0) C 1 dX7_writeStatement_40 rfl rfl ?_
    refine x_aload_n (pc := 41) (i := 0) C 1 dX7_writeStatement_41 rfl rfl ?_
    refine x_iload_n (pc := 42) (i := 2) C 0 dX7_writeStatement_42 rfl rfl ?_
    refine x_aload_n (pc := 43) (i := 0) C 1 dX7_writeStatement_43 rfl rfl ?_
    refine x_iload_n (pc := 44) (i := 1) C 2 dX7_writeStatement_44 rfl rfl ?_
    refine x_iconst (pc := 45) (v := 1) C dX7_writeStatement_45 (by decide) ?_
    have h15 := hok.1
    have hok := hok.2
    refine x_cIV (pc := 46) (as := [.int x0, .int 1]) (q := 193) C (c_X7_of C.2.2.2.2.2.2.2.1  B z14.2 O x0 1 h15) (fs := _) e_M rfl cv_X7_of cd_X7_of wd_7_119 ⟨Nat.le_of_ble_eq_true rfl, Nat.le_of_ble_eq_true rfl⟩ ⟨Nat.le_of_ble_eq_true rfl, Nat.le_of_ble_eq_true rfl⟩ rfl rfl (Nat.le_of_ble_eq_true rfl) dX7_writeStatement_46 ?_
    refine x_nmI (fun r16 er16 => ?_)
    have hR := nmE hR er16
    have hok := hok r16 er16
    have h17 := hok.1
    have hok := hok.2
    refine x_cIV (pc := 49) (as := [.int z14.1, .int r16]) (q := 193) C (c_X7_writesNumber C.2.2.2.2.2.2.2.1  B z14.2 O z14.1 r16 h17) (fs := _) e_M rfl cv_X7_writesNumber cd_X7_writesNumber wd_8_128 ⟨Nat.le_of_ble_eq_true rfl, Nat.le_of_ble_eq_true rfl⟩ ⟨Nat.le_of_ble_eq_true rfl, Nat.le_of_ble_eq_true rfl⟩ rfl rfl (Nat.le_of_ble_eq_true rfl) dX7_writeStatement_49 ?_
    refine x_nmIM (fun z18 ez18 => ?_)
    have hR := nmE hR ez18
    have hok := hok z18 ez18
    refine x_bipush (pc := 52) (v := 47) C dX7_writeStatement_52 (by decide) ?_
    have h19 := hok.1
    have hok := hok.2
    refine x_cIV (pc := 54) (as := [.int z18.1, .int 47]) (q := 193) C (c_X7_put C.2.2.2.2.2.2.2.1  B z18.2 O z18.1 47 h19) (fs := _) e_M rfl cv_X7_put cd_X7_put wd_8_124 ⟨Nat.le_of_ble_eq_true rfl, Nat.le_of_ble_eq_true rfl⟩ ⟨Nat.le_of_ble_eq_true rfl, Nat.le_of_ble_eq_true rfl⟩ rfl rfl (Nat.le_of_ble_eq_true rfl) dX7_writeStatement_54 ?_
    refine x_nmIM (fun z20 ez20 => ?_)
    have hR := nmE hR ez20
    have hok := hok z20 ez20
    refine x_istore_n (pc := 57) (i := 2) (ls2 := [(2, .int z20.1), (0, .ref (ad 193)), (1, .int x0)]) C dX7_writeStatement_57 rfl (by decide) rfl ?_
    refine x_aload_n (pc := 58) (i := 0) C 1 dX7_writeStatement_58 rfl rfl ?_
    refine x_iload_n (pc := 59) (i := 2) C 0 dX7_writeStatement_59 rfl rfl ?_
    refine x_aload_n (pc := 60) (i := 0) C 1 dX7_writeStatement_60 rfl rfl ?_
    refine x_iload_n (pc := 61) (i := 1) C 2 dX7_writeStatement_61 rfl rfl ?_
    refine x_iconst (pc := 62) (v := 2) C dX7_writeStatement_62 (by decide) ?_
    have h21 := hok.1
    have hok := hok.2
    refine x_cIV (pc := 63) (as := [.int x0, .int 2]) (q := 193) C (c_X7_of C.2.2.2.2.2.2.2.1  B z20.2 O x0 2 h21) (fs := _) e_M rfl cv_X7_of cd_X7_of wd_7_119 ⟨Nat.le_of_ble_eq_true rfl, Nat.le_of_ble_eq_true rfl⟩ ⟨Nat.le_of_ble_eq_true rfl, Nat.le_of_ble_eq_true rfl⟩ rfl rfl (Nat.le_of_ble_eq_true rfl) dX7_writeStatement_63 ?_
    refine x_nmI (fun r22 er22 => ?_)
    have hR := nmE hR er22
    have hok := hok r22 er22
    have h23 := hok.1
    have hok := hok.2
    refine x_cIV (pc := 66) (as := [.int z20.1, .int r22]) (q := 193) C (c_X7_writesNumber C.2.2.2.2.2.2.2.1  B z20.2 O z20.1 r22 h23) (fs := _) e_M rfl cv_X7_writesNumber cd_X7_writesNumber wd_8_128 ⟨Nat.le_of_ble_eq_true rfl, Nat.le_of_ble_eq_true rfl⟩ ⟨Nat.le_of_ble_eq_true rfl, Nat.le_of_ble_eq_true rfl⟩ rfl rfl (Nat.le_of_ble_eq_true rfl) dX7_writeStatement_66 ?_
    refine x_nmIM (fun z24 ez24 => ?_)
    have hR := nmE hR ez24
    have hok := hok z24 ez24
    refine x_istore_n (pc := 69) (i := 2) (ls2 := [(2, .int z24.1), (0, .ref (ad 193)), (1, .int x0)]) C dX7_writeStatement_69 rfl (by decide) rfl ?_
    refine x_aload_n (pc := 70) (i := 0) C 1 dX7_writeStatement_70 rfl rfl ?_
    refine x_aload_n (pc := 71) (i := 0) C 1 dX7_writeStatement_71 rfl rfl ?_
    refine x_iload_n (pc := 72) (i := 1) C 2 dX7_writeStatement_72 rfl rfl ?_
    refine x_iconst (pc := 73) (v := 3) C dX7_writeStatement_73 (by decide) ?_
    have h25 := hok.1
    have hok := hok.2
    refine x_cIV (pc := 74) (as := [.int x0, .int 3]) (q := 193) C (c_X7_of C.2.2.2.2.2.2.2.1  B z24.2 O x0 3 h25) (fs := _) e_M rfl cv_X7_of cd_X7_of wd_7_119 ⟨Nat.le_of_ble_eq_true rfl, Nat.le_of_ble_eq_true rfl⟩ ⟨Nat.le_of_ble_eq_true rfl, Nat.le_of_ble_eq_true rfl⟩ rfl rfl (Nat.le_of_ble_eq_true rfl) dX7_writeStatement_74 ?_
    refine x_nmI (fun r26 er26 => ?_)
    have hR := nmE hR er26
    have hok := hok r26 er26
    refine x_iconst (pc := 77) (v := 1) C dX7_writeStatement_77 (by decide) ?_
    refine x_icmp_ne (pc := 78) (tgt := 91) C dX7_writeStatement_78 (by decide) (fun c27 => ?_) (fun c27 => ?_)
    · have hR := hR.trans (if_neg c27)
      refine x_iload_n (pc := 91) (i := 2) C 0 dX7_writeStatement_91 rfl rfl ?_
      refine x_put (pc := 92) (M2 := (smi z24.2 14 z24.1)) (B2 := B) (O2 := O) (q := 193) (i := 14) C tyX7 tyX7_ok nmX7 e_M rfl ttX7 (by decide) wd_7_1 rfl rfl rfl (Nat.le_of_ble_eq_true rfl) dX7_writeStatement_92 (put_M_14 ) (o_smi 14 z24.1) ?_
      refine x_nmM (fun M28 eM28 => ?_)
      have hR := nmE hR eM28
      refine x_aload_n (pc := 95) (i := 0) C 1 dX7_writeStatement_95 rfl rfl ?_
      refine x_get (pc := 96) (q := 193) (i := 14) C e_M rfl ttX7 (by decide) wd_7_1 rfl dX7_writeStatement_96 ?_
      exact x_iretM (pc := 99) C rfl hR dX7_writeStatement_99
    · have hR := hR.trans (if_pos c27)
      have hok := hok.1 c27
      refine x_aload_n (pc := 81) (i := 0) C 1 dX7_writeStatement_81 rfl rfl ?_
      refine x_iload_n (pc := 82) (i := 2) C 0 dX7_writeStatement_82 rfl rfl ?_
      refine x_bipush (pc := 83) (v := 42) C dX7_writeStatement_83 (by decide) ?_
      have h29 := hok
      refine x_cIV (pc := 85) (as := [.int z24.1, .int 42]) (q := 193) C (c_X7_put C.2.2.2.2.2.2.2.1  B z24.2 O z24.1 42 h29) (fs := _) e_M rfl cv_X7_put cd_X7_put wd_8_124 ⟨Nat.le_of_ble_eq_true rfl, Nat.le_of_ble_eq_true rfl⟩ ⟨Nat.le_of_ble_eq_true rfl, Nat.le_of_ble_eq_true rfl⟩ rfl rfl (Nat.le_of_ble_eq_true rfl) dX7_writeStatement_85 ?_
      refine x_nmIM (fun z30 ez30 => ?_)
      have hR := nmE hR ez30
      refine x_goto (pc := 88) (tgt := 92) C dX7_writeStatement_88 (by decide) ?_
      refine x_put (pc := 92) (M2 := (smi z30.2 14 z30.1)) (B2 := B) (O2 := O) (q := 193) (i := 14) C tyX7 tyX7_ok nmX7 e_M rfl ttX7 (by decide) wd_7_1 rfl rfl rfl (Nat.le_of_ble_eq_true rfl) dX7_writeStatement_92 (put_M_14 ) (o_smi 14 z30.1) ?_
      refine x_nmM (fun M31 eM31 => ?_)
      have hR := nmE hR eM31
      refine x_aload_n (pc := 95) (i := 0) C 1 dX7_writeStatement_95 rfl rfl ?_
      refine x_get (pc := 96) (q := 193) (i := 14) C e_M rfl ttX7 (by decide) wd_7_1 rfl dX7_writeStatement_96 ?_
      exact x_iretM (pc := 99) C rfl hR dX7_writeStatement_99
  · have hR := hR.trans (if_pos c5)
    refine x_iconst (pc := 12) (v := 0) C dX7_writeStatement_12 (by decide) ?_
    exact x_iretM (pc := 13) C rfl hR dX7_writeStatement_13
set_option maxHeartbeats 4000000 in
set_option maxRecDepth 100000 in
theorem t_X7_number_L7 {p0 : Program} {l : Launch} {e : Env} {s : State} {m : MethodId} {args : Array Value} {below : List Frame} {meth : Method} {c : Code} {A : Nat → Prop} {G : GT} {ad : Nat → Nat} {Q : State → Prop} (C : CX p0 l s m args meth c A G ad cX7_number RX7 3 (some .int))  (n : Nat) (M : StM) (a1 : Int32) (a2 : Int32) (B : StB) (O : StO) : ∀ (R0 : Int32 × StM) (hR : R0 = f_X7_number_L7 n M a1 a2) (hok : ok_X7_number_L7 n M a1 a2) (k : X p0 l e (rmd 4 0 0) s m args below meth c A G ad 3 0 0 Q B R0.2 O [(1, .int R0.1)] 50 []), X p0 l e (rmd 4 0 0) s m args below meth c A G ad 3 0 0 Q B M O [(0, .ref (ad 193)), (1, .int a1), (2, .int a2)] 7 [] := by
  induction n generalizing M a1 a2 with
  | zero => intro R0 hR hok k; exact False.elim hok
  | succ n ih =>
    intro R0 hR hok k
    have hR : R0 = (if 3 ≤ a2 then (a1, M) else (if (mi M 18) = (-1) then (nm (f_X7_letterHere M) (fun (r6 : Int32) => (nm (f_X7_isIn r6 48 57) (fun (r7 : Int32) => (if r7 = 0 then (a1, M) else (nm (f_X7_digit M) (fun (z10 : Int32 × StM) => (nm ((10 * a1) + z10.1) (fun (v11 : Int32) => (f_X7_number_L7 n z10.2 v11 (a2 + 1))))))))))) else (a1, M))) := hR
    have hok : ((3 ≤ a2 → True) ∧ (¬ 3 ≤ a2 → (((mi M 18) = (-1) → ((ok_X7_letterHere M) ∧ (∀ r6 : Int32, r6 = (f_X7_letterHere M) → (∀ r7 : Int32, r7 = (f_X7_isIn r6 48 57) → ((r7 = 0 → True) ∧ (¬ r7 = 0 → ((ok_X7_digit M) ∧ (∀ z10 : Int32 × StM, z10 = (f_X7_digit M) → (∀ v11 : Int32, v11 = ((10 * a1) + z10.1) → (ok_X7_number_L7 n z10.2 v11 (a2 + 1))))))))))) ∧ (¬ (mi M 18) = (-1) → True)))) := hok
    refine x_iload_n (pc := 7) (i := 2) C 2 dX7_number_7 rfl rfl ?_
    refine x_iconst (pc := 8) (v := 3) C dX7_number_8 (by decide) ?_
    refine x_icmp_ge (pc := 9) (tgt := 50) C dX7_number_9 (by decide) (fun c3 => ?_) (fun c3 => ?_)
    · have hR := hR.trans (if_pos c3)
      refine x_sub [1] (ls2 := [(1, .int a1)]) rfl ?_
      subst hR
      exact k
    · have hR := hR.trans (if_neg c3)
      have hok := hok.2 c3
      refine x_aload_n (pc := 12) (i := 0) C 0 dX7_number_12 rfl rfl ?_
      refine x_get (pc := 13) (q := 193) (i := 18) C e_M rfl ttX7 (by decide) wd_7_5 rfl dX7_number_13 ?_
      refine x_iconst (pc := 16) (v := (-1)) C dX7_number_16 (by decide) ?_
      refine x_icmp_ne (pc := 17) (tgt := 50) C dX7_number_17 (by decide) (fun c4 => ?_) (fun c4 => ?_)
      · have hR := hR.trans (if_neg c4)
        refine x_sub [1] (ls2 := [(1, .int a1)]) rfl ?_
        subst hR
        exact k
      · have hR := hR.trans (if_pos c4)
        have hok := hok.1 c4
        refine x_aload_n (pc := 20) (i := 0) C 0 dX7_number_20 rfl rfl ?_
        have h5 := hok.1
        have hok := hok.2
        refine x_cIV (pc := 21) (as := []) (q := 193) C (c_X7_letterHere C.2.2.2.2.2.2.2.1  B M O  h5) (fs := _) e_M rfl cv_X7_letterHere cd_X7_letterHere wd_8_172 ⟨Nat.le_of_ble_eq_true rfl, Nat.le_of_ble_eq_true rfl⟩ ⟨Nat.le_of_ble_eq_true rfl, Nat.le_of_ble_eq_true rfl⟩ rfl rfl (Nat.le_of_ble_eq_true rfl) dX7_number_21 ?_
        refine x_nmI (fun r6 er6 => ?_)
        have hR := nmE hR er6
        have hok := hok r6 er6
        refine x_bipush (pc := 24) (v := 48) C dX7_number_24 (by decide) ?_
        refine x_bipush (pc := 26) (v := 57) C dX7_number_26 (by decide) ?_
        refine x_cIS (pc := 28) (as := [.int r6, .int 48, .int 57]) C (c_X7_isIn C.2.2.2.2.2.2.2.1  B M O r6 48 57) wd_7_91 cd_X7_isIn wd_7_90 ⟨Nat.le_of_ble_eq_true rfl, Nat.le_of_ble_eq_true rfl⟩ ⟨Nat.le_of_ble_eq_true rfl, Nat.le_of_ble_eq_true rfl⟩ rfl rfl (Nat.le_of_ble_eq_true rfl) dX7_number_28 ?_
        refine x_nmI (fun r7 er7 => ?_)
        have hR := nmE hR er7
        have hok := hok r7 er7
        refine x_if_eq (pc := 31) (tgt := 50) C dX7_number_31 (by decide) (fun c8 => ?_) (fun c8 => ?_)
        · have hR := hR.trans (if_pos c8)
          refine x_sub [1] (ls2 := [(1, .int a1)]) rfl ?_
          subst hR
          exact k
        · have hR := hR.trans (if_neg c8)
          have hok := hok.2 c8
          refine x_bipush (pc := 34) (v := 10) C dX7_number_34 (by decide) ?_
          refine x_iload_n (pc := 36) (i := 1) C 1 dX7_number_36 rfl rfl ?_
          refine x_imul (pc := 37) C dX7_number_37 ?_
          refine x_aload_n (pc := 38) (i := 0) C 0 dX7_number_38 rfl rfl ?_
          have h9 := hok.1
          have hok := hok.2
          refine x_cIV (pc := 39) (as := []) (q := 193) C (c_X7_digit C.2.2.2.2.2.2.2.1  B M O  h9) (fs := _) e_M rfl cv_X7_digit cd_X7_digit wd_8_164 ⟨Nat.le_of_ble_eq_true rfl, Nat.le_of_ble_eq_true rfl⟩ ⟨Nat.le_of_ble_eq_true rfl, Nat.le_of_ble_eq_true rfl⟩ rfl rfl (Nat.le_of_ble_eq_true rfl) dX7_number_39 ?_
          refine x_nmIM (fun z10 ez10 => ?_)
          have hR := nmE hR ez10
          have hok := hok z10 ez10
          refine x_iadd (pc := 42) C dX7_number_42 ?_
          refine x_nmI (fun v11 ev11 => ?_)
          have hR := nmE hR ev11
          have hok := hok v11 ev11
          refine x_istore_n (pc := 43) (i := 1) (ls2 := [(1, .int v11), (0, .ref (ad 193)), (2, .int a2)]) C dX7_number_43 rfl (by decide) rfl ?_
          refine x_iinc (pc := 44) (i := 2) (v := (a2 + 1)) (ls2 := [(2, .int (a2 + 1)), (1, .int v11), (0, .ref (ad 193))]) C 2 dX7_number_44 rfl rfl (by decide) rfl ?_
          refine x_goto (pc := 47) (tgt := 7) C dX7_number_47 (by decide) ?_
          refine x_sub [2, 1, 0] (ls2 := [(0, .ref (ad 193)), (1, .int v11), (2, .int (a2 + 1))]) rfl ?_
          exact ih z10.2 v11 (a2 + 1) R0 hR hok k
set_option maxHeartbeats 4000000 in
set_option maxRecDepth 100000 in
theorem c_X7_number {l : Launch} {A : Nat → Prop} {G : GT} {ad : Nat → Nat} (gl : Gl l A ad)  (B : StB) (M : StM) (O : StO)  (hok : ok_X7_number M) : Met l yX7_number (wof yX7_number cX7_number 3 (some .int)) (rmd 4 0 0) (va_Pc [.ref (ad 193)] (PW G A ad B M O)) (QI G A ad (f_X7_number M).1 B (f_X7_number M).2 O) 0 0 A := by
  refine x_body (own := RX7) (by decide +kernel) rfl gl (Nat.le_of_ble_eq_true rfl) (ls := [(0, .ref (ad 193))]) rfl ?_
  intro p0 e s m args below meth c C
  have hR : (f_X7_number M) = (nm (f_X7_digit M) (fun (z2 : Int32 × StM) => (nm (f_X7_number_L7 fu z2.2 z2.1 1) (fun (z12 : Int32 × StM) => (z12.1, z12.2))))) := rfl
  have hok : ((ok_X7_digit M) ∧ (∀ z2 : Int32 × StM, z2 = (f_X7_digit M) → (ok_X7_number_L7 fu z2.2 z2.1 1))) := hok
  refine x_aload_n (pc := 0) (i := 0) C 0 dX7_number_0 rfl rfl ?_
  have h1 := hok.1
  have hok := hok.2
  refine x_cIV (pc := 1) (as := []) (q := 193) C (c_X7_digit C.2.2.2.2.2.2.2.1  B M O  h1) (fs := _) e_M rfl cv_X7_digit cd_X7_digit wd_8_164 ⟨Nat.le_of_ble_eq_true rfl, Nat.le_of_ble_eq_true rfl⟩ ⟨Nat.le_of_ble_eq_true rfl, Nat.le_of_ble_eq_true rfl⟩ rfl rfl (Nat.le_of_ble_eq_true rfl) dX7_number_1 ?_
  refine x_nmIM (fun z2 ez2 => ?_)
  have hR := nmE hR ez2
  have hok := hok z2 ez2
  refine x_istore_n (pc := 4) (i := 1) (ls2 := [(1, .int z2.1), (0, .ref (ad 193))]) C dX7_number_4 rfl (by decide) rfl ?_
  refine x_iconst (pc := 5) (v := 1) C dX7_number_5 (by decide) ?_
  refine x_istore_n (pc := 6) (i := 2) (ls2 := [(2, .int 1), (1, .int z2.1), (0, .ref (ad 193))]) C dX7_number_6 rfl (by decide) rfl ?_
  refine x_sub [2, 1, 0] (ls2 := [(0, .ref (ad 193)), (1, .int z2.1), (2, .int 1)]) rfl ?_
  obtain ⟨z12, ez12⟩ : ∃ z : Int32 × StM, z = f_X7_number_L7 fu z2.2 z2.1 1 := ⟨_, rfl⟩
  refine t_X7_number_L7 C fu z2.2 z2.1 1 B O z12 ez12 hok ?_
  have hR := nmE hR ez12
  refine x_iload_n (pc := 50) (i := 1) C 0 dX7_number_50 rfl rfl ?_
  exact x_iretM (pc := 51) C rfl hR dX7_number_51
set_option maxHeartbeats 4000000 in
set_option maxRecDepth 100000 in
theorem c_X7_deposit {l : Launch} {A : Nat → Prop} {G : GT} {ad : Nat → Nat} (gl : Gl l A ad)  (B : StB) (M : StM) (O : StO) (x0 : Int32) (x1 : Int32) (hok : ok_X7_deposit M x0 x1) : Met l yX7_deposit (wof yX7_deposit cX7_deposit 3 (some .int)) (rmd 5 0 0) (va_Pc [.ref (ad 193), .int x0, .int x1] (PW G A ad B M O)) (QI G A ad (f_X7_deposit M x0 x1).1 B (f_X7_deposit M x0 x1).2 O) 0 0 A := by
  refine x_body (own := RX7) (by decide +kernel) rfl gl (Nat.le_of_ble_eq_true rfl) (ls := [(0, .ref (ad 193)), (1, .int x0), (2, .int x1)]) rfl ?_
  intro p0 e s m args below meth c C
  have hR : (f_X7_deposit M x0 x1) = (nm (f_X7_begins M) (fun (M2 : StM) => (nm (f_X7_pays M2 x0 x1) (fun (z4 : Int32 × StM) => (nm (f_X7_ends z4.2 z4.1) (fun (z6 : Int32 × StM) => (z6.1, z6.2))))))) := rfl
  have hok : ((ok_X7_begins M) ∧ (∀ M2 : StM, M2 = (f_X7_begins M) → ((ok_X7_pays M2 x0 x1) ∧ (∀ z4 : Int32 × StM, z4 = (f_X7_pays M2 x0 x1) → ((ok_X7_ends z4.2 z4.1)))))) := hok
  refine x_aload_n (pc := 0) (i := 0) C 0 dX7_deposit_0 rfl rfl ?_
  have h1 := hok.1
  have hok := hok.2
  refine x_cVV (pc := 1) (as := []) (q := 193) C (c_X7_begins C.2.2.2.2.2.2.2.1  B M O  h1) (fs := _) e_M rfl cv_X7_begins cd_X7_begins wd_7_82 ⟨Nat.le_of_ble_eq_true rfl, Nat.le_of_ble_eq_true rfl⟩ ⟨Nat.le_of_ble_eq_true rfl, Nat.le_of_ble_eq_true rfl⟩ rfl rfl (Nat.le_of_ble_eq_true rfl) dX7_deposit_1 ?_
  refine x_nmM (fun M2 eM2 => ?_)
  have hR := nmE hR eM2
  have hok := hok M2 eM2
  refine x_aload_n (pc := 4) (i := 0) C 0 dX7_deposit_4 rfl rfl ?_
  refine x_aload_n (pc := 5) (i := 0) C 0 dX7_deposit_5 rfl rfl ?_
  refine x_iload_n (pc := 6) (i := 1) C 1 dX7_deposit_6 rfl rfl ?_
  refine x_iload_n (pc := 7) (i := 2) C 2 dX7_deposit_7 rfl rfl ?_
  have h3 := hok.1
  have hok := hok.2
  refine x_cIV (pc := 8) (as := [.int x0, .int x1]) (q := 193) C (c_X7_pays C.2.2.2.2.2.2.2.1  B M2 O x0 x1 h3) (fs := _) e_M rfl cv_X7_pays cd_X7_pays wd_7_108 ⟨Nat.le_of_ble_eq_true rfl, Nat.le_of_ble_eq_true rfl⟩ ⟨Nat.le_of_ble_eq_true rfl, Nat.le_of_ble_eq_true rfl⟩ rfl rfl (Nat.le_of_ble_eq_true rfl) dX7_deposit_8 ?_
  refine x_nmIM (fun z4 ez4 => ?_)
  have hR := nmE hR ez4
  have hok := hok z4 ez4
  have h5 := hok
  refine x_cIV (pc := 11) (as := [.int z4.1]) (q := 193) C (c_X7_ends C.2.2.2.2.2.2.2.1  B z4.2 O z4.1 h5) (fs := _) e_M rfl cv_X7_ends cd_X7_ends wd_7_96 ⟨Nat.le_of_ble_eq_true rfl, Nat.le_of_ble_eq_true rfl⟩ ⟨Nat.le_of_ble_eq_true rfl, Nat.le_of_ble_eq_true rfl⟩ rfl rfl (Nat.le_of_ble_eq_true rfl) dX7_deposit_11 ?_
  refine x_nmIM (fun z6 ez6 => ?_)
  have hR := nmE hR ez6
  exact x_iretM (pc := 14) C rfl hR dX7_deposit_14
set_option maxHeartbeats 4000000 in
set_option maxRecDepth 100000 in
theorem c_X7_withdraw {l : Launch} {A : Nat → Prop} {G : GT} {ad : Nat → Nat} (gl : Gl l A ad)  (B : StB) (M : StM) (O : StO) (x0 : Int32) (x1 : Int32) (hok : ok_X7_withdraw M x0 x1) : Met l yX7_withdraw (wof yX7_withdraw cX7_withdraw 3 (some .int)) (rmd 5 0 0) (va_Pc [.ref (ad 193), .int x0, .int x1] (PW G A ad B M O)) (QI G A ad (f_X7_withdraw M x0 x1).1 B (f_X7_withdraw M x0 x1).2 O) 0 0 A := by
  refine x_body (own := RX7) (by decide +kernel) rfl gl (Nat.le_of_ble_eq_true rfl) (ls := [(0, .ref (ad 193)), (1, .int x0), (2, .int x1)]) rfl ?_
  intro p0 e s m args below meth c C
  have hR : (f_X7_withdraw M x0 x1) = (nm (f_X7_begins M) (fun (M2 : StM) => (nm (f_X7_draws M2 x0 x1) (fun (z4 : Int32 × StM) => (nm (f_X7_ends z4.2 z4.1) (fun (z6 : Int32 × StM) => (z6.1, z6.2))))))) := rfl
  have hok : ((ok_X7_begins M) ∧ (∀ M2 : StM, M2 = (f_X7_begins M) → ((ok_X7_draws M2 x0 x1) ∧ (∀ z4 : Int32 × StM, z4 = (f_X7_draws M2 x0 x1) → ((ok_X7_ends z4.2 z4.1)))))) := hok
  refine x_aload_n (pc := 0) (i := 0) C 0 dX7_withdraw_0 rfl rfl ?_
  have h1 := hok.1
  have hok := hok.2
  refine x_cVV (pc := 1) (as := []) (q := 193) C (c_X7_begins C.2.2.2.2.2.2.2.1  B M O  h1) (fs := _) e_M rfl cv_X7_begins cd_X7_begins wd_7_82 ⟨Nat.le_of_ble_eq_true rfl, Nat.le_of_ble_eq_true rfl⟩ ⟨Nat.le_of_ble_eq_true rfl, Nat.le_of_ble_eq_true rfl⟩ rfl rfl (Nat.le_of_ble_eq_true rfl) dX7_withdraw_1 ?_
  refine x_nmM (fun M2 eM2 => ?_)
  have hR := nmE hR eM2
  have hok := hok M2 eM2
  refine x_aload_n (pc := 4) (i := 0) C 0 dX7_withdraw_4 rfl rfl ?_
  refine x_aload_n (pc := 5) (i := 0) C 0 dX7_withdraw_5 rfl rfl ?_
  refine x_iload_n (pc := 6) (i := 1) C 1 dX7_withdraw_6 rfl rfl ?_
  refine x_iload_n (pc := 7) (i := 2) C 2 dX7_withdraw_7 rfl rfl ?_
  have h3 := hok.1
  have hok := hok.2
  refine x_cIV (pc := 8) (as := [.int x0, .int x1]) (q := 193) C (c_X7_draws C.2.2.2.2.2.2.2.1  B M2 O x0 x1 h3) (fs := _) e_M rfl cv_X7_draws cd_X7_draws wd_7_136 ⟨Nat.le_of_ble_eq_true rfl, Nat.le_of_ble_eq_true rfl⟩ ⟨Nat.le_of_ble_eq_true rfl, Nat.le_of_ble_eq_true rfl⟩ rfl rfl (Nat.le_of_ble_eq_true rfl) dX7_withdraw_8 ?_
  refine x_nmIM (fun z4 ez4 => ?_)
  have hR := nmE hR ez4
  have hok := hok z4 ez4
  have h5 := hok
  refine x_cIV (pc := 11) (as := [.int z4.1]) (q := 193) C (c_X7_ends C.2.2.2.2.2.2.2.1  B z4.2 O z4.1 h5) (fs := _) e_M rfl cv_X7_ends cd_X7_ends wd_7_96 ⟨Nat.le_of_ble_eq_true rfl, Nat.le_of_ble_eq_true rfl⟩ ⟨Nat.le_of_ble_eq_true rfl, Nat.le_of_ble_eq_true rfl⟩ rfl rfl (Nat.le_of_ble_eq_true rfl) dX7_withdraw_11 ?_
  refine x_nmIM (fun z6 ez6 => ?_)
  have hR := nmE hR ez6
  exact x_iretM (pc := 14) C rfl hR dX7_withdraw_14
set_option maxHeartbeats 4000000 in
set_option maxRecDepth 100000 in
theorem c_X7_setLimit {l : Launch} {A : Nat → Prop} {G : GT} {ad : Nat → Nat} (gl : Gl l A ad)  (B : StB) (M : StM) (O : StO) (x0 : Int32) (x1 : Int32) (hok : ok_X7_setLimit M x0 x1) : Met l yX7_setLimit (wof yX7_setLimit cX7_setLimit 3 (some .int)) (rmd 5 0 0) (va_Pc [.ref (ad 193), .int x0, .int x1] (PW G A ad B M O)) (QI G A ad (f_X7_setLimit M x0 x1).1 B (f_X7_setLimit M x0 x1).2 O) 0 0 A := by
  refine x_body (own := RX7) (by decide +kernel) rfl gl (Nat.le_of_ble_eq_true rfl) (ls := [(0, .ref (ad 193)), (1, .int x0), (2, .int x1)]) rfl ?_
  intro p0 e s m args below meth c C
  have hR : (f_X7_setLimit M x0 x1) = (nm (f_X7_begins M) (fun (M2 : StM) => (nm (f_X7_limits M2 x0 x1) (fun (z4 : Int32 × StM) => (nm (f_X7_ends z4.2 z4.1) (fun (z6 : Int32 × StM) => (z6.1, z6.2))))))) := rfl
  have hok : ((ok_X7_begins M) ∧ (∀ M2 : StM, M2 = (f_X7_begins M) → ((ok_X7_limits M2 x0 x1) ∧ (∀ z4 : Int32 × StM, z4 = (f_X7_limits M2 x0 x1) → ((ok_X7_ends z4.2 z4.1)))))) := hok
  refine x_aload_n (pc := 0) (i := 0) C 0 dX7_setLimit_0 rfl rfl ?_
  have h1 := hok.1
  have hok := hok.2
  refine x_cVV (pc := 1) (as := []) (q := 193) C (c_X7_begins C.2.2.2.2.2.2.2.1  B M O  h1) (fs := _) e_M rfl cv_X7_begins cd_X7_begins wd_7_82 ⟨Nat.le_of_ble_eq_true rfl, Nat.le_of_ble_eq_true rfl⟩ ⟨Nat.le_of_ble_eq_true rfl, Nat.le_of_ble_eq_true rfl⟩ rfl rfl (Nat.le_of_ble_eq_true rfl) dX7_setLimit_1 ?_
  refine x_nmM (fun M2 eM2 => ?_)
  have hR := nmE hR eM2
  have hok := hok M2 eM2
  refine x_aload_n (pc := 4) (i := 0) C 0 dX7_setLimit_4 rfl rfl ?_
  refine x_aload_n (pc := 5) (i := 0) C 0 dX7_setLimit_5 rfl rfl ?_
  refine x_iload_n (pc := 6) (i := 1) C 1 dX7_setLimit_6 rfl rfl ?_
  refine x_iload_n (pc := 7) (i := 2) C 2 dX7_setLimit_7 rfl rfl ?_
  have h3 := hok.1
  have hok := hok.2
  refine x_cIV (pc := 8) (as := [.int x0, .int x1]) (q := 193) C (c_X7_limits C.2.2.2.2.2.2.2.1  B M2 O x0 x1 h3) (fs := _) e_M rfl cv_X7_limits cd_X7_limits wd_7_144 ⟨Nat.le_of_ble_eq_true rfl, Nat.le_of_ble_eq_true rfl⟩ ⟨Nat.le_of_ble_eq_true rfl, Nat.le_of_ble_eq_true rfl⟩ rfl rfl (Nat.le_of_ble_eq_true rfl) dX7_setLimit_8 ?_
  refine x_nmIM (fun z4 ez4 => ?_)
  have hR := nmE hR ez4
  have hok := hok z4 ez4
  have h5 := hok
  refine x_cIV (pc := 11) (as := [.int z4.1]) (q := 193) C (c_X7_ends C.2.2.2.2.2.2.2.1  B z4.2 O z4.1 h5) (fs := _) e_M rfl cv_X7_ends cd_X7_ends wd_7_96 ⟨Nat.le_of_ble_eq_true rfl, Nat.le_of_ble_eq_true rfl⟩ ⟨Nat.le_of_ble_eq_true rfl, Nat.le_of_ble_eq_true rfl⟩ rfl rfl (Nat.le_of_ble_eq_true rfl) dX7_setLimit_11 ?_
  refine x_nmIM (fun z6 ez6 => ?_)
  have hR := nmE hR ez6
  exact x_iretM (pc := 14) C rfl hR dX7_setLimit_14
set_option maxHeartbeats 4000000 in
set_option maxRecDepth 100000 in
theorem t_X7_isMoved_J145 {p0 : Program} {l : Launch} {e : Env} {s : State} {m : MethodId} {args : Array Value} {below : List Frame} {meth : Method} {c : Code} {A : Nat → Prop} {G : GT} {ad : Nat → Nat} (C : CX p0 l s m args meth c A G ad cX7_isMoved RX7 6 (some .boolean))  (M : StM) (a4 : Int32) (B : StB) (O : StO) (R0 : Int32 × StM) (hR : R0 = f_X7_isMoved_J145 M a4) (hok : ok_X7_isMoved_J145 M a4) : X p0 l e (rmd 5 0 0) s m args below meth c A G ad 6 0 0 (MQ below (QI G A ad R0.1 B R0.2 O) args s 0 0 A) B M O [(4, .int a4)] 145 [.ref (ad 193)] := by
  have hR : R0 = (nm (smi M 10 1) (fun (M19 : StM) => (a4, M19))) := hR
  have hok : (∀ M19 : StM, M19 = (smi M 10 1) → (narrow .boolean (.int a4) = .int a4)) := hok
  refine x_iconst (pc := 145) (v := 1) C dX7_isMoved_145 (by decide) ?_
  refine x_goto (pc := 146) (tgt := 150) C dX7_isMoved_146 (by decide) ?_
  refine x_put (pc := 150) (M2 := (smi M 10 1)) (B2 := B) (O2 := O) (q := 193) (i := 10) C tyX7 tyX7_ok nmX7 e_M rfl ttX7 (by decide) wd_6_237 rfl (by decide) (by decide) (Nat.le_of_ble_eq_true rfl) dX7_isMoved_150 (put_M_10 ) (o_smi 10 1) ?_
  refine x_nmM (fun M19 eM19 => ?_)
  have hR := nmE hR eM19
  have hok := hok M19 eM19
  refine x_iload (pc := 153) (i := 4) C 0 dX7_isMoved_153 rfl ?_
  have h20 := hok
  exact x_zretM (pc := 155) C rfl h20 hR dX7_isMoved_155
set_option maxHeartbeats 4000000 in
set_option maxRecDepth 100000 in
theorem t_X7_isMoved_J37 {p0 : Program} {l : Launch} {e : Env} {s : State} {m : MethodId} {args : Array Value} {below : List Frame} {meth : Method} {c : Code} {A : Nat → Prop} {G : GT} {ad : Nat → Nat} (C : CX p0 l s m args meth c A G ad cX7_isMoved RX7 6 (some .boolean))  (M : StM) (a1 : Int32) (a2 : Int32) (a3 : Int32) (s0 : Int32) (B : StB) (O : StO) (R0 : Int32 × StM) (hR : R0 = f_X7_isMoved_J37 M a1 a2 a3 s0) (hok : ok_X7_isMoved_J37 M a1 a2 a3 s0) : X p0 l e (rmd 5 0 0) s m args below meth c A G ad 6 0 0 (MQ below (QI G A ad R0.1 B R0.2 O) args s 0 0 A) B M O [(0, .ref (ad 193)), (1, .int a1), (2, .int a2), (3, .int a3)] 37 [.int s0] := by
  have hR : R0 = (if s0 = 0 then (nm (f_X7_atMost M a2 3) (fun (r12 : Int32) => (nm (f_X7_gives M a2 102 r12) (fun (M14 : StM) => (nm (sma M14 0 (ix 10) ((ma M14 0 (ix 10)) + 1)) (fun (M17 : StM) => (if (mi M17 10) = 0 then (nm (f_X7_ofPlace M17 a1 0) (fun (r22 : Int32) => (if r22 = (mi M17 9) then (f_X7_isMoved_J145 M17 s0) else (nm (smi M17 10 0) (fun (M24 : StM) => (s0, M24)))))) else (f_X7_isMoved_J145 M17 s0)))))))) else (nm (f_X7_changes M a2 (-a3)) (fun (M27 : StM) => (nm (f_X7_ofPlace M27 a1 2) (fun (r29 : Int32) => (nm (f_X7_changes M27 r29 a3) (fun (M31 : StM) => (nm (f_X7_accountAt a2) (fun (r32 : Int32) => (nm (sma M31 0 (ix (r32 + 3)) 1) (fun (M34 : StM) => (nm (sma M34 0 (ix 7) ((ma M34 0 (ix 7)) + a3)) (fun (M37 : StM) => (nm (f_X7_writes M37 116 a3 a2) (fun (M39 : StM) => (s0, M39)))))))))))))))) := hR
  have hok : ((s0 = 0 → ((ok_X7_atMost M a2 3) ∧ (∀ r12 : Int32, r12 = (f_X7_atMost M a2 3) → ((ok_X7_gives M a2 102 r12) ∧ (∀ M14 : StM, M14 = (f_X7_gives M a2 102 r12) → (∀ M17 : StM, M17 = (sma M14 0 (ix 10) ((ma M14 0 (ix 10)) + 1)) → (((mi M17 10) = 0 → ((ok_X7_ofPlace M17 a1 0) ∧ (∀ r22 : Int32, r22 = (f_X7_ofPlace M17 a1 0) → ((r22 = (mi M17 9) → (ok_X7_isMoved_J145 M17 s0)) ∧ (¬ r22 = (mi M17 9) → (∀ M24 : StM, M24 = (smi M17 10 0) → (narrow .boolean (.int s0) = .int s0))))))) ∧ (¬ (mi M17 10) = 0 → (ok_X7_isMoved_J145 M17 s0))))))))) ∧ (¬ s0 = 0 → ((ok_X7_changes M a2 (-a3)) ∧ (∀ M27 : StM, M27 = (f_X7_changes M a2 (-a3)) → ((ok_X7_ofPlace M27 a1 2) ∧ (∀ r29 : Int32, r29 = (f_X7_ofPlace M27 a1 2) → ((ok_X7_changes M27 r29 a3) ∧ (∀ M31 : StM, M31 = (f_X7_changes M27 r29 a3) → (∀ r32 : Int32, r32 = (f_X7_accountAt a2) → (vp_in (r32 + 3) 124 ∧ (∀ M34 : StM, M34 = (sma M31 0 (ix (r32 + 3)) 1) → (∀ M37 : StM, M37 = (sma M34 0 (ix 7) ((ma M34 0 (ix 7)) + a3)) → ((ok_X7_writes M37 116 a3 a2) ∧ (∀ M39 : StM, M39 = (f_X7_writes M37 116 a3 a2) → (narrow .boolean (.int s0) = .int s0))))))))))))))) := hok
  refine x_istore (pc := 37) (i := 4) (ls2 := [(4, .int s0), (0, .ref (ad 193)), (1, .int a1), (2, .int a2), (3, .int a3)]) C dX7_isMoved_37 (by decide) rfl ?_
  refine x_iload (pc := 39) (i := 4) C 0 dX7_isMoved_39 rfl ?_
  refine x_if_eq (pc := 41) (tgt := 96) C dX7_isMoved_41 (by decide) (fun c10 => ?_) (fun c10 => ?_)
  · have hR := hR.trans (if_pos c10)
    have hok := hok.1 c10
    refine x_aload_n (pc := 96) (i := 0) C 1 dX7_isMoved_96 rfl rfl ?_
    refine x_iload_n (pc := 97) (i := 2) C 3 dX7_isMoved_97 rfl rfl ?_
    refine x_iconst (pc := 98) (v := 3) C dX7_isMoved_98 (by decide) ?_
    have h11 := hok.1
    have hok := hok.2
    refine x_cIV (pc := 99) (as := [.int a2, .int 3]) (q := 193) C (c_X7_atMost C.2.2.2.2.2.2.2.1  B M O a2 3 h11) (fs := _) e_M rfl cv_X7_atMost cd_X7_atMost wd_7_192 ⟨Nat.le_of_ble_eq_true rfl, Nat.le_of_ble_eq_true rfl⟩ ⟨Nat.le_of_ble_eq_true rfl, Nat.le_of_ble_eq_true rfl⟩ rfl rfl (Nat.le_of_ble_eq_true rfl) dX7_isMoved_99 ?_
    refine x_nmI (fun r12 er12 => ?_)
    have hR := nmE hR er12
    have hok := hok r12 er12
    refine x_istore (pc := 102) (i := 5) (ls2 := [(5, .int r12), (4, .int s0), (0, .ref (ad 193)), (1, .int a1), (2, .int a2), (3, .int a3)]) C dX7_isMoved_102 (by decide) rfl ?_
    refine x_aload_n (pc := 104) (i := 0) C 2 dX7_isMoved_104 rfl rfl ?_
    refine x_iload_n (pc := 105) (i := 2) C 4 dX7_isMoved_105 rfl rfl ?_
    refine x_bipush (pc := 106) (v := 102) C dX7_isMoved_106 (by decide) ?_
    refine x_iload (pc := 108) (i := 5) C 0 dX7_isMoved_108 rfl ?_
    have h13 := hok.1
    have hok := hok.2
    refine x_cVV (pc := 110) (as := [.int a2, .int 102, .int r12]) (q := 193) C (c_X7_gives C.2.2.2.2.2.2.2.1  B M O a2 102 r12 h13) (fs := _) e_M rfl cv_X7_gives cd_X7_gives wd_7_196 ⟨Nat.le_of_ble_eq_true rfl, Nat.le_of_ble_eq_true rfl⟩ ⟨Nat.le_of_ble_eq_true rfl, Nat.le_of_ble_eq_true rfl⟩ rfl rfl (Nat.le_of_ble_eq_true rfl) dX7_isMoved_110 ?_
    refine x_nmM (fun M14 eM14 => ?_)
    have hR := nmE hR eM14
    have hok := hok M14 eM14
    refine x_aload_n (pc := 113) (i := 0) C 2 dX7_isMoved_113 rfl rfl ?_
    refine x_get (pc := 114) (q := 193) (i := 0) C e_M rfl ttX7 (by decide) wd_6_227 rfl dX7_isMoved_114 ?_
    refine x_bipush (pc := 117) (v := 10) C dX7_isMoved_117 (by decide) ?_
    refine x_dup2 (pc := 119) C dX7_isMoved_119 rfl rfl ?_
    have h15 : vp_in (10) 124 := (by decide : ¬ ((10 : Int32) < 0 ∨ 124 ≤ Int32.toNatClampNeg 10))
    refine x_iald (pc := 120) (q := 194) C e_M0 h15 dX7_isMoved_120 ?_
    refine x_iconst (pc := 121) (v := 1) C dX7_isMoved_121 (by decide) ?_
    refine x_iadd (pc := 122) C dX7_isMoved_122 ?_
    have h16 : vp_in (10) 124 := (by decide : ¬ ((10 : Int32) < 0 ∨ 124 ≤ Int32.toNatClampNeg 10))
    refine x_iastM (pc := 123) (j := 0) C (by decide) e_M0 e_M0.2 h16 dX7_isMoved_123 ?_
    refine x_nmM (fun M17 eM17 => ?_)
    have hR := nmE hR eM17
    have hok := hok M17 eM17
    refine x_aload_n (pc := 124) (i := 0) C 2 dX7_isMoved_124 rfl rfl ?_
    refine x_aload_n (pc := 125) (i := 0) C 2 dX7_isMoved_125 rfl rfl ?_
    refine x_get (pc := 126) (q := 193) (i := 10) C e_M rfl ttX7 (by decide) wd_6_237 rfl dX7_isMoved_126 ?_
    refine x_if_ne (pc := 129) (tgt := 145) C dX7_isMoved_129 (by decide) (fun c18 => ?_) (fun c18 => ?_)
    · have hR := hR.trans (if_neg c18)
      have hok := hok.2 c18
      refine x_sub [1] (ls2 := [(4, .int s0)]) rfl ?_
      exact t_X7_isMoved_J145 C M17 s0 B O _ hR hok
    · have hR := hR.trans (if_pos c18)
      have hok := hok.1 c18
      refine x_aload_n (pc := 132) (i := 0) C 2 dX7_isMoved_132 rfl rfl ?_
      refine x_iload_n (pc := 133) (i := 1) C 3 dX7_isMoved_133 rfl rfl ?_
      refine x_iconst (pc := 134) (v := 0) C dX7_isMoved_134 (by decide) ?_
      have h21 := hok.1
      have hok := hok.2
      refine x_cIV (pc := 135) (as := [.int a1, .int 0]) (q := 193) C (c_X7_ofPlace C.2.2.2.2.2.2.2.1  B M17 O a1 0 h21) (fs := _) e_M rfl cv_X7_ofPlace cd_X7_ofPlace wd_7_168 ⟨Nat.le_of_ble_eq_true rfl, Nat.le_of_ble_eq_true rfl⟩ ⟨Nat.le_of_ble_eq_true rfl, Nat.le_of_ble_eq_true rfl⟩ rfl rfl (Nat.le_of_ble_eq_true rfl) dX7_isMoved_135 ?_
      refine x_nmI (fun r22 er22 => ?_)
      have hR := nmE hR er22
      have hok := hok r22 er22
      refine x_aload_n (pc := 138) (i := 0) C 2 dX7_isMoved_138 rfl rfl ?_
      refine x_get (pc := 139) (q := 193) (i := 9) C e_M rfl ttX7 (by decide) wd_6_236 rfl dX7_isMoved_139 ?_
      refine x_icmp_ne (pc := 142) (tgt := 149) C dX7_isMoved_142 (by decide) (fun c23 => ?_) (fun c23 => ?_)
      · have hR := hR.trans (if_neg c23)
        have hok := hok.2 c23
        refine x_iconst (pc := 149) (v := 0) C dX7_isMoved_149 (by decide) ?_
        refine x_put (pc := 150) (M2 := (smi M17 10 0)) (B2 := B) (O2 := O) (q := 193) (i := 10) C tyX7 tyX7_ok nmX7 e_M rfl ttX7 (by decide) wd_6_237 rfl (by decide) (by decide) (Nat.le_of_ble_eq_true rfl) dX7_isMoved_150 (put_M_10 ) (o_smi 10 0) ?_
        refine x_nmM (fun M24 eM24 => ?_)
        have hR := nmE hR eM24
        have hok := hok M24 eM24
        refine x_iload (pc := 153) (i := 4) C 1 dX7_isMoved_153 rfl ?_
        have h25 := hok
        exact x_zretM (pc := 155) C rfl h25 hR dX7_isMoved_155
      · have hR := hR.trans (if_pos c23)
        have hok := hok.1 c23
        refine x_sub [1] (ls2 := [(4, .int s0)]) rfl ?_
        exact t_X7_isMoved_J145 C M17 s0 B O _ hR hok
  · have hR := hR.trans (if_neg c10)
    have hok := hok.2 c10
    refine x_aload_n (pc := 44) (i := 0) C 1 dX7_isMoved_44 rfl rfl ?_
    refine x_iload_n (pc := 45) (i := 2) C 3 dX7_isMoved_45 rfl rfl ?_
    refine x_iload_n (pc := 46) (i := 3) C 4 dX7_isMoved_46 rfl rfl ?_
    refine x_ineg (pc := 47) C dX7_isMoved_47 ?_
    have h26 := hok.1
    have hok := hok.2
    refine x_cVV (pc := 48) (as := [.int a2, .int (-a3)]) (q := 193) C (c_X7_changes C.2.2.2.2.2.2.2.1  B M O a2 (-a3) h26) (fs := _) e_M rfl cv_X7_changes cd_X7_changes wd_7_123 ⟨Nat.le_of_ble_eq_true rfl, Nat.le_of_ble_eq_true rfl⟩ ⟨Nat.le_of_ble_eq_true rfl, Nat.le_of_ble_eq_true rfl⟩ rfl rfl (Nat.le_of_ble_eq_true rfl) dX7_isMoved_48 ?_
    refine x_nmM (fun M27 eM27 => ?_)
    have hR := nmE hR eM27
    have hok := hok M27 eM27
    refine x_aload_n (pc := 51) (i := 0) C 1 dX7_isMoved_51 rfl rfl ?_
    refine x_aload_n (pc := 52) (i := 0) C 1 dX7_isMoved_52 rfl rfl ?_
    refine x_iload_n (pc := 53) (i := 1) C 2 dX7_isMoved_53 rfl rfl ?_
    refine x_iconst (pc := 54) (v := 2) C dX7_isMoved_54 (by decide) ?_
    have h28 := hok.1
    have hok := hok.2
    refine x_cIV (pc := 55) (as := [.int a1, .int 2]) (q := 193) C (c_X7_ofPlace C.2.2.2.2.2.2.2.1  B M27 O a1 2 h28) (fs := _) e_M rfl cv_X7_ofPlace cd_X7_ofPlace wd_7_168 ⟨Nat.le_of_ble_eq_true rfl, Nat.le_of_ble_eq_true rfl⟩ ⟨Nat.le_of_ble_eq_true rfl, Nat.le_of_ble_eq_true rfl⟩ rfl rfl (Nat.le_of_ble_eq_true rfl) dX7_isMoved_55 ?_
    refine x_nmI (fun r29 er29 => ?_)
    have hR := nmE hR er29
    have hok := hok r29 er29
    refine x_iload_n (pc := 58) (i := 3) C 4 dX7_isMoved_58 rfl rfl ?_
    have h30 := hok.1
    have hok := hok.2
    refine x_cVV (pc := 59) (as := [.int r29, .int a3]) (q := 193) C (c_X7_changes C.2.2.2.2.2.2.2.1  B M27 O r29 a3 h30) (fs := _) e_M rfl cv_X7_changes cd_X7_changes wd_7_123 ⟨Nat.le_of_ble_eq_true rfl, Nat.le_of_ble_eq_true rfl⟩ ⟨Nat.le_of_ble_eq_true rfl, Nat.le_of_ble_eq_true rfl⟩ rfl rfl (Nat.le_of_ble_eq_true rfl) dX7_isMoved_59 ?_
    refine x_nmM (fun M31 eM31 => ?_)
    have hR := nmE hR eM31
    have hok := hok M31 eM31
    refine x_aload_n (pc := 62) (i := 0) C 1 dX7_isMoved_62 rfl rfl ?_
    refine x_get (pc := 63) (q := 193) (i := 0) C e_M rfl ttX7 (by decide) wd_6_227 rfl dX7_isMoved_63 ?_
    refine x_iload_n (pc := 66) (i := 2) C 3 dX7_isMoved_66 rfl rfl ?_
    refine x_cIS (pc := 67) (as := [.int a2]) C (c_X7_accountAt C.2.2.2.2.2.2.2.1  B M31 O a2) wd_7_94 cd_X7_accountAt wd_7_93 ⟨Nat.le_of_ble_eq_true rfl, Nat.le_of_ble_eq_true rfl⟩ ⟨Nat.le_of_ble_eq_true rfl, Nat.le_of_ble_eq_true rfl⟩ rfl rfl (Nat.le_of_ble_eq_true rfl) dX7_isMoved_67 ?_
    refine x_nmI (fun r32 er32 => ?_)
    have hR := nmE hR er32
    have hok := hok r32 er32
    refine x_iconst (pc := 70) (v := 3) C dX7_isMoved_70 (by decide) ?_
    refine x_iadd (pc := 71) C dX7_isMoved_71 ?_
    refine x_iconst (pc := 72) (v := 1) C dX7_isMoved_72 (by decide) ?_
    have h33 := hok.1
    have hok := hok.2
    refine x_iastM (pc := 73) (j := 0) C (by decide) e_M0 e_M0.2 h33 dX7_isMoved_73 ?_
    refine x_nmM (fun M34 eM34 => ?_)
    have hR := nmE hR eM34
    have hok := hok M34 eM34
    refine x_aload_n (pc := 74) (i := 0) C 1 dX7_isMoved_74 rfl rfl ?_
    refine x_get (pc := 75) (q := 193) (i := 0) C e_M rfl ttX7 (by decide) wd_6_227 rfl dX7_isMoved_75 ?_
    refine x_bipush (pc := 78) (v := 7) C dX7_isMoved_78 (by decide) ?_
    refine x_dup2 (pc := 80) C dX7_isMoved_80 rfl rfl ?_
    have h35 : vp_in (7) 124 := (by decide : ¬ ((7 : Int32) < 0 ∨ 124 ≤ Int32.toNatClampNeg 7))
    refine x_iald (pc := 81) (q := 194) C e_M0 h35 dX7_isMoved_81 ?_
    refine x_iload_n (pc := 82) (i := 3) C 4 dX7_isMoved_82 rfl rfl ?_
    refine x_iadd (pc := 83) C dX7_isMoved_83 ?_
    have h36 : vp_in (7) 124 := (by decide : ¬ ((7 : Int32) < 0 ∨ 124 ≤ Int32.toNatClampNeg 7))
    refine x_iastM (pc := 84) (j := 0) C (by decide) e_M0 e_M0.2 h36 dX7_isMoved_84 ?_
    refine x_nmM (fun M37 eM37 => ?_)
    have hR := nmE hR eM37
    have hok := hok M37 eM37
    refine x_aload_n (pc := 85) (i := 0) C 1 dX7_isMoved_85 rfl rfl ?_
    refine x_bipush (pc := 86) (v := 116) C dX7_isMoved_86 (by decide) ?_
    refine x_iload_n (pc := 88) (i := 3) C 4 dX7_isMoved_88 rfl rfl ?_
    refine x_iload_n (pc := 89) (i := 2) C 3 dX7_isMoved_89 rfl rfl ?_
    have h38 := hok.1
    have hok := hok.2
    refine x_cVV (pc := 90) (as := [.int 116, .int a3, .int a2]) (q := 193) C (c_X7_writes C.2.2.2.2.2.2.2.1  B M37 O 116 a3 a2 h38) (fs := _) e_M rfl cv_X7_writes cd_X7_writes wd_7_127 ⟨Nat.le_of_ble_eq_true rfl, Nat.le_of_ble_eq_true rfl⟩ ⟨Nat.le_of_ble_eq_true rfl, Nat.le_of_ble_eq_true rfl⟩ rfl rfl (Nat.le_of_ble_eq_true rfl) dX7_isMoved_90 ?_
    refine x_nmM (fun M39 eM39 => ?_)
    have hR := nmE hR eM39
    have hok := hok M39 eM39
    refine x_goto (pc := 93) (tgt := 153) C dX7_isMoved_93 (by decide) ?_
    refine x_iload (pc := 153) (i := 4) C 0 dX7_isMoved_153 rfl ?_
    have h40 := hok
    exact x_zretM (pc := 155) C rfl h40 hR dX7_isMoved_155
set_option maxHeartbeats 4000000 in
set_option maxRecDepth 100000 in
theorem c_X7_isMoved {l : Launch} {A : Nat → Prop} {G : GT} {ad : Nat → Nat} (gl : Gl l A ad)  (B : StB) (M : StM) (O : StO) (x0 : Int32) (hok : ok_X7_isMoved M x0) : Met l yX7_isMoved (wof yX7_isMoved cX7_isMoved 6 (some .boolean)) (rmd 5 0 0) (va_Pc [.ref (ad 193), .int x0] (PW G A ad B M O)) (QI G A ad (f_X7_isMoved M x0).1 B (f_X7_isMoved M x0).2 O) 0 0 A := by
  refine x_body (own := RX7) (by decide +kernel) rfl gl (Nat.le_of_ble_eq_true rfl) (ls := [(0, .ref (ad 193)), (1, .int x0)]) rfl ?_
  intro p0 e s m args below meth c C
  have hR : (f_X7_isMoved M x0) = (nm (f_X7_ofPlace M x0 1) (fun (r2 : Int32) => (nm (f_X7_ofPlace M x0 3) (fun (r4 : Int32) => (nm (f_X7_of M r2 1) (fun (r6 : Int32) => (nm (f_X7_of M r2 2) (fun (r8 : Int32) => (if (r6 - r4) < (-r8) then (f_X7_isMoved_J37 M x0 r2 r4 0) else (f_X7_isMoved_J37 M x0 r2 r4 1)))))))))) := rfl
  have hok : ((ok_X7_ofPlace M x0 1) ∧ (∀ r2 : Int32, r2 = (f_X7_ofPlace M x0 1) → ((ok_X7_ofPlace M x0 3) ∧ (∀ r4 : Int32, r4 = (f_X7_ofPlace M x0 3) → ((ok_X7_of M r2 1) ∧ (∀ r6 : Int32, r6 = (f_X7_of M r2 1) → ((ok_X7_of M r2 2) ∧ (∀ r8 : Int32, r8 = (f_X7_of M r2 2) → (((r6 - r4) < (-r8) → (ok_X7_isMoved_J37 M x0 r2 r4 0)) ∧ (¬ (r6 - r4) < (-r8) → (ok_X7_isMoved_J37 M x0 r2 r4 1))))))))))) := hok
  refine x_aload_n (pc := 0) (i := 0) C 0 dX7_isMoved_0 rfl rfl ?_
  refine x_iload_n (pc := 1) (i := 1) C 1 dX7_isMoved_1 rfl rfl ?_
  refine x_iconst (pc := 2) (v := 1) C dX7_isMoved_2 (by decide) ?_
  have h1 := hok.1
  have hok := hok.2
  refine x_cIV (pc := 3) (as := [.int x0, .int 1]) (q := 193) C (c_X7_ofPlace C.2.2.2.2.2.2.2.1  B M O x0 1 h1) (fs := _) e_M rfl cv_X7_ofPlace cd_X7_ofPlace wd_7_168 ⟨Nat.le_of_ble_eq_true rfl, Nat.le_of_ble_eq_true rfl⟩ ⟨Nat.le_of_ble_eq_true rfl, Nat.le_of_ble_eq_true rfl⟩ rfl rfl (Nat.le_of_ble_eq_true rfl) dX7_isMoved_3 ?_
  refine x_nmI (fun r2 er2 => ?_)
  have hR := nmE hR er2
  have hok := hok r2 er2
  refine x_istore_n (pc := 6) (i := 2) (ls2 := [(2, .int r2), (0, .ref (ad 193)), (1, .int x0)]) C dX7_isMoved_6 rfl (by decide) rfl ?_
  refine x_aload_n (pc := 7) (i := 0) C 1 dX7_isMoved_7 rfl rfl ?_
  refine x_iload_n (pc := 8) (i := 1) C 2 dX7_isMoved_8 rfl rfl ?_
  refine x_iconst (pc := 9) (v := 3) C dX7_isMoved_9 (by decide) ?_
  have h3 := hok.1
  have hok := hok.2
  refine x_cIV (pc := 10) (as := [.int x0, .int 3]) (q := 193) C (c_X7_ofPlace C.2.2.2.2.2.2.2.1  B M O x0 3 h3) (fs := _) e_M rfl cv_X7_ofPlace cd_X7_ofPlace wd_7_168 ⟨Nat.le_of_ble_eq_true rfl, Nat.le_of_ble_eq_true rfl⟩ ⟨Nat.le_of_ble_eq_true rfl, Nat.le_of_ble_eq_true rfl⟩ rfl rfl (Nat.le_of_ble_eq_true rfl) dX7_isMoved_10 ?_
  refine x_nmI (fun r4 er4 => ?_)
  have hR := nmE hR er4
  have hok := hok r4 er4
  refine x_istore_n (pc := 13) (i := 3) (ls2 := [(3, .int r4), (2, .int r2), (0, .ref (ad 193)), (1, .int x0)]) C dX7_isMoved_13 rfl (by decide) rfl ?_
  refine x_aload_n (pc := 14) (i := 0) C 2 dX7_isMoved_14 rfl rfl ?_
  refine x_iload_n (pc := 15) (i := 2) C 1 dX7_isMoved_15 rfl rfl ?_
  refine x_iconst (pc := 16) (v := 1) C dX7_isMoved_16 (by decide) ?_
  have h5 := hok.1
  have hok := hok.2
  refine x_cIV (pc := 17) (as := [.int r2, .int 1]) (q := 193) C (c_X7_of C.2.2.2.2.2.2.2.1  B M O r2 1 h5) (fs := _) e_M rfl cv_X7_of cd_X7_of wd_7_119 ⟨Nat.le_of_ble_eq_true rfl, Nat.le_of_ble_eq_true rfl⟩ ⟨Nat.le_of_ble_eq_true rfl, Nat.le_of_ble_eq_true rfl⟩ rfl rfl (Nat.le_of_ble_eq_true rfl) dX7_isMoved_17 ?_
  refine x_nmI (fun r6 er6 => ?_)
  have hR := nmE hR er6
  have hok := hok r6 er6
  refine x_iload_n (pc := 20) (i := 3) C 0 dX7_isMoved_20 rfl rfl ?_
  refine x_isub (pc := 21) C dX7_isMoved_21 ?_
  refine x_aload_n (pc := 22) (i := 0) C 2 dX7_isMoved_22 rfl rfl ?_
  refine x_iload_n (pc := 23) (i := 2) C 1 dX7_isMoved_23 rfl rfl ?_
  refine x_iconst (pc := 24) (v := 2) C dX7_isMoved_24 (by decide) ?_
  have h7 := hok.1
  have hok := hok.2
  refine x_cIV (pc := 25) (as := [.int r2, .int 2]) (q := 193) C (c_X7_of C.2.2.2.2.2.2.2.1  B M O r2 2 h7) (fs := _) e_M rfl cv_X7_of cd_X7_of wd_7_119 ⟨Nat.le_of_ble_eq_true rfl, Nat.le_of_ble_eq_true rfl⟩ ⟨Nat.le_of_ble_eq_true rfl, Nat.le_of_ble_eq_true rfl⟩ rfl rfl (Nat.le_of_ble_eq_true rfl) dX7_isMoved_25 ?_
  refine x_nmI (fun r8 er8 => ?_)
  have hR := nmE hR er8
  have hok := hok r8 er8
  refine x_ineg (pc := 28) C dX7_isMoved_28 ?_
  refine x_icmp_lt (pc := 29) (tgt := 36) C dX7_isMoved_29 (by decide) (fun c9 => ?_) (fun c9 => ?_)
  · have hR := hR.trans (if_pos c9)
    have hok := hok.1 c9
    refine x_iconst (pc := 36) (v := 0) C dX7_isMoved_36 (by decide) ?_
    refine x_sub [2, 3, 1, 0] (ls2 := [(0, .ref (ad 193)), (1, .int x0), (2, .int r2), (3, .int r4)]) rfl ?_
    exact t_X7_isMoved_J37 C M x0 r2 r4 0 B O _ hR hok
  · have hR := hR.trans (if_neg c9)
    have hok := hok.2 c9
    refine x_iconst (pc := 32) (v := 1) C dX7_isMoved_32 (by decide) ?_
    refine x_goto (pc := 33) (tgt := 37) C dX7_isMoved_33 (by decide) ?_
    refine x_sub [2, 3, 1, 0] (ls2 := [(0, .ref (ad 193)), (1, .int x0), (2, .int r2), (3, .int r4)]) rfl ?_
    exact t_X7_isMoved_J37 C M x0 r2 r4 1 B O _ hR hok
set_option maxHeartbeats 4000000 in
set_option maxRecDepth 100000 in
theorem c_X7_earns {l : Launch} {A : Nat → Prop} {G : GT} {ad : Nat → Nat} (gl : Gl l A ad)  (B : StB) (M : StM) (O : StO) (x0 : Int32) (hok : ok_X7_earns M x0) : Met l yX7_earns (wof yX7_earns cX7_earns 4 (some .int)) (rmd 5 0 0) (va_Pc [.ref (ad 193), .int x0] (PW G A ad B M O)) (QI G A ad (f_X7_earns M x0) B M O) 0 0 A := by
  refine x_body (own := RX7) (by decide +kernel) rfl gl (Nat.le_of_ble_eq_true rfl) (ls := [(0, .ref (ad 193)), (1, .int x0)]) rfl ?_
  intro p0 e s m args below meth c C
  have hR : (f_X7_earns M x0) = (nm (f_X7_of M x0 1) (fun (r2 : Int32) => (nm ((mn r2 9999) / 100) (fun (v3 : Int32) => (nm (f_X7_of M x0 0) (fun (r5 : Int32) => (if r5 = 0 then (if r2 < 0 then (nm (f_X7_atMost M x0 (mx 1 (2 * ((-r2) / 50)))) (fun (r8 : Int32) => (-r8))) else v3) else (if r5 = 1 then (mn 30 (3 * v3)) else (if r5 = 2 then (if r2 < 0 then (nm (f_X7_atMost M x0 5) (fun (r11 : Int32) => (-r11))) else 0) else (nm (f_X7_of M x0 3) (fun (r13 : Int32) => (if r13 = 1 then 0 else (5 * v3))))))))))))) := rfl
  have hok : ((ok_X7_of M x0 1) ∧ (∀ r2 : Int32, r2 = (f_X7_of M x0 1) → (∀ v3 : Int32, v3 = ((mn r2 9999) / 100) → ((ok_X7_of M x0 0) ∧ (∀ r5 : Int32, r5 = (f_X7_of M x0 0) → ((r5 = 0 → ((r2 < 0 → ((ok_X7_atMost M x0 (mx 1 (2 * ((-r2) / 50)))))) ∧ (¬ r2 < 0 → True))) ∧ (¬ r5 = 0 → ((r5 = 1 → True) ∧ (¬ r5 = 1 → ((r5 = 2 → ((r2 < 0 → ((ok_X7_atMost M x0 5))) ∧ (¬ r2 < 0 → True))) ∧ (¬ r5 = 2 → ((ok_X7_of M x0 3))))))))))))) := hok
  refine x_aload_n (pc := 0) (i := 0) C 0 dX7_earns_0 rfl rfl ?_
  refine x_iload_n (pc := 1) (i := 1) C 1 dX7_earns_1 rfl rfl ?_
  refine x_iconst (pc := 2) (v := 1) C dX7_earns_2 (by decide) ?_
  have h1 := hok.1
  have hok := hok.2
  refine x_cIV (pc := 3) (as := [.int x0, .int 1]) (q := 193) C (c_X7_of C.2.2.2.2.2.2.2.1  B M O x0 1 h1) (fs := _) e_M rfl cv_X7_of cd_X7_of wd_7_119 ⟨Nat.le_of_ble_eq_true rfl, Nat.le_of_ble_eq_true rfl⟩ ⟨Nat.le_of_ble_eq_true rfl, Nat.le_of_ble_eq_true rfl⟩ rfl rfl (Nat.le_of_ble_eq_true rfl) dX7_earns_3 ?_
  refine x_nmI (fun r2 er2 => ?_)
  have hR := nmE hR er2
  have hok := hok r2 er2
  refine x_istore_n (pc := 6) (i := 2) (ls2 := [(2, .int r2), (0, .ref (ad 193)), (1, .int x0)]) C dX7_earns_6 rfl (by decide) rfl ?_
  refine x_iload_n (pc := 7) (i := 2) C 0 dX7_earns_7 rfl rfl ?_
  refine x_sipush (pc := 8) (v := 9999) C dX7_earns_8 (by decide) ?_
  refine x_mmin (pc := 11) C wd_7_131 wd_3_52 wd_1_21 wd_3_53 ⟨Nat.le_of_ble_eq_true rfl, Nat.le_of_ble_eq_true rfl⟩ ⟨Nat.le_of_ble_eq_true rfl, Nat.le_of_ble_eq_true rfl⟩ dX7_earns_11 ?_
  refine x_bipush (pc := 14) (v := 100) C dX7_earns_14 (by decide) ?_
  refine x_idiv (pc := 16) C dX7_earns_16 (by decide) ?_
  refine x_nmI (fun v3 ev3 => ?_)
  have hR := nmE hR ev3
  have hok := hok v3 ev3
  refine x_istore_n (pc := 17) (i := 3) (ls2 := [(3, .int v3), (2, .int r2), (0, .ref (ad 193)), (1, .int x0)]) C dX7_earns_17 rfl (by decide) rfl ?_
  refine x_aload_n (pc := 18) (i := 0) C 2 dX7_earns_18 rfl rfl ?_
  refine x_iload_n (pc := 19) (i := 1) C 3 dX7_earns_19 rfl rfl ?_
  refine x_iconst (pc := 20) (v := 0) C dX7_earns_20 (by decide) ?_
  have h4 := hok.1
  have hok := hok.2
  refine x_cIV (pc := 21) (as := [.int x0, .int 0]) (q := 193) C (c_X7_of C.2.2.2.2.2.2.2.1  B M O x0 0 h4) (fs := _) e_M rfl cv_X7_of cd_X7_of wd_7_119 ⟨Nat.le_of_ble_eq_true rfl, Nat.le_of_ble_eq_true rfl⟩ ⟨Nat.le_of_ble_eq_true rfl, Nat.le_of_ble_eq_true rfl⟩ rfl rfl (Nat.le_of_ble_eq_true rfl) dX7_earns_21 ?_
  refine x_nmI (fun r5 er5 => ?_)
  have hR := nmE hR er5
  have hok := hok r5 er5
  by_cases c15_0 : r5 = 0
  · have hR := hR.trans (if_pos c15_0)
    have hok := hok.1 c15_0
    refine x_tabIn (pc := 24) (tgt := 52) (off := 28) C dX7_earns_24 c15_0 (by decide) (by decide) (by decide) (by decide) ?_
    refine x_iload_n (pc := 52) (i := 2) C 1 dX7_earns_52 rfl rfl ?_
    refine x_if_lt (pc := 53) (tgt := 60) C dX7_earns_53 (by decide) (fun c6 => ?_) (fun c6 => ?_)
    · have hR := hR.trans (if_pos c6)
      have hok := hok.1 c6
      refine x_aload_n (pc := 60) (i := 0) C 2 dX7_earns_60 rfl rfl ?_
      refine x_iload_n (pc := 61) (i := 1) C 3 dX7_earns_61 rfl rfl ?_
      refine x_iconst (pc := 62) (v := 1) C dX7_earns_62 (by decide) ?_
      refine x_iconst (pc := 63) (v := 2) C dX7_earns_63 (by decide) ?_
      refine x_iload_n (pc := 64) (i := 2) C 1 dX7_earns_64 rfl rfl ?_
      refine x_ineg (pc := 65) C dX7_earns_65 ?_
      refine x_bipush (pc := 66) (v := 50) C dX7_earns_66 (by decide) ?_
      refine x_idiv (pc := 68) C dX7_earns_68 (by decide) ?_
      refine x_imul (pc := 69) C dX7_earns_69 ?_
      refine x_mmax (pc := 70) C wd_7_208 wd_3_211 wd_1_21 wd_3_212 ⟨Nat.le_of_ble_eq_true rfl, Nat.le_of_ble_eq_true rfl⟩ ⟨Nat.le_of_ble_eq_true rfl, Nat.le_of_ble_eq_true rfl⟩ dX7_earns_70 ?_
      have h7 := hok
      refine x_cIV (pc := 73) (as := [.int x0, .int (mx 1 (2 * ((-r2) / 50)))]) (q := 193) C (c_X7_atMost C.2.2.2.2.2.2.2.1  B M O x0 (mx 1 (2 * ((-r2) / 50))) h7) (fs := _) e_M rfl cv_X7_atMost cd_X7_atMost wd_7_192 ⟨Nat.le_of_ble_eq_true rfl, Nat.le_of_ble_eq_true rfl⟩ ⟨Nat.le_of_ble_eq_true rfl, Nat.le_of_ble_eq_true rfl⟩ rfl rfl (Nat.le_of_ble_eq_true rfl) dX7_earns_73 ?_
      refine x_nmI (fun r8 er8 => ?_)
      have hR := nmE hR er8
      refine x_ineg (pc := 76) C dX7_earns_76 ?_
      exact x_iret (pc := 77) C rfl hR dX7_earns_77
    · have hR := hR.trans (if_neg c6)
      refine x_iload_n (pc := 56) (i := 3) C 0 dX7_earns_56 rfl rfl ?_
      refine x_goto (pc := 57) (tgt := 77) C dX7_earns_57 (by decide) ?_
      exact x_iret (pc := 77) C rfl hR dX7_earns_77
  have hR := hR.trans (if_neg c15_0)
  have hok := hok.2 c15_0
  by_cases c15_1 : r5 = 1
  · have hR := hR.trans (if_pos c15_1)
    have hok := hok.1 c15_1
    refine x_tabIn (pc := 24) (tgt := 78) (off := 54) C dX7_earns_24 c15_1 (by decide) (by decide) (by decide) (by decide) ?_
    refine x_bipush (pc := 78) (v := 30) C dX7_earns_78 (by decide) ?_
    refine x_iconst (pc := 80) (v := 3) C dX7_earns_80 (by decide) ?_
    refine x_iload_n (pc := 81) (i := 3) C 0 dX7_earns_81 rfl rfl ?_
    refine x_imul (pc := 82) C dX7_earns_82 ?_
    refine x_mmin (pc := 83) C wd_7_131 wd_3_52 wd_1_21 wd_3_53 ⟨Nat.le_of_ble_eq_true rfl, Nat.le_of_ble_eq_true rfl⟩ ⟨Nat.le_of_ble_eq_true rfl, Nat.le_of_ble_eq_true rfl⟩ dX7_earns_83 ?_
    exact x_iret (pc := 86) C rfl hR dX7_earns_86
  have hR := hR.trans (if_neg c15_1)
  have hok := hok.2 c15_1
  by_cases c15_2 : r5 = 2
  · have hR := hR.trans (if_pos c15_2)
    have hok := hok.1 c15_2
    refine x_tabIn (pc := 24) (tgt := 87) (off := 63) C dX7_earns_24 c15_2 (by decide) (by decide) (by decide) (by decide) ?_
    refine x_iload_n (pc := 87) (i := 2) C 1 dX7_earns_87 rfl rfl ?_
    refine x_if_lt (pc := 88) (tgt := 95) C dX7_earns_88 (by decide) (fun c9 => ?_) (fun c9 => ?_)
    · have hR := hR.trans (if_pos c9)
      have hok := hok.1 c9
      refine x_aload_n (pc := 95) (i := 0) C 2 dX7_earns_95 rfl rfl ?_
      refine x_iload_n (pc := 96) (i := 1) C 3 dX7_earns_96 rfl rfl ?_
      refine x_iconst (pc := 97) (v := 5) C dX7_earns_97 (by decide) ?_
      have h10 := hok
      refine x_cIV (pc := 98) (as := [.int x0, .int 5]) (q := 193) C (c_X7_atMost C.2.2.2.2.2.2.2.1  B M O x0 5 h10) (fs := _) e_M rfl cv_X7_atMost cd_X7_atMost wd_7_192 ⟨Nat.le_of_ble_eq_true rfl, Nat.le_of_ble_eq_true rfl⟩ ⟨Nat.le_of_ble_eq_true rfl, Nat.le_of_ble_eq_true rfl⟩ rfl rfl (Nat.le_of_ble_eq_true rfl) dX7_earns_98 ?_
      refine x_nmI (fun r11 er11 => ?_)
      have hR := nmE hR er11
      refine x_ineg (pc := 101) C dX7_earns_101 ?_
      exact x_iret (pc := 102) C rfl hR dX7_earns_102
    · have hR := hR.trans (if_neg c9)
      refine x_iconst (pc := 91) (v := 0) C dX7_earns_91 (by decide) ?_
      refine x_goto (pc := 92) (tgt := 102) C dX7_earns_92 (by decide) ?_
      exact x_iret (pc := 102) C rfl hR dX7_earns_102
  have hR := hR.trans (if_neg c15_2)
  have hok := hok.2 c15_2
  refine x_tabOut (pc := 24) (tgt := 103) C dX7_earns_24 (by
    have c15_0 : ¬ Int32.toInt r5 = 0 := sw_no c15_0
    have c15_1 : ¬ Int32.toInt r5 = 1 := sw_no c15_1
    have c15_2 : ¬ Int32.toInt r5 = 2 := sw_no c15_2
    omega) (by decide) ?_
  refine x_aload_n (pc := 103) (i := 0) C 2 dX7_earns_103 rfl rfl ?_
  refine x_iload_n (pc := 104) (i := 1) C 3 dX7_earns_104 rfl rfl ?_
  refine x_iconst (pc := 105) (v := 3) C dX7_earns_105 (by decide) ?_
  have h12 := hok
  refine x_cIV (pc := 106) (as := [.int x0, .int 3]) (q := 193) C (c_X7_of C.2.2.2.2.2.2.2.1  B M O x0 3 h12) (fs := _) e_M rfl cv_X7_of cd_X7_of wd_7_119 ⟨Nat.le_of_ble_eq_true rfl, Nat.le_of_ble_eq_true rfl⟩ ⟨Nat.le_of_ble_eq_true rfl, Nat.le_of_ble_eq_true rfl⟩ rfl rfl (Nat.le_of_ble_eq_true rfl) dX7_earns_106 ?_
  refine x_nmI (fun r13 er13 => ?_)
  have hR := nmE hR er13
  refine x_iconst (pc := 109) (v := 1) C dX7_earns_109 (by decide) ?_
  refine x_icmp_ne (pc := 110) (tgt := 117) C dX7_earns_110 (by decide) (fun c14 => ?_) (fun c14 => ?_)
  · have hR := hR.trans (if_neg c14)
    refine x_iconst (pc := 117) (v := 5) C dX7_earns_117 (by decide) ?_
    refine x_iload_n (pc := 118) (i := 3) C 0 dX7_earns_118 rfl rfl ?_
    refine x_imul (pc := 119) C dX7_earns_119 ?_
    exact x_iret (pc := 120) C rfl hR dX7_earns_120
  · have hR := hR.trans (if_pos c14)
    refine x_iconst (pc := 113) (v := 0) C dX7_earns_113 (by decide) ?_
    refine x_goto (pc := 114) (tgt := 120) C dX7_earns_114 (by decide) ?_
    exact x_iret (pc := 120) C rfl hR dX7_earns_120
set_option maxHeartbeats 4000000 in
set_option maxRecDepth 100000 in
theorem c_X7_kindOf {l : Launch} {A : Nat → Prop} {G : GT} {ad : Nat → Nat} (gl : Gl l A ad)  (B : StB) (M : StM) (O : StO) (x0 : Int32) (hok : ok_X7_kindOf M x0) : Met l yX7_kindOf (wof yX7_kindOf cX7_kindOf 2 (some .int)) (rmd 5 0 0) (va_Pc [.ref (ad 193), .int x0] (PW G A ad B M O)) (QI G A ad (f_X7_kindOf M x0).1 B (f_X7_kindOf M x0).2 O) 0 0 A := by
  refine x_body (own := RX7) (by decide +kernel) rfl gl (Nat.le_of_ble_eq_true rfl) (ls := [(0, .ref (ad 193)), (1, .int x0)]) rfl ?_
  intro p0 e s m args below meth c C
  have hR : (f_X7_kindOf M x0) = (nm (f_X7_asks M x0 0) (fun (z2 : Int32 × StM) => (z2.1, z2.2))) := rfl
  have hok : ((ok_X7_asks M x0 0)) := hok
  refine x_aload_n (pc := 0) (i := 0) C 0 dX7_kindOf_0 rfl rfl ?_
  refine x_iload_n (pc := 1) (i := 1) C 1 dX7_kindOf_1 rfl rfl ?_
  refine x_iconst (pc := 2) (v := 0) C dX7_kindOf_2 (by decide) ?_
  have h1 := hok
  refine x_cIV (pc := 3) (as := [.int x0, .int 0]) (q := 193) C (c_X7_asks C.2.2.2.2.2.2.2.1  B M O x0 0 h1) (fs := _) e_M rfl cv_X7_asks cd_X7_asks wd_7_217 ⟨Nat.le_of_ble_eq_true rfl, Nat.le_of_ble_eq_true rfl⟩ ⟨Nat.le_of_ble_eq_true rfl, Nat.le_of_ble_eq_true rfl⟩ rfl rfl (Nat.le_of_ble_eq_true rfl) dX7_kindOf_3 ?_
  refine x_nmIM (fun z2 ez2 => ?_)
  have hR := nmE hR ez2
  exact x_iretM (pc := 6) C rfl hR dX7_kindOf_6
set_option maxHeartbeats 4000000 in
set_option maxRecDepth 100000 in
theorem c_X7_balanceOf {l : Launch} {A : Nat → Prop} {G : GT} {ad : Nat → Nat} (gl : Gl l A ad)  (B : StB) (M : StM) (O : StO) (x0 : Int32) (hok : ok_X7_balanceOf M x0) : Met l yX7_balanceOf (wof yX7_balanceOf cX7_balanceOf 2 (some .int)) (rmd 5 0 0) (va_Pc [.ref (ad 193), .int x0] (PW G A ad B M O)) (QI G A ad (f_X7_balanceOf M x0).1 B (f_X7_balanceOf M x0).2 O) 0 0 A := by
  refine x_body (own := RX7) (by decide +kernel) rfl gl (Nat.le_of_ble_eq_true rfl) (ls := [(0, .ref (ad 193)), (1, .int x0)]) rfl ?_
  intro p0 e s m args below meth c C
  have hR : (f_X7_balanceOf M x0) = (nm (f_X7_asks M x0 1) (fun (z2 : Int32 × StM) => (z2.1, z2.2))) := rfl
  have hok : ((ok_X7_asks M x0 1)) := hok
  refine x_aload_n (pc := 0) (i := 0) C 0 dX7_balanceOf_0 rfl rfl ?_
  refine x_iload_n (pc := 1) (i := 1) C 1 dX7_balanceOf_1 rfl rfl ?_
  refine x_iconst (pc := 2) (v := 1) C dX7_balanceOf_2 (by decide) ?_
  have h1 := hok
  refine x_cIV (pc := 3) (as := [.int x0, .int 1]) (q := 193) C (c_X7_asks C.2.2.2.2.2.2.2.1  B M O x0 1 h1) (fs := _) e_M rfl cv_X7_asks cd_X7_asks wd_7_217 ⟨Nat.le_of_ble_eq_true rfl, Nat.le_of_ble_eq_true rfl⟩ ⟨Nat.le_of_ble_eq_true rfl, Nat.le_of_ble_eq_true rfl⟩ rfl rfl (Nat.le_of_ble_eq_true rfl) dX7_balanceOf_3 ?_
  refine x_nmIM (fun z2 ez2 => ?_)
  have hR := nmE hR ez2
  exact x_iretM (pc := 6) C rfl hR dX7_balanceOf_6
set_option maxHeartbeats 4000000 in
set_option maxRecDepth 100000 in
theorem c_X7_limitOf {l : Launch} {A : Nat → Prop} {G : GT} {ad : Nat → Nat} (gl : Gl l A ad)  (B : StB) (M : StM) (O : StO) (x0 : Int32) (hok : ok_X7_limitOf M x0) : Met l yX7_limitOf (wof yX7_limitOf cX7_limitOf 2 (some .int)) (rmd 5 0 0) (va_Pc [.ref (ad 193), .int x0] (PW G A ad B M O)) (QI G A ad (f_X7_limitOf M x0).1 B (f_X7_limitOf M x0).2 O) 0 0 A := by
  refine x_body (own := RX7) (by decide +kernel) rfl gl (Nat.le_of_ble_eq_true rfl) (ls := [(0, .ref (ad 193)), (1, .int x0)]) rfl ?_
  intro p0 e s m args below meth c C
  have hR : (f_X7_limitOf M x0) = (nm (f_X7_asks M x0 2) (fun (z2 : Int32 × StM) => (z2.1, z2.2))) := rfl
  have hok : ((ok_X7_asks M x0 2)) := hok
  refine x_aload_n (pc := 0) (i := 0) C 0 dX7_limitOf_0 rfl rfl ?_
  refine x_iload_n (pc := 1) (i := 1) C 1 dX7_limitOf_1 rfl rfl ?_
  refine x_iconst (pc := 2) (v := 2) C dX7_limitOf_2 (by decide) ?_
  have h1 := hok
  refine x_cIV (pc := 3) (as := [.int x0, .int 2]) (q := 193) C (c_X7_asks C.2.2.2.2.2.2.2.1  B M O x0 2 h1) (fs := _) e_M rfl cv_X7_asks cd_X7_asks wd_7_217 ⟨Nat.le_of_ble_eq_true rfl, Nat.le_of_ble_eq_true rfl⟩ ⟨Nat.le_of_ble_eq_true rfl, Nat.le_of_ble_eq_true rfl⟩ rfl rfl (Nat.le_of_ble_eq_true rfl) dX7_limitOf_3 ?_
  refine x_nmIM (fun z2 ez2 => ?_)
  have hR := nmE hR ez2
  exact x_iretM (pc := 6) C rfl hR dX7_limitOf_6
set_option maxHeartbeats 4000000 in
set_option maxRecDepth 100000 in
theorem c_X7_wasTouched {l : Launch} {A : Nat → Prop} {G : GT} {ad : Nat → Nat} (gl : Gl l A ad)  (B : StB) (M : StM) (O : StO) (x0 : Int32) (hok : ok_X7_wasTouched M x0) : Met l yX7_wasTouched (wof yX7_wasTouched cX7_wasTouched 2 (some .boolean)) (rmd 5 0 0) (va_Pc [.ref (ad 193), .int x0] (PW G A ad B M O)) (QI G A ad (f_X7_wasTouched M x0).1 B (f_X7_wasTouched M x0).2 O) 0 0 A := by
  refine x_body (own := RX7) (by decide +kernel) rfl gl (Nat.le_of_ble_eq_true rfl) (ls := [(0, .ref (ad 193)), (1, .int x0)]) rfl ?_
  intro p0 e s m args below meth c C
  have hR : (f_X7_wasTouched M x0) = (nm (f_X7_asks M x0 3) (fun (z2 : Int32 × StM) => (if z2.1 = 1 then (1, z2.2) else (0, z2.2)))) := rfl
  have hok : ((ok_X7_asks M x0 3)) := hok
  refine x_aload_n (pc := 0) (i := 0) C 0 dX7_wasTouched_0 rfl rfl ?_
  refine x_iload_n (pc := 1) (i := 1) C 1 dX7_wasTouched_1 rfl rfl ?_
  refine x_iconst (pc := 2) (v := 3) C dX7_wasTouched_2 (by decide) ?_
  have h1 := hok
  refine x_cIV (pc := 3) (as := [.int x0, .int 3]) (q := 193) C (c_X7_asks C.2.2.2.2.2.2.2.1  B M O x0 3 h1) (fs := _) e_M rfl cv_X7_asks cd_X7_asks wd_7_217 ⟨Nat.le_of_ble_eq_true rfl, Nat.le_of_ble_eq_true rfl⟩ ⟨Nat.le_of_ble_eq_true rfl, Nat.le_of_ble_eq_true rfl⟩ rfl rfl (Nat.le_of_ble_eq_true rfl) dX7_wasTouched_3 ?_
  refine x_nmIM (fun z2 ez2 => ?_)
  have hR := nmE hR ez2
  refine x_iconst (pc := 6) (v := 1) C dX7_wasTouched_6 (by decide) ?_
  refine x_icmp_ne (pc := 7) (tgt := 14) C dX7_wasTouched_7 (by decide) (fun c3 => ?_) (fun c3 => ?_)
  · have hR := hR.trans (if_neg c3)
    refine x_iconst (pc := 14) (v := 0) C dX7_wasTouched_14 (by decide) ?_
    exact x_zretM (pc := 15) C rfl (by decide) hR dX7_wasTouched_15
  · have hR := hR.trans (if_pos c3)
    refine x_iconst (pc := 10) (v := 1) C dX7_wasTouched_10 (by decide) ?_
    refine x_goto (pc := 11) (tgt := 15) C dX7_wasTouched_11 (by decide) ?_
    exact x_zretM (pc := 15) C rfl (by decide) hR dX7_wasTouched_15
set_option maxHeartbeats 4000000 in
set_option maxRecDepth 100000 in
theorem c_X7_totalInk {l : Launch} {A : Nat → Prop} {G : GT} {ad : Nat → Nat} (gl : Gl l A ad)  (B : StB) (M : StM) (O : StO)  (hok : ok_X7_totalInk M) : Met l yX7_totalInk (wof yX7_totalInk cX7_totalInk 1 (some .long)) (rmd 5 0 0) (va_Pc [.ref (ad 193)] (PW G A ad B M O)) (QL G A ad (f_X7_totalInk M).1 B (f_X7_totalInk M).2 O) 0 0 A := by
  refine x_body (own := RX7) (by decide +kernel) rfl gl (Nat.le_of_ble_eq_true rfl) (ls := [(0, .ref (ad 193))]) rfl ?_
  intro p0 e s m args below meth c C
  have hR : (f_X7_totalInk M) = (nm (smi M 15 0) (fun (M1 : StM) => (nm (f_X7_balances M1) (fun (r3 : Int64) => ((r3 + (Int32.toInt64 (ma M1 0 (ix 4)))), M1))))) := rfl
  have hok : (∀ M1 : StM, M1 = (smi M 15 0) → ((ok_X7_balances M1))) := hok
  refine x_aload_n (pc := 0) (i := 0) C 0 dX7_totalInk_0 rfl rfl ?_
  refine x_iconst (pc := 1) (v := 0) C dX7_totalInk_1 (by decide) ?_
  refine x_put (pc := 2) (M2 := (smi M 15 0)) (B2 := B) (O2 := O) (q := 193) (i := 15) C tyX7 tyX7_ok nmX7 e_M rfl ttX7 (by decide) wd_7_2 rfl rfl rfl (Nat.le_of_ble_eq_true rfl) dX7_totalInk_2 (put_M_15 ) (o_smi 15 0) ?_
  refine x_nmM (fun M1 eM1 => ?_)
  have hR := nmE hR eM1
  have hok := hok M1 eM1
  refine x_aload_n (pc := 5) (i := 0) C 0 dX7_totalInk_5 rfl rfl ?_
  have h2 := hok
  refine x_cLV (pc := 6) (as := []) (q := 193) C (c_X7_balances C.2.2.2.2.2.2.2.1  B M1 O  h2) (fs := _) e_M rfl cv_X7_balances cd_X7_balances wd_8_9 ⟨Nat.le_of_ble_eq_true rfl, Nat.le_of_ble_eq_true rfl⟩ ⟨Nat.le_of_ble_eq_true rfl, Nat.le_of_ble_eq_true rfl⟩ rfl rfl (Nat.le_of_ble_eq_true rfl) dX7_totalInk_6 ?_
  refine x_nmL (fun r3 er3 => ?_)
  have hR := nmE hR er3
  refine x_aload_n (pc := 9) (i := 0) C 0 dX7_totalInk_9 rfl rfl ?_
  refine x_get (pc := 10) (q := 193) (i := 0) C e_M rfl ttX7 (by decide) wd_6_227 rfl dX7_totalInk_10 ?_
  refine x_iconst (pc := 13) (v := 4) C dX7_totalInk_13 (by decide) ?_
  have h4 : vp_in (4) 124 := (by decide : ¬ ((4 : Int32) < 0 ∨ 124 ≤ Int32.toNatClampNeg 4))
  refine x_iald (pc := 14) (q := 194) C e_M0 h4 dX7_totalInk_14 ?_
  refine x_i2l (pc := 15) C dX7_totalInk_15 ?_
  refine x_ladd (pc := 16) C dX7_totalInk_16 ?_
  exact x_lret (pc := 17) C rfl hR dX7_totalInk_17
set_option maxHeartbeats 4000000 in
set_option maxRecDepth 100000 in
theorem c_X7_numberBehindBlank {l : Launch} {A : Nat → Prop} {G : GT} {ad : Nat → Nat} (gl : Gl l A ad)  (B : StB) (M : StM) (O : StO)  (hok : ok_X7_numberBehindBlank M) : Met l yX7_numberBehindBlank (wof yX7_numberBehindBlank cX7_numberBehindBlank 2 (some .int)) (rmd 5 0 0) (va_Pc [.ref (ad 193)] (PW G A ad B M O)) (QI G A ad (f_X7_numberBehindBlank M).1 B (f_X7_numberBehindBlank M).2 O) 0 0 A := by
  refine x_body (own := RX7) (by decide +kernel) rfl gl (Nat.le_of_ble_eq_true rfl) (ls := [(0, .ref (ad 193))]) rfl ?_
  intro p0 e s m args below meth c C
  have hR : (f_X7_numberBehindBlank M) = (nm (f_X7_reads M 32 32) (fun (z2 : Int32 × StM) => (nm (f_X7_number z2.2) (fun (z4 : Int32 × StM) => (z4.1, z4.2))))) := rfl
  have hok : ((ok_X7_reads M 32 32) ∧ (∀ z2 : Int32 × StM, z2 = (f_X7_reads M 32 32) → ((ok_X7_number z2.2)))) := hok
  refine x_aload_n (pc := 0) (i := 0) C 0 dX7_numberBehindBlank_0 rfl rfl ?_
  refine x_bipush (pc := 1) (v := 32) C dX7_numberBehindBlank_1 (by decide) ?_
  refine x_bipush (pc := 3) (v := 32) C dX7_numberBehindBlank_3 (by decide) ?_
  have h1 := hok.1
  have hok := hok.2
  refine x_cIV (pc := 5) (as := [.int 32, .int 32]) (q := 193) C (c_X7_reads C.2.2.2.2.2.2.2.1  B M O 32 32 h1) (fs := _) e_M rfl cv_X7_reads cd_X7_reads wd_8_168 ⟨Nat.le_of_ble_eq_true rfl, Nat.le_of_ble_eq_true rfl⟩ ⟨Nat.le_of_ble_eq_true rfl, Nat.le_of_ble_eq_true rfl⟩ rfl rfl (Nat.le_of_ble_eq_true rfl) dX7_numberBehindBlank_5 ?_
  refine x_nmIM (fun z2 ez2 => ?_)
  have hR := nmE hR ez2
  have hok := hok z2 ez2
  refine x_istore_n (pc := 8) (i := 1) (ls2 := [(1, .int z2.1), (0, .ref (ad 193))]) C dX7_numberBehindBlank_8 rfl (by decide) rfl ?_
  refine x_aload_n (pc := 9) (i := 0) C 1 dX7_numberBehindBlank_9 rfl rfl ?_
  have h3 := hok
  refine x_cIV (pc := 10) (as := []) (q := 193) C (c_X7_number C.2.2.2.2.2.2.2.1  B z2.2 O  h3) (fs := _) e_M rfl cv_X7_number cd_X7_number wd_8_176 ⟨Nat.le_of_ble_eq_true rfl, Nat.le_of_ble_eq_true rfl⟩ ⟨Nat.le_of_ble_eq_true rfl, Nat.le_of_ble_eq_true rfl⟩ rfl rfl (Nat.le_of_ble_eq_true rfl) dX7_numberBehindBlank_10 ?_
  refine x_nmIM (fun z4 ez4 => ?_)
  have hR := nmE hR ez4
  exact x_iretM (pc := 13) C rfl hR dX7_numberBehindBlank_13
set_option maxHeartbeats 4000000 in
set_option maxRecDepth 100000 in
theorem t_X7_gains_J45 {p0 : Program} {l : Launch} {e : Env} {s : State} {m : MethodId} {args : Array Value} {below : List Frame} {meth : Method} {c : Code} {A : Nat → Prop} {G : GT} {ad : Nat → Nat} (C : CX p0 l s m args meth c A G ad cX7_gains RX7 3 none)  (M : StM) (a1 : Int32) (a2 : Int32) (B : StB) (O : StO) (R0 : StM) (hR : R0 = f_X7_gains_J45 M a1 a2) (hok : ok_X7_gains_J45 M a1 a2) : X p0 l e (rmd 6 0 0) s m args below meth c A G ad 3 0 0 (MQ below (QV G A ad B R0 O) args s 0 0 A) B M O [(0, .ref (ad 193)), (1, .int a1), (2, .int a2)] 45 [] := by
  have hR : R0 = (nm (f_X7_gives M a1 99 (-a2)) (fun (M5 : StM) => M5)) := hR
  have hok : ((ok_X7_gives M a1 99 (-a2))) := hok
  refine x_aload_n (pc := 45) (i := 0) C 0 dX7_gains_45 rfl rfl ?_
  refine x_iload_n (pc := 46) (i := 1) C 1 dX7_gains_46 rfl rfl ?_
  refine x_bipush (pc := 47) (v := 99) C dX7_gains_47 (by decide) ?_
  refine x_iload_n (pc := 49) (i := 2) C 2 dX7_gains_49 rfl rfl ?_
  refine x_ineg (pc := 50) C dX7_gains_50 ?_
  have h4 := hok
  refine x_cVV (pc := 51) (as := [.int a1, .int 99, .int (-a2)]) (q := 193) C (c_X7_gives C.2.2.2.2.2.2.2.1  B M O a1 99 (-a2) h4) (fs := _) e_M rfl cv_X7_gives cd_X7_gives wd_7_196 ⟨Nat.le_of_ble_eq_true rfl, Nat.le_of_ble_eq_true rfl⟩ ⟨Nat.le_of_ble_eq_true rfl, Nat.le_of_ble_eq_true rfl⟩ rfl rfl (Nat.le_of_ble_eq_true rfl) dX7_gains_51 ?_
  refine x_nmM (fun M5 eM5 => ?_)
  have hR := nmE hR eM5
  exact x_vretM (pc := 54) C rfl hR dX7_gains_54
set_option maxHeartbeats 4000000 in
set_option maxRecDepth 100000 in
theorem c_X7_gains {l : Launch} {A : Nat → Prop} {G : GT} {ad : Nat → Nat} (gl : Gl l A ad)  (B : StB) (M : StM) (O : StO) (x0 : Int32) (hok : ok_X7_gains M x0) : Met l yX7_gains (wof yX7_gains cX7_gains 3 none) (rmd 6 0 0) (va_Pc [.ref (ad 193), .int x0] (PW G A ad B M O)) (QV G A ad B (f_X7_gains M x0) O) 0 0 A := by
  refine x_body (own := RX7) (by decide +kernel) rfl gl (Nat.le_of_ble_eq_true rfl) (ls := [(0, .ref (ad 193)), (1, .int x0)]) rfl ?_
  intro p0 e s m args below meth c C
  have hR : (f_X7_gains M x0) = (nm (f_X7_earns M x0) (fun (r2 : Int32) => (if r2 ≤ 0 then (f_X7_gains_J45 M x0 r2) else (nm (f_X7_changes M x0 r2) (fun (M7 : StM) => (nm (sma M7 0 (ix 4) ((ma M7 0 (ix 4)) - r2)) (fun (M10 : StM) => (nm (sma M10 0 (ix 8) ((ma M10 0 (ix 8)) + r2)) (fun (M13 : StM) => (nm (f_X7_writes M13 105 r2 x0) (fun (M15 : StM) => (f_X7_gains_J45 M15 x0 r2)))))))))))) := rfl
  have hok : ((ok_X7_earns M x0) ∧ (∀ r2 : Int32, r2 = (f_X7_earns M x0) → ((r2 ≤ 0 → (ok_X7_gains_J45 M x0 r2)) ∧ (¬ r2 ≤ 0 → ((ok_X7_changes M x0 r2) ∧ (∀ M7 : StM, M7 = (f_X7_changes M x0 r2) → (∀ M10 : StM, M10 = (sma M7 0 (ix 4) ((ma M7 0 (ix 4)) - r2)) → (∀ M13 : StM, M13 = (sma M10 0 (ix 8) ((ma M10 0 (ix 8)) + r2)) → ((ok_X7_writes M13 105 r2 x0) ∧ (∀ M15 : StM, M15 = (f_X7_writes M13 105 r2 x0) → (ok_X7_gains_J45 M15 x0 r2))))))))))) := hok
  refine x_aload_n (pc := 0) (i := 0) C 0 dX7_gains_0 rfl rfl ?_
  refine x_iload_n (pc := 1) (i := 1) C 1 dX7_gains_1 rfl rfl ?_
  have h1 := hok.1
  have hok := hok.2
  refine x_cIV (pc := 2) (as := [.int x0]) (q := 193) C (c_X7_earns C.2.2.2.2.2.2.2.1  B M O x0 h1) (fs := _) e_M rfl cv_X7_earns cd_X7_earns wd_7_204 ⟨Nat.le_of_ble_eq_true rfl, Nat.le_of_ble_eq_true rfl⟩ ⟨Nat.le_of_ble_eq_true rfl, Nat.le_of_ble_eq_true rfl⟩ rfl rfl (Nat.le_of_ble_eq_true rfl) dX7_gains_2 ?_
  refine x_nmI (fun r2 er2 => ?_)
  have hR := nmE hR er2
  have hok := hok r2 er2
  refine x_istore_n (pc := 5) (i := 2) (ls2 := [(2, .int r2), (0, .ref (ad 193)), (1, .int x0)]) C dX7_gains_5 rfl (by decide) rfl ?_
  refine x_iload_n (pc := 6) (i := 2) C 0 dX7_gains_6 rfl rfl ?_
  refine x_if_le (pc := 7) (tgt := 45) C dX7_gains_7 (by decide) (fun c3 => ?_) (fun c3 => ?_)
  · have hR := hR.trans (if_pos c3)
    have hok := hok.1 c3
    refine x_sub [1, 2, 0] (ls2 := [(0, .ref (ad 193)), (1, .int x0), (2, .int r2)]) rfl ?_
    exact t_X7_gains_J45 C M x0 r2 B O _ hR hok
  · have hR := hR.trans (if_neg c3)
    have hok := hok.2 c3
    refine x_aload_n (pc := 10) (i := 0) C 1 dX7_gains_10 rfl rfl ?_
    refine x_iload_n (pc := 11) (i := 1) C 2 dX7_gains_11 rfl rfl ?_
    refine x_iload_n (pc := 12) (i := 2) C 0 dX7_gains_12 rfl rfl ?_
    have h6 := hok.1
    have hok := hok.2
    refine x_cVV (pc := 13) (as := [.int x0, .int r2]) (q := 193) C (c_X7_changes C.2.2.2.2.2.2.2.1  B M O x0 r2 h6) (fs := _) e_M rfl cv_X7_changes cd_X7_changes wd_7_123 ⟨Nat.le_of_ble_eq_true rfl, Nat.le_of_ble_eq_true rfl⟩ ⟨Nat.le_of_ble_eq_true rfl, Nat.le_of_ble_eq_true rfl⟩ rfl rfl (Nat.le_of_ble_eq_true rfl) dX7_gains_13 ?_
    refine x_nmM (fun M7 eM7 => ?_)
    have hR := nmE hR eM7
    have hok := hok M7 eM7
    refine x_aload_n (pc := 16) (i := 0) C 1 dX7_gains_16 rfl rfl ?_
    refine x_get (pc := 17) (q := 193) (i := 0) C e_M rfl ttX7 (by decide) wd_6_227 rfl dX7_gains_17 ?_
    refine x_iconst (pc := 20) (v := 4) C dX7_gains_20 (by decide) ?_
    refine x_dup2 (pc := 21) C dX7_gains_21 rfl rfl ?_
    have h8 : vp_in (4) 124 := (by decide : ¬ ((4 : Int32) < 0 ∨ 124 ≤ Int32.toNatClampNeg 4))
    refine x_iald (pc := 22) (q := 194) C e_M0 h8 dX7_gains_22 ?_
    refine x_iload_n (pc := 23) (i := 2) C 0 dX7_gains_23 rfl rfl ?_
    refine x_isub (pc := 24) C dX7_gains_24 ?_
    have h9 : vp_in (4) 124 := (by decide : ¬ ((4 : Int32) < 0 ∨ 124 ≤ Int32.toNatClampNeg 4))
    refine x_iastM (pc := 25) (j := 0) C (by decide) e_M0 e_M0.2 h9 dX7_gains_25 ?_
    refine x_nmM (fun M10 eM10 => ?_)
    have hR := nmE hR eM10
    have hok := hok M10 eM10
    refine x_aload_n (pc := 26) (i := 0) C 1 dX7_gains_26 rfl rfl ?_
    refine x_get (pc := 27) (q := 193) (i := 0) C e_M rfl ttX7 (by decide) wd_6_227 rfl dX7_gains_27 ?_
    refine x_bipush (pc := 30) (v := 8) C dX7_gains_30 (by decide) ?_
    refine x_dup2 (pc := 32) C dX7_gains_32 rfl rfl ?_
    have h11 : vp_in (8) 124 := (by decide : ¬ ((8 : Int32) < 0 ∨ 124 ≤ Int32.toNatClampNeg 8))
    refine x_iald (pc := 33) (q := 194) C e_M0 h11 dX7_gains_33 ?_
    refine x_iload_n (pc := 34) (i := 2) C 0 dX7_gains_34 rfl rfl ?_
    refine x_iadd (pc := 35) C dX7_gains_35 ?_
    have h12 : vp_in (8) 124 := (by decide : ¬ ((8 : Int32) < 0 ∨ 124 ≤ Int32.toNatClampNeg 8))
    refine x_iastM (pc := 36) (j := 0) C (by decide) e_M0 e_M0.2 h12 dX7_gains_36 ?_
    refine x_nmM (fun M13 eM13 => ?_)
    have hR := nmE hR eM13
    have hok := hok M13 eM13
    refine x_aload_n (pc := 37) (i := 0) C 1 dX7_gains_37 rfl rfl ?_
    refine x_bipush (pc := 38) (v := 105) C dX7_gains_38 (by decide) ?_
    refine x_iload_n (pc := 40) (i := 2) C 0 dX7_gains_40 rfl rfl ?_
    refine x_iload_n (pc := 41) (i := 1) C 2 dX7_gains_41 rfl rfl ?_
    have h14 := hok.1
    have hok := hok.2
    refine x_cVV (pc := 42) (as := [.int 105, .int r2, .int x0]) (q := 193) C (c_X7_writes C.2.2.2.2.2.2.2.1  B M13 O 105 r2 x0 h14) (fs := _) e_M rfl cv_X7_writes cd_X7_writes wd_7_127 ⟨Nat.le_of_ble_eq_true rfl, Nat.le_of_ble_eq_true rfl⟩ ⟨Nat.le_of_ble_eq_true rfl, Nat.le_of_ble_eq_true rfl⟩ rfl rfl (Nat.le_of_ble_eq_true rfl) dX7_gains_42 ?_
    refine x_nmM (fun M15 eM15 => ?_)
    have hR := nmE hR eM15
    have hok := hok M15 eM15
    refine x_sub [1, 2, 0] (ls2 := [(0, .ref (ad 193)), (1, .int x0), (2, .int r2)]) rfl ?_
    exact t_X7_gains_J45 C M15 x0 r2 B O _ hR hok
set_option maxHeartbeats 4000000 in
set_option maxRecDepth 100000 in
theorem c_X7_interestOf {l : Launch} {A : Nat → Prop} {G : GT} {ad : Nat → Nat} (gl : Gl l A ad)  (B : StB) (M : StM) (O : StO) (x0 : Int32) (hok : ok_X7_interestOf M x0) : Met l yX7_interestOf (wof yX7_interestOf cX7_interestOf 2 (some .int)) (rmd 6 0 0) (va_Pc [.ref (ad 193), .int x0] (PW G A ad B M O)) (QI G A ad (f_X7_interestOf M x0).1 B (f_X7_interestOf M x0).2 O) 0 0 A := by
  refine x_body (own := RX7) (by decide +kernel) rfl gl (Nat.le_of_ble_eq_true rfl) (ls := [(0, .ref (ad 193)), (1, .int x0)]) rfl ?_
  intro p0 e s m args below meth c C
  have hR : (f_X7_interestOf M x0) = (nm (f_X7_isAccount M x0) (fun (r2 : Int32) => (nm (f_X7_goes M r2) (fun (z4 : Int32 × StM) => (if z4.1 = 0 then (0, z4.2) else (nm (f_X7_earns z4.2 x0) (fun (r7 : Int32) => (r7, z4.2)))))))) := rfl
  have hok : ((ok_X7_isAccount M x0) ∧ (∀ r2 : Int32, r2 = (f_X7_isAccount M x0) → ((ok_X7_goes M r2) ∧ (∀ z4 : Int32 × StM, z4 = (f_X7_goes M r2) → ((z4.1 = 0 → True) ∧ (¬ z4.1 = 0 → ((ok_X7_earns z4.2 x0)))))))) := hok
  refine x_aload_n (pc := 0) (i := 0) C 0 dX7_interestOf_0 rfl rfl ?_
  refine x_aload_n (pc := 1) (i := 0) C 0 dX7_interestOf_1 rfl rfl ?_
  refine x_iload_n (pc := 2) (i := 1) C 1 dX7_interestOf_2 rfl rfl ?_
  have h1 := hok.1
  have hok := hok.2
  refine x_cIV (pc := 3) (as := [.int x0]) (q := 193) C (c_X7_isAccount C.2.2.2.2.2.2.2.1  B M O x0 h1) (fs := _) e_M rfl cv_X7_isAccount cd_X7_isAccount wd_7_115 ⟨Nat.le_of_ble_eq_true rfl, Nat.le_of_ble_eq_true rfl⟩ ⟨Nat.le_of_ble_eq_true rfl, Nat.le_of_ble_eq_true rfl⟩ rfl rfl (Nat.le_of_ble_eq_true rfl) dX7_interestOf_3 ?_
  refine x_nmI (fun r2 er2 => ?_)
  have hR := nmE hR er2
  have hok := hok r2 er2
  have h3 := hok.1
  have hok := hok.2
  refine x_cIV (pc := 6) (as := [.int r2]) (q := 193) C (c_X7_goes C.2.2.2.2.2.2.2.1  B M O r2 h3) (fs := _) e_M rfl cv_X7_goes cd_X7_goes wd_7_59 ⟨Nat.le_of_ble_eq_true rfl, Nat.le_of_ble_eq_true rfl⟩ ⟨Nat.le_of_ble_eq_true rfl, Nat.le_of_ble_eq_true rfl⟩ rfl rfl (Nat.le_of_ble_eq_true rfl) dX7_interestOf_6 ?_
  refine x_nmIM (fun z4 ez4 => ?_)
  have hR := nmE hR ez4
  have hok := hok z4 ez4
  refine x_if_eq (pc := 9) (tgt := 20) C dX7_interestOf_9 (by decide) (fun c5 => ?_) (fun c5 => ?_)
  · have hR := hR.trans (if_pos c5)
    refine x_iconst (pc := 20) (v := 0) C dX7_interestOf_20 (by decide) ?_
    exact x_iretM (pc := 21) C rfl hR dX7_interestOf_21
  · have hR := hR.trans (if_neg c5)
    have hok := hok.2 c5
    refine x_aload_n (pc := 12) (i := 0) C 0 dX7_interestOf_12 rfl rfl ?_
    refine x_iload_n (pc := 13) (i := 1) C 1 dX7_interestOf_13 rfl rfl ?_
    have h6 := hok
    refine x_cIV (pc := 14) (as := [.int x0]) (q := 193) C (c_X7_earns C.2.2.2.2.2.2.2.1  B z4.2 O x0 h6) (fs := _) e_M rfl cv_X7_earns cd_X7_earns wd_7_204 ⟨Nat.le_of_ble_eq_true rfl, Nat.le_of_ble_eq_true rfl⟩ ⟨Nat.le_of_ble_eq_true rfl, Nat.le_of_ble_eq_true rfl⟩ rfl rfl (Nat.le_of_ble_eq_true rfl) dX7_interestOf_14 ?_
    refine x_nmI (fun r7 er7 => ?_)
    have hR := nmE hR er7
    refine x_goto (pc := 17) (tgt := 21) C dX7_interestOf_17 (by decide) ?_
    exact x_iretM (pc := 21) C rfl hR dX7_interestOf_21
set_option maxHeartbeats 4000000 in
set_option maxRecDepth 100000 in
theorem t_X7_closesDay_L4 {p0 : Program} {l : Launch} {e : Env} {s : State} {m : MethodId} {args : Array Value} {below : List Frame} {meth : Method} {c : Code} {A : Nat → Prop} {G : GT} {ad : Nat → Nat} {Q : State → Prop} (C : CX p0 l s m args meth c A G ad cX7_closesDay RX7 4 (some .int))  (n : Nat) (M : StM) (a1 : Int32) (a2 : Int32) (B : StB) (O : StO) : ∀ (R0 : Int32 × StM) (hR : R0 = f_X7_closesDay_L4 n M a1 a2) (hok : ok_X7_closesDay_L4 n M a1 a2) (k : X p0 l e (rmd 7 0 0) s m args below meth c A G ad 4 0 0 Q B R0.2 O [(0, .ref (ad 193)), (1, .int R0.1)] 59 []), X p0 l e (rmd 7 0 0) s m args below meth c A G ad 4 0 0 Q B M O [(0, .ref (ad 193)), (1, .int a1), (2, .int a2)] 4 [] := by
  induction n generalizing M a1 a2 with
  | zero => intro R0 hR hok k; exact False.elim hok
  | succ n ih =>
    intro R0 hR hok k
    have hR : R0 = (if (ma M 0 (ix 3)) ≤ a2 then (a1, M) else (nm (f_X7_ofPlace M a2 4) (fun (r4 : Int32) => (if r4 = (ma M 0 (ix 0)) then (nm (f_X7_isMoved M a2) (fun (z8 : Int32 × StM) => (if z8.1 = 0 then (nm (a1 + 0) (fun (v10 : Int32) => (nm (f_X7_drops z8.2 a2) (fun (M12 : StM) => (f_X7_closesDay_L4 n M12 v10 a2))))) else (nm (a1 + 1) (fun (v13 : Int32) => (nm (f_X7_drops z8.2 a2) (fun (M15 : StM) => (f_X7_closesDay_L4 n M15 v13 a2)))))))) else (f_X7_closesDay_L4 n M a1 (a2 + 1)))))) := hR
    have hok : (((ma M 0 (ix 3)) ≤ a2 → True) ∧ (¬ (ma M 0 (ix 3)) ≤ a2 → ((ok_X7_ofPlace M a2 4) ∧ (∀ r4 : Int32, r4 = (f_X7_ofPlace M a2 4) → ((r4 = (ma M 0 (ix 0)) → ((ok_X7_isMoved M a2) ∧ (∀ z8 : Int32 × StM, z8 = (f_X7_isMoved M a2) → ((z8.1 = 0 → (∀ v10 : Int32, v10 = (a1 + 0) → ((ok_X7_drops z8.2 a2) ∧ (∀ M12 : StM, M12 = (f_X7_drops z8.2 a2) → (ok_X7_closesDay_L4 n M12 v10 a2))))) ∧ (¬ z8.1 = 0 → (∀ v13 : Int32, v13 = (a1 + 1) → ((ok_X7_drops z8.2 a2) ∧ (∀ M15 : StM, M15 = (f_X7_drops z8.2 a2) → (ok_X7_closesDay_L4 n M15 v13 a2))))))))) ∧ (¬ r4 = (ma M 0 (ix 0)) → (ok_X7_closesDay_L4 n M a1 (a2 + 1)))))))) := hok
    refine x_iload_n (pc := 4) (i := 2) C 2 dX7_closesDay_4 rfl rfl ?_
    refine x_aload_n (pc := 5) (i := 0) C 0 dX7_closesDay_5 rfl rfl ?_
    refine x_get (pc := 6) (q := 193) (i := 0) C e_M rfl ttX7 (by decide) wd_6_227 rfl dX7_closesDay_6 ?_
    refine x_iconst (pc := 9) (v := 3) C dX7_closesDay_9 (by decide) ?_
    have h1 : vp_in (3) 124 := (by decide : ¬ ((3 : Int32) < 0 ∨ 124 ≤ Int32.toNatClampNeg 3))
    refine x_iald (pc := 10) (q := 194) C e_M0 h1 dX7_closesDay_10 ?_
    refine x_icmp_ge (pc := 11) (tgt := 59) C dX7_closesDay_11 (by decide) (fun c2 => ?_) (fun c2 => ?_)
    · have hR := hR.trans (if_pos c2)
      refine x_sub [0, 1] (ls2 := [(0, .ref (ad 193)), (1, .int a1)]) rfl ?_
      subst hR
      exact k
    · have hR := hR.trans (if_neg c2)
      have hok := hok.2 c2
      refine x_aload_n (pc := 14) (i := 0) C 0 dX7_closesDay_14 rfl rfl ?_
      refine x_iload_n (pc := 15) (i := 2) C 2 dX7_closesDay_15 rfl rfl ?_
      refine x_iconst (pc := 16) (v := 4) C dX7_closesDay_16 (by decide) ?_
      have h3 := hok.1
      have hok := hok.2
      refine x_cIV (pc := 17) (as := [.int a2, .int 4]) (q := 193) C (c_X7_ofPlace C.2.2.2.2.2.2.2.1  B M O a2 4 h3) (fs := _) e_M rfl cv_X7_ofPlace cd_X7_ofPlace wd_7_168 ⟨Nat.le_of_ble_eq_true rfl, Nat.le_of_ble_eq_true rfl⟩ ⟨Nat.le_of_ble_eq_true rfl, Nat.le_of_ble_eq_true rfl⟩ rfl rfl (Nat.le_of_ble_eq_true rfl) dX7_closesDay_17 ?_
      refine x_nmI (fun r4 er4 => ?_)
      have hR := nmE hR er4
      have hok := hok r4 er4
      refine x_aload_n (pc := 20) (i := 0) C 0 dX7_closesDay_20 rfl rfl ?_
      refine x_get (pc := 21) (q := 193) (i := 0) C e_M rfl ttX7 (by decide) wd_6_227 rfl dX7_closesDay_21 ?_
      refine x_iconst (pc := 24) (v := 0) C dX7_closesDay_24 (by decide) ?_
      have h5 : vp_in (0) 124 := (by decide : ¬ ((0 : Int32) < 0 ∨ 124 ≤ Int32.toNatClampNeg 0))
      refine x_iald (pc := 25) (q := 194) C e_M0 h5 dX7_closesDay_25 ?_
      refine x_icmp_ne (pc := 26) (tgt := 53) C dX7_closesDay_26 (by decide) (fun c6 => ?_) (fun c6 => ?_)
      · have hR := hR.trans (if_neg c6)
        have hok := hok.2 c6
        refine x_iinc (pc := 53) (i := 2) (v := (a2 + 1)) (ls2 := [(2, .int (a2 + 1)), (0, .ref (ad 193)), (1, .int a1)]) C 2 dX7_closesDay_53 rfl rfl (by decide) rfl ?_
        refine x_goto (pc := 56) (tgt := 4) C dX7_closesDay_56 (by decide) ?_
        refine x_sub [1, 2, 0] (ls2 := [(0, .ref (ad 193)), (1, .int a1), (2, .int (a2 + 1))]) rfl ?_
        exact ih M a1 (a2 + 1) R0 hR hok k
      · have hR := hR.trans (if_pos c6)
        have hok := hok.1 c6
        refine x_iload_n (pc := 29) (i := 1) C 1 dX7_closesDay_29 rfl rfl ?_
        refine x_aload_n (pc := 30) (i := 0) C 0 dX7_closesDay_30 rfl rfl ?_
        refine x_iload_n (pc := 31) (i := 2) C 2 dX7_closesDay_31 rfl rfl ?_
        have h7 := hok.1
        have hok := hok.2
        refine x_cIV (pc := 32) (as := [.int a2]) (q := 193) C (c_X7_isMoved C.2.2.2.2.2.2.2.1  B M O a2 h7) (fs := _) e_M rfl cv_X7_isMoved cd_X7_isMoved wd_7_188 ⟨Nat.le_of_ble_eq_true rfl, Nat.le_of_ble_eq_true rfl⟩ ⟨Nat.le_of_ble_eq_true rfl, Nat.le_of_ble_eq_true rfl⟩ rfl rfl (Nat.le_of_ble_eq_true rfl) dX7_closesDay_32 ?_
        refine x_nmIM (fun z8 ez8 => ?_)
        have hR := nmE hR ez8
        have hok := hok z8 ez8
        refine x_if_eq (pc := 35) (tgt := 42) C dX7_closesDay_35 (by decide) (fun c9 => ?_) (fun c9 => ?_)
        · have hR := hR.trans (if_pos c9)
          have hok := hok.1 c9
          refine x_iconst (pc := 42) (v := 0) C dX7_closesDay_42 (by decide) ?_
          refine x_iadd (pc := 43) C dX7_closesDay_43 ?_
          refine x_nmI (fun v10 ev10 => ?_)
          have hR := nmE hR ev10
          have hok := hok v10 ev10
          refine x_istore_n (pc := 44) (i := 1) (ls2 := [(1, .int v10), (0, .ref (ad 193)), (2, .int a2)]) C dX7_closesDay_44 rfl (by decide) rfl ?_
          refine x_aload_n (pc := 45) (i := 0) C 1 dX7_closesDay_45 rfl rfl ?_
          refine x_iload_n (pc := 46) (i := 2) C 2 dX7_closesDay_46 rfl rfl ?_
          have h11 := hok.1
          have hok := hok.2
          refine x_cVV (pc := 47) (as := [.int a2]) (q := 193) C (c_X7_drops C.2.2.2.2.2.2.2.1  B z8.2 O a2 h11) (fs := _) e_M rfl cv_X7_drops cd_X7_drops wd_7_172 ⟨Nat.le_of_ble_eq_true rfl, Nat.le_of_ble_eq_true rfl⟩ ⟨Nat.le_of_ble_eq_true rfl, Nat.le_of_ble_eq_true rfl⟩ rfl rfl (Nat.le_of_ble_eq_true rfl) dX7_closesDay_47 ?_
          refine x_nmM (fun M12 eM12 => ?_)
          have hR := nmE hR eM12
          have hok := hok M12 eM12
          refine x_goto (pc := 50) (tgt := 4) C dX7_closesDay_50 (by decide) ?_
          refine x_sub [1, 0, 2] (ls2 := [(0, .ref (ad 193)), (1, .int v10), (2, .int a2)]) rfl ?_
          exact ih M12 v10 a2 R0 hR hok k
        · have hR := hR.trans (if_neg c9)
          have hok := hok.2 c9
          refine x_iconst (pc := 38) (v := 1) C dX7_closesDay_38 (by decide) ?_
          refine x_goto (pc := 39) (tgt := 43) C dX7_closesDay_39 (by decide) ?_
          refine x_iadd (pc := 43) C dX7_closesDay_43 ?_
          refine x_nmI (fun v13 ev13 => ?_)
          have hR := nmE hR ev13
          have hok := hok v13 ev13
          refine x_istore_n (pc := 44) (i := 1) (ls2 := [(1, .int v13), (0, .ref (ad 193)), (2, .int a2)]) C dX7_closesDay_44 rfl (by decide) rfl ?_
          refine x_aload_n (pc := 45) (i := 0) C 1 dX7_closesDay_45 rfl rfl ?_
          refine x_iload_n (pc := 46) (i := 2) C 2 dX7_closesDay_46 rfl rfl ?_
          have h14 := hok.1
          have hok := hok.2
          refine x_cVV (pc := 47) (as := [.int a2]) (q := 193) C (c_X7_drops C.2.2.2.2.2.2.2.1  B z8.2 O a2 h14) (fs := _) e_M rfl cv_X7_drops cd_X7_drops wd_7_172 ⟨Nat.le_of_ble_eq_true rfl, Nat.le_of_ble_eq_true rfl⟩ ⟨Nat.le_of_ble_eq_true rfl, Nat.le_of_ble_eq_true rfl⟩ rfl rfl (Nat.le_of_ble_eq_true rfl) dX7_closesDay_47 ?_
          refine x_nmM (fun M15 eM15 => ?_)
          have hR := nmE hR eM15
          have hok := hok M15 eM15
          refine x_goto (pc := 50) (tgt := 4) C dX7_closesDay_50 (by decide) ?_
          refine x_sub [1, 0, 2] (ls2 := [(0, .ref (ad 193)), (1, .int v13), (2, .int a2)]) rfl ?_
          exact ih M15 v13 a2 R0 hR hok k
set_option maxHeartbeats 4000000 in
set_option maxRecDepth 100000 in
theorem t_X7_closesDay_L61 {p0 : Program} {l : Launch} {e : Env} {s : State} {m : MethodId} {args : Array Value} {below : List Frame} {meth : Method} {c : Code} {A : Nat → Prop} {G : GT} {ad : Nat → Nat} {Q : State → Prop} (C : CX p0 l s m args meth c A G ad cX7_closesDay RX7 4 (some .int))  (n : Nat) (M : StM) (a1 : Int32) (a3 : Int32) (B : StB) (O : StO) : ∀ (R0 : StM) (hR : R0 = f_X7_closesDay_L61 n M a1 a3) (hok : ok_X7_closesDay_L61 n M a1 a3) (k : X p0 l e (rmd 7 0 0) s m args below meth c A G ad 4 0 0 Q B R0 O [(0, .ref (ad 193)), (1, .int a1)] 82 []), X p0 l e (rmd 7 0 0) s m args below meth c A G ad 4 0 0 Q B M O [(0, .ref (ad 193)), (1, .int a1), (3, .int a3)] 61 [] := by
  induction n generalizing M a1 a3 with
  | zero => intro R0 hR hok k; exact False.elim hok
  | succ n ih =>
    intro R0 hR hok k
    have hR : R0 = (if (ma M 0 (ix 1)) ≤ a3 then M else (nm (f_X7_gains M a3) (fun (M20 : StM) => (f_X7_closesDay_L61 n M20 a1 (a3 + 1))))) := hR
    have hok : (((ma M 0 (ix 1)) ≤ a3 → True) ∧ (¬ (ma M 0 (ix 1)) ≤ a3 → ((ok_X7_gains M a3) ∧ (∀ M20 : StM, M20 = (f_X7_gains M a3) → (ok_X7_closesDay_L61 n M20 a1 (a3 + 1)))))) := hok
    refine x_iload_n (pc := 61) (i := 3) C 2 dX7_closesDay_61 rfl rfl ?_
    refine x_aload_n (pc := 62) (i := 0) C 0 dX7_closesDay_62 rfl rfl ?_
    refine x_get (pc := 63) (q := 193) (i := 0) C e_M rfl ttX7 (by decide) wd_6_227 rfl dX7_closesDay_63 ?_
    refine x_iconst (pc := 66) (v := 1) C dX7_closesDay_66 (by decide) ?_
    have h17 : vp_in (1) 124 := (by decide : ¬ ((1 : Int32) < 0 ∨ 124 ≤ Int32.toNatClampNeg 1))
    refine x_iald (pc := 67) (q := 194) C e_M0 h17 dX7_closesDay_67 ?_
    refine x_icmp_ge (pc := 68) (tgt := 82) C dX7_closesDay_68 (by decide) (fun c18 => ?_) (fun c18 => ?_)
    · have hR := hR.trans (if_pos c18)
      refine x_sub [0, 1] (ls2 := [(0, .ref (ad 193)), (1, .int a1)]) rfl ?_
      subst hR
      exact k
    · have hR := hR.trans (if_neg c18)
      have hok := hok.2 c18
      refine x_aload_n (pc := 71) (i := 0) C 0 dX7_closesDay_71 rfl rfl ?_
      refine x_iload_n (pc := 72) (i := 3) C 2 dX7_closesDay_72 rfl rfl ?_
      have h19 := hok.1
      have hok := hok.2
      refine x_cVV (pc := 73) (as := [.int a3]) (q := 193) C (c_X7_gains C.2.2.2.2.2.2.2.1  B M O a3 h19) (fs := _) e_M rfl cv_X7_gains cd_X7_gains wd_7_200 ⟨Nat.le_of_ble_eq_true rfl, Nat.le_of_ble_eq_true rfl⟩ ⟨Nat.le_of_ble_eq_true rfl, Nat.le_of_ble_eq_true rfl⟩ rfl rfl (Nat.le_of_ble_eq_true rfl) dX7_closesDay_73 ?_
      refine x_nmM (fun M20 eM20 => ?_)
      have hR := nmE hR eM20
      have hok := hok M20 eM20
      refine x_iinc (pc := 76) (i := 3) (v := (a3 + 1)) (ls2 := [(3, .int (a3 + 1)), (0, .ref (ad 193)), (1, .int a1)]) C 2 dX7_closesDay_76 rfl rfl (by decide) rfl ?_
      refine x_goto (pc := 79) (tgt := 61) C dX7_closesDay_79 (by decide) ?_
      refine x_sub [1, 2, 0] (ls2 := [(0, .ref (ad 193)), (1, .int a1), (3, .int (a3 + 1))]) rfl ?_
      exact ih M20 a1 (a3 + 1) R0 hR hok k
set_option maxHeartbeats 4000000 in
set_option maxRecDepth 100000 in
theorem t_X7_closesDay_L84 {p0 : Program} {l : Launch} {e : Env} {s : State} {m : MethodId} {args : Array Value} {below : List Frame} {meth : Method} {c : Code} {A : Nat → Prop} {G : GT} {ad : Nat → Nat} {Q : State → Prop} (C : CX p0 l s m args meth c A G ad cX7_closesDay RX7 4 (some .int))  (n : Nat) (M : StM) (a1 : Int32) (a3 : Int32) (B : StB) (O : StO) : ∀ (R0 : StM) (hR : R0 = f_X7_closesDay_L84 n M a1 a3) (hok : ok_X7_closesDay_L84 n M a1 a3) (k : X p0 l e (rmd 7 0 0) s m args below meth c A G ad 4 0 0 Q B R0 O [(0, .ref (ad 193)), (1, .int a1)] 112 []), X p0 l e (rmd 7 0 0) s m args below meth c A G ad 4 0 0 Q B M O [(0, .ref (ad 193)), (1, .int a1), (3, .int a3)] 84 [] := by
  induction n generalizing M a1 a3 with
  | zero => intro R0 hR hok k; exact False.elim hok
  | succ n ih =>
    intro R0 hR hok k
    have hR : R0 = (if (ma M 0 (ix 1)) ≤ a3 then M else (nm (f_X7_accountAt a3) (fun (r24 : Int32) => (nm (sma M 0 (ix (r24 + 3)) 0) (fun (M26 : StM) => (f_X7_closesDay_L84 n M26 a1 (a3 + 1))))))) := hR
    have hok : (((ma M 0 (ix 1)) ≤ a3 → True) ∧ (¬ (ma M 0 (ix 1)) ≤ a3 → (∀ r24 : Int32, r24 = (f_X7_accountAt a3) → (vp_in (r24 + 3) 124 ∧ (∀ M26 : StM, M26 = (sma M 0 (ix (r24 + 3)) 0) → (ok_X7_closesDay_L84 n M26 a1 (a3 + 1))))))) := hok
    refine x_iload_n (pc := 84) (i := 3) C 2 dX7_closesDay_84 rfl rfl ?_
    refine x_aload_n (pc := 85) (i := 0) C 0 dX7_closesDay_85 rfl rfl ?_
    refine x_get (pc := 86) (q := 193) (i := 0) C e_M rfl ttX7 (by decide) wd_6_227 rfl dX7_closesDay_86 ?_
    refine x_iconst (pc := 89) (v := 1) C dX7_closesDay_89 (by decide) ?_
    have h22 : vp_in (1) 124 := (by decide : ¬ ((1 : Int32) < 0 ∨ 124 ≤ Int32.toNatClampNeg 1))
    refine x_iald (pc := 90) (q := 194) C e_M0 h22 dX7_closesDay_90 ?_
    refine x_icmp_ge (pc := 91) (tgt := 112) C dX7_closesDay_91 (by decide) (fun c23 => ?_) (fun c23 => ?_)
    · have hR := hR.trans (if_pos c23)
      refine x_sub [0, 1] (ls2 := [(0, .ref (ad 193)), (1, .int a1)]) rfl ?_
      subst hR
      exact k
    · have hR := hR.trans (if_neg c23)
      have hok := hok.2 c23
      refine x_aload_n (pc := 94) (i := 0) C 0 dX7_closesDay_94 rfl rfl ?_
      refine x_get (pc := 95) (q := 193) (i := 0) C e_M rfl ttX7 (by decide) wd_6_227 rfl dX7_closesDay_95 ?_
      refine x_iload_n (pc := 98) (i := 3) C 2 dX7_closesDay_98 rfl rfl ?_
      refine x_cIS (pc := 99) (as := [.int a3]) C (c_X7_accountAt C.2.2.2.2.2.2.2.1  B M O a3) wd_7_94 cd_X7_accountAt wd_7_93 ⟨Nat.le_of_ble_eq_true rfl, Nat.le_of_ble_eq_true rfl⟩ ⟨Nat.le_of_ble_eq_true rfl, Nat.le_of_ble_eq_true rfl⟩ rfl rfl (Nat.le_of_ble_eq_true rfl) dX7_closesDay_99 ?_
      refine x_nmI (fun r24 er24 => ?_)
      have hR := nmE hR er24
      have hok := hok r24 er24
      refine x_iconst (pc := 102) (v := 3) C dX7_closesDay_102 (by decide) ?_
      refine x_iadd (pc := 103) C dX7_closesDay_103 ?_
      refine x_iconst (pc := 104) (v := 0) C dX7_closesDay_104 (by decide) ?_
      have h25 := hok.1
      have hok := hok.2
      refine x_iastM (pc := 105) (j := 0) C (by decide) e_M0 e_M0.2 h25 dX7_closesDay_105 ?_
      refine x_nmM (fun M26 eM26 => ?_)
      have hR := nmE hR eM26
      have hok := hok M26 eM26
      refine x_iinc (pc := 106) (i := 3) (v := (a3 + 1)) (ls2 := [(3, .int (a3 + 1)), (0, .ref (ad 193)), (1, .int a1)]) C 2 dX7_closesDay_106 rfl rfl (by decide) rfl ?_
      refine x_goto (pc := 109) (tgt := 84) C dX7_closesDay_109 (by decide) ?_
      refine x_sub [1, 2, 0] (ls2 := [(0, .ref (ad 193)), (1, .int a1), (3, .int (a3 + 1))]) rfl ?_
      exact ih M26 a1 (a3 + 1) R0 hR hok k
set_option maxHeartbeats 4000000 in
set_option maxRecDepth 100000 in
theorem c_X7_closesDay {l : Launch} {A : Nat → Prop} {G : GT} {ad : Nat → Nat} (gl : Gl l A ad)  (B : StB) (M : StM) (O : StO)  (hok : ok_X7_closesDay M) : Met l yX7_closesDay (wof yX7_closesDay cX7_closesDay 4 (some .int)) (rmd 7 0 0) (va_Pc [.ref (ad 193)] (PW G A ad B M O)) (QI G A ad (f_X7_closesDay M).1 B (f_X7_closesDay M).2 O) 0 0 A := by
  refine x_body (own := RX7) (by decide +kernel) rfl gl (Nat.le_of_ble_eq_true rfl) (ls := [(0, .ref (ad 193))]) rfl ?_
  intro p0 e s m args below meth c C
  have hR : (f_X7_closesDay M) = (nm (f_X7_closesDay_L4 fu M 0 0) (fun (z16 : Int32 × StM) => (nm (f_X7_closesDay_L61 fu z16.2 z16.1 0) (fun (z21 : StM) => (nm (f_X7_closesDay_L84 fu z21 z16.1 0) (fun (z27 : StM) => (nm (sma z27 0 (ix 0) ((ma z27 0 (ix 0)) + 1)) (fun (M30 : StM) => (z16.1, M30))))))))) := rfl
  have hok : ((ok_X7_closesDay_L4 fu M 0 0) ∧ ∀ z16 : Int32 × StM, z16 = f_X7_closesDay_L4 fu M 0 0 → ((ok_X7_closesDay_L61 fu z16.2 z16.1 0) ∧ ∀ z21 : StM, z21 = f_X7_closesDay_L61 fu z16.2 z16.1 0 → (ok_X7_closesDay_L84 fu z21 z16.1 0))) := hok
  refine x_iconst (pc := 0) (v := 0) C dX7_closesDay_0 (by decide) ?_
  refine x_istore_n (pc := 1) (i := 1) (ls2 := [(1, .int 0), (0, .ref (ad 193))]) C dX7_closesDay_1 rfl (by decide) rfl ?_
  refine x_iconst (pc := 2) (v := 0) C dX7_closesDay_2 (by decide) ?_
  refine x_istore_n (pc := 3) (i := 2) (ls2 := [(2, .int 0), (1, .int 0), (0, .ref (ad 193))]) C dX7_closesDay_3 rfl (by decide) rfl ?_
  refine x_sub [2, 1, 0] (ls2 := [(0, .ref (ad 193)), (1, .int 0), (2, .int 0)]) rfl ?_
  obtain ⟨z16, ez16⟩ : ∃ z : Int32 × StM, z = f_X7_closesDay_L4 fu M 0 0 := ⟨_, rfl⟩
  refine t_X7_closesDay_L4 C fu M 0 0 B O z16 ez16 hok.1 ?_
  have hR := nmE hR ez16
  have hok := hok.2 z16 ez16
  refine x_iconst (pc := 59) (v := 0) C dX7_closesDay_59 (by decide) ?_
  refine x_istore_n (pc := 60) (i := 3) (ls2 := [(3, .int 0), (0, .ref (ad 193)), (1, .int z16.1)]) C dX7_closesDay_60 rfl (by decide) rfl ?_
  refine x_sub [1, 2, 0] (ls2 := [(0, .ref (ad 193)), (1, .int z16.1), (3, .int 0)]) rfl ?_
  obtain ⟨z21, ez21⟩ : ∃ z : StM, z = f_X7_closesDay_L61 fu z16.2 z16.1 0 := ⟨_, rfl⟩
  refine t_X7_closesDay_L61 C fu z16.2 z16.1 0 B O z21 ez21 hok.1 ?_
  have hR := nmE hR ez21
  have hok := hok.2 z21 ez21
  refine x_iconst (pc := 82) (v := 0) C dX7_closesDay_82 (by decide) ?_
  refine x_istore_n (pc := 83) (i := 3) (ls2 := [(3, .int 0), (0, .ref (ad 193)), (1, .int z16.1)]) C dX7_closesDay_83 rfl (by decide) rfl ?_
  refine x_sub [1, 2, 0] (ls2 := [(0, .ref (ad 193)), (1, .int z16.1), (3, .int 0)]) rfl ?_
  obtain ⟨z27, ez27⟩ : ∃ z : StM, z = f_X7_closesDay_L84 fu z21 z16.1 0 := ⟨_, rfl⟩
  refine t_X7_closesDay_L84 C fu z21 z16.1 0 B O z27 ez27 hok ?_
  have hR := nmE hR ez27
  refine x_aload_n (pc := 112) (i := 0) C 0 dX7_closesDay_112 rfl rfl ?_
  refine x_get (pc := 113) (q := 193) (i := 0) C e_M rfl ttX7 (by decide) wd_6_227 rfl dX7_closesDay_113 ?_
  refine x_iconst (pc := 116) (v := 0) C dX7_closesDay_116 (by decide) ?_
  refine x_dup2 (pc := 117) C dX7_closesDay_117 rfl rfl ?_
  have h28 : vp_in (0) 124 := (by decide : ¬ ((0 : Int32) < 0 ∨ 124 ≤ Int32.toNatClampNeg 0))
  refine x_iald (pc := 118) (q := 194) C e_M0 h28 dX7_closesDay_118 ?_
  refine x_iconst (pc := 119) (v := 1) C dX7_closesDay_119 (by decide) ?_
  refine x_iadd (pc := 120) C dX7_closesDay_120 ?_
  have h29 : vp_in (0) 124 := (by decide : ¬ ((0 : Int32) < 0 ∨ 124 ≤ Int32.toNatClampNeg 0))
  refine x_iastM (pc := 121) (j := 0) C (by decide) e_M0 e_M0.2 h29 dX7_closesDay_121 ?_
  refine x_nmM (fun M30 eM30 => ?_)
  have hR := nmE hR eM30
  refine x_iload_n (pc := 122) (i := 1) C 1 dX7_closesDay_122 rfl rfl ?_
  exact x_iretM (pc := 123) C rfl hR dX7_closesDay_123
set_option maxHeartbeats 4000000 in
set_option maxRecDepth 100000 in
theorem t_X7_waits_L20 {p0 : Program} {l : Launch} {e : Env} {s : State} {m : MethodId} {args : Array Value} {below : List Frame} {meth : Method} {c : Code} {A : Nat → Prop} {G : GT} {ad : Nat → Nat} {Q : State → Prop} (C : CX p0 l s m args meth c A G ad cX7_waits RX7 4 (some .int))  (n : Nat) (M : StM) (a1 : Int32) (a2 : Int32) (a3 : Int32) (B : StB) (O : StO) : ∀ (R0 : Int32 × StM) (hR : R0 = f_X7_waits_L20 n M a1 a2 a3) (hok : ok_X7_waits_L20 n M a1 a2 a3) (k : X p0 l e (rmd 8 0 0) s m args below meth c A G ad 4 0 0 Q B R0.2 O [(2, .int R0.1)] 38 []), X p0 l e (rmd 8 0 0) s m args below meth c A G ad 4 0 0 Q B M O [(0, .ref (ad 193)), (1, .int a1), (2, .int a2), (3, .int a3)] 20 [] := by
  induction n generalizing M a1 a2 a3 with
  | zero => intro R0 hR hok k; exact False.elim hok
  | succ n ih =>
    intro R0 hR hok k
    have hR : R0 = (if a1 ≤ a3 then (a2, M) else (nm (f_X7_closesDay M) (fun (z7 : Int32 × StM) => (nm (a2 + z7.1) (fun (v8 : Int32) => (f_X7_waits_L20 n z7.2 a1 v8 (a3 + 1))))))) := hR
    have hok : ((a1 ≤ a3 → True) ∧ (¬ a1 ≤ a3 → ((ok_X7_closesDay M) ∧ (∀ z7 : Int32 × StM, z7 = (f_X7_closesDay M) → (∀ v8 : Int32, v8 = (a2 + z7.1) → (ok_X7_waits_L20 n z7.2 a1 v8 (a3 + 1))))))) := hok
    refine x_iload_n (pc := 20) (i := 3) C 3 dX7_waits_20 rfl rfl ?_
    refine x_iload_n (pc := 21) (i := 1) C 1 dX7_waits_21 rfl rfl ?_
    refine x_icmp_ge (pc := 22) (tgt := 38) C dX7_waits_22 (by decide) (fun c5 => ?_) (fun c5 => ?_)
    · have hR := hR.trans (if_pos c5)
      refine x_sub [2] (ls2 := [(2, .int a2)]) rfl ?_
      subst hR
      exact k
    · have hR := hR.trans (if_neg c5)
      have hok := hok.2 c5
      refine x_iload_n (pc := 25) (i := 2) C 2 dX7_waits_25 rfl rfl ?_
      refine x_aload_n (pc := 26) (i := 0) C 0 dX7_waits_26 rfl rfl ?_
      have h6 := hok.1
      have hok := hok.2
      refine x_cIV (pc := 27) (as := []) (q := 193) C (c_X7_closesDay C.2.2.2.2.2.2.2.1  B M O  h6) (fs := _) e_M rfl cv_X7_closesDay cd_X7_closesDay wd_7_184 ⟨Nat.le_of_ble_eq_true rfl, Nat.le_of_ble_eq_true rfl⟩ ⟨Nat.le_of_ble_eq_true rfl, Nat.le_of_ble_eq_true rfl⟩ rfl rfl (Nat.le_of_ble_eq_true rfl) dX7_waits_27 ?_
      refine x_nmIM (fun z7 ez7 => ?_)
      have hR := nmE hR ez7
      have hok := hok z7 ez7
      refine x_iadd (pc := 30) C dX7_waits_30 ?_
      refine x_nmI (fun v8 ev8 => ?_)
      have hR := nmE hR ev8
      have hok := hok v8 ev8
      refine x_istore_n (pc := 31) (i := 2) (ls2 := [(2, .int v8), (0, .ref (ad 193)), (1, .int a1), (3, .int a3)]) C dX7_waits_31 rfl (by decide) rfl ?_
      refine x_iinc (pc := 32) (i := 3) (v := (a3 + 1)) (ls2 := [(3, .int (a3 + 1)), (2, .int v8), (0, .ref (ad 193)), (1, .int a1)]) C 3 dX7_waits_32 rfl rfl (by decide) rfl ?_
      refine x_goto (pc := 35) (tgt := 20) C dX7_waits_35 (by decide) ?_
      refine x_sub [2, 3, 1, 0] (ls2 := [(0, .ref (ad 193)), (1, .int a1), (2, .int v8), (3, .int (a3 + 1))]) rfl ?_
      exact ih z7.2 a1 v8 (a3 + 1) R0 hR hok k
set_option maxHeartbeats 4000000 in
set_option maxRecDepth 100000 in
theorem c_X7_waits {l : Launch} {A : Nat → Prop} {G : GT} {ad : Nat → Nat} (gl : Gl l A ad)  (B : StB) (M : StM) (O : StO) (x0 : Int32) (hok : ok_X7_waits M x0) : Met l yX7_waits (wof yX7_waits cX7_waits 4 (some .int)) (rmd 8 0 0) (va_Pc [.ref (ad 193), .int x0] (PW G A ad B M O)) (QI G A ad (f_X7_waits M x0).1 B (f_X7_waits M x0).2 O) 0 0 A := by
  refine x_body (own := RX7) (by decide +kernel) rfl gl (Nat.le_of_ble_eq_true rfl) (ls := [(0, .ref (ad 193)), (1, .int x0)]) rfl ?_
  intro p0 e s m args below meth c C
  have hR : (f_X7_waits M x0) = (nm (f_X7_isIn x0 1 60) (fun (r1 : Int32) => (nm (f_X7_goes M r1) (fun (z3 : Int32 × StM) => (if z3.1 = 0 then (0, z3.2) else (nm (f_X7_waits_L20 fu z3.2 x0 0 0) (fun (z9 : Int32 × StM) => (z9.1, z9.2)))))))) := rfl
  have hok : (∀ r1 : Int32, r1 = (f_X7_isIn x0 1 60) → ((ok_X7_goes M r1) ∧ (∀ z3 : Int32 × StM, z3 = (f_X7_goes M r1) → ((z3.1 = 0 → True) ∧ (¬ z3.1 = 0 → (ok_X7_waits_L20 fu z3.2 x0 0 0)))))) := hok
  refine x_aload_n (pc := 0) (i := 0) C 0 dX7_waits_0 rfl rfl ?_
  refine x_iload_n (pc := 1) (i := 1) C 1 dX7_waits_1 rfl rfl ?_
  refine x_iconst (pc := 2) (v := 1) C dX7_waits_2 (by decide) ?_
  refine x_bipush (pc := 3) (v := 60) C dX7_waits_3 (by decide) ?_
  refine x_cIS (pc := 5) (as := [.int x0, .int 1, .int 60]) C (c_X7_isIn C.2.2.2.2.2.2.2.1  B M O x0 1 60) wd_7_91 cd_X7_isIn wd_7_90 ⟨Nat.le_of_ble_eq_true rfl, Nat.le_of_ble_eq_true rfl⟩ ⟨Nat.le_of_ble_eq_true rfl, Nat.le_of_ble_eq_true rfl⟩ rfl rfl (Nat.le_of_ble_eq_true rfl) dX7_waits_5 ?_
  refine x_nmI (fun r1 er1 => ?_)
  have hR := nmE hR er1
  have hok := hok r1 er1
  have h2 := hok.1
  have hok := hok.2
  refine x_cIV (pc := 8) (as := [.int r1]) (q := 193) C (c_X7_goes C.2.2.2.2.2.2.2.1  B M O r1 h2) (fs := _) e_M rfl cv_X7_goes cd_X7_goes wd_7_59 ⟨Nat.le_of_ble_eq_true rfl, Nat.le_of_ble_eq_true rfl⟩ ⟨Nat.le_of_ble_eq_true rfl, Nat.le_of_ble_eq_true rfl⟩ rfl rfl (Nat.le_of_ble_eq_true rfl) dX7_waits_8 ?_
  refine x_nmIM (fun z3 ez3 => ?_)
  have hR := nmE hR ez3
  have hok := hok z3 ez3
  refine x_if_ne (pc := 11) (tgt := 16) C dX7_waits_11 (by decide) (fun c4 => ?_) (fun c4 => ?_)
  · have hR := hR.trans (if_neg c4)
    have hok := hok.2 c4
    refine x_iconst (pc := 16) (v := 0) C dX7_waits_16 (by decide) ?_
    refine x_istore_n (pc := 17) (i := 2) (ls2 := [(2, .int 0), (0, .ref (ad 193)), (1, .int x0)]) C dX7_waits_17 rfl (by decide) rfl ?_
    refine x_iconst (pc := 18) (v := 0) C dX7_waits_18 (by decide) ?_
    refine x_istore_n (pc := 19) (i := 3) (ls2 := [(3, .int 0), (2, .int 0), (0, .ref (ad 193)), (1, .int x0)]) C dX7_waits_19 rfl (by decide) rfl ?_
    refine x_sub [2, 3, 1, 0] (ls2 := [(0, .ref (ad 193)), (1, .int x0), (2, .int 0), (3, .int 0)]) rfl ?_
    obtain ⟨z9, ez9⟩ : ∃ z : Int32 × StM, z = f_X7_waits_L20 fu z3.2 x0 0 0 := ⟨_, rfl⟩
    refine t_X7_waits_L20 C fu z3.2 x0 0 0 B O z9 ez9 hok ?_
    have hR := nmE hR ez9
    refine x_iload_n (pc := 38) (i := 2) C 0 dX7_waits_38 rfl rfl ?_
    exact x_iretM (pc := 39) C rfl hR dX7_waits_39
  · have hR := hR.trans (if_pos c4)
    refine x_iconst (pc := 14) (v := 0) C dX7_waits_14 (by decide) ?_
    exact x_iretM (pc := 15) C rfl hR dX7_waits_15
set_option maxHeartbeats 4000000 in
set_option maxRecDepth 100000 in
theorem t_X7_balanceAfter_L38 {p0 : Program} {l : Launch} {e : Env} {s : State} {m : MethodId} {args : Array Value} {below : List Frame} {meth : Method} {c : Code} {A : Nat → Prop} {G : GT} {ad : Nat → Nat} {Q : State → Prop} (C : CX p0 l s m args meth c A G ad cX7_balanceAfter RX7 5 (some .int))  (n : Nat) (M : StM) (a1 : Int32) (a2 : Int32) (a3 : Int32) (B : StB) (O : StO) : ∀ (R0 : StM) (hR : R0 = f_X7_balanceAfter_L38 n M a1 a2 a3) (hok : ok_X7_balanceAfter_L38 n M a1 a2 a3) (k : X p0 l e (rmd 8 0 0) s m args below meth c A G ad 5 0 0 Q B R0 O [(0, .ref (ad 193)), (1, .int a1)] 55 []), X p0 l e (rmd 8 0 0) s m args below meth c A G ad 5 0 0 Q B M O [(0, .ref (ad 193)), (1, .int a1), (2, .int a2), (3, .int a3)] 38 [] := by
  induction n generalizing M a1 a2 a3 with
  | zero => intro R0 hR hok k; exact False.elim hok
  | succ n ih =>
    intro R0 hR hok k
    have hR : R0 = (if a2 ≤ a3 then M else (nm (f_X7_closesDay M) (fun (z10 : Int32 × StM) => (f_X7_balanceAfter_L38 n z10.2 a1 a2 (a3 + 1))))) := hR
    have hok : ((a2 ≤ a3 → True) ∧ (¬ a2 ≤ a3 → ((ok_X7_closesDay M) ∧ (∀ z10 : Int32 × StM, z10 = (f_X7_closesDay M) → (ok_X7_balanceAfter_L38 n z10.2 a1 a2 (a3 + 1)))))) := hok
    refine x_iload_n (pc := 38) (i := 3) C 3 dX7_balanceAfter_38 rfl rfl ?_
    refine x_iload_n (pc := 39) (i := 2) C 2 dX7_balanceAfter_39 rfl rfl ?_
    refine x_icmp_ge (pc := 40) (tgt := 55) C dX7_balanceAfter_40 (by decide) (fun c8 => ?_) (fun c8 => ?_)
    · have hR := hR.trans (if_pos c8)
      refine x_sub [0, 1] (ls2 := [(0, .ref (ad 193)), (1, .int a1)]) rfl ?_
      subst hR
      exact k
    · have hR := hR.trans (if_neg c8)
      have hok := hok.2 c8
      refine x_aload_n (pc := 43) (i := 0) C 0 dX7_balanceAfter_43 rfl rfl ?_
      have h9 := hok.1
      have hok := hok.2
      refine x_cIV (pc := 44) (as := []) (q := 193) C (c_X7_closesDay C.2.2.2.2.2.2.2.1  B M O  h9) (fs := _) e_M rfl cv_X7_closesDay cd_X7_closesDay wd_7_184 ⟨Nat.le_of_ble_eq_true rfl, Nat.le_of_ble_eq_true rfl⟩ ⟨Nat.le_of_ble_eq_true rfl, Nat.le_of_ble_eq_true rfl⟩ rfl rfl (Nat.le_of_ble_eq_true rfl) dX7_balanceAfter_44 ?_
      refine x_nmIM (fun z10 ez10 => ?_)
      have hR := nmE hR ez10
      have hok := hok z10 ez10
      refine x_istore (pc := 47) (i := 4) (ls2 := [(4, .int z10.1), (0, .ref (ad 193)), (1, .int a1), (2, .int a2), (3, .int a3)]) C dX7_balanceAfter_47 (by decide) rfl ?_
      refine x_iinc (pc := 49) (i := 3) (v := (a3 + 1)) (ls2 := [(3, .int (a3 + 1)), (4, .int z10.1), (0, .ref (ad 193)), (1, .int a1), (2, .int a2)]) C 4 dX7_balanceAfter_49 rfl rfl (by decide) rfl ?_
      refine x_goto (pc := 52) (tgt := 38) C dX7_balanceAfter_52 (by decide) ?_
      refine x_sub [2, 3, 4, 0] (ls2 := [(0, .ref (ad 193)), (1, .int a1), (2, .int a2), (3, .int (a3 + 1))]) rfl ?_
      exact ih z10.2 a1 a2 (a3 + 1) R0 hR hok k
set_option maxHeartbeats 4000000 in
set_option maxRecDepth 100000 in
theorem c_X7_balanceAfter {l : Launch} {A : Nat → Prop} {G : GT} {ad : Nat → Nat} (gl : Gl l A ad)  (B : StB) (M : StM) (O : StO) (x0 : Int32) (x1 : Int32) (hok : ok_X7_balanceAfter M x0 x1) : Met l yX7_balanceAfter (wof yX7_balanceAfter cX7_balanceAfter 5 (some .int)) (rmd 8 0 0) (va_Pc [.ref (ad 193), .int x0, .int x1] (PW G A ad B M O)) (QI G A ad (f_X7_balanceAfter M x0 x1).1 B (f_X7_balanceAfter M x0 x1).2 O) 0 0 A := by
  refine x_body (own := RX7) (by decide +kernel) rfl gl (Nat.le_of_ble_eq_true rfl) (ls := [(0, .ref (ad 193)), (1, .int x0), (2, .int x1)]) rfl ?_
  intro p0 e s m args below meth c C
  have hR : (f_X7_balanceAfter M x0 x1) = (nm (f_X7_isAccount M x0) (fun (r2 : Int32) => (nm (f_X7_isIn x1 0 60) (fun (r3 : Int32) => (nm (f_X7_holds M r2 r3 1 1) (fun (z4 : Int32 × StM) => (if z4.1 = 0 then (0, z4.2) else (nm (f_X7_copies_M0_M2 z4.2 0 0) (fun (M7 : StM) => (nm (f_X7_balanceAfter_L38 fu M7 x0 x1 0) (fun (z11 : StM) => (nm (f_X7_of z11 x0 1) (fun (r13 : Int32) => (nm (f_X7_copies_M2_M0 z11 0 0) (fun (M15 : StM) => (r13, M15)))))))))))))))) := rfl
  have hok : ((ok_X7_isAccount M x0) ∧ (∀ r2 : Int32, r2 = (f_X7_isAccount M x0) → (∀ r3 : Int32, r3 = (f_X7_isIn x1 0 60) → (∀ z4 : Int32 × StM, z4 = (f_X7_holds M r2 r3 1 1) → ((z4.1 = 0 → True) ∧ (¬ z4.1 = 0 → ((ok_X7_copies_M0_M2 z4.2 0 0) ∧ (∀ M7 : StM, M7 = (f_X7_copies_M0_M2 z4.2 0 0) → ((ok_X7_balanceAfter_L38 fu M7 x0 x1 0) ∧ ∀ z11 : StM, z11 = f_X7_balanceAfter_L38 fu M7 x0 x1 0 → ((ok_X7_of z11 x0 1) ∧ (∀ r13 : Int32, r13 = (f_X7_of z11 x0 1) → ((ok_X7_copies_M2_M0 z11 0 0))))))))))))) := hok
  refine x_aload_n (pc := 0) (i := 0) C 0 dX7_balanceAfter_0 rfl rfl ?_
  refine x_aload_n (pc := 1) (i := 0) C 0 dX7_balanceAfter_1 rfl rfl ?_
  refine x_iload_n (pc := 2) (i := 1) C 1 dX7_balanceAfter_2 rfl rfl ?_
  have h1 := hok.1
  have hok := hok.2
  refine x_cIV (pc := 3) (as := [.int x0]) (q := 193) C (c_X7_isAccount C.2.2.2.2.2.2.2.1  B M O x0 h1) (fs := _) e_M rfl cv_X7_isAccount cd_X7_isAccount wd_7_115 ⟨Nat.le_of_ble_eq_true rfl, Nat.le_of_ble_eq_true rfl⟩ ⟨Nat.le_of_ble_eq_true rfl, Nat.le_of_ble_eq_true rfl⟩ rfl rfl (Nat.le_of_ble_eq_true rfl) dX7_balanceAfter_3 ?_
  refine x_nmI (fun r2 er2 => ?_)
  have hR := nmE hR er2
  have hok := hok r2 er2
  refine x_iload_n (pc := 6) (i := 2) C 2 dX7_balanceAfter_6 rfl rfl ?_
  refine x_iconst (pc := 7) (v := 0) C dX7_balanceAfter_7 (by decide) ?_
  refine x_bipush (pc := 8) (v := 60) C dX7_balanceAfter_8 (by decide) ?_
  refine x_cIS (pc := 10) (as := [.int x1, .int 0, .int 60]) C (c_X7_isIn C.2.2.2.2.2.2.2.1  B M O x1 0 60) wd_7_91 cd_X7_isIn wd_7_90 ⟨Nat.le_of_ble_eq_true rfl, Nat.le_of_ble_eq_true rfl⟩ ⟨Nat.le_of_ble_eq_true rfl, Nat.le_of_ble_eq_true rfl⟩ rfl rfl (Nat.le_of_ble_eq_true rfl) dX7_balanceAfter_10 ?_
  refine x_nmI (fun r3 er3 => ?_)
  have hR := nmE hR er3
  have hok := hok r3 er3
  refine x_iconst (pc := 13) (v := 1) C dX7_balanceAfter_13 (by decide) ?_
  refine x_iconst (pc := 14) (v := 1) C dX7_balanceAfter_14 (by decide) ?_
  refine x_cIV (pc := 15) (as := [.int r2, .int r3, .int 1, .int 1]) (q := 193) C (c_X7_holds C.2.2.2.2.2.2.2.1  B M O r2 r3 1 1) (fs := _) e_M rfl cv_X7_holds cd_X7_holds wd_7_63 ⟨Nat.le_of_ble_eq_true rfl, Nat.le_of_ble_eq_true rfl⟩ ⟨Nat.le_of_ble_eq_true rfl, Nat.le_of_ble_eq_true rfl⟩ rfl rfl (Nat.le_of_ble_eq_true rfl) dX7_balanceAfter_15 ?_
  refine x_nmIM (fun z4 ez4 => ?_)
  have hR := nmE hR ez4
  have hok := hok z4 ez4
  refine x_if_ne (pc := 18) (tgt := 23) C dX7_balanceAfter_18 (by decide) (fun c5 => ?_) (fun c5 => ?_)
  · have hR := hR.trans (if_neg c5)
    have hok := hok.2 c5
    refine x_aload_n (pc := 23) (i := 0) C 0 dX7_balanceAfter_23 rfl rfl ?_
    refine x_get (pc := 24) (q := 193) (i := 0) C e_M rfl ttX7 (by decide) wd_6_227 rfl dX7_balanceAfter_24 ?_
    refine x_iconst (pc := 27) (v := 0) C dX7_balanceAfter_27 (by decide) ?_
    refine x_aload_n (pc := 28) (i := 0) C 0 dX7_balanceAfter_28 rfl rfl ?_
    refine x_get (pc := 29) (q := 193) (i := 2) C e_M rfl ttX7 (by decide) wd_6_229 rfl dX7_balanceAfter_29 ?_
    refine x_iconst (pc := 32) (v := 0) C dX7_balanceAfter_32 (by decide) ?_
    have h6 := hok.1
    have hok := hok.2
    refine x_cVS (pc := 33) (as := [.ref (ad 194), .int 0, .ref (ad 196), .int 0]) C (c_X7_copies_M0_M2 C.2.2.2.2.2.2.2.1  B z4.2 O 0 0 h6) wd_7_68 cd_X7_copies wd_7_67 ⟨Nat.le_of_ble_eq_true rfl, Nat.le_of_ble_eq_true rfl⟩ ⟨Nat.le_of_ble_eq_true rfl, Nat.le_of_ble_eq_true rfl⟩ rfl rfl (Nat.le_of_ble_eq_true rfl) dX7_balanceAfter_33 ?_
    refine x_nmM (fun M7 eM7 => ?_)
    have hR := nmE hR eM7
    have hok := hok M7 eM7
    refine x_iconst (pc := 36) (v := 0) C dX7_balanceAfter_36 (by decide) ?_
    refine x_istore_n (pc := 37) (i := 3) (ls2 := [(3, .int 0), (0, .ref (ad 193)), (1, .int x0), (2, .int x1)]) C dX7_balanceAfter_37 rfl (by decide) rfl ?_
    refine x_sub [1, 2, 3, 0] (ls2 := [(0, .ref (ad 193)), (1, .int x0), (2, .int x1), (3, .int 0)]) rfl ?_
    obtain ⟨z11, ez11⟩ : ∃ z : StM, z = f_X7_balanceAfter_L38 fu M7 x0 x1 0 := ⟨_, rfl⟩
    refine t_X7_balanceAfter_L38 C fu M7 x0 x1 0 B O z11 ez11 hok.1 ?_
    have hR := nmE hR ez11
    have hok := hok.2 z11 ez11
    refine x_aload_n (pc := 55) (i := 0) C 0 dX7_balanceAfter_55 rfl rfl ?_
    refine x_iload_n (pc := 56) (i := 1) C 1 dX7_balanceAfter_56 rfl rfl ?_
    refine x_iconst (pc := 57) (v := 1) C dX7_balanceAfter_57 (by decide) ?_
    have h12 := hok.1
    have hok := hok.2
    refine x_cIV (pc := 58) (as := [.int x0, .int 1]) (q := 193) C (c_X7_of C.2.2.2.2.2.2.2.1  B z11 O x0 1 h12) (fs := _) e_M rfl cv_X7_of cd_X7_of wd_7_119 ⟨Nat.le_of_ble_eq_true rfl, Nat.le_of_ble_eq_true rfl⟩ ⟨Nat.le_of_ble_eq_true rfl, Nat.le_of_ble_eq_true rfl⟩ rfl rfl (Nat.le_of_ble_eq_true rfl) dX7_balanceAfter_58 ?_
    refine x_nmI (fun r13 er13 => ?_)
    have hR := nmE hR er13
    have hok := hok r13 er13
    refine x_istore_n (pc := 61) (i := 3) (ls2 := [(3, .int r13), (0, .ref (ad 193)), (1, .int x0)]) C dX7_balanceAfter_61 rfl (by decide) rfl ?_
    refine x_aload_n (pc := 62) (i := 0) C 1 dX7_balanceAfter_62 rfl rfl ?_
    refine x_get (pc := 63) (q := 193) (i := 2) C e_M rfl ttX7 (by decide) wd_6_229 rfl dX7_balanceAfter_63 ?_
    refine x_iconst (pc := 66) (v := 0) C dX7_balanceAfter_66 (by decide) ?_
    refine x_aload_n (pc := 67) (i := 0) C 1 dX7_balanceAfter_67 rfl rfl ?_
    refine x_get (pc := 68) (q := 193) (i := 0) C e_M rfl ttX7 (by decide) wd_6_227 rfl dX7_balanceAfter_68 ?_
    refine x_iconst (pc := 71) (v := 0) C dX7_balanceAfter_71 (by decide) ?_
    have h14 := hok
    refine x_cVS (pc := 72) (as := [.ref (ad 196), .int 0, .ref (ad 194), .int 0]) C (c_X7_copies_M2_M0 C.2.2.2.2.2.2.2.1  B z11 O 0 0 h14) wd_7_68 cd_X7_copies wd_7_67 ⟨Nat.le_of_ble_eq_true rfl, Nat.le_of_ble_eq_true rfl⟩ ⟨Nat.le_of_ble_eq_true rfl, Nat.le_of_ble_eq_true rfl⟩ rfl rfl (Nat.le_of_ble_eq_true rfl) dX7_balanceAfter_72 ?_
    refine x_nmM (fun M15 eM15 => ?_)
    have hR := nmE hR eM15
    refine x_iload_n (pc := 75) (i := 3) C 0 dX7_balanceAfter_75 rfl rfl ?_
    exact x_iretM (pc := 76) C rfl hR dX7_balanceAfter_76
  · have hR := hR.trans (if_pos c5)
    refine x_iconst (pc := 21) (v := 0) C dX7_balanceAfter_21 (by decide) ?_
    exact x_iretM (pc := 22) C rfl hR dX7_balanceAfter_22
set_option maxHeartbeats 4000000 in
set_option maxRecDepth 100000 in
theorem t_X7_wouldBounce_L46 {p0 : Program} {l : Launch} {e : Env} {s : State} {m : MethodId} {args : Array Value} {below : List Frame} {meth : Method} {c : Code} {A : Nat → Prop} {G : GT} {ad : Nat → Nat} {Q : State → Prop} (C : CX p0 l s m args meth c A G ad cX7_wouldBounce RX7 3 (some .boolean))  (n : Nat) (M : StM) (a1 : Int32) (B : StB) (O : StO) : ∀ (R0 : StM) (hR : R0 = f_X7_wouldBounce_L46 n M a1) (hok : ok_X7_wouldBounce_L46 n M a1) (k : X p0 l e (rmd 8 0 0) s m args below meth c A G ad 3 0 0 Q B R0 O [(0, .ref (ad 193))] 63 []), X p0 l e (rmd 8 0 0) s m args below meth c A G ad 3 0 0 Q B M O [(0, .ref (ad 193)), (1, .int a1)] 46 [] := by
  induction n generalizing M a1 with
  | zero => intro R0 hR hok k; exact False.elim hok
  | succ n ih =>
    intro R0 hR hok k
    have hR : R0 = (nm (f_X7_find M a1) (fun (r12 : Int32) => (if r12 = (-1) then M else (nm (f_X7_closesDay M) (fun (z15 : Int32 × StM) => (f_X7_wouldBounce_L46 n z15.2 a1)))))) := hR
    have hok : ((ok_X7_find M a1) ∧ (∀ r12 : Int32, r12 = (f_X7_find M a1) → ((r12 = (-1) → True) ∧ (¬ r12 = (-1) → ((ok_X7_closesDay M) ∧ (∀ z15 : Int32 × StM, z15 = (f_X7_closesDay M) → (ok_X7_wouldBounce_L46 n z15.2 a1))))))) := hok
    refine x_aload_n (pc := 46) (i := 0) C 0 dX7_wouldBounce_46 rfl rfl ?_
    refine x_iload_n (pc := 47) (i := 1) C 1 dX7_wouldBounce_47 rfl rfl ?_
    have h11 := hok.1
    have hok := hok.2
    refine x_cIV (pc := 48) (as := [.int a1]) (q := 193) C (c_X7_find C.2.2.2.2.2.2.2.1  B M O a1 h11) (fs := _) e_M rfl cv_X7_find cd_X7_find wd_7_164 ⟨Nat.le_of_ble_eq_true rfl, Nat.le_of_ble_eq_true rfl⟩ ⟨Nat.le_of_ble_eq_true rfl, Nat.le_of_ble_eq_true rfl⟩ rfl rfl (Nat.le_of_ble_eq_true rfl) dX7_wouldBounce_48 ?_
    refine x_nmI (fun r12 er12 => ?_)
    have hR := nmE hR er12
    have hok := hok r12 er12
    refine x_iconst (pc := 51) (v := (-1)) C dX7_wouldBounce_51 (by decide) ?_
    refine x_icmp_eq (pc := 52) (tgt := 63) C dX7_wouldBounce_52 (by decide) (fun c13 => ?_) (fun c13 => ?_)
    · have hR := hR.trans (if_pos c13)
      refine x_sub [0] (ls2 := [(0, .ref (ad 193))]) rfl ?_
      subst hR
      exact k
    · have hR := hR.trans (if_neg c13)
      have hok := hok.2 c13
      refine x_aload_n (pc := 55) (i := 0) C 0 dX7_wouldBounce_55 rfl rfl ?_
      have h14 := hok.1
      have hok := hok.2
      refine x_cIV (pc := 56) (as := []) (q := 193) C (c_X7_closesDay C.2.2.2.2.2.2.2.1  B M O  h14) (fs := _) e_M rfl cv_X7_closesDay cd_X7_closesDay wd_7_184 ⟨Nat.le_of_ble_eq_true rfl, Nat.le_of_ble_eq_true rfl⟩ ⟨Nat.le_of_ble_eq_true rfl, Nat.le_of_ble_eq_true rfl⟩ rfl rfl (Nat.le_of_ble_eq_true rfl) dX7_wouldBounce_56 ?_
      refine x_nmIM (fun z15 ez15 => ?_)
      have hR := nmE hR ez15
      have hok := hok z15 ez15
      refine x_istore_n (pc := 59) (i := 2) (ls2 := [(2, .int z15.1), (0, .ref (ad 193)), (1, .int a1)]) C dX7_wouldBounce_59 rfl (by decide) rfl ?_
      refine x_goto (pc := 60) (tgt := 46) C dX7_wouldBounce_60 (by decide) ?_
      refine x_sub [1, 2] (ls2 := [(0, .ref (ad 193)), (1, .int a1)]) rfl ?_
      exact ih z15.2 a1 R0 hR hok k
set_option maxHeartbeats 4000000 in
set_option maxRecDepth 100000 in
theorem t_X7_wouldBounce_J15 {p0 : Program} {l : Launch} {e : Env} {s : State} {m : MethodId} {args : Array Value} {below : List Frame} {meth : Method} {c : Code} {A : Nat → Prop} {G : GT} {ad : Nat → Nat} (C : CX p0 l s m args meth c A G ad cX7_wouldBounce RX7 3 (some .boolean))  (M : StM) (a1 : Int32) (s0 : Int32) (B : StB) (O : StO) (R0 : Int32 × StM) (hR : R0 = f_X7_wouldBounce_J15 M a1 s0) (hok : ok_X7_wouldBounce_J15 M a1 s0) : X p0 l e (rmd 8 0 0) s m args below meth c A G ad 3 0 0 (MQ below (QI G A ad R0.1 B R0.2 O) args s 0 0 A) B M O [(0, .ref (ad 193)), (1, .int a1)] 15 [.int s0, .ref (ad 193)] := by
  have hR : R0 = (nm (f_X7_goes M s0) (fun (z5 : Int32 × StM) => (if z5.1 = 0 then (0, z5.2) else (nm (f_X7_copies_M0_M2 z5.2 0 0) (fun (M8 : StM) => (nm (smi M8 9 a1) (fun (M9 : StM) => (nm (smi M9 10 0) (fun (M10 : StM) => (nm (f_X7_wouldBounce_L46 fu M10 a1) (fun (z16 : StM) => (nm (smi z16 9 (-1)) (fun (M17 : StM) => (nm (f_X7_copies_M2_M0 M17 0 0) (fun (M19 : StM) => ((mi M19 10), M19)))))))))))))))) := hR
  have hok : ((ok_X7_goes M s0) ∧ (∀ z5 : Int32 × StM, z5 = (f_X7_goes M s0) → ((z5.1 = 0 → True) ∧ (¬ z5.1 = 0 → ((ok_X7_copies_M0_M2 z5.2 0 0) ∧ (∀ M8 : StM, M8 = (f_X7_copies_M0_M2 z5.2 0 0) → (∀ M9 : StM, M9 = (smi M8 9 a1) → (∀ M10 : StM, M10 = (smi M9 10 0) → ((ok_X7_wouldBounce_L46 fu M10 a1) ∧ ∀ z16 : StM, z16 = f_X7_wouldBounce_L46 fu M10 a1 → (∀ M17 : StM, M17 = (smi z16 9 (-1)) → ((ok_X7_copies_M2_M0 M17 0 0) ∧ (∀ M19 : StM, M19 = (f_X7_copies_M2_M0 M17 0 0) → (narrow .boolean (.int (mi M19 10)) = .int (mi M19 10)))))))))))))) := hok
  have h4 := hok.1
  have hok := hok.2
  refine x_cIV (pc := 15) (as := [.int s0]) (q := 193) C (c_X7_goes C.2.2.2.2.2.2.2.1  B M O s0 h4) (fs := _) e_M rfl cv_X7_goes cd_X7_goes wd_7_59 ⟨Nat.le_of_ble_eq_true rfl, Nat.le_of_ble_eq_true rfl⟩ ⟨Nat.le_of_ble_eq_true rfl, Nat.le_of_ble_eq_true rfl⟩ rfl rfl (Nat.le_of_ble_eq_true rfl) dX7_wouldBounce_15 ?_
  refine x_nmIM (fun z5 ez5 => ?_)
  have hR := nmE hR ez5
  have hok := hok z5 ez5
  refine x_if_ne (pc := 18) (tgt := 23) C dX7_wouldBounce_18 (by decide) (fun c6 => ?_) (fun c6 => ?_)
  · have hR := hR.trans (if_neg c6)
    have hok := hok.2 c6
    refine x_aload_n (pc := 23) (i := 0) C 0 dX7_wouldBounce_23 rfl rfl ?_
    refine x_get (pc := 24) (q := 193) (i := 0) C e_M rfl ttX7 (by decide) wd_6_227 rfl dX7_wouldBounce_24 ?_
    refine x_iconst (pc := 27) (v := 0) C dX7_wouldBounce_27 (by decide) ?_
    refine x_aload_n (pc := 28) (i := 0) C 0 dX7_wouldBounce_28 rfl rfl ?_
    refine x_get (pc := 29) (q := 193) (i := 2) C e_M rfl ttX7 (by decide) wd_6_229 rfl dX7_wouldBounce_29 ?_
    refine x_iconst (pc := 32) (v := 0) C dX7_wouldBounce_32 (by decide) ?_
    have h7 := hok.1
    have hok := hok.2
    refine x_cVS (pc := 33) (as := [.ref (ad 194), .int 0, .ref (ad 196), .int 0]) C (c_X7_copies_M0_M2 C.2.2.2.2.2.2.2.1  B z5.2 O 0 0 h7) wd_7_68 cd_X7_copies wd_7_67 ⟨Nat.le_of_ble_eq_true rfl, Nat.le_of_ble_eq_true rfl⟩ ⟨Nat.le_of_ble_eq_true rfl, Nat.le_of_ble_eq_true rfl⟩ rfl rfl (Nat.le_of_ble_eq_true rfl) dX7_wouldBounce_33 ?_
    refine x_nmM (fun M8 eM8 => ?_)
    have hR := nmE hR eM8
    have hok := hok M8 eM8
    refine x_aload_n (pc := 36) (i := 0) C 0 dX7_wouldBounce_36 rfl rfl ?_
    refine x_iload_n (pc := 37) (i := 1) C 1 dX7_wouldBounce_37 rfl rfl ?_
    refine x_put (pc := 38) (M2 := (smi M8 9 a1)) (B2 := B) (O2 := O) (q := 193) (i := 9) C tyX7 tyX7_ok nmX7 e_M rfl ttX7 (by decide) wd_6_236 rfl rfl rfl (Nat.le_of_ble_eq_true rfl) dX7_wouldBounce_38 (put_M_9 ) (o_smi 9 a1) ?_
    refine x_nmM (fun M9 eM9 => ?_)
    have hR := nmE hR eM9
    have hok := hok M9 eM9
    refine x_aload_n (pc := 41) (i := 0) C 0 dX7_wouldBounce_41 rfl rfl ?_
    refine x_iconst (pc := 42) (v := 0) C dX7_wouldBounce_42 (by decide) ?_
    refine x_put (pc := 43) (M2 := (smi M9 10 0)) (B2 := B) (O2 := O) (q := 193) (i := 10) C tyX7 tyX7_ok nmX7 e_M rfl ttX7 (by decide) wd_6_237 rfl (by decide) (by decide) (Nat.le_of_ble_eq_true rfl) dX7_wouldBounce_43 (put_M_10 ) (o_smi 10 0) ?_
    refine x_nmM (fun M10 eM10 => ?_)
    have hR := nmE hR eM10
    have hok := hok M10 eM10
    refine x_sub [0, 1] (ls2 := [(0, .ref (ad 193)), (1, .int a1)]) rfl ?_
    obtain ⟨z16, ez16⟩ : ∃ z : StM, z = f_X7_wouldBounce_L46 fu M10 a1 := ⟨_, rfl⟩
    refine t_X7_wouldBounce_L46 C fu M10 a1 B O z16 ez16 hok.1 ?_
    have hR := nmE hR ez16
    have hok := hok.2 z16 ez16
    refine x_aload_n (pc := 63) (i := 0) C 0 dX7_wouldBounce_63 rfl rfl ?_
    refine x_iconst (pc := 64) (v := (-1)) C dX7_wouldBounce_64 (by decide) ?_
    refine x_put (pc := 65) (M2 := (smi z16 9 (-1))) (B2 := B) (O2 := O) (q := 193) (i := 9) C tyX7 tyX7_ok nmX7 e_M rfl ttX7 (by decide) wd_6_236 rfl rfl rfl (Nat.le_of_ble_eq_true rfl) dX7_wouldBounce_65 (put_M_9 ) (o_smi 9 (-1)) ?_
    refine x_nmM (fun M17 eM17 => ?_)
    have hR := nmE hR eM17
    have hok := hok M17 eM17
    refine x_aload_n (pc := 68) (i := 0) C 0 dX7_wouldBounce_68 rfl rfl ?_
    refine x_get (pc := 69) (q := 193) (i := 2) C e_M rfl ttX7 (by decide) wd_6_229 rfl dX7_wouldBounce_69 ?_
    refine x_iconst (pc := 72) (v := 0) C dX7_wouldBounce_72 (by decide) ?_
    refine x_aload_n (pc := 73) (i := 0) C 0 dX7_wouldBounce_73 rfl rfl ?_
    refine x_get (pc := 74) (q := 193) (i := 0) C e_M rfl ttX7 (by decide) wd_6_227 rfl dX7_wouldBounce_74 ?_
    refine x_iconst (pc := 77) (v := 0) C dX7_wouldBounce_77 (by decide) ?_
    have h18 := hok.1
    have hok := hok.2
    refine x_cVS (pc := 78) (as := [.ref (ad 196), .int 0, .ref (ad 194), .int 0]) C (c_X7_copies_M2_M0 C.2.2.2.2.2.2.2.1  B M17 O 0 0 h18) wd_7_68 cd_X7_copies wd_7_67 ⟨Nat.le_of_ble_eq_true rfl, Nat.le_of_ble_eq_true rfl⟩ ⟨Nat.le_of_ble_eq_true rfl, Nat.le_of_ble_eq_true rfl⟩ rfl rfl (Nat.le_of_ble_eq_true rfl) dX7_wouldBounce_78 ?_
    refine x_nmM (fun M19 eM19 => ?_)
    have hR := nmE hR eM19
    have hok := hok M19 eM19
    refine x_aload_n (pc := 81) (i := 0) C 0 dX7_wouldBounce_81 rfl rfl ?_
    refine x_get (pc := 82) (q := 193) (i := 10) C e_M rfl ttX7 (by decide) wd_6_237 rfl dX7_wouldBounce_82 ?_
    have h20 := hok
    exact x_zretM (pc := 85) C rfl h20 hR dX7_wouldBounce_85
  · have hR := hR.trans (if_pos c6)
    refine x_iconst (pc := 21) (v := 0) C dX7_wouldBounce_21 (by decide) ?_
    exact x_zretM (pc := 22) C rfl (by decide) hR dX7_wouldBounce_22
set_option maxHeartbeats 4000000 in
set_option maxRecDepth 100000 in
theorem c_X7_wouldBounce {l : Launch} {A : Nat → Prop} {G : GT} {ad : Nat → Nat} (gl : Gl l A ad)  (B : StB) (M : StM) (O : StO) (x0 : Int32) (hok : ok_X7_wouldBounce M x0) : Met l yX7_wouldBounce (wof yX7_wouldBounce cX7_wouldBounce 3 (some .boolean)) (rmd 8 0 0) (va_Pc [.ref (ad 193), .int x0] (PW G A ad B M O)) (QI G A ad (f_X7_wouldBounce M x0).1 B (f_X7_wouldBounce M x0).2 O) 0 0 A := by
  refine x_body (own := RX7) (by decide +kernel) rfl gl (Nat.le_of_ble_eq_true rfl) (ls := [(0, .ref (ad 193)), (1, .int x0)]) rfl ?_
  intro p0 e s m args below meth c C
  have hR : (f_X7_wouldBounce M x0) = (nm (f_X7_find M x0) (fun (r2 : Int32) => (if r2 = (-1) then (f_X7_wouldBounce_J15 M x0 0) else (f_X7_wouldBounce_J15 M x0 1)))) := rfl
  have hok : ((ok_X7_find M x0) ∧ (∀ r2 : Int32, r2 = (f_X7_find M x0) → ((r2 = (-1) → (ok_X7_wouldBounce_J15 M x0 0)) ∧ (¬ r2 = (-1) → (ok_X7_wouldBounce_J15 M x0 1))))) := hok
  refine x_aload_n (pc := 0) (i := 0) C 0 dX7_wouldBounce_0 rfl rfl ?_
  refine x_aload_n (pc := 1) (i := 0) C 0 dX7_wouldBounce_1 rfl rfl ?_
  refine x_iload_n (pc := 2) (i := 1) C 1 dX7_wouldBounce_2 rfl rfl ?_
  have h1 := hok.1
  have hok := hok.2
  refine x_cIV (pc := 3) (as := [.int x0]) (q := 193) C (c_X7_find C.2.2.2.2.2.2.2.1  B M O x0 h1) (fs := _) e_M rfl cv_X7_find cd_X7_find wd_7_164 ⟨Nat.le_of_ble_eq_true rfl, Nat.le_of_ble_eq_true rfl⟩ ⟨Nat.le_of_ble_eq_true rfl, Nat.le_of_ble_eq_true rfl⟩ rfl rfl (Nat.le_of_ble_eq_true rfl) dX7_wouldBounce_3 ?_
  refine x_nmI (fun r2 er2 => ?_)
  have hR := nmE hR er2
  have hok := hok r2 er2
  refine x_iconst (pc := 6) (v := (-1)) C dX7_wouldBounce_6 (by decide) ?_
  refine x_icmp_eq (pc := 7) (tgt := 14) C dX7_wouldBounce_7 (by decide) (fun c3 => ?_) (fun c3 => ?_)
  · have hR := hR.trans (if_pos c3)
    have hok := hok.1 c3
    refine x_iconst (pc := 14) (v := 0) C dX7_wouldBounce_14 (by decide) ?_
    refine x_sub [0, 1] (ls2 := [(0, .ref (ad 193)), (1, .int x0)]) rfl ?_
    exact t_X7_wouldBounce_J15 C M x0 0 B O _ hR hok
  · have hR := hR.trans (if_neg c3)
    have hok := hok.2 c3
    refine x_iconst (pc := 10) (v := 1) C dX7_wouldBounce_10 (by decide) ?_
    refine x_goto (pc := 11) (tgt := 15) C dX7_wouldBounce_11 (by decide) ?_
    refine x_sub [0, 1] (ls2 := [(0, .ref (ad 193)), (1, .int x0)]) rfl ?_
    exact t_X7_wouldBounce_J15 C M x0 1 B O _ hR hok
set_option maxHeartbeats 4000000 in
set_option maxRecDepth 100000 in
theorem c_X7_endDays {l : Launch} {A : Nat → Prop} {G : GT} {ad : Nat → Nat} (gl : Gl l A ad)  (B : StB) (M : StM) (O : StO) (x0 : Int32) (hok : ok_X7_endDays M x0) : Met l yX7_endDays (wof yX7_endDays cX7_endDays 2 (some .int)) (rmd 9 0 0) (va_Pc [.ref (ad 193), .int x0] (PW G A ad B M O)) (QI G A ad (f_X7_endDays M x0).1 B (f_X7_endDays M x0).2 O) 0 0 A := by
  refine x_body (own := RX7) (by decide +kernel) rfl gl (Nat.le_of_ble_eq_true rfl) (ls := [(0, .ref (ad 193)), (1, .int x0)]) rfl ?_
  intro p0 e s m args below meth c C
  have hR : (f_X7_endDays M x0) = (nm (f_X7_begins M) (fun (M2 : StM) => (nm (f_X7_waits M2 x0) (fun (z4 : Int32 × StM) => (nm (f_X7_ends z4.2 z4.1) (fun (z6 : Int32 × StM) => (z6.1, z6.2))))))) := rfl
  have hok : ((ok_X7_begins M) ∧ (∀ M2 : StM, M2 = (f_X7_begins M) → ((ok_X7_waits M2 x0) ∧ (∀ z4 : Int32 × StM, z4 = (f_X7_waits M2 x0) → ((ok_X7_ends z4.2 z4.1)))))) := hok
  refine x_aload_n (pc := 0) (i := 0) C 0 dX7_endDays_0 rfl rfl ?_
  have h1 := hok.1
  have hok := hok.2
  refine x_cVV (pc := 1) (as := []) (q := 193) C (c_X7_begins C.2.2.2.2.2.2.2.1  B M O  h1) (fs := _) e_M rfl cv_X7_begins cd_X7_begins wd_7_82 ⟨Nat.le_of_ble_eq_true rfl, Nat.le_of_ble_eq_true rfl⟩ ⟨Nat.le_of_ble_eq_true rfl, Nat.le_of_ble_eq_true rfl⟩ rfl rfl (Nat.le_of_ble_eq_true rfl) dX7_endDays_1 ?_
  refine x_nmM (fun M2 eM2 => ?_)
  have hR := nmE hR eM2
  have hok := hok M2 eM2
  refine x_aload_n (pc := 4) (i := 0) C 0 dX7_endDays_4 rfl rfl ?_
  refine x_aload_n (pc := 5) (i := 0) C 0 dX7_endDays_5 rfl rfl ?_
  refine x_iload_n (pc := 6) (i := 1) C 1 dX7_endDays_6 rfl rfl ?_
  have h3 := hok.1
  have hok := hok.2
  refine x_cIV (pc := 7) (as := [.int x0]) (q := 193) C (c_X7_waits C.2.2.2.2.2.2.2.1  B M2 O x0 h3) (fs := _) e_M rfl cv_X7_waits cd_X7_waits wd_7_180 ⟨Nat.le_of_ble_eq_true rfl, Nat.le_of_ble_eq_true rfl⟩ ⟨Nat.le_of_ble_eq_true rfl, Nat.le_of_ble_eq_true rfl⟩ rfl rfl (Nat.le_of_ble_eq_true rfl) dX7_endDays_7 ?_
  refine x_nmIM (fun z4 ez4 => ?_)
  have hR := nmE hR ez4
  have hok := hok z4 ez4
  have h5 := hok
  refine x_cIV (pc := 10) (as := [.int z4.1]) (q := 193) C (c_X7_ends C.2.2.2.2.2.2.2.1  B z4.2 O z4.1 h5) (fs := _) e_M rfl cv_X7_ends cd_X7_ends wd_7_96 ⟨Nat.le_of_ble_eq_true rfl, Nat.le_of_ble_eq_true rfl⟩ ⟨Nat.le_of_ble_eq_true rfl, Nat.le_of_ble_eq_true rfl⟩ rfl rfl (Nat.le_of_ble_eq_true rfl) dX7_endDays_10 ?_
  refine x_nmIM (fun z6 ez6 => ?_)
  have hR := nmE hR ez6
  exact x_iretM (pc := 13) C rfl hR dX7_endDays_13
set_option maxHeartbeats 4000000 in
set_option maxRecDepth 100000 in
theorem c_X7_does {l : Launch} {A : Nat → Prop} {G : GT} {ad : Nat → Nat} (gl : Gl l A ad)  (B : StB) (M : StM) (O : StO) (x0 : Int32) (hok : ok_X7_does M x0) : Met l yX7_does (wof yX7_does cX7_does 4 (some .int)) (rmd 9 0 0) (va_Pc [.ref (ad 193), .int x0] (PW G A ad B M O)) (QI G A ad (f_X7_does M x0).1 B (f_X7_does M x0).2 O) 0 0 A := by
  refine x_body (own := RX7) (by decide +kernel) rfl gl (Nat.le_of_ble_eq_true rfl) (ls := [(0, .ref (ad 193)), (1, .int x0)]) rfl ?_
  intro p0 e s m args below meth c C
  have hR : (f_X7_does M x0) = (nm (ma M 7 (ix (x0 + 1))) (fun (v2 : Int32) => (nm (ma M 7 (ix (x0 + 2))) (fun (v4 : Int32) => (if (ma M 7 (ix x0)) = 0 then (nm (f_X7_pays M v2 v4) (fun (z7 : Int32 × StM) => (z7.1, z7.2))) else (if (ma M 7 (ix x0)) = 1 then (nm (f_X7_draws M v2 v4) (fun (z9 : Int32 × StM) => (z9.1, z9.2))) else (if (ma M 7 (ix x0)) = 2 then (nm (f_X7_limits M v2 v4) (fun (z11 : Int32 × StM) => (z11.1, z11.2))) else (if (ma M 7 (ix x0)) = 3 then (nm (f_X7_seals M v2 v4 (ma M 7 (ix (x0 + 3))) (ma M 7 (ix (x0 + 4)))) (fun (z15 : Int32 × StM) => (z15.1, z15.2))) else (if (ma M 7 (ix x0)) = 4 then (nm (f_X7_voids M v2) (fun (z17 : Int32 × StM) => (z17.1, z17.2))) else (nm (f_X7_waits M v2) (fun (z19 : Int32 × StM) => (z19.1, z19.2)))))))))))) := rfl
  have hok : (vp_in (x0 + 1) 150 ∧ (∀ v2 : Int32, v2 = (ma M 7 (ix (x0 + 1))) → (vp_in (x0 + 2) 150 ∧ (∀ v4 : Int32, v4 = (ma M 7 (ix (x0 + 2))) → (vp_in x0 150 ∧ (((ma M 7 (ix x0)) = 0 → ((ok_X7_pays M v2 v4))) ∧ (¬ (ma M 7 (ix x0)) = 0 → (((ma M 7 (ix x0)) = 1 → ((ok_X7_draws M v2 v4))) ∧ (¬ (ma M 7 (ix x0)) = 1 → (((ma M 7 (ix x0)) = 2 → ((ok_X7_limits M v2 v4))) ∧ (¬ (ma M 7 (ix x0)) = 2 → (((ma M 7 (ix x0)) = 3 → (vp_in (x0 + 3) 150 ∧ (vp_in (x0 + 4) 150 ∧ ((ok_X7_seals M v2 v4 (ma M 7 (ix (x0 + 3))) (ma M 7 (ix (x0 + 4)))))))) ∧ (¬ (ma M 7 (ix x0)) = 3 → (((ma M 7 (ix x0)) = 4 → ((ok_X7_voids M v2))) ∧ (¬ (ma M 7 (ix x0)) = 4 → ((ok_X7_waits M v2))))))))))))))))) := hok
  refine x_aload_n (pc := 0) (i := 0) C 0 dX7_does_0 rfl rfl ?_
  refine x_get (pc := 1) (q := 193) (i := 20) C e_M rfl ttX7 (by decide) wd_7_7 rfl dX7_does_1 ?_
  refine x_iload_n (pc := 4) (i := 1) C 1 dX7_does_4 rfl rfl ?_
  refine x_iconst (pc := 5) (v := 1) C dX7_does_5 (by decide) ?_
  refine x_iadd (pc := 6) C dX7_does_6 ?_
  have h1 := hok.1
  have hok := hok.2
  refine x_iald (pc := 7) (q := 201) C e_M7 h1 dX7_does_7 ?_
  refine x_nmI (fun v2 ev2 => ?_)
  have hR := nmE hR ev2
  have hok := hok v2 ev2
  refine x_istore_n (pc := 8) (i := 2) (ls2 := [(2, .int v2), (0, .ref (ad 193)), (1, .int x0)]) C dX7_does_8 rfl (by decide) rfl ?_
  refine x_aload_n (pc := 9) (i := 0) C 1 dX7_does_9 rfl rfl ?_
  refine x_get (pc := 10) (q := 193) (i := 20) C e_M rfl ttX7 (by decide) wd_7_7 rfl dX7_does_10 ?_
  refine x_iload_n (pc := 13) (i := 1) C 2 dX7_does_13 rfl rfl ?_
  refine x_iconst (pc := 14) (v := 2) C dX7_does_14 (by decide) ?_
  refine x_iadd (pc := 15) C dX7_does_15 ?_
  have h3 := hok.1
  have hok := hok.2
  refine x_iald (pc := 16) (q := 201) C e_M7 h3 dX7_does_16 ?_
  refine x_nmI (fun v4 ev4 => ?_)
  have hR := nmE hR ev4
  have hok := hok v4 ev4
  refine x_istore_n (pc := 17) (i := 3) (ls2 := [(3, .int v4), (2, .int v2), (0, .ref (ad 193)), (1, .int x0)]) C dX7_does_17 rfl (by decide) rfl ?_
  refine x_aload_n (pc := 18) (i := 0) C 2 dX7_does_18 rfl rfl ?_
  refine x_get (pc := 19) (q := 193) (i := 20) C e_M rfl ttX7 (by decide) wd_7_7 rfl dX7_does_19 ?_
  refine x_iload_n (pc := 22) (i := 1) C 3 dX7_does_22 rfl rfl ?_
  have h5 := hok.1
  have hok := hok.2
  refine x_iald (pc := 23) (q := 201) C e_M7 h5 dX7_does_23 ?_
  by_cases c20_0 : (ma M 7 (ix x0)) = 0
  · have hR := hR.trans (if_pos c20_0)
    have hok := hok.1 c20_0
    refine x_tabIn (pc := 24) (tgt := 60) (off := 36) C dX7_does_24 c20_0 (by decide) (by decide) (by decide) (by decide) ?_
    refine x_aload_n (pc := 60) (i := 0) C 2 dX7_does_60 rfl rfl ?_
    refine x_iload_n (pc := 61) (i := 2) C 1 dX7_does_61 rfl rfl ?_
    refine x_iload_n (pc := 62) (i := 3) C 0 dX7_does_62 rfl rfl ?_
    have h6 := hok
    refine x_cIV (pc := 63) (as := [.int v2, .int v4]) (q := 193) C (c_X7_pays C.2.2.2.2.2.2.2.1  B M O v2 v4 h6) (fs := _) e_M rfl cv_X7_pays cd_X7_pays wd_7_108 ⟨Nat.le_of_ble_eq_true rfl, Nat.le_of_ble_eq_true rfl⟩ ⟨Nat.le_of_ble_eq_true rfl, Nat.le_of_ble_eq_true rfl⟩ rfl rfl (Nat.le_of_ble_eq_true rfl) dX7_does_63 ?_
    refine x_nmIM (fun z7 ez7 => ?_)
    have hR := nmE hR ez7
    exact x_iretM (pc := 66) C rfl hR dX7_does_66
  have hR := hR.trans (if_neg c20_0)
  have hok := hok.2 c20_0
  by_cases c20_1 : (ma M 7 (ix x0)) = 1
  · have hR := hR.trans (if_pos c20_1)
    have hok := hok.1 c20_1
    refine x_tabIn (pc := 24) (tgt := 67) (off := 43) C dX7_does_24 c20_1 (by decide) (by decide) (by decide) (by decide) ?_
    refine x_aload_n (pc := 67) (i := 0) C 2 dX7_does_67 rfl rfl ?_
    refine x_iload_n (pc := 68) (i := 2) C 1 dX7_does_68 rfl rfl ?_
    refine x_iload_n (pc := 69) (i := 3) C 0 dX7_does_69 rfl rfl ?_
    have h8 := hok
    refine x_cIV (pc := 70) (as := [.int v2, .int v4]) (q := 193) C (c_X7_draws C.2.2.2.2.2.2.2.1  B M O v2 v4 h8) (fs := _) e_M rfl cv_X7_draws cd_X7_draws wd_7_136 ⟨Nat.le_of_ble_eq_true rfl, Nat.le_of_ble_eq_true rfl⟩ ⟨Nat.le_of_ble_eq_true rfl, Nat.le_of_ble_eq_true rfl⟩ rfl rfl (Nat.le_of_ble_eq_true rfl) dX7_does_70 ?_
    refine x_nmIM (fun z9 ez9 => ?_)
    have hR := nmE hR ez9
    exact x_iretM (pc := 73) C rfl hR dX7_does_73
  have hR := hR.trans (if_neg c20_1)
  have hok := hok.2 c20_1
  by_cases c20_2 : (ma M 7 (ix x0)) = 2
  · have hR := hR.trans (if_pos c20_2)
    have hok := hok.1 c20_2
    refine x_tabIn (pc := 24) (tgt := 74) (off := 50) C dX7_does_24 c20_2 (by decide) (by decide) (by decide) (by decide) ?_
    refine x_aload_n (pc := 74) (i := 0) C 2 dX7_does_74 rfl rfl ?_
    refine x_iload_n (pc := 75) (i := 2) C 1 dX7_does_75 rfl rfl ?_
    refine x_iload_n (pc := 76) (i := 3) C 0 dX7_does_76 rfl rfl ?_
    have h10 := hok
    refine x_cIV (pc := 77) (as := [.int v2, .int v4]) (q := 193) C (c_X7_limits C.2.2.2.2.2.2.2.1  B M O v2 v4 h10) (fs := _) e_M rfl cv_X7_limits cd_X7_limits wd_7_144 ⟨Nat.le_of_ble_eq_true rfl, Nat.le_of_ble_eq_true rfl⟩ ⟨Nat.le_of_ble_eq_true rfl, Nat.le_of_ble_eq_true rfl⟩ rfl rfl (Nat.le_of_ble_eq_true rfl) dX7_does_77 ?_
    refine x_nmIM (fun z11 ez11 => ?_)
    have hR := nmE hR ez11
    exact x_iretM (pc := 80) C rfl hR dX7_does_80
  have hR := hR.trans (if_neg c20_2)
  have hok := hok.2 c20_2
  by_cases c20_3 : (ma M 7 (ix x0)) = 3
  · have hR := hR.trans (if_pos c20_3)
    have hok := hok.1 c20_3
    refine x_tabIn (pc := 24) (tgt := 81) (off := 57) C dX7_does_24 c20_3 (by decide) (by decide) (by decide) (by decide) ?_
    refine x_aload_n (pc := 81) (i := 0) C 2 dX7_does_81 rfl rfl ?_
    refine x_iload_n (pc := 82) (i := 2) C 1 dX7_does_82 rfl rfl ?_
    refine x_iload_n (pc := 83) (i := 3) C 0 dX7_does_83 rfl rfl ?_
    refine x_aload_n (pc := 84) (i := 0) C 2 dX7_does_84 rfl rfl ?_
    refine x_get (pc := 85) (q := 193) (i := 20) C e_M rfl ttX7 (by decide) wd_7_7 rfl dX7_does_85 ?_
    refine x_iload_n (pc := 88) (i := 1) C 3 dX7_does_88 rfl rfl ?_
    refine x_iconst (pc := 89) (v := 3) C dX7_does_89 (by decide) ?_
    refine x_iadd (pc := 90) C dX7_does_90 ?_
    have h12 := hok.1
    have hok := hok.2
    refine x_iald (pc := 91) (q := 201) C e_M7 h12 dX7_does_91 ?_
    refine x_aload_n (pc := 92) (i := 0) C 2 dX7_does_92 rfl rfl ?_
    refine x_get (pc := 93) (q := 193) (i := 20) C e_M rfl ttX7 (by decide) wd_7_7 rfl dX7_does_93 ?_
    refine x_iload_n (pc := 96) (i := 1) C 3 dX7_does_96 rfl rfl ?_
    refine x_iconst (pc := 97) (v := 4) C dX7_does_97 (by decide) ?_
    refine x_iadd (pc := 98) C dX7_does_98 ?_
    have h13 := hok.1
    have hok := hok.2
    refine x_iald (pc := 99) (q := 201) C e_M7 h13 dX7_does_99 ?_
    have h14 := hok
    refine x_cIV (pc := 100) (as := [.int v2, .int v4, .int (ma M 7 (ix (x0 + 3))), .int (ma M 7 (ix (x0 + 4)))]) (q := 193) C (c_X7_seals C.2.2.2.2.2.2.2.1  B M O v2 v4 (ma M 7 (ix (x0 + 3))) (ma M 7 (ix (x0 + 4))) h14) (fs := _) e_M rfl cv_X7_seals cd_X7_seals wd_7_152 ⟨Nat.le_of_ble_eq_true rfl, Nat.le_of_ble_eq_true rfl⟩ ⟨Nat.le_of_ble_eq_true rfl, Nat.le_of_ble_eq_true rfl⟩ rfl rfl (Nat.le_of_ble_eq_true rfl) dX7_does_100 ?_
    refine x_nmIM (fun z15 ez15 => ?_)
    have hR := nmE hR ez15
    exact x_iretM (pc := 103) C rfl hR dX7_does_103
  have hR := hR.trans (if_neg c20_3)
  have hok := hok.2 c20_3
  by_cases c20_4 : (ma M 7 (ix x0)) = 4
  · have hR := hR.trans (if_pos c20_4)
    have hok := hok.1 c20_4
    refine x_tabIn (pc := 24) (tgt := 104) (off := 80) C dX7_does_24 c20_4 (by decide) (by decide) (by decide) (by decide) ?_
    refine x_aload_n (pc := 104) (i := 0) C 2 dX7_does_104 rfl rfl ?_
    refine x_iload_n (pc := 105) (i := 2) C 1 dX7_does_105 rfl rfl ?_
    have h16 := hok
    refine x_cIV (pc := 106) (as := [.int v2]) (q := 193) C (c_X7_voids C.2.2.2.2.2.2.2.1  B M O v2 h16) (fs := _) e_M rfl cv_X7_voids cd_X7_voids wd_7_160 ⟨Nat.le_of_ble_eq_true rfl, Nat.le_of_ble_eq_true rfl⟩ ⟨Nat.le_of_ble_eq_true rfl, Nat.le_of_ble_eq_true rfl⟩ rfl rfl (Nat.le_of_ble_eq_true rfl) dX7_does_106 ?_
    refine x_nmIM (fun z17 ez17 => ?_)
    have hR := nmE hR ez17
    exact x_iretM (pc := 109) C rfl hR dX7_does_109
  have hR := hR.trans (if_neg c20_4)
  have hok := hok.2 c20_4
  refine x_tabOut (pc := 24) (tgt := 110) C dX7_does_24 (by
    have c20_0 : ¬ Int32.toInt (ma M 7 (ix x0)) = 0 := sw_no c20_0
    have c20_1 : ¬ Int32.toInt (ma M 7 (ix x0)) = 1 := sw_no c20_1
    have c20_2 : ¬ Int32.toInt (ma M 7 (ix x0)) = 2 := sw_no c20_2
    have c20_3 : ¬ Int32.toInt (ma M 7 (ix x0)) = 3 := sw_no c20_3
    have c20_4 : ¬ Int32.toInt (ma M 7 (ix x0)) = 4 := sw_no c20_4
    omega) (by decide) ?_
  refine x_aload_n (pc := 110) (i := 0) C 2 dX7_does_110 rfl rfl ?_
  refine x_iload_n (pc := 111) (i := 2) C 1 dX7_does_111 rfl rfl ?_
  have h18 := hok
  refine x_cIV (pc := 112) (as := [.int v2]) (q := 193) C (c_X7_waits C.2.2.2.2.2.2.2.1  B M O v2 h18) (fs := _) e_M rfl cv_X7_waits cd_X7_waits wd_7_180 ⟨Nat.le_of_ble_eq_true rfl, Nat.le_of_ble_eq_true rfl⟩ ⟨Nat.le_of_ble_eq_true rfl, Nat.le_of_ble_eq_true rfl⟩ rfl rfl (Nat.le_of_ble_eq_true rfl) dX7_does_112 ?_
  refine x_nmIM (fun z19 ez19 => ?_)
  have hR := nmE hR ez19
  exact x_iretM (pc := 115) C rfl hR dX7_does_115
