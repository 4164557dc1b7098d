set_option maxHeartbeats 4000000 in
set_option maxRecDepth 100000 in
theorem c_X7_thrown {l : Launch} {A : Nat → Prop} {G : GT} {ad : Nat → Nat} (gl : Gl l A ad)  (B : StB) (M : StM) (O : StO)  : Met l yX7_thrown (wof yX7_thrown cX7_thrown 1 (some .int)) (rmd 1 0 0) (va_Pc [.ref (ad 193)] (PW G A ad B M O)) (QI G A ad (f_X7_thrown M) B M O) 0 0 A := by
  refine x_body (own := RX7) (by decide +kernel) rfl gl (Nat.le_of_ble_eq_true rfl) (ls := [(0, .ref (ad 193))]) rfl ?_
  intro p0 e s m args below meth c C
  have hR : (f_X7_thrown M) = (mi M 15) := rfl
  refine x_aload_n (pc := 0) (i := 0) C 0 dX7_thrown_0 rfl rfl ?_
  refine x_get (pc := 1) (q := 193) (i := 15) C e_M rfl ttX7 (by decide) wd_7_2 rfl dX7_thrown_1 ?_
  exact x_iret (pc := 4) C rfl hR dX7_thrown_4
set_option maxHeartbeats 4000000 in
set_option maxRecDepth 100000 in
theorem t_X7_holds_J35 {p0 : Program} {l : Launch} {e : Env} {s : State} {m : MethodId} {args : Array Value} {below : List Frame} {meth : Method} {c : Code} {A : Nat → Prop} {G : GT} {ad : Nat → Nat} (C : CX p0 l s m args meth c A G ad cX7_holds RX7 5 (some .boolean))  (M : StM) (s0 : Int32) (B : StB) (O : StO) (R0 : Int32 × StM) (hR : R0 = f_X7_holds_J35 M s0) : X p0 l e (rmd 1 0 0) s m args below meth c A G ad 5 0 0 (MQ below (QI G A ad R0.1 B R0.2 O) args s 0 0 A) B M O [(0, .ref (ad 193))] 35 [.int s0, .ref (ad 193)] := by
  have hR : R0 = (nm (smi M 15 s0) (fun (M5 : StM) => (if (mi M5 15) = 0 then (1, M5) else (0, M5)))) := hR
  refine x_put (pc := 35) (M2 := (smi M 15 s0)) (B2 := B) (O2 := O) (q := 193) (i := 15) C tyX7 tyX7_ok nmX7 e_M rfl ttX7 (by decide) wd_7_2 rfl rfl rfl (Nat.le_of_ble_eq_true rfl) dX7_holds_35 (put_M_15 ) (o_smi 15 s0) ?_
  refine x_nmM (fun M5 eM5 => ?_)
  have hR := nmE hR eM5
  refine x_aload_n (pc := 38) (i := 0) C 0 dX7_holds_38 rfl rfl ?_
  refine x_get (pc := 39) (q := 193) (i := 15) C e_M rfl ttX7 (by decide) wd_7_2 rfl dX7_holds_39 ?_
  refine x_if_ne (pc := 42) (tgt := 49) C dX7_holds_42 (by decide) (fun c6 => ?_) (fun c6 => ?_)
  · have hR := hR.trans (if_neg c6)
    refine x_iconst (pc := 49) (v := 0) C dX7_holds_49 (by decide) ?_
    exact x_zretM (pc := 50) C rfl (by decide) hR dX7_holds_50
  · have hR := hR.trans (if_pos c6)
    refine x_iconst (pc := 45) (v := 1) C dX7_holds_45 (by decide) ?_
    refine x_goto (pc := 46) (tgt := 50) C dX7_holds_46 (by decide) ?_
    exact x_zretM (pc := 50) C rfl (by decide) hR dX7_holds_50
set_option maxHeartbeats 4000000 in
set_option maxRecDepth 100000 in
theorem c_X7_holds {l : Launch} {A : Nat → Prop} {G : GT} {ad : Nat → Nat} (gl : Gl l A ad)  (B : StB) (M : StM) (O : StO) (x0 : Int32) (x1 : Int32) (x2 : Int32) (x3 : Int32) : Met l yX7_holds (wof yX7_holds cX7_holds 5 (some .boolean)) (rmd 1 0 0) (va_Pc [.ref (ad 193), .int x0, .int x1, .int x2, .int x3] (PW G A ad B M O)) (QI G A ad (f_X7_holds M x0 x1 x2 x3).1 B (f_X7_holds M x0 x1 x2 x3).2 O) 0 0 A := by
  refine x_body (own := RX7) (by decide +kernel) rfl gl (Nat.le_of_ble_eq_true rfl) (ls := [(0, .ref (ad 193)), (1, .int x0), (2, .int x1), (3, .int x2), (4, .int x3)]) rfl ?_
  intro p0 e s m args below meth c C
  have hR : (f_X7_holds M x0 x1 x2 x3) = (if x0 = 0 then (f_X7_holds_J35 M 1) else (if x1 = 0 then (f_X7_holds_J35 M 2) else (if x2 = 0 then (f_X7_holds_J35 M 3) else (if x3 = 0 then (f_X7_holds_J35 M 4) else (f_X7_holds_J35 M 0))))) := rfl
  refine x_aload_n (pc := 0) (i := 0) C 0 dX7_holds_0 rfl rfl ?_
  refine x_iload_n (pc := 1) (i := 1) C 1 dX7_holds_1 rfl rfl ?_
  refine x_if_ne (pc := 2) (tgt := 9) C dX7_holds_2 (by decide) (fun c1 => ?_) (fun c1 => ?_)
  · have hR := hR.trans (if_neg c1)
    refine x_iload_n (pc := 9) (i := 2) C 2 dX7_holds_9 rfl rfl ?_
    refine x_if_ne (pc := 10) (tgt := 17) C dX7_holds_10 (by decide) (fun c2 => ?_) (fun c2 => ?_)
    · have hR := hR.trans (if_neg c2)
      refine x_iload_n (pc := 17) (i := 3) C 3 dX7_holds_17 rfl rfl ?_
      refine x_if_ne (pc := 18) (tgt := 25) C dX7_holds_18 (by decide) (fun c3 => ?_) (fun c3 => ?_)
      · have hR := hR.trans (if_neg c3)
        refine x_iload (pc := 25) (i := 4) C 4 dX7_holds_25 rfl ?_
        refine x_if_ne (pc := 27) (tgt := 34) C dX7_holds_27 (by decide) (fun c4 => ?_) (fun c4 => ?_)
        · have hR := hR.trans (if_neg c4)
          refine x_iconst (pc := 34) (v := 0) C dX7_holds_34 (by decide) ?_
          refine x_sub [0] (ls2 := [(0, .ref (ad 193))]) rfl ?_
          exact t_X7_holds_J35 C M 0 B O _ hR
        · have hR := hR.trans (if_pos c4)
          refine x_iconst (pc := 30) (v := 4) C dX7_holds_30 (by decide) ?_
          refine x_goto (pc := 31) (tgt := 35) C dX7_holds_31 (by decide) ?_
          refine x_sub [0] (ls2 := [(0, .ref (ad 193))]) rfl ?_
          exact t_X7_holds_J35 C M 4 B O _ hR
      · have hR := hR.trans (if_pos c3)
        refine x_iconst (pc := 21) (v := 3) C dX7_holds_21 (by decide) ?_
        refine x_goto (pc := 22) (tgt := 35) C dX7_holds_22 (by decide) ?_
        refine x_sub [0] (ls2 := [(0, .ref (ad 193))]) rfl ?_
        exact t_X7_holds_J35 C M 3 B O _ hR
    · have hR := hR.trans (if_pos c2)
      refine x_iconst (pc := 13) (v := 2) C dX7_holds_13 (by decide) ?_
      refine x_goto (pc := 14) (tgt := 35) C dX7_holds_14 (by decide) ?_
      refine x_sub [0] (ls2 := [(0, .ref (ad 193))]) rfl ?_
      exact t_X7_holds_J35 C M 2 B O _ hR
  · have hR := hR.trans (if_pos c1)
    refine x_iconst (pc := 5) (v := 1) C dX7_holds_5 (by decide) ?_
    refine x_goto (pc := 6) (tgt := 35) C dX7_holds_6 (by decide) ?_
    refine x_sub [0] (ls2 := [(0, .ref (ad 193))]) rfl ?_
    exact t_X7_holds_J35 C M 1 B O _ hR
set_option maxHeartbeats 4000000 in
set_option maxRecDepth 100000 in
theorem c_X7_isIn {l : Launch} {A : Nat → Prop} {G : GT} {ad : Nat → Nat} (gl : Gl l A ad)  (B : StB) (M : StM) (O : StO) (x0 : Int32) (x1 : Int32) (x2 : Int32) : Met l yX7_isIn (wof yX7_isIn cX7_isIn 3 (some .boolean)) (rmd 1 0 0) (va_Pc [.int x0, .int x1, .int x2] (PW G A ad B M O)) (QI G A ad (f_X7_isIn x0 x1 x2) B M O) 0 0 A := by
  refine x_body (own := RX7) (by decide +kernel) rfl gl (Nat.le_of_ble_eq_true rfl) (ls := [(0, .int x0), (1, .int x1), (2, .int x2)]) rfl ?_
  intro p0 e s m args below meth c C
  have hR : (f_X7_isIn x0 x1 x2) = (if x0 < x1 then 0 else (if x2 < x0 then 0 else 1)) := rfl
  refine x_iload_n (pc := 0) (i := 0) C 0 dX7_isIn_0 rfl rfl ?_
  refine x_iload_n (pc := 1) (i := 1) C 1 dX7_isIn_1 rfl rfl ?_
  refine x_icmp_lt (pc := 2) (tgt := 14) C dX7_isIn_2 (by decide) (fun c1 => ?_) (fun c1 => ?_)
  · have hR := hR.trans (if_pos c1)
    refine x_iconst (pc := 14) (v := 0) C dX7_isIn_14 (by decide) ?_
    exact x_zret (pc := 15) C rfl (by decide) hR dX7_isIn_15
  · have hR := hR.trans (if_neg c1)
    refine x_iload_n (pc := 5) (i := 0) C 0 dX7_isIn_5 rfl rfl ?_
    refine x_iload_n (pc := 6) (i := 2) C 2 dX7_isIn_6 rfl rfl ?_
    refine x_icmp_gt (pc := 7) (tgt := 14) C dX7_isIn_7 (by decide) (fun c2 => ?_) (fun c2 => ?_)
    · have hR := hR.trans (if_pos c2)
      refine x_iconst (pc := 14) (v := 0) C dX7_isIn_14 (by decide) ?_
      exact x_zret (pc := 15) C rfl (by decide) hR dX7_isIn_15
    · have hR := hR.trans (if_neg c2)
      refine x_iconst (pc := 10) (v := 1) C dX7_isIn_10 (by decide) ?_
      refine x_goto (pc := 11) (tgt := 15) C dX7_isIn_11 (by decide) ?_
      exact x_zret (pc := 15) C rfl (by decide) hR dX7_isIn_15
set_option maxHeartbeats 4000000 in
set_option maxRecDepth 100000 in
theorem c_X7_accountAt {l : Launch} {A : Nat → Prop} {G : GT} {ad : Nat → Nat} (gl : Gl l A ad)  (B : StB) (M : StM) (O : StO) (x0 : Int32) : Met l yX7_accountAt (wof yX7_accountAt cX7_accountAt 1 (some .int)) (rmd 1 0 0) (va_Pc [.int x0] (PW G A ad B M O)) (QI G A ad (f_X7_accountAt x0) B M O) 0 0 A := by
  refine x_body (own := RX7) (by decide +kernel) rfl gl (Nat.le_of_ble_eq_true rfl) (ls := [(0, .int x0)]) rfl ?_
  intro p0 e s m args below meth c C
  have hR : (f_X7_accountAt x0) = (12 + (4 * x0)) := rfl
  refine x_bipush (pc := 0) (v := 12) C dX7_accountAt_0 (by decide) ?_
  refine x_iconst (pc := 2) (v := 4) C dX7_accountAt_2 (by decide) ?_
  refine x_iload_n (pc := 3) (i := 0) C 0 dX7_accountAt_3 rfl rfl ?_
  refine x_imul (pc := 4) C dX7_accountAt_4 ?_
  refine x_iadd (pc := 5) C dX7_accountAt_5 ?_
  exact x_iret (pc := 6) C rfl hR dX7_accountAt_6
set_option maxHeartbeats 4000000 in
set_option maxRecDepth 100000 in
theorem t_X7_writes_L4 {p0 : Program} {l : Launch} {e : Env} {s : State} {m : MethodId} {args : Array Value} {below : List Frame} {meth : Method} {c : Code} {A : Nat → Prop} {G : GT} {ad : Nat → Nat} {Q : State → Prop} (C : CX p0 l s m args meth c A G ad cX7_writes RX7 5 none)    (n : Nat) (M : StM) (a1 : Int32) (a2 : Int32) (a3 : Int32) (a4 : Int32) (B : StB) (O : StO) : ∀ (R0 : StM) (hR : R0 = f_X7_writes_L4 n M a1 a2 a3 a4) (hok : ok_X7_writes_L4 n M a1 a2 a3 a4) (k : X p0 l e (rmd 2 0 0) s m args below meth c A G ad 5 0 0 Q B R0 O [(0, .ref (ad 193)), (1, .int a1), (2, .int a2), (3, .int a3)] 33 []), X p0 l e (rmd 2 0 0) s m args below meth c A G ad 5 0 0 Q B M O [(0, .ref (ad 193)), (1, .int a1), (2, .int a2), (3, .int a3), (4, .int a4)] 4 [] := by
  induction n generalizing M a1 a2 a3 a4 with
  | zero => intro R0 hR hok k; exact False.elim hok
  | succ n ih =>
    intro R0 hR hok k
    have hR : R0 = (if a4 < 97 then M else (nm (sma M 0 (ix a4) (ma M 0 (ix (a4 - 3)))) (fun (M4 : StM) => (f_X7_writes_L4 n M4 a1 a2 a3 (a4 + (-1)))))) := hR
    have hok : ((a4 < 97 → True) ∧ (¬ a4 < 97 → (vp_in (a4 - 3) 124 ∧ (vp_in a4 124 ∧ (∀ M4 : StM, M4 = (sma M 0 (ix a4) (ma M 0 (ix (a4 - 3)))) → (ok_X7_writes_L4 n M4 a1 a2 a3 (a4 + (-1)))))))) := hok
    refine x_iload (pc := 4) (i := 4) C 4 dX7_writes_4 rfl ?_
    refine x_bipush (pc := 6) (v := 97) C dX7_writes_6 (by decide) ?_
    refine x_icmp_lt (pc := 8) (tgt := 33) C dX7_writes_8 (by decide) (fun c1 => ?_) (fun c1 => ?_)
    · have hR := hR.trans (if_pos c1)
      refine x_sub [0, 1, 2, 3] (ls2 := [(0, .ref (ad 193)), (1, .int a1), (2, .int a2), (3, .int a3)]) rfl ?_
      subst hR
      exact k
    · have hR := hR.trans (if_neg c1)
      have hok := hok.2 c1
      refine x_aload_n (pc := 11) (i := 0) C 0 dX7_writes_11 rfl rfl ?_
      refine x_get (pc := 12) (q := 193) (i := 0) C e_M rfl ttX7 (by decide) wd_6_227 rfl dX7_writes_12 ?_
      refine x_iload (pc := 15) (i := 4) C 4 dX7_writes_15 rfl ?_
      refine x_aload_n (pc := 17) (i := 0) C 0 dX7_writes_17 rfl rfl ?_
      refine x_get (pc := 18) (q := 193) (i := 0) C e_M rfl ttX7 (by decide) wd_6_227 rfl dX7_writes_18 ?_
      refine x_iload (pc := 21) (i := 4) C 4 dX7_writes_21 rfl ?_
      refine x_iconst (pc := 23) (v := 3) C dX7_writes_23 (by decide) ?_
      refine x_isub (pc := 24) C dX7_writes_24 ?_
      have h2 := hok.1
      have hok := hok.2
      refine x_iald (pc := 25) (q := 194) C e_M0 h2 dX7_writes_25 ?_
      have h3 := hok.1
      have hok := hok.2
      refine x_iastM (pc := 26) (j := 0) (q := 194) C rfl (by decide) e_M0 e_M0.2 h3 dX7_writes_26 ?_
      refine x_nmM (fun M4 eM4 => ?_)
      have hR := nmE hR eM4
      have hok := hok M4 eM4
      refine x_iinc (pc := 27) (i := 4) (v := (a4 + (-1))) (ls2 := [(4, .int (a4 + (-1))), (0, .ref (ad 193)), (1, .int a1), (2, .int a2), (3, .int a3)]) C 4 dX7_writes_27 rfl rfl (by decide) rfl ?_
      refine x_goto (pc := 30) (tgt := 4) C dX7_writes_30 (by decide) ?_
      refine x_sub [1, 2, 3, 4, 0] (ls2 := [(0, .ref (ad 193)), (1, .int a1), (2, .int a2), (3, .int a3), (4, .int (a4 + (-1)))]) rfl ?_
      exact ih M4 a1 a2 a3 (a4 + (-1)) R0 hR hok k
set_option maxHeartbeats 4000000 in
set_option maxRecDepth 100000 in
theorem c_X7_writes {l : Launch} {A : Nat → Prop} {G : GT} {ad : Nat → Nat} (gl : Gl l A ad)  (B : StB) (M : StM) (O : StO) (x0 : Int32) (x1 : Int32) (x2 : Int32) (hok : ok_X7_writes M x0 x1 x2) : Met l yX7_writes (wof yX7_writes cX7_writes 5 none) (rmd 2 0 0) (va_Pc [.ref (ad 193), .int x0, .int x1, .int x2] (PW G A ad B M O)) (QV G A ad B (f_X7_writes M x0 x1 x2) O) 0 0 A := by
  refine x_body (own := RX7) (by decide +kernel) rfl gl (Nat.le_of_ble_eq_true rfl) (ls := [(0, .ref (ad 193)), (1, .int x0), (2, .int x1), (3, .int x2)]) rfl ?_
  intro p0 e s m args below meth c C
  have hR : (f_X7_writes M x0 x1 x2) = (nm (f_X7_writes_L4 fu M x0 x1 x2 123) (fun (z5 : StM) => (nm (sma z5 0 (ix 94) x0) (fun (M7 : StM) => (nm (sma M7 0 (ix 95) x1) (fun (M9 : StM) => (nm (sma M9 0 (ix 96) x2) (fun (M11 : StM) => (nm (sma M11 0 (ix 11) (mn 10 ((ma M11 0 (ix 11)) + 1))) (fun (M14 : StM) => M14)))))))))) := rfl
  have hok : (ok_X7_writes_L4 fu M x0 x1 x2 123) := hok
  refine x_bipush (pc := 0) (v := 123) C dX7_writes_0 (by decide) ?_
  refine x_istore (pc := 2) (i := 4) (ls2 := [(4, .int 123), (0, .ref (ad 193)), (1, .int x0), (2, .int x1), (3, .int x2)]) C dX7_writes_2 (by decide) rfl ?_
  refine x_sub [1, 2, 3, 4, 0] (ls2 := [(0, .ref (ad 193)), (1, .int x0), (2, .int x1), (3, .int x2), (4, .int 123)]) rfl ?_
  obtain ⟨z5, ez5⟩ : ∃ z : StM, z = f_X7_writes_L4 fu M x0 x1 x2 123 := ⟨_, rfl⟩
  refine t_X7_writes_L4 C fu M x0 x1 x2 123 B O z5 ez5 hok ?_
  have hR := nmE hR ez5
  refine x_aload_n (pc := 33) (i := 0) C 0 dX7_writes_33 rfl rfl ?_
  refine x_get (pc := 34) (q := 193) (i := 0) C e_M rfl ttX7 (by decide) wd_6_227 rfl dX7_writes_34 ?_
  refine x_bipush (pc := 37) (v := 94) C dX7_writes_37 (by decide) ?_
  refine x_iload_n (pc := 39) (i := 1) C 1 dX7_writes_39 rfl rfl ?_
  have h6 : vp_in (94) 124 := (by decide : ¬ ((94 : Int32) < 0 ∨ 124 ≤ Int32.toNatClampNeg 94))
  refine x_iastM (pc := 40) (j := 0) (q := 194) C rfl (by decide) e_M0 e_M0.2 h6 dX7_writes_40 ?_
  refine x_nmM (fun M7 eM7 => ?_)
  have hR := nmE hR eM7
  refine x_aload_n (pc := 41) (i := 0) C 0 dX7_writes_41 rfl rfl ?_
  refine x_get (pc := 42) (q := 193) (i := 0) C e_M rfl ttX7 (by decide) wd_6_227 rfl dX7_writes_42 ?_
  refine x_bipush (pc := 45) (v := 95) C dX7_writes_45 (by decide) ?_
  refine x_iload_n (pc := 47) (i := 2) C 2 dX7_writes_47 rfl rfl ?_
  have h8 : vp_in (95) 124 := (by decide : ¬ ((95 : Int32) < 0 ∨ 124 ≤ Int32.toNatClampNeg 95))
  refine x_iastM (pc := 48) (j := 0) (q := 194) C rfl (by decide) e_M0 e_M0.2 h8 dX7_writes_48 ?_
  refine x_nmM (fun M9 eM9 => ?_)
  have hR := nmE hR eM9
  refine x_aload_n (pc := 49) (i := 0) C 0 dX7_writes_49 rfl rfl ?_
  refine x_get (pc := 50) (q := 193) (i := 0) C e_M rfl ttX7 (by decide) wd_6_227 rfl dX7_writes_50 ?_
  refine x_bipush (pc := 53) (v := 96) C dX7_writes_53 (by decide) ?_
  refine x_iload_n (pc := 55) (i := 3) C 3 dX7_writes_55 rfl rfl ?_
  have h10 : vp_in (96) 124 := (by decide : ¬ ((96 : Int32) < 0 ∨ 124 ≤ Int32.toNatClampNeg 96))
  refine x_iastM (pc := 56) (j := 0) (q := 194) C rfl (by decide) e_M0 e_M0.2 h10 dX7_writes_56 ?_
  refine x_nmM (fun M11 eM11 => ?_)
  have hR := nmE hR eM11
  refine x_aload_n (pc := 57) (i := 0) C 0 dX7_writes_57 rfl rfl ?_
  refine x_get (pc := 58) (q := 193) (i := 0) C e_M rfl ttX7 (by decide) wd_6_227 rfl dX7_writes_58 ?_
  refine x_bipush (pc := 61) (v := 11) C dX7_writes_61 (by decide) ?_
  refine x_bipush (pc := 63) (v := 10) C dX7_writes_63 (by decide) ?_
  refine x_aload_n (pc := 65) (i := 0) C 0 dX7_writes_65 rfl rfl ?_
  refine x_get (pc := 66) (q := 193) (i := 0) C e_M rfl ttX7 (by decide) wd_6_227 rfl dX7_writes_66 ?_
  refine x_bipush (pc := 69) (v := 11) C dX7_writes_69 (by decide) ?_
  have h12 : vp_in (11) 124 := (by decide : ¬ ((11 : Int32) < 0 ∨ 124 ≤ Int32.toNatClampNeg 11))
  refine x_iald (pc := 71) (q := 194) C e_M0 h12 dX7_writes_71 ?_
  refine x_iconst (pc := 72) (v := 1) C dX7_writes_72 (by decide) ?_
  refine x_iadd (pc := 73) C dX7_writes_73 ?_
  refine x_mmin (pc := 74) C wd_7_131 wd_3_52 wd_1_21 wd_3_53 ⟨Nat.le_of_ble_eq_true rfl, Nat.le_of_ble_eq_true rfl⟩ ⟨Nat.le_of_ble_eq_true rfl, Nat.le_of_ble_eq_true rfl⟩ dX7_writes_74 ?_
  have h13 : vp_in (11) 124 := (by decide : ¬ ((11 : Int32) < 0 ∨ 124 ≤ Int32.toNatClampNeg 11))
  refine x_iastM (pc := 77) (j := 0) (q := 194) C rfl (by decide) e_M0 e_M0.2 h13 dX7_writes_77 ?_
  refine x_nmM (fun M14 eM14 => ?_)
  have hR := nmE hR eM14
  exact x_vretM (pc := 78) C rfl hR dX7_writes_78
set_option maxHeartbeats 4000000 in
set_option maxRecDepth 100000 in
theorem t_X7_find_L4 {p0 : Program} {l : Launch} {e : Env} {s : State} {m : MethodId} {args : Array Value} {below : List Frame} {meth : Method} {c : Code} {A : Nat → Prop} {G : GT} {ad : Nat → Nat} {Q : State → Prop} (C : CX p0 l s m args meth c A G ad cX7_find RX7 4 (some .int))    (n : Nat) (M : StM) (a1 : Int32) (a2 : Int32) (a3 : Int32) (B : StB) (O : StO) : ∀ (R0 : Int32) (hR : R0 = f_X7_find_L4 n M a1 a2 a3) (hok : ok_X7_find_L4 n M a1 a2 a3) (k : X p0 l e (rmd 1 0 0) s m args below meth c A G ad 4 0 0 Q B M O [(2, .int R0)] 43 []), X p0 l e (rmd 1 0 0) s m args below meth c A G ad 4 0 0 Q B M O [(0, .ref (ad 193)), (1, .int a1), (2, .int a2), (3, .int a3)] 4 [] := by
  induction n generalizing M a1 a2 a3 with
  | zero => intro R0 hR hok k; exact False.elim hok
  | succ n ih =>
    intro R0 hR hok k
    have hR : R0 = (if (ma M 0 (ix 3)) ≤ a3 then a2 else (if (ma M 0 (ix ((44 + (5 * a3)) + 0))) = a1 then (f_X7_find_L4 n M a1 a3 (a3 + 1)) else (f_X7_find_L4 n M a1 a2 (a3 + 1)))) := hR
    have hok : (((ma M 0 (ix 3)) ≤ a3 → True) ∧ (¬ (ma M 0 (ix 3)) ≤ a3 → (vp_in ((44 + (5 * a3)) + 0) 124 ∧ (((ma M 0 (ix ((44 + (5 * a3)) + 0))) = a1 → (ok_X7_find_L4 n M a1 a3 (a3 + 1))) ∧ (¬ (ma M 0 (ix ((44 + (5 * a3)) + 0))) = a1 → (ok_X7_find_L4 n M a1 a2 (a3 + 1))))))) := hok
    refine x_iload_n (pc := 4) (i := 3) C 3 dX7_find_4 rfl rfl ?_
    refine x_aload_n (pc := 5) (i := 0) C 0 dX7_find_5 rfl rfl ?_
    refine x_get (pc := 6) (q := 193) (i := 0) C e_M rfl ttX7 (by decide) wd_6_227 rfl dX7_find_6 ?_
    refine x_iconst (pc := 9) (v := 3) C dX7_find_9 (by decide) ?_
    have h1 : vp_in (3) 124 := (by decide : ¬ ((3 : Int32) < 0 ∨ 124 ≤ Int32.toNatClampNeg 3))
    refine x_iald (pc := 10) (q := 194) C e_M0 h1 dX7_find_10 ?_
    refine x_icmp_ge (pc := 11) (tgt := 43) C dX7_find_11 (by decide) (fun c2 => ?_) (fun c2 => ?_)
    · have hR := hR.trans (if_pos c2)
      refine x_sub [2] (ls2 := [(2, .int a2)]) rfl ?_
      subst hR
      exact k
    · have hR := hR.trans (if_neg c2)
      have hok := hok.2 c2
      refine x_aload_n (pc := 14) (i := 0) C 0 dX7_find_14 rfl rfl ?_
      refine x_get (pc := 15) (q := 193) (i := 0) C e_M rfl ttX7 (by decide) wd_6_227 rfl dX7_find_15 ?_
      refine x_bipush (pc := 18) (v := 44) C dX7_find_18 (by decide) ?_
      refine x_iconst (pc := 20) (v := 5) C dX7_find_20 (by decide) ?_
      refine x_iload_n (pc := 21) (i := 3) C 3 dX7_find_21 rfl rfl ?_
      refine x_imul (pc := 22) C dX7_find_22 ?_
      refine x_iadd (pc := 23) C dX7_find_23 ?_
      refine x_iconst (pc := 24) (v := 0) C dX7_find_24 (by decide) ?_
      refine x_iadd (pc := 25) C dX7_find_25 ?_
      have h3 := hok.1
      have hok := hok.2
      refine x_iald (pc := 26) (q := 194) C e_M0 h3 dX7_find_26 ?_
      refine x_iload_n (pc := 27) (i := 1) C 1 dX7_find_27 rfl rfl ?_
      refine x_icmp_ne (pc := 28) (tgt := 35) C dX7_find_28 (by decide) (fun c4 => ?_) (fun c4 => ?_)
      · have hR := hR.trans (if_neg c4)
        have hok := hok.2 c4
        refine x_iload_n (pc := 35) (i := 2) C 2 dX7_find_35 rfl rfl ?_
        refine x_istore_n (pc := 36) (i := 2) (ls2 := [(2, .int a2), (0, .ref (ad 193)), (1, .int a1), (3, .int a3)]) C dX7_find_36 rfl (by decide) rfl ?_
        refine x_iinc (pc := 37) (i := 3) (v := (a3 + 1)) (ls2 := [(3, .int (a3 + 1)), (2, .int a2), (0, .ref (ad 193)), (1, .int a1)]) C 3 dX7_find_37 rfl rfl (by decide) rfl ?_
        refine x_goto (pc := 40) (tgt := 4) C dX7_find_40 (by decide) ?_
        refine x_sub [2, 3, 1, 0] (ls2 := [(0, .ref (ad 193)), (1, .int a1), (2, .int a2), (3, .int (a3 + 1))]) rfl ?_
        exact ih M a1 a2 (a3 + 1) R0 hR hok k
      · have hR := hR.trans (if_pos c4)
        have hok := hok.1 c4
        refine x_iload_n (pc := 31) (i := 3) C 3 dX7_find_31 rfl rfl ?_
        refine x_goto (pc := 32) (tgt := 36) C dX7_find_32 (by decide) ?_
        refine x_istore_n (pc := 36) (i := 2) (ls2 := [(2, .int a3), (0, .ref (ad 193)), (1, .int a1), (3, .int a3)]) C dX7_find_36 rfl (by decide) rfl ?_
        refine x_iinc (pc := 37) (i := 3) (v := (a3 + 1)) (ls2 := [(3, .int (a3 + 1)), (2, .int a3), (0, .ref (ad 193)), (1, .int a1)]) C 3 dX7_find_37 rfl rfl (by decide) rfl ?_
        refine x_goto (pc := 40) (tgt := 4) C dX7_find_40 (by decide) ?_
        refine x_sub [2, 3, 1, 0] (ls2 := [(0, .ref (ad 193)), (1, .int a1), (2, .int a3), (3, .int (a3 + 1))]) rfl ?_
        exact ih M a1 a3 (a3 + 1) R0 hR hok k
set_option maxHeartbeats 4000000 in
set_option maxRecDepth 100000 in
theorem c_X7_find {l : Launch} {A : Nat → Prop} {G : GT} {ad : Nat → Nat} (gl : Gl l A ad)  (B : StB) (M : StM) (O : StO) (x0 : Int32) (hok : ok_X7_find M x0) : Met l yX7_find (wof yX7_find cX7_find 4 (some .int)) (rmd 1 0 0) (va_Pc [.ref (ad 193), .int x0] (PW G A ad B M O)) (QI G A ad (f_X7_find M x0) B M O) 0 0 A := by
  refine x_body (own := RX7) (by decide +kernel) rfl gl (Nat.le_of_ble_eq_true rfl) (ls := [(0, .ref (ad 193)), (1, .int x0)]) rfl ?_
  intro p0 e s m args below meth c C
  have hR : (f_X7_find M x0) = (nm (f_X7_find_L4 fu M x0 (-1) 0) (fun (z5 : Int32) => z5)) := rfl
  have hok : (ok_X7_find_L4 fu M x0 (-1) 0) := hok
  refine x_iconst (pc := 0) (v := (-1)) C dX7_find_0 (by decide) ?_
  refine x_istore_n (pc := 1) (i := 2) (ls2 := [(2, .int (-1)), (0, .ref (ad 193)), (1, .int x0)]) C dX7_find_1 rfl (by decide) rfl ?_
  refine x_iconst (pc := 2) (v := 0) C dX7_find_2 (by decide) ?_
  refine x_istore_n (pc := 3) (i := 3) (ls2 := [(3, .int 0), (2, .int (-1)), (0, .ref (ad 193)), (1, .int x0)]) C dX7_find_3 rfl (by decide) rfl ?_
  refine x_sub [2, 3, 1, 0] (ls2 := [(0, .ref (ad 193)), (1, .int x0), (2, .int (-1)), (3, .int 0)]) rfl ?_
  obtain ⟨z5, ez5⟩ : ∃ z : Int32, z = f_X7_find_L4 fu M x0 (-1) 0 := ⟨_, rfl⟩
  refine t_X7_find_L4 C fu M x0 (-1) 0 B O z5 ez5 hok ?_
  have hR := nmE hR ez5
  refine x_iload_n (pc := 43) (i := 2) C 0 dX7_find_43 rfl rfl ?_
  exact x_iret (pc := 44) C rfl hR dX7_find_44
set_option maxHeartbeats 4000000 in
set_option maxRecDepth 100000 in
theorem c_X7_ofPlace {l : Launch} {A : Nat → Prop} {G : GT} {ad : Nat → Nat} (gl : Gl l A ad)  (B : StB) (M : StM) (O : StO) (x0 : Int32) (x1 : Int32) (hok : ok_X7_ofPlace M x0 x1) : Met l yX7_ofPlace (wof yX7_ofPlace cX7_ofPlace 3 (some .int)) (rmd 1 0 0) (va_Pc [.ref (ad 193), .int x0, .int x1] (PW G A ad B M O)) (QI G A ad (f_X7_ofPlace M x0 x1) B M O) 0 0 A := by
  refine x_body (own := RX7) (by decide +kernel) rfl gl (Nat.le_of_ble_eq_true rfl) (ls := [(0, .ref (ad 193)), (1, .int x0), (2, .int x1)]) rfl ?_
  intro p0 e s m args below meth c C
  have hR : (f_X7_ofPlace M x0 x1) = (ma M 0 (ix ((44 + (5 * x0)) + x1))) := rfl
  have hok : (vp_in ((44 + (5 * x0)) + x1) 124) := hok
  refine x_aload_n (pc := 0) (i := 0) C 0 dX7_ofPlace_0 rfl rfl ?_
  refine x_get (pc := 1) (q := 193) (i := 0) C e_M rfl ttX7 (by decide) wd_6_227 rfl dX7_ofPlace_1 ?_
  refine x_bipush (pc := 4) (v := 44) C dX7_ofPlace_4 (by decide) ?_
  refine x_iconst (pc := 6) (v := 5) C dX7_ofPlace_6 (by decide) ?_
  refine x_iload_n (pc := 7) (i := 1) C 1 dX7_ofPlace_7 rfl rfl ?_
  refine x_imul (pc := 8) C dX7_ofPlace_8 ?_
  refine x_iadd (pc := 9) C dX7_ofPlace_9 ?_
  refine x_iload_n (pc := 10) (i := 2) C 2 dX7_ofPlace_10 rfl rfl ?_
  refine x_iadd (pc := 11) C dX7_ofPlace_11 ?_
  have h1 := hok
  refine x_iald (pc := 12) (q := 194) C e_M0 h1 dX7_ofPlace_12 ?_
  exact x_iret (pc := 13) C rfl hR dX7_ofPlace_13
set_option maxHeartbeats 4000000 in
set_option maxRecDepth 100000 in
theorem t_X7_drops_L7 {p0 : Program} {l : Launch} {e : Env} {s : State} {m : MethodId} {args : Array Value} {below : List Frame} {meth : Method} {c : Code} {A : Nat → Prop} {G : GT} {ad : Nat → Nat} {Q : State → Prop} (C : CX p0 l s m args meth c A G ad cX7_drops RX7 3 none)    (n : Nat) (M : StM) (a2 : Int32) (B : StB) (O : StO) : ∀ (R0 : StM) (hR : R0 = f_X7_drops_L7 n M a2) (hok : ok_X7_drops_L7 n M a2) (k : X p0 l e (rmd 1 0 0) s m args below meth c A G ad 3 0 0 Q B R0 O [(0, .ref (ad 193))] 33 []), X p0 l e (rmd 1 0 0) s m args below meth c A G ad 3 0 0 Q B M O [(0, .ref (ad 193)), (2, .int a2)] 7 [] := by
  induction n generalizing M a2 with
  | zero => intro R0 hR hok k; exact False.elim hok
  | succ n ih =>
    intro R0 hR hok k
    have hR : R0 = (if 89 ≤ a2 then M else (nm (sma M 0 (ix a2) (ma M 0 (ix (a2 + 5)))) (fun (M5 : StM) => (f_X7_drops_L7 n M5 (a2 + 1))))) := hR
    have hok : ((89 ≤ a2 → True) ∧ (¬ 89 ≤ a2 → (vp_in (a2 + 5) 124 ∧ (vp_in a2 124 ∧ (∀ M5 : StM, M5 = (sma M 0 (ix a2) (ma M 0 (ix (a2 + 5)))) → (ok_X7_drops_L7 n M5 (a2 + 1))))))) := hok
    refine x_iload_n (pc := 7) (i := 2) C 1 dX7_drops_7 rfl rfl ?_
    refine x_bipush (pc := 8) (v := 89) C dX7_drops_8 (by decide) ?_
    refine x_icmp_ge (pc := 10) (tgt := 33) C dX7_drops_10 (by decide) (fun c2 => ?_) (fun c2 => ?_)
    · have hR := hR.trans (if_pos c2)
      refine x_sub [0] (ls2 := [(0, .ref (ad 193))]) rfl ?_
      subst hR
      exact k
    · have hR := hR.trans (if_neg c2)
      have hok := hok.2 c2
      refine x_aload_n (pc := 13) (i := 0) C 0 dX7_drops_13 rfl rfl ?_
      refine x_get (pc := 14) (q := 193) (i := 0) C e_M rfl ttX7 (by decide) wd_6_227 rfl dX7_drops_14 ?_
      refine x_iload_n (pc := 17) (i := 2) C 1 dX7_drops_17 rfl rfl ?_
      refine x_aload_n (pc := 18) (i := 0) C 0 dX7_drops_18 rfl rfl ?_
      refine x_get (pc := 19) (q := 193) (i := 0) C e_M rfl ttX7 (by decide) wd_6_227 rfl dX7_drops_19 ?_
      refine x_iload_n (pc := 22) (i := 2) C 1 dX7_drops_22 rfl rfl ?_
      refine x_iconst (pc := 23) (v := 5) C dX7_drops_23 (by decide) ?_
      refine x_iadd (pc := 24) C dX7_drops_24 ?_
      have h3 := hok.1
      have hok := hok.2
      refine x_iald (pc := 25) (q := 194) C e_M0 h3 dX7_drops_25 ?_
      have h4 := hok.1
      have hok := hok.2
      refine x_iastM (pc := 26) (j := 0) (q := 194) C rfl (by decide) e_M0 e_M0.2 h4 dX7_drops_26 ?_
      refine x_nmM (fun M5 eM5 => ?_)
      have hR := nmE hR eM5
      have hok := hok M5 eM5
      refine x_iinc (pc := 27) (i := 2) (v := (a2 + 1)) (ls2 := [(2, .int (a2 + 1)), (0, .ref (ad 193))]) C 1 dX7_drops_27 rfl rfl (by decide) rfl ?_
      refine x_goto (pc := 30) (tgt := 7) C dX7_drops_30 (by decide) ?_
      refine x_sub [1, 0] (ls2 := [(0, .ref (ad 193)), (2, .int (a2 + 1))]) rfl ?_
      exact ih M5 (a2 + 1) R0 hR hok k
set_option maxHeartbeats 4000000 in
set_option maxRecDepth 100000 in
theorem c_X7_drops {l : Launch} {A : Nat → Prop} {G : GT} {ad : Nat → Nat} (gl : Gl l A ad)  (B : StB) (M : StM) (O : StO) (x0 : Int32) (hok : ok_X7_drops M x0) : Met l yX7_drops (wof yX7_drops cX7_drops 3 none) (rmd 1 0 0) (va_Pc [.ref (ad 193), .int x0] (PW G A ad B M O)) (QV G A ad B (f_X7_drops M x0) O) 0 0 A := by
  refine x_body (own := RX7) (by decide +kernel) rfl gl (Nat.le_of_ble_eq_true rfl) (ls := [(0, .ref (ad 193)), (1, .int x0)]) rfl ?_
  intro p0 e s m args below meth c C
  have hR : (f_X7_drops M x0) = (nm (44 + (5 * x0)) (fun (v1 : Int32) => (nm (f_X7_drops_L7 fu M v1) (fun (z6 : StM) => (nm (sma z6 0 (ix 3) ((ma z6 0 (ix 3)) - 1)) (fun (M9 : StM) => M9)))))) := rfl
  have hok : (∀ v1 : Int32, v1 = (44 + (5 * x0)) → (ok_X7_drops_L7 fu M v1)) := hok
  refine x_bipush (pc := 0) (v := 44) C dX7_drops_0 (by decide) ?_
  refine x_iconst (pc := 2) (v := 5) C dX7_drops_2 (by decide) ?_
  refine x_iload_n (pc := 3) (i := 1) C 1 dX7_drops_3 rfl rfl ?_
  refine x_imul (pc := 4) C dX7_drops_4 ?_
  refine x_iadd (pc := 5) C dX7_drops_5 ?_
  refine x_nmI (fun v1 ev1 => ?_)
  have hR := nmE hR ev1
  have hok := hok v1 ev1
  refine x_istore_n (pc := 6) (i := 2) (ls2 := [(2, .int v1), (0, .ref (ad 193)), (1, .int x0)]) C dX7_drops_6 rfl (by decide) rfl ?_
  refine x_sub [1, 0] (ls2 := [(0, .ref (ad 193)), (2, .int v1)]) rfl ?_
  obtain ⟨z6, ez6⟩ : ∃ z : StM, z = f_X7_drops_L7 fu M v1 := ⟨_, rfl⟩
  refine t_X7_drops_L7 C fu M v1 B O z6 ez6 hok ?_
  have hR := nmE hR ez6
  refine x_aload_n (pc := 33) (i := 0) C 0 dX7_drops_33 rfl rfl ?_
  refine x_get (pc := 34) (q := 193) (i := 0) C e_M rfl ttX7 (by decide) wd_6_227 rfl dX7_drops_34 ?_
  refine x_iconst (pc := 37) (v := 3) C dX7_drops_37 (by decide) ?_
  refine x_dup2 (pc := 38) C dX7_drops_38 rfl rfl ?_
  have h7 : vp_in (3) 124 := (by decide : ¬ ((3 : Int32) < 0 ∨ 124 ≤ Int32.toNatClampNeg 3))
  refine x_iald (pc := 39) (q := 194) C e_M0 h7 dX7_drops_39 ?_
  refine x_iconst (pc := 40) (v := 1) C dX7_drops_40 (by decide) ?_
  refine x_isub (pc := 41) C dX7_drops_41 ?_
  have h8 : vp_in (3) 124 := (by decide : ¬ ((3 : Int32) < 0 ∨ 124 ≤ Int32.toNatClampNeg 3))
  refine x_iastM (pc := 42) (j := 0) (q := 194) C rfl (by decide) e_M0 e_M0.2 h8 dX7_drops_42 ?_
  refine x_nmM (fun M9 eM9 => ?_)
  have hR := nmE hR eM9
  exact x_vretM (pc := 43) C rfl hR dX7_drops_43
set_option maxHeartbeats 4000000 in
set_option maxRecDepth 100000 in
theorem c_X7_accountCount {l : Launch} {A : Nat → Prop} {G : GT} {ad : Nat → Nat} (gl : Gl l A ad)  (B : StB) (M : StM) (O : StO)  : Met l yX7_accountCount (wof yX7_accountCount cX7_accountCount 1 (some .int)) (rmd 1 0 0) (va_Pc [.ref (ad 193)] (PW G A ad B M O)) (QI G A ad (f_X7_accountCount M).1 B (f_X7_accountCount M).2 O) 0 0 A := by
  refine x_body (own := RX7) (by decide +kernel) rfl gl (Nat.le_of_ble_eq_true rfl) (ls := [(0, .ref (ad 193))]) rfl ?_
  intro p0 e s m args below meth c C
  have hR : (f_X7_accountCount M) = (nm (smi M 15 0) (fun (M1 : StM) => ((ma M1 0 (ix 1)), M1))) := rfl
  refine x_aload_n (pc := 0) (i := 0) C 0 dX7_accountCount_0 rfl rfl ?_
  refine x_iconst (pc := 1) (v := 0) C dX7_accountCount_1 (by decide) ?_
  refine x_put (pc := 2) (M2 := (smi M 15 0)) (B2 := B) (O2 := O) (q := 193) (i := 15) C tyX7 tyX7_ok nmX7 e_M rfl ttX7 (by decide) wd_7_2 rfl rfl rfl (Nat.le_of_ble_eq_true rfl) dX7_accountCount_2 (put_M_15 ) (o_smi 15 0) ?_
  refine x_nmM (fun M1 eM1 => ?_)
  have hR := nmE hR eM1
  refine x_aload_n (pc := 5) (i := 0) C 0 dX7_accountCount_5 rfl rfl ?_
  refine x_get (pc := 6) (q := 193) (i := 0) C e_M rfl ttX7 (by decide) wd_6_227 rfl dX7_accountCount_6 ?_
  refine x_iconst (pc := 9) (v := 1) C dX7_accountCount_9 (by decide) ?_
  have h2 : vp_in (1) 124 := (by decide : ¬ ((1 : Int32) < 0 ∨ 124 ≤ Int32.toNatClampNeg 1))
  refine x_iald (pc := 10) (q := 194) C e_M0 h2 dX7_accountCount_10 ?_
  exact x_iretM (pc := 11) C rfl hR dX7_accountCount_11
