set_option maxHeartbeats 4000000 in
set_option maxRecDepth 100000 in
theorem t_X7_balances_L4 {p0 : Program} {l : Launch} {e : Env} {s : State} {m : MethodId} {args : Array Value} {below : List Frame} {meth : Method} {c : Code} {A : Nat → Prop} {G : GT} {ad : Nat → Nat} {Q : State → Prop} (C : CX p0 l s m args meth c A G ad cX7_balances RX7 4 (some .long))    (n : Nat) (M : StM) (a1 : Int64) (a3 : Int32) (B : StB) (O : StO) : ∀ (R0 : Int64) (hR : R0 = f_X7_balances_L4 n M a1 a3) (hok : ok_X7_balances_L4 n M a1 a3) (k : X p0 l e (rmd 4 0 0) s m args below meth c A G ad 4 0 0 Q B M O [(1, .long R0)] 30 []), X p0 l e (rmd 4 0 0) s m args below meth c A G ad 4 0 0 Q B M O [(0, .ref (ad 193)), (1, .long a1), (3, .int a3)] 4 [] := by
  induction n generalizing M a1 a3 with
  | zero => intro R0 hR hok k; exact False.elim hok
  | succ n ih =>
    intro R0 hR hok k
    have hR : R0 = (if (ma M 0 (ix 1)) ≤ a3 then a1 else (nm (f_X7_of M a3 1) (fun (r4 : Int32) => (nm (a1 + (Int32.toInt64 r4)) (fun (v5 : Int64) => (f_X7_balances_L4 n M v5 (a3 + 1))))))) := hR
    have hok : (((ma M 0 (ix 1)) ≤ a3 → True) ∧ (¬ (ma M 0 (ix 1)) ≤ a3 → ((ok_X7_of M a3 1) ∧ (∀ r4 : Int32, r4 = (f_X7_of M a3 1) → (∀ v5 : Int64, v5 = (a1 + (Int32.toInt64 r4)) → (ok_X7_balances_L4 n M v5 (a3 + 1))))))) := hok
    refine x_iload_n (pc := 4) (i := 3) C 2 dX7_balances_4 rfl rfl ?_
    refine x_aload_n (pc := 5) (i := 0) C 0 dX7_balances_5 rfl rfl ?_
    refine x_get (pc := 6) (q := 193) (i := 0) C e_M rfl ttX7 (by decide) wd_6_227 rfl dX7_balances_6 ?_
    refine x_iconst (pc := 9) (v := 1) C dX7_balances_9 (by decide) ?_
    have h1 : vp_in (1) 124 := (by decide : ¬ ((1 : Int32) < 0 ∨ 124 ≤ Int32.toNatClampNeg 1))
    refine x_iald (pc := 10) (q := 194) C e_M0 h1 dX7_balances_10 ?_
    refine x_icmp_ge (pc := 11) (tgt := 30) C dX7_balances_11 (by decide) (fun c2 => ?_) (fun c2 => ?_)
    · have hR := hR.trans (if_pos c2)
      refine x_sub [1] (ls2 := [(1, .long a1)]) rfl ?_
      subst hR
      exact k
    · have hR := hR.trans (if_neg c2)
      have hok := hok.2 c2
      refine x_lload_n (pc := 14) (i := 1) C 1 dX7_balances_14 rfl rfl ?_
      refine x_aload_n (pc := 15) (i := 0) C 0 dX7_balances_15 rfl rfl ?_
      refine x_iload_n (pc := 16) (i := 3) C 2 dX7_balances_16 rfl rfl ?_
      refine x_iconst (pc := 17) (v := 1) C dX7_balances_17 (by decide) ?_
      have h3 := hok.1
      have hok := hok.2
      refine x_cIV (pc := 18) (as := [.int a3, .int 1]) (q := 193) C (c_X7_of C.2.2.2.2.2.2.2.1  B M O a3 1 h3) (fs := _) e_M rfl cv_X7_of cd_X7_of wd_7_119 ⟨Nat.le_of_ble_eq_true rfl, Nat.le_of_ble_eq_true rfl⟩ ⟨Nat.le_of_ble_eq_true rfl, Nat.le_of_ble_eq_true rfl⟩ rfl rfl (Nat.le_of_ble_eq_true rfl) dX7_balances_18 ?_
      refine x_nmI (fun r4 er4 => ?_)
      have hR := nmE hR er4
      have hok := hok r4 er4
      refine x_i2l (pc := 21) C dX7_balances_21 ?_
      refine x_ladd (pc := 22) C dX7_balances_22 ?_
      refine x_nmL (fun v5 ev5 => ?_)
      have hR := nmE hR ev5
      have hok := hok v5 ev5
      refine x_lstore_n (pc := 23) (i := 1) (ls2 := [(1, .long v5), (0, .ref (ad 193)), (3, .int a3)]) C dX7_balances_23 rfl (by decide) rfl ?_
      refine x_iinc (pc := 24) (i := 3) (v := (a3 + 1)) (ls2 := [(3, .int (a3 + 1)), (1, .long v5), (0, .ref (ad 193))]) C 2 dX7_balances_24 rfl rfl (by decide) rfl ?_
      refine x_goto (pc := 27) (tgt := 4) C dX7_balances_27 (by decide) ?_
      refine x_sub [2, 1, 0] (ls2 := [(0, .ref (ad 193)), (1, .long v5), (3, .int (a3 + 1))]) rfl ?_
      exact ih M v5 (a3 + 1) R0 hR hok k
set_option maxHeartbeats 4000000 in
set_option maxRecDepth 100000 in
theorem c_X7_balances {l : Launch} {A : Nat → Prop} {G : GT} {ad : Nat → Nat} (gl : Gl l A ad)  (B : StB) (M : StM) (O : StO)  (hok : ok_X7_balances M) : Met l yX7_balances (wof yX7_balances cX7_balances 4 (some .long)) (rmd 4 0 0) (va_Pc [.ref (ad 193)] (PW G A ad B M O)) (QL G A ad (f_X7_balances M) B M O) 0 0 A := by
  refine x_body (own := RX7) (by decide +kernel) rfl gl (Nat.le_of_ble_eq_true rfl) (ls := [(0, .ref (ad 193))]) rfl ?_
  intro p0 e s m args below meth c C
  have hR : (f_X7_balances M) = (nm (f_X7_balances_L4 fu M 0 0) (fun (z6 : Int64) => z6)) := rfl
  have hok : (ok_X7_balances_L4 fu M 0 0) := hok
  refine x_lconst (pc := 0) (v := 0) C dX7_balances_0 (by decide) ?_
  refine x_lstore_n (pc := 1) (i := 1) (ls2 := [(1, .long 0), (0, .ref (ad 193))]) C dX7_balances_1 rfl (by decide) rfl ?_
  refine x_iconst (pc := 2) (v := 0) C dX7_balances_2 (by decide) ?_
  refine x_istore_n (pc := 3) (i := 3) (ls2 := [(3, .int 0), (1, .long 0), (0, .ref (ad 193))]) C dX7_balances_3 rfl (by decide) rfl ?_
  refine x_sub [2, 1, 0] (ls2 := [(0, .ref (ad 193)), (1, .long 0), (3, .int 0)]) rfl ?_
  obtain ⟨z6, ez6⟩ : ∃ z : Int64, z = f_X7_balances_L4 fu M 0 0 := ⟨_, rfl⟩
  refine t_X7_balances_L4 C fu M 0 0 B O z6 ez6 hok ?_
  have hR := nmE hR ez6
  refine x_lload_n (pc := 30) (i := 1) C 0 dX7_balances_30 rfl rfl ?_
  exact x_lret (pc := 31) C rfl hR dX7_balances_31
set_option maxHeartbeats 4000000 in
set_option maxRecDepth 100000 in
theorem c_X7_senderOf {l : Launch} {A : Nat → Prop} {G : GT} {ad : Nat → Nat} (gl : Gl l A ad)  (B : StB) (M : StM) (O : StO) (x0 : Int32) (hok : ok_X7_senderOf M x0) : Met l yX7_senderOf (wof yX7_senderOf cX7_senderOf 2 (some .int)) (rmd 4 0 0) (va_Pc [.ref (ad 193), .int x0] (PW G A ad B M O)) (QI G A ad (f_X7_senderOf M x0).1 B (f_X7_senderOf M x0).2 O) 0 0 A := by
  refine x_body (own := RX7) (by decide +kernel) rfl gl (Nat.le_of_ble_eq_true rfl) (ls := [(0, .ref (ad 193)), (1, .int x0)]) rfl ?_
  intro p0 e s m args below meth c C
  have hR : (f_X7_senderOf M x0) = (nm (f_X7_asksTransfer M x0 1) (fun (z2 : Int32 × StM) => (z2.1, z2.2))) := rfl
  have hok : ((ok_X7_asksTransfer M x0 1)) := hok
  refine x_aload_n (pc := 0) (i := 0) C 0 dX7_senderOf_0 rfl rfl ?_
  refine x_iload_n (pc := 1) (i := 1) C 1 dX7_senderOf_1 rfl rfl ?_
  refine x_iconst (pc := 2) (v := 1) C dX7_senderOf_2 (by decide) ?_
  have h1 := hok
  refine x_cIV (pc := 3) (as := [.int x0, .int 1]) (q := 193) C (c_X7_asksTransfer C.2.2.2.2.2.2.2.1  B M O x0 1 h1) (fs := _) e_M rfl cv_X7_asksTransfer cd_X7_asksTransfer wd_8_57 ⟨Nat.le_of_ble_eq_true rfl, Nat.le_of_ble_eq_true rfl⟩ ⟨Nat.le_of_ble_eq_true rfl, Nat.le_of_ble_eq_true rfl⟩ rfl rfl (Nat.le_of_ble_eq_true rfl) dX7_senderOf_3 ?_
  refine x_nmIM (fun z2 ez2 => ?_)
  have hR := nmE hR ez2
  exact x_iretM (pc := 6) C rfl hR dX7_senderOf_6
set_option maxHeartbeats 4000000 in
set_option maxRecDepth 100000 in
theorem c_X7_receiverOf {l : Launch} {A : Nat → Prop} {G : GT} {ad : Nat → Nat} (gl : Gl l A ad)  (B : StB) (M : StM) (O : StO) (x0 : Int32) (hok : ok_X7_receiverOf M x0) : Met l yX7_receiverOf (wof yX7_receiverOf cX7_receiverOf 2 (some .int)) (rmd 4 0 0) (va_Pc [.ref (ad 193), .int x0] (PW G A ad B M O)) (QI G A ad (f_X7_receiverOf M x0).1 B (f_X7_receiverOf M x0).2 O) 0 0 A := by
  refine x_body (own := RX7) (by decide +kernel) rfl gl (Nat.le_of_ble_eq_true rfl) (ls := [(0, .ref (ad 193)), (1, .int x0)]) rfl ?_
  intro p0 e s m args below meth c C
  have hR : (f_X7_receiverOf M x0) = (nm (f_X7_asksTransfer M x0 2) (fun (z2 : Int32 × StM) => (z2.1, z2.2))) := rfl
  have hok : ((ok_X7_asksTransfer M x0 2)) := hok
  refine x_aload_n (pc := 0) (i := 0) C 0 dX7_receiverOf_0 rfl rfl ?_
  refine x_iload_n (pc := 1) (i := 1) C 1 dX7_receiverOf_1 rfl rfl ?_
  refine x_iconst (pc := 2) (v := 2) C dX7_receiverOf_2 (by decide) ?_
  have h1 := hok
  refine x_cIV (pc := 3) (as := [.int x0, .int 2]) (q := 193) C (c_X7_asksTransfer C.2.2.2.2.2.2.2.1  B M O x0 2 h1) (fs := _) e_M rfl cv_X7_asksTransfer cd_X7_asksTransfer wd_8_57 ⟨Nat.le_of_ble_eq_true rfl, Nat.le_of_ble_eq_true rfl⟩ ⟨Nat.le_of_ble_eq_true rfl, Nat.le_of_ble_eq_true rfl⟩ rfl rfl (Nat.le_of_ble_eq_true rfl) dX7_receiverOf_3 ?_
  refine x_nmIM (fun z2 ez2 => ?_)
  have hR := nmE hR ez2
  exact x_iretM (pc := 6) C rfl hR dX7_receiverOf_6
set_option maxHeartbeats 4000000 in
set_option maxRecDepth 100000 in
theorem c_X7_amountOf {l : Launch} {A : Nat → Prop} {G : GT} {ad : Nat → Nat} (gl : Gl l A ad)  (B : StB) (M : StM) (O : StO) (x0 : Int32) (hok : ok_X7_amountOf M x0) : Met l yX7_amountOf (wof yX7_amountOf cX7_amountOf 2 (some .int)) (rmd 4 0 0) (va_Pc [.ref (ad 193), .int x0] (PW G A ad B M O)) (QI G A ad (f_X7_amountOf M x0).1 B (f_X7_amountOf M x0).2 O) 0 0 A := by
  refine x_body (own := RX7) (by decide +kernel) rfl gl (Nat.le_of_ble_eq_true rfl) (ls := [(0, .ref (ad 193)), (1, .int x0)]) rfl ?_
  intro p0 e s m args below meth c C
  have hR : (f_X7_amountOf M x0) = (nm (f_X7_asksTransfer M x0 3) (fun (z2 : Int32 × StM) => (z2.1, z2.2))) := rfl
  have hok : ((ok_X7_asksTransfer M x0 3)) := hok
  refine x_aload_n (pc := 0) (i := 0) C 0 dX7_amountOf_0 rfl rfl ?_
  refine x_iload_n (pc := 1) (i := 1) C 1 dX7_amountOf_1 rfl rfl ?_
  refine x_iconst (pc := 2) (v := 3) C dX7_amountOf_2 (by decide) ?_
  have h1 := hok
  refine x_cIV (pc := 3) (as := [.int x0, .int 3]) (q := 193) C (c_X7_asksTransfer C.2.2.2.2.2.2.2.1  B M O x0 3 h1) (fs := _) e_M rfl cv_X7_asksTransfer cd_X7_asksTransfer wd_8_57 ⟨Nat.le_of_ble_eq_true rfl, Nat.le_of_ble_eq_true rfl⟩ ⟨Nat.le_of_ble_eq_true rfl, Nat.le_of_ble_eq_true rfl⟩ rfl rfl (Nat.le_of_ble_eq_true rfl) dX7_amountOf_3 ?_
  refine x_nmIM (fun z2 ez2 => ?_)
  have hR := nmE hR ez2
  exact x_iretM (pc := 6) C rfl hR dX7_amountOf_6
set_option maxHeartbeats 4000000 in
set_option maxRecDepth 100000 in
theorem c_X7_daysUntilDue {l : Launch} {A : Nat → Prop} {G : GT} {ad : Nat → Nat} (gl : Gl l A ad)  (B : StB) (M : StM) (O : StO) (x0 : Int32) (hok : ok_X7_daysUntilDue M x0) : Met l yX7_daysUntilDue (wof yX7_daysUntilDue cX7_daysUntilDue 3 (some .int)) (rmd 4 0 0) (va_Pc [.ref (ad 193), .int x0] (PW G A ad B M O)) (QI G A ad (f_X7_daysUntilDue M x0).1 B (f_X7_daysUntilDue M x0).2 O) 0 0 A := by
  refine x_body (own := RX7) (by decide +kernel) rfl gl (Nat.le_of_ble_eq_true rfl) (ls := [(0, .ref (ad 193)), (1, .int x0)]) rfl ?_
  intro p0 e s m args below meth c C
  have hR : (f_X7_daysUntilDue M x0) = (nm (f_X7_asksTransfer M x0 4) (fun (z2 : Int32 × StM) => (if (mi z2.2 15) = 0 then ((z2.1 - (ma z2.2 0 (ix 0))), z2.2) else (0, z2.2)))) := rfl
  have hok : ((ok_X7_asksTransfer M x0 4)) := hok
  refine x_aload_n (pc := 0) (i := 0) C 0 dX7_daysUntilDue_0 rfl rfl ?_
  refine x_iload_n (pc := 1) (i := 1) C 1 dX7_daysUntilDue_1 rfl rfl ?_
  refine x_iconst (pc := 2) (v := 4) C dX7_daysUntilDue_2 (by decide) ?_
  have h1 := hok
  refine x_cIV (pc := 3) (as := [.int x0, .int 4]) (q := 193) C (c_X7_asksTransfer C.2.2.2.2.2.2.2.1  B M O x0 4 h1) (fs := _) e_M rfl cv_X7_asksTransfer cd_X7_asksTransfer wd_8_57 ⟨Nat.le_of_ble_eq_true rfl, Nat.le_of_ble_eq_true rfl⟩ ⟨Nat.le_of_ble_eq_true rfl, Nat.le_of_ble_eq_true rfl⟩ rfl rfl (Nat.le_of_ble_eq_true rfl) dX7_daysUntilDue_3 ?_
  refine x_nmIM (fun z2 ez2 => ?_)
  have hR := nmE hR ez2
  refine x_istore_n (pc := 6) (i := 2) (ls2 := [(2, .int z2.1), (0, .ref (ad 193)), (1, .int x0)]) C dX7_daysUntilDue_6 rfl (by decide) rfl ?_
  refine x_aload_n (pc := 7) (i := 0) C 1 dX7_daysUntilDue_7 rfl rfl ?_
  refine x_get (pc := 8) (q := 193) (i := 15) C e_M rfl ttX7 (by decide) wd_7_2 rfl dX7_daysUntilDue_8 ?_
  refine x_if_ne (pc := 11) (tgt := 25) C dX7_daysUntilDue_11 (by decide) (fun c3 => ?_) (fun c3 => ?_)
  · have hR := hR.trans (if_neg c3)
    refine x_iconst (pc := 25) (v := 0) C dX7_daysUntilDue_25 (by decide) ?_
    exact x_iretM (pc := 26) C rfl hR dX7_daysUntilDue_26
  · have hR := hR.trans (if_pos c3)
    refine x_iload_n (pc := 14) (i := 2) C 0 dX7_daysUntilDue_14 rfl rfl ?_
    refine x_aload_n (pc := 15) (i := 0) C 1 dX7_daysUntilDue_15 rfl rfl ?_
    refine x_get (pc := 16) (q := 193) (i := 0) C e_M rfl ttX7 (by decide) wd_6_227 rfl dX7_daysUntilDue_16 ?_
    refine x_iconst (pc := 19) (v := 0) C dX7_daysUntilDue_19 (by decide) ?_
    have h4 : vp_in (0) 124 := (by decide : ¬ ((0 : Int32) < 0 ∨ 124 ≤ Int32.toNatClampNeg 0))
    refine x_iald (pc := 20) (q := 194) C e_M0 h4 dX7_daysUntilDue_20 ?_
    refine x_isub (pc := 21) C dX7_daysUntilDue_21 ?_
    refine x_goto (pc := 22) (tgt := 26) C dX7_daysUntilDue_22 (by decide) ?_
    exact x_iretM (pc := 26) C rfl hR dX7_daysUntilDue_26
set_option maxHeartbeats 4000000 in
set_option maxRecDepth 100000 in
theorem c_X7_netOf {l : Launch} {A : Nat → Prop} {G : GT} {ad : Nat → Nat} (gl : Gl l A ad)  (B : StB) (M : StM) (O : StO) (x0 : Int32) (hok : ok_X7_netOf M x0) : Met l yX7_netOf (wof yX7_netOf cX7_netOf 2 (some .int)) (rmd 4 0 0) (va_Pc [.ref (ad 193), .int x0] (PW G A ad B M O)) (QI G A ad (f_X7_netOf M x0).1 B (f_X7_netOf M x0).2 O) 0 0 A := by
  refine x_body (own := RX7) (by decide +kernel) rfl gl (Nat.le_of_ble_eq_true rfl) (ls := [(0, .ref (ad 193)), (1, .int x0)]) rfl ?_
  intro p0 e s m args below meth c C
  have hR : (f_X7_netOf M x0) = (nm (f_X7_net M x0) (fun (z2 : Int32 × StM) => (z2.1, z2.2))) := rfl
  have hok : ((ok_X7_net M x0)) := hok
  refine x_aload_n (pc := 0) (i := 0) C 0 dX7_netOf_0 rfl rfl ?_
  refine x_iload_n (pc := 1) (i := 1) C 1 dX7_netOf_1 rfl rfl ?_
  have h1 := hok
  refine x_cIV (pc := 2) (as := [.int x0]) (q := 193) C (c_X7_net C.2.2.2.2.2.2.2.1  B M O x0 h1) (fs := _) e_M rfl cv_X7_net cd_X7_net wd_8_85 ⟨Nat.le_of_ble_eq_true rfl, Nat.le_of_ble_eq_true rfl⟩ ⟨Nat.le_of_ble_eq_true rfl, Nat.le_of_ble_eq_true rfl⟩ rfl rfl (Nat.le_of_ble_eq_true rfl) dX7_netOf_2 ?_
  refine x_nmIM (fun z2 ez2 => ?_)
  have hR := nmE hR ez2
  exact x_iretM (pc := 5) C rfl hR dX7_netOf_5
set_option maxHeartbeats 4000000 in
set_option maxRecDepth 100000 in
theorem c_X7_netByTable {l : Launch} {A : Nat → Prop} {G : GT} {ad : Nat → Nat} (gl : Gl l A ad)  (B : StB) (M : StM) (O : StO) (x0 : Int32) (hok : ok_X7_netByTable M x0) : Met l yX7_netByTable (wof yX7_netByTable cX7_netByTable 2 (some .int)) (rmd 4 0 0) (va_Pc [.ref (ad 193), .int x0] (PW G A ad B M O)) (QI G A ad (f_X7_netByTable M x0).1 B (f_X7_netByTable M x0).2 O) 0 0 A := by
  refine x_body (own := RX7) (by decide +kernel) rfl gl (Nat.le_of_ble_eq_true rfl) (ls := [(0, .ref (ad 193)), (1, .int x0)]) rfl ?_
  intro p0 e s m args below meth c C
  have hR : (f_X7_netByTable M x0) = (nm (f_X7_net M x0) (fun (z2 : Int32 × StM) => (z2.1, z2.2))) := rfl
  have hok : ((ok_X7_net M x0)) := hok
  refine x_aload_n (pc := 0) (i := 0) C 0 dX7_netByTable_0 rfl rfl ?_
  refine x_iload_n (pc := 1) (i := 1) C 1 dX7_netByTable_1 rfl rfl ?_
  have h1 := hok
  refine x_cIV (pc := 2) (as := [.int x0]) (q := 193) C (c_X7_net C.2.2.2.2.2.2.2.1  B M O x0 h1) (fs := _) e_M rfl cv_X7_net cd_X7_net wd_8_85 ⟨Nat.le_of_ble_eq_true rfl, Nat.le_of_ble_eq_true rfl⟩ ⟨Nat.le_of_ble_eq_true rfl, Nat.le_of_ble_eq_true rfl⟩ rfl rfl (Nat.le_of_ble_eq_true rfl) dX7_netByTable_2 ?_
  refine x_nmIM (fun z2 ez2 => ?_)
  have hR := nmE hR ez2
  exact x_iretM (pc := 5) C rfl hR dX7_netByTable_5
set_option maxHeartbeats 4000000 in
set_option maxRecDepth 100000 in
theorem c_X7_movementKind {l : Launch} {A : Nat → Prop} {G : GT} {ad : Nat → Nat} (gl : Gl l A ad)  (B : StB) (M : StM) (O : StO) (x0 : Int32) (hok : ok_X7_movementKind M x0) : Met l yX7_movementKind (wof yX7_movementKind cX7_movementKind 2 (some .char)) (rmd 4 0 0) (va_Pc [.ref (ad 193), .int x0] (PW G A ad B M O)) (QI G A ad (f_X7_movementKind M x0).1 B (f_X7_movementKind M x0).2 O) 0 0 A := by
  refine x_body (own := RX7) (by decide +kernel) rfl gl (Nat.le_of_ble_eq_true rfl) (ls := [(0, .ref (ad 193)), (1, .int x0)]) rfl ?_
  intro p0 e s m args below meth c C
  have hR : (f_X7_movementKind M x0) = (nm (f_X7_written M x0 0) (fun (z2 : Int32 × StM) => ((Int32.toUInt32 z2.1 % 65536).toInt32, z2.2))) := rfl
  have hok : ((ok_X7_written M x0 0) ∧ (∀ z2 : Int32 × StM, z2 = (f_X7_written M x0 0) → (narrow .char (.int ((Int32.toUInt32 z2.1 % 65536).toInt32)) = .int ((Int32.toUInt32 z2.1 % 65536).toInt32)))) := hok
  refine x_aload_n (pc := 0) (i := 0) C 0 dX7_movementKind_0 rfl rfl ?_
  refine x_iload_n (pc := 1) (i := 1) C 1 dX7_movementKind_1 rfl rfl ?_
  refine x_iconst (pc := 2) (v := 0) C dX7_movementKind_2 (by decide) ?_
  have h1 := hok.1
  have hok := hok.2
  refine x_cIV (pc := 3) (as := [.int x0, .int 0]) (q := 193) C (c_X7_written C.2.2.2.2.2.2.2.1  B M O x0 0 h1) (fs := _) e_M rfl cv_X7_written cd_X7_written wd_8_105 ⟨Nat.le_of_ble_eq_true rfl, Nat.le_of_ble_eq_true rfl⟩ ⟨Nat.le_of_ble_eq_true rfl, Nat.le_of_ble_eq_true rfl⟩ rfl rfl (Nat.le_of_ble_eq_true rfl) dX7_movementKind_3 ?_
  refine x_nmIM (fun z2 ez2 => ?_)
  have hR := nmE hR ez2
  have hok := hok z2 ez2
  refine x_i2c (pc := 6) C dX7_movementKind_6 ?_
  have h3 := hok
  exact x_zretM (pc := 7) C rfl h3 hR dX7_movementKind_7
set_option maxHeartbeats 4000000 in
set_option maxRecDepth 100000 in
theorem c_X7_movementAmount {l : Launch} {A : Nat → Prop} {G : GT} {ad : Nat → Nat} (gl : Gl l A ad)  (B : StB) (M : StM) (O : StO) (x0 : Int32) (hok : ok_X7_movementAmount M x0) : Met l yX7_movementAmount (wof yX7_movementAmount cX7_movementAmount 2 (some .int)) (rmd 4 0 0) (va_Pc [.ref (ad 193), .int x0] (PW G A ad B M O)) (QI G A ad (f_X7_movementAmount M x0).1 B (f_X7_movementAmount M x0).2 O) 0 0 A := by
  refine x_body (own := RX7) (by decide +kernel) rfl gl (Nat.le_of_ble_eq_true rfl) (ls := [(0, .ref (ad 193)), (1, .int x0)]) rfl ?_
  intro p0 e s m args below meth c C
  have hR : (f_X7_movementAmount M x0) = (nm (f_X7_written M x0 1) (fun (z2 : Int32 × StM) => (z2.1, z2.2))) := rfl
  have hok : ((ok_X7_written M x0 1)) := hok
  refine x_aload_n (pc := 0) (i := 0) C 0 dX7_movementAmount_0 rfl rfl ?_
  refine x_iload_n (pc := 1) (i := 1) C 1 dX7_movementAmount_1 rfl rfl ?_
  refine x_iconst (pc := 2) (v := 1) C dX7_movementAmount_2 (by decide) ?_
  have h1 := hok
  refine x_cIV (pc := 3) (as := [.int x0, .int 1]) (q := 193) C (c_X7_written C.2.2.2.2.2.2.2.1  B M O x0 1 h1) (fs := _) e_M rfl cv_X7_written cd_X7_written wd_8_105 ⟨Nat.le_of_ble_eq_true rfl, Nat.le_of_ble_eq_true rfl⟩ ⟨Nat.le_of_ble_eq_true rfl, Nat.le_of_ble_eq_true rfl⟩ rfl rfl (Nat.le_of_ble_eq_true rfl) dX7_movementAmount_3 ?_
  refine x_nmIM (fun z2 ez2 => ?_)
  have hR := nmE hR ez2
  exact x_iretM (pc := 6) C rfl hR dX7_movementAmount_6
set_option maxHeartbeats 4000000 in
set_option maxRecDepth 100000 in
theorem c_X7_movementAccount {l : Launch} {A : Nat → Prop} {G : GT} {ad : Nat → Nat} (gl : Gl l A ad)  (B : StB) (M : StM) (O : StO) (x0 : Int32) (hok : ok_X7_movementAccount M x0) : Met l yX7_movementAccount (wof yX7_movementAccount cX7_movementAccount 2 (some .int)) (rmd 4 0 0) (va_Pc [.ref (ad 193), .int x0] (PW G A ad B M O)) (QI G A ad (f_X7_movementAccount M x0).1 B (f_X7_movementAccount M x0).2 O) 0 0 A := by
  refine x_body (own := RX7) (by decide +kernel) rfl gl (Nat.le_of_ble_eq_true rfl) (ls := [(0, .ref (ad 193)), (1, .int x0)]) rfl ?_
  intro p0 e s m args below meth c C
  have hR : (f_X7_movementAccount M x0) = (nm (f_X7_written M x0 2) (fun (z2 : Int32 × StM) => (z2.1, z2.2))) := rfl
  have hok : ((ok_X7_written M x0 2)) := hok
  refine x_aload_n (pc := 0) (i := 0) C 0 dX7_movementAccount_0 rfl rfl ?_
  refine x_iload_n (pc := 1) (i := 1) C 1 dX7_movementAccount_1 rfl rfl ?_
  refine x_iconst (pc := 2) (v := 2) C dX7_movementAccount_2 (by decide) ?_
  have h1 := hok
  refine x_cIV (pc := 3) (as := [.int x0, .int 2]) (q := 193) C (c_X7_written C.2.2.2.2.2.2.2.1  B M O x0 2 h1) (fs := _) e_M rfl cv_X7_written cd_X7_written wd_8_105 ⟨Nat.le_of_ble_eq_true rfl, Nat.le_of_ble_eq_true rfl⟩ ⟨Nat.le_of_ble_eq_true rfl, Nat.le_of_ble_eq_true rfl⟩ rfl rfl (Nat.le_of_ble_eq_true rfl) dX7_movementAccount_3 ?_
  refine x_nmIM (fun z2 ez2 => ?_)
  have hR := nmE hR ez2
  exact x_iretM (pc := 6) C rfl hR dX7_movementAccount_6
set_option maxHeartbeats 4000000 in
set_option maxRecDepth 100000 in
theorem c_X7_writeStatement {l : Launch} {A : Nat → Prop} {G : GT} {ad : Nat → Nat} (gl : Gl l A ad)  (B : StB) (M : StM) (O : StO) (x0 : Int32) (hok : ok_X7_writeStatement M x0) : Met l yX7_writeStatement (wof yX7_writeStatement cX7_writeStatement 3 (some .int)) (rmd 4 0 0) (va_Pc [.ref (ad 193), .int x0] (PW G A ad B M O)) (QI G A ad (f_X7_writeStatement M x0).1 B (f_X7_writeStatement M x0).2 O) 0 0 A := by
  refine x_body (own := RX7) (by decide +kernel) rfl gl (Nat.le_of_ble_eq_true rfl) (ls := [(0, .ref (ad 193)), (1, .int x0)]) rfl ?_
  intro p0 e s m args below meth c C
  have hR : (f_X7_writeStatement M x0) = (nm (f_X7_isAccount M x0) (fun (r2 : Int32) => (nm (f_X7_goes M r2) (fun (z4 : Int32 × StM) => (if z4.1 = 0 then (0, z4.2) else (nm (f_X7_of z4.2 x0 0) (fun (r7 : Int32) => (nm (f_X7_letterFor r7) (fun (r8 : Int32) => (nm (f_X7_put z4.2 0 r8) (fun (z10 : Int32 × StM) => (nm (f_X7_writesNumber z10.2 z10.1 x0) (fun (z12 : Int32 × StM) => (nm (f_X7_put z12.2 z12.1 58) (fun (z14 : Int32 × StM) => (nm (f_X7_of z14.2 x0 1) (fun (r16 : Int32) => (nm (f_X7_writesNumber z14.2 z14.1 r16) (fun (z18 : Int32 × StM) => (nm (f_X7_put z18.2 z18.1 47) (fun (z20 : Int32 × StM) => (nm (f_X7_of z20.2 x0 2) (fun (r22 : Int32) => (nm (f_X7_writesNumber z20.2 z20.1 r22) (fun (z24 : Int32 × StM) => (nm (f_X7_of z24.2 x0 3) (fun (r26 : Int32) => (if r26 = 1 then (nm (f_X7_put z24.2 z24.1 42) (fun (z30 : Int32 × StM) => (nm (smi z30.2 14 z30.1) (fun (M31 : StM) => ((mi M31 14), M31))))) else (nm (smi z24.2 14 z24.1) (fun (M28 : StM) => ((mi M28 14), M28))))))))))))))))))))))))))))))) := rfl
  have hok : ((ok_X7_isAccount M x0) ∧ (∀ r2 : Int32, r2 = (f_X7_isAccount M x0) → ((ok_X7_goes M r2) ∧ (∀ z4 : Int32 × StM, z4 = (f_X7_goes M r2) → ((z4.1 = 0 → True) ∧ (¬ z4.1 = 0 → ((ok_X7_of z4.2 x0 0) ∧ (∀ r7 : Int32, r7 = (f_X7_of z4.2 x0 0) → (∀ r8 : Int32, r8 = (f_X7_letterFor r7) → ((ok_X7_put z4.2 0 r8) ∧ (∀ z10 : Int32 × StM, z10 = (f_X7_put z4.2 0 r8) → ((ok_X7_writesNumber z10.2 z10.1 x0) ∧ (∀ z12 : Int32 × StM, z12 = (f_X7_writesNumber z10.2 z10.1 x0) → ((ok_X7_put z12.2 z12.1 58) ∧ (∀ z14 : Int32 × StM, z14 = (f_X7_put z12.2 z12.1 58) → ((ok_X7_of z14.2 x0 1) ∧ (∀ r16 : Int32, r16 = (f_X7_of z14.2 x0 1) → ((ok_X7_writesNumber z14.2 z14.1 r16) ∧ (∀ z18 : Int32 × StM, z18 = (f_X7_writesNumber z14.2 z14.1 r16) → ((ok_X7_put z18.2 z18.1 47) ∧ (∀ z20 : Int32 × StM, z20 = (f_X7_put z18.2 z18.1 47) → ((ok_X7_of z20.2 x0 2) ∧ (∀ r22 : Int32, r22 = (f_X7_of z20.2 x0 2) → ((ok_X7_writesNumber z20.2 z20.1 r22) ∧ (∀ z24 : Int32 × StM, z24 = (f_X7_writesNumber z20.2 z20.1 r22) → ((ok_X7_of z24.2 x0 3) ∧ (∀ r26 : Int32, r26 = (f_X7_of z24.2 x0 3) → ((r26 = 1 → ((ok_X7_put z24.2 z24.1 42))) ∧ (¬ r26 = 1 → True))))))))))))))))))))))))))))) := hok
  refine x_aload_n (pc := 0) (i := 0) C 0 dX7_writeStatement_0 rfl rfl ?_
  refine x_aload_n (pc := 1) (i := 0) C 0 dX7_writeStatement_1 rfl rfl ?_
  refine x_iload_n (pc := 2) (i := 1) C 1 dX7_writeStatement_2 rfl rfl ?_
  have h1 := hok.1
  have hok := hok.2
  refine x_cIV (pc := 3) (as := [.int x0]) (q := 193) C (c_X7_isAccount C.2.2.2.2.2.2.2.1  B M O x0 h1) (fs := _) e_M rfl cv_X7_isAccount cd_X7_isAccount wd_7_115 ⟨Nat.le_of_ble_eq_true rfl, Nat.le_of_ble_eq_true rfl⟩ ⟨Nat.le_of_ble_eq_true rfl, Nat.le_of_ble_eq_true rfl⟩ rfl rfl (Nat.le_of_ble_eq_true rfl) dX7_writeStatement_3 ?_
  refine x_nmI (fun r2 er2 => ?_)
  have hR := nmE hR er2
  have hok := hok r2 er2
  have h3 := hok.1
  have hok := hok.2
  refine x_cIV (pc := 6) (as := [.int r2]) (q := 193) C (c_X7_goes C.2.2.2.2.2.2.2.1  B M O r2 h3) (fs := _) e_M rfl cv_X7_goes cd_X7_goes wd_7_59 ⟨Nat.le_of_ble_eq_true rfl, Nat.le_of_ble_eq_true rfl⟩ ⟨Nat.le_of_ble_eq_true rfl, Nat.le_of_ble_eq_true rfl⟩ rfl rfl (Nat.le_of_ble_eq_true rfl) dX7_writeStatement_6 ?_
  refine x_nmIM (fun z4 ez4 => ?_)
  have hR := nmE hR ez4
  have hok := hok z4 ez4
  refine x_if_ne (pc := 9) (tgt := 14) C dX7_writeStatement_9 (by decide) (fun c5 => ?_) (fun c5 => ?_)
  · have hR := hR.trans (if_neg c5)
    have hok := hok.2 c5
    refine x_aload_n (pc := 14) (i := 0) C 0 dX7_writeStatement_14 rfl rfl ?_
    refine x_aload_n (pc := 15) (i := 0) C 0 dX7_writeStatement_15 rfl rfl ?_
    refine x_aload_n (pc := 16) (i := 0) C 0 dX7_writeStatement_16 rfl rfl ?_
    refine x_iconst (pc := 17) (v := 0) C dX7_writeStatement_17 (by decide) ?_
    refine x_aload_n (pc := 18) (i := 0) C 0 dX7_writeStatement_18 rfl rfl ?_
    refine x_iload_n (pc := 19) (i := 1) C 1 dX7_writeStatement_19 rfl rfl ?_
    refine x_iconst (pc := 20) (v := 0) C dX7_writeStatement_20 (by decide) ?_
    have h6 := hok.1
    have hok := hok.2
    refine x_cIV (pc := 21) (as := [.int x0, .int 0]) (q := 193) C (c_X7_of C.2.2.2.2.2.2.2.1  B z4.2 O x0 0 h6) (fs := _) e_M rfl cv_X7_of cd_X7_of wd_7_119 ⟨Nat.le_of_ble_eq_true rfl, Nat.le_of_ble_eq_true rfl⟩ ⟨Nat.le_of_ble_eq_true rfl, Nat.le_of_ble_eq_true rfl⟩ rfl rfl (Nat.le_of_ble_eq_true rfl) dX7_writeStatement_21 ?_
    refine x_nmI (fun r7 er7 => ?_)
    have hR := nmE hR er7
    have hok := hok r7 er7
    refine x_cIS (pc := 24) (as := [.int r7]) C (c_X7_letterFor C.2.2.2.2.2.2.2.1  B z4.2 O r7) wd_8_122 cd_X7_letterFor wd_8_121 ⟨Nat.le_of_ble_eq_true rfl, Nat.le_of_ble_eq_true rfl⟩ ⟨Nat.le_of_ble_eq_true rfl, Nat.le_of_ble_eq_true rfl⟩ rfl rfl (Nat.le_of_ble_eq_true rfl) dX7_writeStatement_24 ?_
    refine x_nmI (fun r8 er8 => ?_)
    have hR := nmE hR er8
    have hok := hok r8 er8
    have h9 := hok.1
    have hok := hok.2
    refine x_cIV (pc := 27) (as := [.int 0, .int r8]) (q := 193) C (c_X7_put C.2.2.2.2.2.2.2.1  B z4.2 O 0 r8 h9) (fs := _) e_M rfl cv_X7_put cd_X7_put wd_8_124 ⟨Nat.le_of_ble_eq_true rfl, Nat.le_of_ble_eq_true rfl⟩ ⟨Nat.le_of_ble_eq_true rfl, Nat.le_of_ble_eq_true rfl⟩ rfl rfl (Nat.le_of_ble_eq_true rfl) dX7_writeStatement_27 ?_
    refine x_nmIM (fun z10 ez10 => ?_)
    have hR := nmE hR ez10
    have hok := hok z10 ez10
    refine x_iload_n (pc := 30) (i := 1) C 1 dX7_writeStatement_30 rfl rfl ?_
    have h11 := hok.1
    have hok := hok.2
    refine x_cIV (pc := 31) (as := [.int z10.1, .int x0]) (q := 193) C (c_X7_writesNumber C.2.2.2.2.2.2.2.1  B z10.2 O z10.1 x0 h11) (fs := _) e_M rfl cv_X7_writesNumber cd_X7_writesNumber wd_8_128 ⟨Nat.le_of_ble_eq_true rfl, Nat.le_of_ble_eq_true rfl⟩ ⟨Nat.le_of_ble_eq_true rfl, Nat.le_of_ble_eq_true rfl⟩ rfl rfl (Nat.le_of_ble_eq_true rfl) dX7_writeStatement_31 ?_
    refine x_nmIM (fun z12 ez12 => ?_)
    have hR := nmE hR ez12
    have hok := hok z12 ez12
    refine x_bipush (pc := 34) (v := 58) C dX7_writeStatement_34 (by decide) ?_
    have h13 := hok.1
    have hok := hok.2
    refine x_cIV (pc := 36) (as := [.int z12.1, .int 58]) (q := 193) C (c_X7_put C.2.2.2.2.2.2.2.1  B z12.2 O z12.1 58 h13) (fs := _) e_M rfl cv_X7_put cd_X7_put wd_8_124 ⟨Nat.le_of_ble_eq_true rfl, Nat.le_of_ble_eq_true rfl⟩ ⟨Nat.le_of_ble_eq_true rfl, Nat.le_of_ble_eq_true rfl⟩ rfl rfl (Nat.le_of_ble_eq_true rfl) dX7_writeStatement_36 ?_
    refine x_nmIM (fun z14 ez14 => ?_)
    have hR := nmE hR ez14
    have hok := hok z14 ez14
    refine x_istore_n (pc := 39) (i := 2) (ls2 := [(2, .int z14.1), (0, .ref (ad 193)), (1, .int x0)]) C dX7_writeStatement_39 rfl (by decide) rfl ?_
    refine x_aload_n (pc := 40) (i := 0) C 1 dX7_writeStatement_40 rfl rfl ?_
    refine x_aload_n (pc := 41) (i := 0) C 1 dX7_writeStatement_41 rfl rfl ?_
    refine x_iload_n (pc := 42) (i := 2) C 0 dX7_writeStatement_42 rfl rfl ?_
    refine x_aload_n (pc := 43) (i := 0) C 1 dX7_writeStatement_43 rfl rfl ?_
    refine x_iload_n (pc := 44) (i := 1) C 2 dX7_writeStatement_44 rfl rfl ?_
    refine x_iconst (pc := 45) (v := 1) C dX7_writeStatement_45 (by decide) ?_
    have h15 := hok.1
    have hok := hok.2
    refine x_cIV (pc := 46) (as := [.int x0, .int 1]) (q := 193) C (c_X7_of C.2.2.2.2.2.2.2.1  B z14.2 O x0 1 h15) (fs := _) e_M rfl cv_X7_of cd_X7_of wd_7_119 ⟨Nat.le_of_ble_eq_true rfl, Nat.le_of_ble_eq_true rfl⟩ ⟨Nat.le_of_ble_eq_true rfl, Nat.le_of_ble_eq_true rfl⟩ rfl rfl (Nat.le_of_ble_eq_true rfl) dX7_writeStatement_46 ?_
    refine x_nmI (fun r16 er16 => ?_)
    have hR := nmE hR er16
    have hok := hok r16 er16
    have h17 := hok.1
    have hok := hok.2
    refine x_cIV (pc := 49) (as := [.int z14.1, .int r16]) (q := 193) C (c_X7_writesNumber C.2.2.2.2.2.2.2.1  B z14.2 O z14.1 r16 h17) (fs := _) e_M rfl cv_X7_writesNumber cd_X7_writesNumber wd_8_128 ⟨Nat.le_of_ble_eq_true rfl, Nat.le_of_ble_eq_true rfl⟩ ⟨Nat.le_of_ble_eq_true rfl, Nat.le_of_ble_eq_true rfl⟩ rfl rfl (Nat.le_of_ble_eq_true rfl) dX7_writeStatement_49 ?_
    refine x_nmIM (fun z18 ez18 => ?_)
    have hR := nmE hR ez18
    have hok := hok z18 ez18
    refine x_bipush (pc := 52) (v := 47) C dX7_writeStatement_52 (by decide) ?_
    have h19 := hok.1
    have hok := hok.2
    refine x_cIV (pc := 54) (as := [.int z18.1, .int 47]) (q := 193) C (c_X7_put C.2.2.2.2.2.2.2.1  B z18.2 O z18.1 47 h19) (fs := _) e_M rfl cv_X7_put cd_X7_put wd_8_124 ⟨Nat.le_of_ble_eq_true rfl, Nat.le_of_ble_eq_true rfl⟩ ⟨Nat.le_of_ble_eq_true rfl, Nat.le_of_ble_eq_true rfl⟩ rfl rfl (Nat.le_of_ble_eq_true rfl) dX7_writeStatement_54 ?_
    refine x_nmIM (fun z20 ez20 => ?_)
    have hR := nmE hR ez20
    have hok := hok z20 ez20
    refine x_istore_n (pc := 57) (i := 2) (ls2 := [(2, .int z20.1), (0, .ref (ad 193)), (1, .int x0)]) C dX7_writeStatement_57 rfl (by decide) rfl ?_
    refine x_aload_n (pc := 58) (i := 0) C 1 dX7_writeStatement_58 rfl rfl ?_
    refine x_iload_n (pc := 59) (i := 2) C 0 dX7_writeStatement_59 rfl rfl ?_
    refine x_aload_n (pc := 60) (i := 0) C 1 dX7_writeStatement_60 rfl rfl ?_
    refine x_iload_n (pc := 61) (i := 1) C 2 dX7_writeStatement_61 rfl rfl ?_
    refine x_iconst (pc := 62) (v := 2) C dX7_writeStatement_62 (by decide) ?_
    have h21 := hok.1
    have hok := hok.2
    refine x_cIV (pc := 63) (as := [.int x0, .int 2]) (q := 193) C (c_X7_of C.2.2.2.2.2.2.2.1  B z20.2 O x0 2 h21) (fs := _) e_M rfl cv_X7_of cd_X7_of wd_7_119 ⟨Nat.le_of_ble_eq_true rfl, Nat.le_of_ble_eq_true rfl⟩ ⟨Nat.le_of_ble_eq_true rfl, Nat.le_of_ble_eq_true rfl⟩ rfl rfl (Nat.le_of_ble_eq_true rfl) dX7_writeStatement_63 ?_
    refine x_nmI (fun r22 er22 => ?_)
    have hR := nmE hR er22
    have hok := hok r22 er22
    have h23 := hok.1
    have hok := hok.2
    refine x_cIV (pc := 66) (as := [.int z20.1, .int r22]) (q := 193) C (c_X7_writesNumber C.2.2.2.2.2.2.2.1  B z20.2 O z20.1 r22 h23) (fs := _) e_M rfl cv_X7_writesNumber cd_X7_writesNumber wd_8_128 ⟨Nat.le_of_ble_eq_true rfl, Nat.le_of_ble_eq_true rfl⟩ ⟨Nat.le_of_ble_eq_true rfl, Nat.le_of_ble_eq_true rfl⟩ rfl rfl (Nat.le_of_ble_eq_true rfl) dX7_writeStatement_66 ?_
    refine x_nmIM (fun z24 ez24 => ?_)
    have hR := nmE hR ez24
    have hok := hok z24 ez24
    refine x_istore_n (pc := 69) (i := 2) (ls2 := [(2, .int z24.1), (0, .ref (ad 193)), (1, .int x0)]) C dX7_writeStatement_69 rfl (by decide) rfl ?_
    refine x_aload_n (pc := 70) (i := 0) C 1 dX7_writeStatement_70 rfl rfl ?_
    refine x_aload_n (pc := 71) (i := 0) C 1 dX7_writeStatement_71 rfl rfl ?_
    refine x_iload_n (pc := 72) (i := 1) C 2 dX7_writeStatement_72 rfl rfl ?_
    refine x_iconst (pc := 73) (v := 3) C dX7_writeStatement_73 (by decide) ?_
    have h25 := hok.1
    have hok := hok.2
    refine x_cIV (pc := 74) (as := [.int x0, .int 3]) (q := 193) C (c_X7_of C.2.2.2.2.2.2.2.1  B z24.2 O x0 3 h25) (fs := _) e_M rfl cv_X7_of cd_X7_of wd_7_119 ⟨Nat.le_of_ble_eq_true rfl, Nat.le_of_ble_eq_true rfl⟩ ⟨Nat.le_of_ble_eq_true rfl, Nat.le_of_ble_eq_true rfl⟩ rfl rfl (Nat.le_of_ble_eq_true rfl) dX7_writeStatement_74 ?_
    refine x_nmI (fun r26 er26 => ?_)
    have hR := nmE hR er26
    have hok := hok r26 er26
    refine x_iconst (pc := 77) (v := 1) C dX7_writeStatement_77 (by decide) ?_
    refine x_icmp_ne (pc := 78) (tgt := 91) C dX7_writeStatement_78 (by decide) (fun c27 => ?_) (fun c27 => ?_)
    · have hR := hR.trans (if_neg c27)
      refine x_iload_n (pc := 91) (i := 2) C 0 dX7_writeStatement_91 rfl rfl ?_
      refine x_put (pc := 92) (M2 := (smi z24.2 14 z24.1)) (B2 := B) (O2 := O) (q := 193) (i := 14) C tyX7 tyX7_ok nmX7 e_M rfl ttX7 (by decide) wd_7_1 rfl rfl rfl (Nat.le_of_ble_eq_true rfl) dX7_writeStatement_92 (put_M_14 ) (o_smi 14 z24.1) ?_
      refine x_nmM (fun M28 eM28 => ?_)
      have hR := nmE hR eM28
      refine x_aload_n (pc := 95) (i := 0) C 1 dX7_writeStatement_95 rfl rfl ?_
      refine x_get (pc := 96) (q := 193) (i := 14) C e_M rfl ttX7 (by decide) wd_7_1 rfl dX7_writeStatement_96 ?_
      exact x_iretM (pc := 99) C rfl hR dX7_writeStatement_99
    · have hR := hR.trans (if_pos c27)
      have hok := hok.1 c27
      refine x_aload_n (pc := 81) (i := 0) C 1 dX7_writeStatement_81 rfl rfl ?_
      refine x_iload_n (pc := 82) (i := 2) C 0 dX7_writeStatement_82 rfl rfl ?_
      refine x_bipush (pc := 83) (v := 42) C dX7_writeStatement_83 (by decide) ?_
      have h29 := hok
      refine x_cIV (pc := 85) (as := [.int z24.1, .int 42]) (q := 193) C (c_X7_put C.2.2.2.2.2.2.2.1  B z24.2 O z24.1 42 h29) (fs := _) e_M rfl cv_X7_put cd_X7_put wd_8_124 ⟨Nat.le_of_ble_eq_true rfl, Nat.le_of_ble_eq_true rfl⟩ ⟨Nat.le_of_ble_eq_true rfl, Nat.le_of_ble_eq_true rfl⟩ rfl rfl (Nat.le_of_ble_eq_true rfl) dX7_writeStatement_85 ?_
      refine x_nmIM (fun z30 ez30 => ?_)
      have hR := nmE hR ez30
      refine x_goto (pc := 88) (tgt := 92) C dX7_writeStatement_88 (by decide) ?_
      refine x_put (pc := 92) (M2 := (smi z30.2 14 z30.1)) (B2 := B) (O2 := O) (q := 193) (i := 14) C tyX7 tyX7_ok nmX7 e_M rfl ttX7 (by decide) wd_7_1 rfl rfl rfl (Nat.le_of_ble_eq_true rfl) dX7_writeStatement_92 (put_M_14 ) (o_smi 14 z30.1) ?_
      refine x_nmM (fun M31 eM31 => ?_)
      have hR := nmE hR eM31
      refine x_aload_n (pc := 95) (i := 0) C 1 dX7_writeStatement_95 rfl rfl ?_
      refine x_get (pc := 96) (q := 193) (i := 14) C e_M rfl ttX7 (by decide) wd_7_1 rfl dX7_writeStatement_96 ?_
      exact x_iretM (pc := 99) C rfl hR dX7_writeStatement_99
  · have hR := hR.trans (if_pos c5)
    refine x_iconst (pc := 12) (v := 0) C dX7_writeStatement_12 (by decide) ?_
    exact x_iretM (pc := 13) C rfl hR dX7_writeStatement_13
set_option maxHeartbeats 4000000 in
set_option maxRecDepth 100000 in
theorem t_X7_number_L7 {p0 : Program} {l : Launch} {e : Env} {s : State} {m : MethodId} {args : Array Value} {below : List Frame} {meth : Method} {c : Code} {A : Nat → Prop} {G : GT} {ad : Nat → Nat} {Q : State → Prop} (C : CX p0 l s m args meth c A G ad cX7_number RX7 3 (some .int))    (n : Nat) (M : StM) (a1 : Int32) (a2 : Int32) (B : StB) (O : StO) : ∀ (R0 : Int32 × StM) (hR : R0 = f_X7_number_L7 n M a1 a2) (hok : ok_X7_number_L7 n M a1 a2) (k : X p0 l e (rmd 4 0 0) s m args below meth c A G ad 3 0 0 Q B R0.2 O [(1, .int R0.1)] 50 []), X p0 l e (rmd 4 0 0) s m args below meth c A G ad 3 0 0 Q B M O [(0, .ref (ad 193)), (1, .int a1), (2, .int a2)] 7 [] := by
  induction n generalizing M a1 a2 with
  | zero => intro R0 hR hok k; exact False.elim hok
  | succ n ih =>
    intro R0 hR hok k
    have hR : R0 = (if 3 ≤ a2 then (a1, M) else (if (mi M 18) = (-1) then (nm (f_X7_letterHere M) (fun (r6 : Int32) => (nm (f_X7_isIn r6 48 57) (fun (r7 : Int32) => (if r7 = 0 then (a1, M) else (nm (f_X7_digit M) (fun (z10 : Int32 × StM) => (nm ((10 * a1) + z10.1) (fun (v11 : Int32) => (f_X7_number_L7 n z10.2 v11 (a2 + 1))))))))))) else (a1, M))) := hR
    have hok : ((3 ≤ a2 → True) ∧ (¬ 3 ≤ a2 → (((mi M 18) = (-1) → ((ok_X7_letterHere M) ∧ (∀ r6 : Int32, r6 = (f_X7_letterHere M) → (∀ r7 : Int32, r7 = (f_X7_isIn r6 48 57) → ((r7 = 0 → True) ∧ (¬ r7 = 0 → ((ok_X7_digit M) ∧ (∀ z10 : Int32 × StM, z10 = (f_X7_digit M) → (∀ v11 : Int32, v11 = ((10 * a1) + z10.1) → (ok_X7_number_L7 n z10.2 v11 (a2 + 1))))))))))) ∧ (¬ (mi M 18) = (-1) → True)))) := hok
    refine x_iload_n (pc := 7) (i := 2) C 2 dX7_number_7 rfl rfl ?_
    refine x_iconst (pc := 8) (v := 3) C dX7_number_8 (by decide) ?_
    refine x_icmp_ge (pc := 9) (tgt := 50) C dX7_number_9 (by decide) (fun c3 => ?_) (fun c3 => ?_)
    · have hR := hR.trans (if_pos c3)
      refine x_sub [1] (ls2 := [(1, .int a1)]) rfl ?_
      subst hR
      exact k
    · have hR := hR.trans (if_neg c3)
      have hok := hok.2 c3
      refine x_aload_n (pc := 12) (i := 0) C 0 dX7_number_12 rfl rfl ?_
      refine x_get (pc := 13) (q := 193) (i := 18) C e_M rfl ttX7 (by decide) wd_7_5 rfl dX7_number_13 ?_
      refine x_iconst (pc := 16) (v := (-1)) C dX7_number_16 (by decide) ?_
      refine x_icmp_ne (pc := 17) (tgt := 50) C dX7_number_17 (by decide) (fun c4 => ?_) (fun c4 => ?_)
      · have hR := hR.trans (if_neg c4)
        refine x_sub [1] (ls2 := [(1, .int a1)]) rfl ?_
        subst hR
        exact k
      · have hR := hR.trans (if_pos c4)
        have hok := hok.1 c4
        refine x_aload_n (pc := 20) (i := 0) C 0 dX7_number_20 rfl rfl ?_
        have h5 := hok.1
        have hok := hok.2
        refine x_cIV (pc := 21) (as := []) (q := 193) C (c_X7_letterHere C.2.2.2.2.2.2.2.1  B M O  h5) (fs := _) e_M rfl cv_X7_letterHere cd_X7_letterHere wd_8_172 ⟨Nat.le_of_ble_eq_true rfl, Nat.le_of_ble_eq_true rfl⟩ ⟨Nat.le_of_ble_eq_true rfl, Nat.le_of_ble_eq_true rfl⟩ rfl rfl (Nat.le_of_ble_eq_true rfl) dX7_number_21 ?_
        refine x_nmI (fun r6 er6 => ?_)
        have hR := nmE hR er6
        have hok := hok r6 er6
        refine x_bipush (pc := 24) (v := 48) C dX7_number_24 (by decide) ?_
        refine x_bipush (pc := 26) (v := 57) C dX7_number_26 (by decide) ?_
        refine x_cIS (pc := 28) (as := [.int r6, .int 48, .int 57]) C (c_X7_isIn C.2.2.2.2.2.2.2.1  B M O r6 48 57) wd_7_91 cd_X7_isIn wd_7_90 ⟨Nat.le_of_ble_eq_true rfl, Nat.le_of_ble_eq_true rfl⟩ ⟨Nat.le_of_ble_eq_true rfl, Nat.le_of_ble_eq_true rfl⟩ rfl rfl (Nat.le_of_ble_eq_true rfl) dX7_number_28 ?_
        refine x_nmI (fun r7 er7 => ?_)
        have hR := nmE hR er7
        have hok := hok r7 er7
        refine x_if_eq (pc := 31) (tgt := 50) C dX7_number_31 (by decide) (fun c8 => ?_) (fun c8 => ?_)
        · have hR := hR.trans (if_pos c8)
          refine x_sub [1] (ls2 := [(1, .int a1)]) rfl ?_
          subst hR
          exact k
        · have hR := hR.trans (if_neg c8)
          have hok := hok.2 c8
          refine x_bipush (pc := 34) (v := 10) C dX7_number_34 (by decide) ?_
          refine x_iload_n (pc := 36) (i := 1) C 1 dX7_number_36 rfl rfl ?_
          refine x_imul (pc := 37) C dX7_number_37 ?_
          refine x_aload_n (pc := 38) (i := 0) C 0 dX7_number_38 rfl rfl ?_
          have h9 := hok.1
          have hok := hok.2
          refine x_cIV (pc := 39) (as := []) (q := 193) C (c_X7_digit C.2.2.2.2.2.2.2.1  B M O  h9) (fs := _) e_M rfl cv_X7_digit cd_X7_digit wd_8_164 ⟨Nat.le_of_ble_eq_true rfl, Nat.le_of_ble_eq_true rfl⟩ ⟨Nat.le_of_ble_eq_true rfl, Nat.le_of_ble_eq_true rfl⟩ rfl rfl (Nat.le_of_ble_eq_true rfl) dX7_number_39 ?_
          refine x_nmIM (fun z10 ez10 => ?_)
          have hR := nmE hR ez10
          have hok := hok z10 ez10
          refine x_iadd (pc := 42) C dX7_number_42 ?_
          refine x_nmI (fun v11 ev11 => ?_)
          have hR := nmE hR ev11
          have hok := hok v11 ev11
          refine x_istore_n (pc := 43) (i := 1) (ls2 := [(1, .int v11), (0, .ref (ad 193)), (2, .int a2)]) C dX7_number_43 rfl (by decide) rfl ?_
          refine x_iinc (pc := 44) (i := 2) (v := (a2 + 1)) (ls2 := [(2, .int (a2 + 1)), (1, .int v11), (0, .ref (ad 193))]) C 2 dX7_number_44 rfl rfl (by decide) rfl ?_
          refine x_goto (pc := 47) (tgt := 7) C dX7_number_47 (by decide) ?_
          refine x_sub [2, 1, 0] (ls2 := [(0, .ref (ad 193)), (1, .int v11), (2, .int (a2 + 1))]) rfl ?_
          exact ih z10.2 v11 (a2 + 1) R0 hR hok k
set_option maxHeartbeats 4000000 in
set_option maxRecDepth 100000 in
theorem c_X7_number {l : Launch} {A : Nat → Prop} {G : GT} {ad : Nat → Nat} (gl : Gl l A ad)  (B : StB) (M : StM) (O : StO)  (hok : ok_X7_number M) : Met l yX7_number (wof yX7_number cX7_number 3 (some .int)) (rmd 4 0 0) (va_Pc [.ref (ad 193)] (PW G A ad B M O)) (QI G A ad (f_X7_number M).1 B (f_X7_number M).2 O) 0 0 A := by
  refine x_body (own := RX7) (by decide +kernel) rfl gl (Nat.le_of_ble_eq_true rfl) (ls := [(0, .ref (ad 193))]) rfl ?_
  intro p0 e s m args below meth c C
  have hR : (f_X7_number M) = (nm (f_X7_digit M) (fun (z2 : Int32 × StM) => (nm (f_X7_number_L7 fu z2.2 z2.1 1) (fun (z12 : Int32 × StM) => (z12.1, z12.2))))) := rfl
  have hok : ((ok_X7_digit M) ∧ (∀ z2 : Int32 × StM, z2 = (f_X7_digit M) → (ok_X7_number_L7 fu z2.2 z2.1 1))) := hok
  refine x_aload_n (pc := 0) (i := 0) C 0 dX7_number_0 rfl rfl ?_
  have h1 := hok.1
  have hok := hok.2
  refine x_cIV (pc := 1) (as := []) (q := 193) C (c_X7_digit C.2.2.2.2.2.2.2.1  B M O  h1) (fs := _) e_M rfl cv_X7_digit cd_X7_digit wd_8_164 ⟨Nat.le_of_ble_eq_true rfl, Nat.le_of_ble_eq_true rfl⟩ ⟨Nat.le_of_ble_eq_true rfl, Nat.le_of_ble_eq_true rfl⟩ rfl rfl (Nat.le_of_ble_eq_true rfl) dX7_number_1 ?_
  refine x_nmIM (fun z2 ez2 => ?_)
  have hR := nmE hR ez2
  have hok := hok z2 ez2
  refine x_istore_n (pc := 4) (i := 1) (ls2 := [(1, .int z2.1), (0, .ref (ad 193))]) C dX7_number_4 rfl (by decide) rfl ?_
  refine x_iconst (pc := 5) (v := 1) C dX7_number_5 (by decide) ?_
  refine x_istore_n (pc := 6) (i := 2) (ls2 := [(2, .int 1), (1, .int z2.1), (0, .ref (ad 193))]) C dX7_number_6 rfl (by decide) rfl ?_
  refine x_sub [2, 1, 0] (ls2 := [(0, .ref (ad 193)), (1, .int z2.1), (2, .int 1)]) rfl ?_
  obtain ⟨z12, ez12⟩ : ∃ z : Int32 × StM, z = f_X7_number_L7 fu z2.2 z2.1 1 := ⟨_, rfl⟩
  refine t_X7_number_L7 C fu z2.2 z2.1 1 B O z12 ez12 hok ?_
  have hR := nmE hR ez12
  refine x_iload_n (pc := 50) (i := 1) C 0 dX7_number_50 rfl rfl ?_
  exact x_iretM (pc := 51) C rfl hR dX7_number_51
