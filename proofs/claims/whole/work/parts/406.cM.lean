set_option maxHeartbeats 4000000 in
set_option maxRecDepth 100000 in
theorem t_X7_net_L4 {p0 : Program} {l : Launch} {e : Env} {s : State} {m : MethodId} {args : Array Value} {below : List Frame} {meth : Method} {c : Code} {A : Nat → Prop} {G : GT} {ad : Nat → Nat} {Q : State → Prop} (C : CX p0 l s m args meth c A G ad cX7_net RX7 4 (some .int))    (n : Nat) (M : StM) (a1 : Int32) (a2 : Int32) (a3 : Int32) (B : StB) (O : StO) : ∀ (R0 : Int32) (hR : R0 = f_X7_net_L4 n M a1 a2 a3) (hok : ok_X7_net_L4 n M a1 a2 a3) (k : X p0 l e (rmd 3 0 0) s m args below meth c A G ad 4 0 0 Q B M O [(0, .ref (ad 193)), (1, .int a1), (2, .int R0)] 66 []), X p0 l e (rmd 3 0 0) s m args below meth c A G ad 4 0 0 Q B M O [(0, .ref (ad 193)), (1, .int a1), (2, .int a2), (3, .int a3)] 4 [] := by
  induction n generalizing M a1 a2 a3 with
  | zero => intro R0 hR hok k; exact False.elim hok
  | succ n ih =>
    intro R0 hR hok k
    have hR : R0 = (if (ma M 0 (ix 3)) ≤ a3 then a2 else (nm (f_X7_ofPlace M a3 2) (fun (r4 : Int32) => (if r4 = a1 then (nm (f_X7_ofPlace M a3 3) (fun (r15 : Int32) => (nm (a2 + r15) (fun (v16 : Int32) => (nm (f_X7_ofPlace M a3 1) (fun (r18 : Int32) => (if r18 = a1 then (nm (f_X7_ofPlace M a3 3) (fun (r22 : Int32) => (nm (v16 - r22) (fun (v23 : Int32) => (f_X7_net_L4 n M a1 v23 (a3 + 1)))))) else (nm (v16 - 0) (fun (v20 : Int32) => (f_X7_net_L4 n M a1 v20 (a3 + 1))))))))))) else (nm (a2 + 0) (fun (v6 : Int32) => (nm (f_X7_ofPlace M a3 1) (fun (r8 : Int32) => (if r8 = a1 then (nm (f_X7_ofPlace M a3 3) (fun (r12 : Int32) => (nm (v6 - r12) (fun (v13 : Int32) => (f_X7_net_L4 n M a1 v13 (a3 + 1)))))) else (nm (v6 - 0) (fun (v10 : Int32) => (f_X7_net_L4 n M a1 v10 (a3 + 1))))))))))))) := hR
    have hok : (((ma M 0 (ix 3)) ≤ a3 → True) ∧ (¬ (ma M 0 (ix 3)) ≤ a3 → ((ok_X7_ofPlace M a3 2) ∧ (∀ r4 : Int32, r4 = (f_X7_ofPlace M a3 2) → ((r4 = a1 → ((ok_X7_ofPlace M a3 3) ∧ (∀ r15 : Int32, r15 = (f_X7_ofPlace M a3 3) → (∀ v16 : Int32, v16 = (a2 + r15) → ((ok_X7_ofPlace M a3 1) ∧ (∀ r18 : Int32, r18 = (f_X7_ofPlace M a3 1) → ((r18 = a1 → ((ok_X7_ofPlace M a3 3) ∧ (∀ r22 : Int32, r22 = (f_X7_ofPlace M a3 3) → (∀ v23 : Int32, v23 = (v16 - r22) → (ok_X7_net_L4 n M a1 v23 (a3 + 1)))))) ∧ (¬ r18 = a1 → (∀ v20 : Int32, v20 = (v16 - 0) → (ok_X7_net_L4 n M a1 v20 (a3 + 1))))))))))) ∧ (¬ r4 = a1 → (∀ v6 : Int32, v6 = (a2 + 0) → ((ok_X7_ofPlace M a3 1) ∧ (∀ r8 : Int32, r8 = (f_X7_ofPlace M a3 1) → ((r8 = a1 → ((ok_X7_ofPlace M a3 3) ∧ (∀ r12 : Int32, r12 = (f_X7_ofPlace M a3 3) → (∀ v13 : Int32, v13 = (v6 - r12) → (ok_X7_net_L4 n M a1 v13 (a3 + 1)))))) ∧ (¬ r8 = a1 → (∀ v10 : Int32, v10 = (v6 - 0) → (ok_X7_net_L4 n M a1 v10 (a3 + 1)))))))))))))) := hok
    refine x_iload_n (pc := 4) (i := 3) C 3 dX7_net_4 rfl rfl ?_
    refine x_aload_n (pc := 5) (i := 0) C 0 dX7_net_5 rfl rfl ?_
    refine x_get (pc := 6) (q := 193) (i := 0) C e_M rfl ttX7 (by decide) wd_6_227 rfl dX7_net_6 ?_
    refine x_iconst (pc := 9) (v := 3) C dX7_net_9 (by decide) ?_
    have h1 : vp_in (3) 124 := (by decide : ¬ ((3 : Int32) < 0 ∨ 124 ≤ Int32.toNatClampNeg 3))
    refine x_iald (pc := 10) (q := 194) C e_M0 h1 dX7_net_10 ?_
    refine x_icmp_ge (pc := 11) (tgt := 66) C dX7_net_11 (by decide) (fun c2 => ?_) (fun c2 => ?_)
    · have hR := hR.trans (if_pos c2)
      refine x_sub [0, 1, 2] (ls2 := [(0, .ref (ad 193)), (1, .int a1), (2, .int a2)]) rfl ?_
      subst hR
      exact k
    · have hR := hR.trans (if_neg c2)
      have hok := hok.2 c2
      refine x_iload_n (pc := 14) (i := 2) C 2 dX7_net_14 rfl rfl ?_
      refine x_aload_n (pc := 15) (i := 0) C 0 dX7_net_15 rfl rfl ?_
      refine x_iload_n (pc := 16) (i := 3) C 3 dX7_net_16 rfl rfl ?_
      refine x_iconst (pc := 17) (v := 2) C dX7_net_17 (by decide) ?_
      have h3 := hok.1
      have hok := hok.2
      refine x_cIV (pc := 18) (as := [.int a3, .int 2]) (q := 193) C (c_X7_ofPlace C.2.2.2.2.2.2.2.1  B M O a3 2 h3) (fs := _) e_M rfl cv_X7_ofPlace cd_X7_ofPlace wd_7_168 ⟨Nat.le_of_ble_eq_true rfl, Nat.le_of_ble_eq_true rfl⟩ ⟨Nat.le_of_ble_eq_true rfl, Nat.le_of_ble_eq_true rfl⟩ rfl rfl (Nat.le_of_ble_eq_true rfl) dX7_net_18 ?_
      refine x_nmI (fun r4 er4 => ?_)
      have hR := nmE hR er4
      have hok := hok r4 er4
      refine x_iload_n (pc := 21) (i := 1) C 1 dX7_net_21 rfl rfl ?_
      refine x_icmp_ne (pc := 22) (tgt := 34) C dX7_net_22 (by decide) (fun c5 => ?_) (fun c5 => ?_)
      · have hR := hR.trans (if_neg c5)
        have hok := hok.2 c5
        refine x_iconst (pc := 34) (v := 0) C dX7_net_34 (by decide) ?_
        refine x_iadd (pc := 35) C dX7_net_35 ?_
        refine x_nmI (fun v6 ev6 => ?_)
        have hR := nmE hR ev6
        have hok := hok v6 ev6
        refine x_istore_n (pc := 36) (i := 2) (ls2 := [(2, .int v6), (0, .ref (ad 193)), (1, .int a1), (3, .int a3)]) C dX7_net_36 rfl (by decide) rfl ?_
        refine x_iload_n (pc := 37) (i := 2) C 0 dX7_net_37 rfl rfl ?_
        refine x_aload_n (pc := 38) (i := 0) C 1 dX7_net_38 rfl rfl ?_
        refine x_iload_n (pc := 39) (i := 3) C 3 dX7_net_39 rfl rfl ?_
        refine x_iconst (pc := 40) (v := 1) C dX7_net_40 (by decide) ?_
        have h7 := hok.1
        have hok := hok.2
        refine x_cIV (pc := 41) (as := [.int a3, .int 1]) (q := 193) C (c_X7_ofPlace C.2.2.2.2.2.2.2.1  B M O a3 1 h7) (fs := _) e_M rfl cv_X7_ofPlace cd_X7_ofPlace wd_7_168 ⟨Nat.le_of_ble_eq_true rfl, Nat.le_of_ble_eq_true rfl⟩ ⟨Nat.le_of_ble_eq_true rfl, Nat.le_of_ble_eq_true rfl⟩ rfl rfl (Nat.le_of_ble_eq_true rfl) dX7_net_41 ?_
        refine x_nmI (fun r8 er8 => ?_)
        have hR := nmE hR er8
        have hok := hok r8 er8
        refine x_iload_n (pc := 44) (i := 1) C 2 dX7_net_44 rfl rfl ?_
        refine x_icmp_ne (pc := 45) (tgt := 57) C dX7_net_45 (by decide) (fun c9 => ?_) (fun c9 => ?_)
        · have hR := hR.trans (if_neg c9)
          have hok := hok.2 c9
          refine x_iconst (pc := 57) (v := 0) C dX7_net_57 (by decide) ?_
          refine x_isub (pc := 58) C dX7_net_58 ?_
          refine x_nmI (fun v10 ev10 => ?_)
          have hR := nmE hR ev10
          have hok := hok v10 ev10
          refine x_istore_n (pc := 59) (i := 2) (ls2 := [(2, .int v10), (0, .ref (ad 193)), (1, .int a1), (3, .int a3)]) C dX7_net_59 rfl (by decide) rfl ?_
          refine x_iinc (pc := 60) (i := 3) (v := (a3 + 1)) (ls2 := [(3, .int (a3 + 1)), (2, .int v10), (0, .ref (ad 193)), (1, .int a1)]) C 3 dX7_net_60 rfl rfl (by decide) rfl ?_
          refine x_goto (pc := 63) (tgt := 4) C dX7_net_63 (by decide) ?_
          refine x_sub [2, 3, 1, 0] (ls2 := [(0, .ref (ad 193)), (1, .int a1), (2, .int v10), (3, .int (a3 + 1))]) rfl ?_
          exact ih M a1 v10 (a3 + 1) R0 hR hok k
        · have hR := hR.trans (if_pos c9)
          have hok := hok.1 c9
          refine x_aload_n (pc := 48) (i := 0) C 1 dX7_net_48 rfl rfl ?_
          refine x_iload_n (pc := 49) (i := 3) C 3 dX7_net_49 rfl rfl ?_
          refine x_iconst (pc := 50) (v := 3) C dX7_net_50 (by decide) ?_
          have h11 := hok.1
          have hok := hok.2
          refine x_cIV (pc := 51) (as := [.int a3, .int 3]) (q := 193) C (c_X7_ofPlace C.2.2.2.2.2.2.2.1  B M O a3 3 h11) (fs := _) e_M rfl cv_X7_ofPlace cd_X7_ofPlace wd_7_168 ⟨Nat.le_of_ble_eq_true rfl, Nat.le_of_ble_eq_true rfl⟩ ⟨Nat.le_of_ble_eq_true rfl, Nat.le_of_ble_eq_true rfl⟩ rfl rfl (Nat.le_of_ble_eq_true rfl) dX7_net_51 ?_
          refine x_nmI (fun r12 er12 => ?_)
          have hR := nmE hR er12
          have hok := hok r12 er12
          refine x_goto (pc := 54) (tgt := 58) C dX7_net_54 (by decide) ?_
          refine x_isub (pc := 58) C dX7_net_58 ?_
          refine x_nmI (fun v13 ev13 => ?_)
          have hR := nmE hR ev13
          have hok := hok v13 ev13
          refine x_istore_n (pc := 59) (i := 2) (ls2 := [(2, .int v13), (0, .ref (ad 193)), (1, .int a1), (3, .int a3)]) C dX7_net_59 rfl (by decide) rfl ?_
          refine x_iinc (pc := 60) (i := 3) (v := (a3 + 1)) (ls2 := [(3, .int (a3 + 1)), (2, .int v13), (0, .ref (ad 193)), (1, .int a1)]) C 3 dX7_net_60 rfl rfl (by decide) rfl ?_
          refine x_goto (pc := 63) (tgt := 4) C dX7_net_63 (by decide) ?_
          refine x_sub [2, 3, 1, 0] (ls2 := [(0, .ref (ad 193)), (1, .int a1), (2, .int v13), (3, .int (a3 + 1))]) rfl ?_
          exact ih M a1 v13 (a3 + 1) R0 hR hok k
      · have hR := hR.trans (if_pos c5)
        have hok := hok.1 c5
        refine x_aload_n (pc := 25) (i := 0) C 0 dX7_net_25 rfl rfl ?_
        refine x_iload_n (pc := 26) (i := 3) C 3 dX7_net_26 rfl rfl ?_
        refine x_iconst (pc := 27) (v := 3) C dX7_net_27 (by decide) ?_
        have h14 := hok.1
        have hok := hok.2
        refine x_cIV (pc := 28) (as := [.int a3, .int 3]) (q := 193) C (c_X7_ofPlace C.2.2.2.2.2.2.2.1  B M O a3 3 h14) (fs := _) e_M rfl cv_X7_ofPlace cd_X7_ofPlace wd_7_168 ⟨Nat.le_of_ble_eq_true rfl, Nat.le_of_ble_eq_true rfl⟩ ⟨Nat.le_of_ble_eq_true rfl, Nat.le_of_ble_eq_true rfl⟩ rfl rfl (Nat.le_of_ble_eq_true rfl) dX7_net_28 ?_
        refine x_nmI (fun r15 er15 => ?_)
        have hR := nmE hR er15
        have hok := hok r15 er15
        refine x_goto (pc := 31) (tgt := 35) C dX7_net_31 (by decide) ?_
        refine x_iadd (pc := 35) C dX7_net_35 ?_
        refine x_nmI (fun v16 ev16 => ?_)
        have hR := nmE hR ev16
        have hok := hok v16 ev16
        refine x_istore_n (pc := 36) (i := 2) (ls2 := [(2, .int v16), (0, .ref (ad 193)), (1, .int a1), (3, .int a3)]) C dX7_net_36 rfl (by decide) rfl ?_
        refine x_iload_n (pc := 37) (i := 2) C 0 dX7_net_37 rfl rfl ?_
        refine x_aload_n (pc := 38) (i := 0) C 1 dX7_net_38 rfl rfl ?_
        refine x_iload_n (pc := 39) (i := 3) C 3 dX7_net_39 rfl rfl ?_
        refine x_iconst (pc := 40) (v := 1) C dX7_net_40 (by decide) ?_
        have h17 := hok.1
        have hok := hok.2
        refine x_cIV (pc := 41) (as := [.int a3, .int 1]) (q := 193) C (c_X7_ofPlace C.2.2.2.2.2.2.2.1  B M O a3 1 h17) (fs := _) e_M rfl cv_X7_ofPlace cd_X7_ofPlace wd_7_168 ⟨Nat.le_of_ble_eq_true rfl, Nat.le_of_ble_eq_true rfl⟩ ⟨Nat.le_of_ble_eq_true rfl, Nat.le_of_ble_eq_true rfl⟩ rfl rfl (Nat.le_of_ble_eq_true rfl) dX7_net_41 ?_
        refine x_nmI (fun r18 er18 => ?_)
        have hR := nmE hR er18
        have hok := hok r18 er18
        refine x_iload_n (pc := 44) (i := 1) C 2 dX7_net_44 rfl rfl ?_
        refine x_icmp_ne (pc := 45) (tgt := 57) C dX7_net_45 (by decide) (fun c19 => ?_) (fun c19 => ?_)
        · have hR := hR.trans (if_neg c19)
          have hok := hok.2 c19
          refine x_iconst (pc := 57) (v := 0) C dX7_net_57 (by decide) ?_
          refine x_isub (pc := 58) C dX7_net_58 ?_
          refine x_nmI (fun v20 ev20 => ?_)
          have hR := nmE hR ev20
          have hok := hok v20 ev20
          refine x_istore_n (pc := 59) (i := 2) (ls2 := [(2, .int v20), (0, .ref (ad 193)), (1, .int a1), (3, .int a3)]) C dX7_net_59 rfl (by decide) rfl ?_
          refine x_iinc (pc := 60) (i := 3) (v := (a3 + 1)) (ls2 := [(3, .int (a3 + 1)), (2, .int v20), (0, .ref (ad 193)), (1, .int a1)]) C 3 dX7_net_60 rfl rfl (by decide) rfl ?_
          refine x_goto (pc := 63) (tgt := 4) C dX7_net_63 (by decide) ?_
          refine x_sub [2, 3, 1, 0] (ls2 := [(0, .ref (ad 193)), (1, .int a1), (2, .int v20), (3, .int (a3 + 1))]) rfl ?_
          exact ih M a1 v20 (a3 + 1) R0 hR hok k
        · have hR := hR.trans (if_pos c19)
          have hok := hok.1 c19
          refine x_aload_n (pc := 48) (i := 0) C 1 dX7_net_48 rfl rfl ?_
          refine x_iload_n (pc := 49) (i := 3) C 3 dX7_net_49 rfl rfl ?_
          refine x_iconst (pc := 50) (v := 3) C dX7_net_50 (by decide) ?_
          have h21 := hok.1
          have hok := hok.2
          refine x_cIV (pc := 51) (as := [.int a3, .int 3]) (q := 193) C (c_X7_ofPlace C.2.2.2.2.2.2.2.1  B M O a3 3 h21) (fs := _) e_M rfl cv_X7_ofPlace cd_X7_ofPlace wd_7_168 ⟨Nat.le_of_ble_eq_true rfl, Nat.le_of_ble_eq_true rfl⟩ ⟨Nat.le_of_ble_eq_true rfl, Nat.le_of_ble_eq_true rfl⟩ rfl rfl (Nat.le_of_ble_eq_true rfl) dX7_net_51 ?_
          refine x_nmI (fun r22 er22 => ?_)
          have hR := nmE hR er22
          have hok := hok r22 er22
          refine x_goto (pc := 54) (tgt := 58) C dX7_net_54 (by decide) ?_
          refine x_isub (pc := 58) C dX7_net_58 ?_
          refine x_nmI (fun v23 ev23 => ?_)
          have hR := nmE hR ev23
          have hok := hok v23 ev23
          refine x_istore_n (pc := 59) (i := 2) (ls2 := [(2, .int v23), (0, .ref (ad 193)), (1, .int a1), (3, .int a3)]) C dX7_net_59 rfl (by decide) rfl ?_
          refine x_iinc (pc := 60) (i := 3) (v := (a3 + 1)) (ls2 := [(3, .int (a3 + 1)), (2, .int v23), (0, .ref (ad 193)), (1, .int a1)]) C 3 dX7_net_60 rfl rfl (by decide) rfl ?_
          refine x_goto (pc := 63) (tgt := 4) C dX7_net_63 (by decide) ?_
          refine x_sub [2, 3, 1, 0] (ls2 := [(0, .ref (ad 193)), (1, .int a1), (2, .int v23), (3, .int (a3 + 1))]) rfl ?_
          exact ih M a1 v23 (a3 + 1) R0 hR hok k
set_option maxHeartbeats 4000000 in
set_option maxRecDepth 100000 in
theorem c_X7_net {l : Launch} {A : Nat → Prop} {G : GT} {ad : Nat → Nat} (gl : Gl l A ad)  (B : StB) (M : StM) (O : StO) (x0 : Int32) (hok : ok_X7_net M x0) : Met l yX7_net (wof yX7_net cX7_net 4 (some .int)) (rmd 3 0 0) (va_Pc [.ref (ad 193), .int x0] (PW G A ad B M O)) (QI G A ad (f_X7_net M x0).1 B (f_X7_net M x0).2 O) 0 0 A := by
  refine x_body (own := RX7) (by decide +kernel) rfl gl (Nat.le_of_ble_eq_true rfl) (ls := [(0, .ref (ad 193)), (1, .int x0)]) rfl ?_
  intro p0 e s m args below meth c C
  have hR : (f_X7_net M x0) = (nm (f_X7_net_L4 fu M x0 0 0) (fun (z24 : Int32) => (nm (f_X7_isAccount M x0) (fun (r26 : Int32) => (nm (f_X7_goes M r26) (fun (z28 : Int32 × StM) => (if z28.1 = 0 then (0, z28.2) else (z24, z28.2)))))))) := rfl
  have hok : ((ok_X7_net_L4 fu M x0 0 0) ∧ ∀ z24 : Int32, z24 = f_X7_net_L4 fu M x0 0 0 → ((ok_X7_isAccount M x0) ∧ (∀ r26 : Int32, r26 = (f_X7_isAccount M x0) → ((ok_X7_goes M r26))))) := hok
  refine x_iconst (pc := 0) (v := 0) C dX7_net_0 (by decide) ?_
  refine x_istore_n (pc := 1) (i := 2) (ls2 := [(2, .int 0), (0, .ref (ad 193)), (1, .int x0)]) C dX7_net_1 rfl (by decide) rfl ?_
  refine x_iconst (pc := 2) (v := 0) C dX7_net_2 (by decide) ?_
  refine x_istore_n (pc := 3) (i := 3) (ls2 := [(3, .int 0), (2, .int 0), (0, .ref (ad 193)), (1, .int x0)]) C dX7_net_3 rfl (by decide) rfl ?_
  refine x_sub [2, 3, 1, 0] (ls2 := [(0, .ref (ad 193)), (1, .int x0), (2, .int 0), (3, .int 0)]) rfl ?_
  obtain ⟨z24, ez24⟩ : ∃ z : Int32, z = f_X7_net_L4 fu M x0 0 0 := ⟨_, rfl⟩
  refine t_X7_net_L4 C fu M x0 0 0 B O z24 ez24 hok.1 ?_
  have hR := nmE hR ez24
  have hok := hok.2 z24 ez24
  refine x_aload_n (pc := 66) (i := 0) C 0 dX7_net_66 rfl rfl ?_
  refine x_aload_n (pc := 67) (i := 0) C 0 dX7_net_67 rfl rfl ?_
  refine x_iload_n (pc := 68) (i := 1) C 1 dX7_net_68 rfl rfl ?_
  have h25 := hok.1
  have hok := hok.2
  refine x_cIV (pc := 69) (as := [.int x0]) (q := 193) C (c_X7_isAccount C.2.2.2.2.2.2.2.1  B M O x0 h25) (fs := _) e_M rfl cv_X7_isAccount cd_X7_isAccount wd_7_115 ⟨Nat.le_of_ble_eq_true rfl, Nat.le_of_ble_eq_true rfl⟩ ⟨Nat.le_of_ble_eq_true rfl, Nat.le_of_ble_eq_true rfl⟩ rfl rfl (Nat.le_of_ble_eq_true rfl) dX7_net_69 ?_
  refine x_nmI (fun r26 er26 => ?_)
  have hR := nmE hR er26
  have hok := hok r26 er26
  have h27 := hok
  refine x_cIV (pc := 72) (as := [.int r26]) (q := 193) C (c_X7_goes C.2.2.2.2.2.2.2.1  B M O r26 h27) (fs := _) e_M rfl cv_X7_goes cd_X7_goes wd_7_59 ⟨Nat.le_of_ble_eq_true rfl, Nat.le_of_ble_eq_true rfl⟩ ⟨Nat.le_of_ble_eq_true rfl, Nat.le_of_ble_eq_true rfl⟩ rfl rfl (Nat.le_of_ble_eq_true rfl) dX7_net_72 ?_
  refine x_nmIM (fun z28 ez28 => ?_)
  have hR := nmE hR ez28
  refine x_if_eq (pc := 75) (tgt := 82) C dX7_net_75 (by decide) (fun c29 => ?_) (fun c29 => ?_)
  · have hR := hR.trans (if_pos c29)
    refine x_iconst (pc := 82) (v := 0) C dX7_net_82 (by decide) ?_
    exact x_iretM (pc := 83) C rfl hR dX7_net_83
  · have hR := hR.trans (if_neg c29)
    refine x_iload_n (pc := 78) (i := 2) C 2 dX7_net_78 rfl rfl ?_
    refine x_goto (pc := 79) (tgt := 83) C dX7_net_79 (by decide) ?_
    exact x_iretM (pc := 83) C rfl hR dX7_net_83
set_option maxHeartbeats 4000000 in
set_option maxRecDepth 100000 in
theorem t_X7_leadsTo_L49 {p0 : Program} {l : Launch} {e : Env} {s : State} {m : MethodId} {args : Array Value} {below : List Frame} {meth : Method} {c : Code} {A : Nat → Prop} {G : GT} {ad : Nat → Nat} {Q : State → Prop} (C : CX p0 l s m args meth c A G ad cX7_leadsTo RX7 7 (some .boolean))    (n : Nat) (M : StM) (a1 : Int32) (a2 : Int32) (a3 : Int32) (a4 : Int32) (a5 : Int32) (B : StB) (O : StO) : ∀ (R0 : Int32) (hR : R0 = f_X7_leadsTo_L49 n M a1 a2 a3 a4 a5) (hok : ok_X7_leadsTo_L49 n M a1 a2 a3 a4 a5) (k : X p0 l e (rmd 3 0 0) s m args below meth c A G ad 7 0 0 Q B M O [(0, .ref (ad 193)), (1, .int a1), (2, .int a2), (3, .int R0), (4, .int a4)] 120 []), X p0 l e (rmd 3 0 0) s m args below meth c A G ad 7 0 0 Q B M O [(0, .ref (ad 193)), (1, .int a1), (2, .int a2), (3, .int a3), (4, .int a4), (5, .int a5)] 49 [] := by
  induction n generalizing M a1 a2 a3 a4 a5 with
  | zero => intro R0 hR hok k; exact False.elim hok
  | succ n ih =>
    intro R0 hR hok k
    have hR : R0 = (if (ma M 0 (ix 3)) ≤ a5 then a3 else (nm (f_X7_ofPlace M a5 1) (fun (r12 : Int32) => (if r12 = a1 then (nm (f_X7_ofPlace M a5 2) (fun (r16 : Int32) => (nm (a3 ||| (1 <<< (r16 &&& 31))) (fun (v17 : Int32) => (f_X7_leadsTo_L49 n M a1 a2 v17 a4 (a5 + 1)))))) else (nm (f_X7_ofPlace M a5 1) (fun (r19 : Int32) => (if ((a3 >>> (r19 &&& 31)) &&& 1) = 1 then (nm (f_X7_ofPlace M a5 2) (fun (r25 : Int32) => (nm (a3 ||| (1 <<< (r25 &&& 31))) (fun (v26 : Int32) => (f_X7_leadsTo_L49 n M a1 a2 v26 a4 (a5 + 1)))))) else (nm (a3 ||| 0) (fun (v22 : Int32) => (f_X7_leadsTo_L49 n M a1 a2 v22 a4 (a5 + 1))))))))))) := hR
    have hok : (((ma M 0 (ix 3)) ≤ a5 → True) ∧ (¬ (ma M 0 (ix 3)) ≤ a5 → ((ok_X7_ofPlace M a5 1) ∧ (∀ r12 : Int32, r12 = (f_X7_ofPlace M a5 1) → ((r12 = a1 → ((ok_X7_ofPlace M a5 2) ∧ (∀ r16 : Int32, r16 = (f_X7_ofPlace M a5 2) → (∀ v17 : Int32, v17 = (a3 ||| (1 <<< (r16 &&& 31))) → (ok_X7_leadsTo_L49 n M a1 a2 v17 a4 (a5 + 1)))))) ∧ (¬ r12 = a1 → ((ok_X7_ofPlace M a5 1) ∧ (∀ r19 : Int32, r19 = (f_X7_ofPlace M a5 1) → ((((a3 >>> (r19 &&& 31)) &&& 1) = 1 → ((ok_X7_ofPlace M a5 2) ∧ (∀ r25 : Int32, r25 = (f_X7_ofPlace M a5 2) → (∀ v26 : Int32, v26 = (a3 ||| (1 <<< (r25 &&& 31))) → (ok_X7_leadsTo_L49 n M a1 a2 v26 a4 (a5 + 1)))))) ∧ (¬ ((a3 >>> (r19 &&& 31)) &&& 1) = 1 → (∀ v22 : Int32, v22 = (a3 ||| 0) → (ok_X7_leadsTo_L49 n M a1 a2 v22 a4 (a5 + 1))))))))))))) := hok
    refine x_iload (pc := 49) (i := 5) C 5 dX7_leadsTo_49 rfl ?_
    refine x_aload_n (pc := 51) (i := 0) C 0 dX7_leadsTo_51 rfl rfl ?_
    refine x_get (pc := 52) (q := 193) (i := 0) C e_M rfl ttX7 (by decide) wd_6_227 rfl dX7_leadsTo_52 ?_
    refine x_iconst (pc := 55) (v := 3) C dX7_leadsTo_55 (by decide) ?_
    have h9 : vp_in (3) 124 := (by decide : ¬ ((3 : Int32) < 0 ∨ 124 ≤ Int32.toNatClampNeg 3))
    refine x_iald (pc := 56) (q := 194) C e_M0 h9 dX7_leadsTo_56 ?_
    refine x_icmp_ge (pc := 57) (tgt := 120) C dX7_leadsTo_57 (by decide) (fun c10 => ?_) (fun c10 => ?_)
    · have hR := hR.trans (if_pos c10)
      refine x_sub [0, 1, 2, 3, 4] (ls2 := [(0, .ref (ad 193)), (1, .int a1), (2, .int a2), (3, .int a3), (4, .int a4)]) rfl ?_
      subst hR
      exact k
    · have hR := hR.trans (if_neg c10)
      have hok := hok.2 c10
      refine x_aload_n (pc := 60) (i := 0) C 0 dX7_leadsTo_60 rfl rfl ?_
      refine x_iload (pc := 61) (i := 5) C 5 dX7_leadsTo_61 rfl ?_
      refine x_iconst (pc := 63) (v := 1) C dX7_leadsTo_63 (by decide) ?_
      have h11 := hok.1
      have hok := hok.2
      refine x_cIV (pc := 64) (as := [.int a5, .int 1]) (q := 193) C (c_X7_ofPlace C.2.2.2.2.2.2.2.1  B M O a5 1 h11) (fs := _) e_M rfl cv_X7_ofPlace cd_X7_ofPlace wd_7_168 ⟨Nat.le_of_ble_eq_true rfl, Nat.le_of_ble_eq_true rfl⟩ ⟨Nat.le_of_ble_eq_true rfl, Nat.le_of_ble_eq_true rfl⟩ rfl rfl (Nat.le_of_ble_eq_true rfl) dX7_leadsTo_64 ?_
      refine x_nmI (fun r12 er12 => ?_)
      have hR := nmE hR er12
      have hok := hok r12 er12
      refine x_iload_n (pc := 67) (i := 1) C 1 dX7_leadsTo_67 rfl rfl ?_
      refine x_icmp_eq (pc := 68) (tgt := 86) C dX7_leadsTo_68 (by decide) (fun c13 => ?_) (fun c13 => ?_)
      · have hR := hR.trans (if_pos c13)
        have hok := hok.1 c13
        refine x_iconst (pc := 86) (v := 1) C dX7_leadsTo_86 (by decide) ?_
        refine x_goto (pc := 87) (tgt := 91) C dX7_leadsTo_87 (by decide) ?_
        refine x_istore (pc := 91) (i := 6) (ls2 := [(6, .int 1), (0, .ref (ad 193)), (1, .int a1), (2, .int a2), (3, .int a3), (4, .int a4), (5, .int a5)]) C dX7_leadsTo_91 (by decide) rfl ?_
        refine x_iload_n (pc := 93) (i := 3) C 4 dX7_leadsTo_93 rfl rfl ?_
        refine x_iload (pc := 94) (i := 6) C 0 dX7_leadsTo_94 rfl ?_
        refine x_if_eq (pc := 96) (tgt := 111) C dX7_leadsTo_96 (by decide) (fun hf => absurd hf (by decide)) (fun _ => ?_)
        refine x_iconst (pc := 99) (v := 1) C dX7_leadsTo_99 (by decide) ?_
        refine x_aload_n (pc := 100) (i := 0) C 1 dX7_leadsTo_100 rfl rfl ?_
        refine x_iload (pc := 101) (i := 5) C 6 dX7_leadsTo_101 rfl ?_
        refine x_iconst (pc := 103) (v := 2) C dX7_leadsTo_103 (by decide) ?_
        have h15 := hok.1
        have hok := hok.2
        refine x_cIV (pc := 104) (as := [.int a5, .int 2]) (q := 193) C (c_X7_ofPlace C.2.2.2.2.2.2.2.1  B M O a5 2 h15) (fs := _) e_M rfl cv_X7_ofPlace cd_X7_ofPlace wd_7_168 ⟨Nat.le_of_ble_eq_true rfl, Nat.le_of_ble_eq_true rfl⟩ ⟨Nat.le_of_ble_eq_true rfl, Nat.le_of_ble_eq_true rfl⟩ rfl rfl (Nat.le_of_ble_eq_true rfl) dX7_leadsTo_104 ?_
        refine x_nmI (fun r16 er16 => ?_)
        have hR := nmE hR er16
        have hok := hok r16 er16
        refine x_ishl (pc := 107) C dX7_leadsTo_107 ?_
        refine x_goto (pc := 108) (tgt := 112) C dX7_leadsTo_108 (by decide) ?_
        refine x_ior (pc := 112) C dX7_leadsTo_112 ?_
        refine x_nmI (fun v17 ev17 => ?_)
        have hR := nmE hR ev17
        have hok := hok v17 ev17
        refine x_istore_n (pc := 113) (i := 3) (ls2 := [(3, .int v17), (6, .int 1), (0, .ref (ad 193)), (1, .int a1), (2, .int a2), (4, .int a4), (5, .int a5)]) C dX7_leadsTo_113 rfl (by decide) rfl ?_
        refine x_iinc (pc := 114) (i := 5) (v := (a5 + 1)) (ls2 := [(5, .int (a5 + 1)), (3, .int v17), (6, .int 1), (0, .ref (ad 193)), (1, .int a1), (2, .int a2), (4, .int a4)]) C 6 dX7_leadsTo_114 rfl rfl (by decide) rfl ?_
        refine x_goto (pc := 117) (tgt := 49) C dX7_leadsTo_117 (by decide) ?_
        refine x_sub [3, 4, 5, 1, 6, 0] (ls2 := [(0, .ref (ad 193)), (1, .int a1), (2, .int a2), (3, .int v17), (4, .int a4), (5, .int (a5 + 1))]) rfl ?_
        exact ih M a1 a2 v17 a4 (a5 + 1) R0 hR hok k
      · have hR := hR.trans (if_neg c13)
        have hok := hok.2 c13
        refine x_iload_n (pc := 71) (i := 3) C 3 dX7_leadsTo_71 rfl rfl ?_
        refine x_aload_n (pc := 72) (i := 0) C 0 dX7_leadsTo_72 rfl rfl ?_
        refine x_iload (pc := 73) (i := 5) C 5 dX7_leadsTo_73 rfl ?_
        refine x_iconst (pc := 75) (v := 1) C dX7_leadsTo_75 (by decide) ?_
        have h18 := hok.1
        have hok := hok.2
        refine x_cIV (pc := 76) (as := [.int a5, .int 1]) (q := 193) C (c_X7_ofPlace C.2.2.2.2.2.2.2.1  B M O a5 1 h18) (fs := _) e_M rfl cv_X7_ofPlace cd_X7_ofPlace wd_7_168 ⟨Nat.le_of_ble_eq_true rfl, Nat.le_of_ble_eq_true rfl⟩ ⟨Nat.le_of_ble_eq_true rfl, Nat.le_of_ble_eq_true rfl⟩ rfl rfl (Nat.le_of_ble_eq_true rfl) dX7_leadsTo_76 ?_
        refine x_nmI (fun r19 er19 => ?_)
        have hR := nmE hR er19
        have hok := hok r19 er19
        refine x_ishr (pc := 79) C dX7_leadsTo_79 ?_
        refine x_iconst (pc := 80) (v := 1) C dX7_leadsTo_80 (by decide) ?_
        refine x_iand (pc := 81) C dX7_leadsTo_81 ?_
        refine x_iconst (pc := 82) (v := 1) C dX7_leadsTo_82 (by decide) ?_
        refine x_icmp_ne (pc := 83) (tgt := 90) C dX7_leadsTo_83 (by decide) (fun c20 => ?_) (fun c20 => ?_)
        · have hR := hR.trans (if_neg c20)
          have hok := hok.2 c20
          refine x_iconst (pc := 90) (v := 0) C dX7_leadsTo_90 (by decide) ?_
          refine x_istore (pc := 91) (i := 6) (ls2 := [(6, .int 0), (0, .ref (ad 193)), (1, .int a1), (2, .int a2), (3, .int a3), (4, .int a4), (5, .int a5)]) C dX7_leadsTo_91 (by decide) rfl ?_
          refine x_iload_n (pc := 93) (i := 3) C 4 dX7_leadsTo_93 rfl rfl ?_
          refine x_iload (pc := 94) (i := 6) C 0 dX7_leadsTo_94 rfl ?_
          refine x_if_eq (pc := 96) (tgt := 111) C dX7_leadsTo_96 (by decide) (fun _ => ?_) (fun hf => absurd hf (by decide))
          refine x_iconst (pc := 111) (v := 0) C dX7_leadsTo_111 (by decide) ?_
          refine x_ior (pc := 112) C dX7_leadsTo_112 ?_
          refine x_nmI (fun v22 ev22 => ?_)
          have hR := nmE hR ev22
          have hok := hok v22 ev22
          refine x_istore_n (pc := 113) (i := 3) (ls2 := [(3, .int v22), (6, .int 0), (0, .ref (ad 193)), (1, .int a1), (2, .int a2), (4, .int a4), (5, .int a5)]) C dX7_leadsTo_113 rfl (by decide) rfl ?_
          refine x_iinc (pc := 114) (i := 5) (v := (a5 + 1)) (ls2 := [(5, .int (a5 + 1)), (3, .int v22), (6, .int 0), (0, .ref (ad 193)), (1, .int a1), (2, .int a2), (4, .int a4)]) C 6 dX7_leadsTo_114 rfl rfl (by decide) rfl ?_
          refine x_goto (pc := 117) (tgt := 49) C dX7_leadsTo_117 (by decide) ?_
          refine x_sub [3, 4, 5, 1, 6, 0] (ls2 := [(0, .ref (ad 193)), (1, .int a1), (2, .int a2), (3, .int v22), (4, .int a4), (5, .int (a5 + 1))]) rfl ?_
          exact ih M a1 a2 v22 a4 (a5 + 1) R0 hR hok k
        · have hR := hR.trans (if_pos c20)
          have hok := hok.1 c20
          refine x_iconst (pc := 86) (v := 1) C dX7_leadsTo_86 (by decide) ?_
          refine x_goto (pc := 87) (tgt := 91) C dX7_leadsTo_87 (by decide) ?_
          refine x_istore (pc := 91) (i := 6) (ls2 := [(6, .int 1), (0, .ref (ad 193)), (1, .int a1), (2, .int a2), (3, .int a3), (4, .int a4), (5, .int a5)]) C dX7_leadsTo_91 (by decide) rfl ?_
          refine x_iload_n (pc := 93) (i := 3) C 4 dX7_leadsTo_93 rfl rfl ?_
          refine x_iload (pc := 94) (i := 6) C 0 dX7_leadsTo_94 rfl ?_
          refine x_if_eq (pc := 96) (tgt := 111) C dX7_leadsTo_96 (by decide) (fun hf => absurd hf (by decide)) (fun _ => ?_)
          refine x_iconst (pc := 99) (v := 1) C dX7_leadsTo_99 (by decide) ?_
          refine x_aload_n (pc := 100) (i := 0) C 1 dX7_leadsTo_100 rfl rfl ?_
          refine x_iload (pc := 101) (i := 5) C 6 dX7_leadsTo_101 rfl ?_
          refine x_iconst (pc := 103) (v := 2) C dX7_leadsTo_103 (by decide) ?_
          have h24 := hok.1
          have hok := hok.2
          refine x_cIV (pc := 104) (as := [.int a5, .int 2]) (q := 193) C (c_X7_ofPlace C.2.2.2.2.2.2.2.1  B M O a5 2 h24) (fs := _) e_M rfl cv_X7_ofPlace cd_X7_ofPlace wd_7_168 ⟨Nat.le_of_ble_eq_true rfl, Nat.le_of_ble_eq_true rfl⟩ ⟨Nat.le_of_ble_eq_true rfl, Nat.le_of_ble_eq_true rfl⟩ rfl rfl (Nat.le_of_ble_eq_true rfl) dX7_leadsTo_104 ?_
          refine x_nmI (fun r25 er25 => ?_)
          have hR := nmE hR er25
          have hok := hok r25 er25
          refine x_ishl (pc := 107) C dX7_leadsTo_107 ?_
          refine x_goto (pc := 108) (tgt := 112) C dX7_leadsTo_108 (by decide) ?_
          refine x_ior (pc := 112) C dX7_leadsTo_112 ?_
          refine x_nmI (fun v26 ev26 => ?_)
          have hR := nmE hR ev26
          have hok := hok v26 ev26
          refine x_istore_n (pc := 113) (i := 3) (ls2 := [(3, .int v26), (6, .int 1), (0, .ref (ad 193)), (1, .int a1), (2, .int a2), (4, .int a4), (5, .int a5)]) C dX7_leadsTo_113 rfl (by decide) rfl ?_
          refine x_iinc (pc := 114) (i := 5) (v := (a5 + 1)) (ls2 := [(5, .int (a5 + 1)), (3, .int v26), (6, .int 1), (0, .ref (ad 193)), (1, .int a1), (2, .int a2), (4, .int a4)]) C 6 dX7_leadsTo_114 rfl rfl (by decide) rfl ?_
          refine x_goto (pc := 117) (tgt := 49) C dX7_leadsTo_117 (by decide) ?_
          refine x_sub [3, 4, 5, 1, 6, 0] (ls2 := [(0, .ref (ad 193)), (1, .int a1), (2, .int a2), (3, .int v26), (4, .int a4), (5, .int (a5 + 1))]) rfl ?_
          exact ih M a1 a2 v26 a4 (a5 + 1) R0 hR hok k
set_option maxHeartbeats 4000000 in
set_option maxRecDepth 100000 in
theorem t_X7_leadsTo_L35 {p0 : Program} {l : Launch} {e : Env} {s : State} {m : MethodId} {args : Array Value} {below : List Frame} {meth : Method} {c : Code} {A : Nat → Prop} {G : GT} {ad : Nat → Nat} {Q : State → Prop} (C : CX p0 l s m args meth c A G ad cX7_leadsTo RX7 7 (some .boolean))    (n : Nat) (M : StM) (a1 : Int32) (a2 : Int32) (a3 : Int32) (a4 : Int32) (B : StB) (O : StO) : ∀ (R0 : Int32) (hR : R0 = f_X7_leadsTo_L35 n M a1 a2 a3 a4) (hok : ok_X7_leadsTo_L35 n M a1 a2 a3 a4) (k : X p0 l e (rmd 3 0 0) s m args below meth c A G ad 7 0 0 Q B M O [(2, .int a2), (3, .int R0)] 126 []), X p0 l e (rmd 3 0 0) s m args below meth c A G ad 7 0 0 Q B M O [(0, .ref (ad 193)), (1, .int a1), (2, .int a2), (3, .int a3), (4, .int a4)] 35 [] := by
  induction n generalizing M a1 a2 a3 a4 with
  | zero => intro R0 hR hok k; exact False.elim hok
  | succ n ih =>
    intro R0 hR hok k
    have hR : R0 = (if (ma M 0 (ix 3)) < a4 then a3 else (nm (f_X7_leadsTo_L49 fu M a1 a2 a3 a4 0) (fun (z27 : Int32) => (f_X7_leadsTo_L35 n M a1 a2 z27 (a4 + 1))))) := hR
    have hok : (((ma M 0 (ix 3)) < a4 → True) ∧ (¬ (ma M 0 (ix 3)) < a4 → ((ok_X7_leadsTo_L49 fu M a1 a2 a3 a4 0) ∧ ∀ z27 : Int32, z27 = f_X7_leadsTo_L49 fu M a1 a2 a3 a4 0 → (ok_X7_leadsTo_L35 n M a1 a2 z27 (a4 + 1))))) := hok
    refine x_iload (pc := 35) (i := 4) C 4 dX7_leadsTo_35 rfl ?_
    refine x_aload_n (pc := 37) (i := 0) C 0 dX7_leadsTo_37 rfl rfl ?_
    refine x_get (pc := 38) (q := 193) (i := 0) C e_M rfl ttX7 (by decide) wd_6_227 rfl dX7_leadsTo_38 ?_
    refine x_iconst (pc := 41) (v := 3) C dX7_leadsTo_41 (by decide) ?_
    have h7 : vp_in (3) 124 := (by decide : ¬ ((3 : Int32) < 0 ∨ 124 ≤ Int32.toNatClampNeg 3))
    refine x_iald (pc := 42) (q := 194) C e_M0 h7 dX7_leadsTo_42 ?_
    refine x_icmp_gt (pc := 43) (tgt := 126) C dX7_leadsTo_43 (by decide) (fun c8 => ?_) (fun c8 => ?_)
    · have hR := hR.trans (if_pos c8)
      refine x_sub [2, 3] (ls2 := [(2, .int a2), (3, .int a3)]) rfl ?_
      subst hR
      exact k
    · have hR := hR.trans (if_neg c8)
      have hok := hok.2 c8
      refine x_iconst (pc := 46) (v := 0) C dX7_leadsTo_46 (by decide) ?_
      refine x_istore (pc := 47) (i := 5) (ls2 := [(5, .int 0), (0, .ref (ad 193)), (1, .int a1), (2, .int a2), (3, .int a3), (4, .int a4)]) C dX7_leadsTo_47 (by decide) rfl ?_
      refine x_sub [1, 2, 3, 4, 5, 0] (ls2 := [(0, .ref (ad 193)), (1, .int a1), (2, .int a2), (3, .int a3), (4, .int a4), (5, .int 0)]) rfl ?_
      obtain ⟨z27, ez27⟩ : ∃ z : Int32, z = f_X7_leadsTo_L49 fu M a1 a2 a3 a4 0 := ⟨_, rfl⟩
      refine t_X7_leadsTo_L49 C fu M a1 a2 a3 a4 0 B O z27 ez27 hok.1 ?_
      have hR := nmE hR ez27
      have hok := hok.2 z27 ez27
      refine x_iinc (pc := 120) (i := 4) (v := (a4 + 1)) (ls2 := [(4, .int (a4 + 1)), (0, .ref (ad 193)), (1, .int a1), (2, .int a2), (3, .int z27)]) C 4 dX7_leadsTo_120 rfl rfl (by decide) rfl ?_
      refine x_goto (pc := 123) (tgt := 35) C dX7_leadsTo_123 (by decide) ?_
      refine x_sub [1, 2, 3, 4, 0] (ls2 := [(0, .ref (ad 193)), (1, .int a1), (2, .int a2), (3, .int z27), (4, .int (a4 + 1))]) rfl ?_
      exact ih M a1 a2 z27 (a4 + 1) R0 hR hok k
set_option maxHeartbeats 4000000 in
set_option maxRecDepth 100000 in
theorem t_X7_leadsTo_J22 {p0 : Program} {l : Launch} {e : Env} {s : State} {m : MethodId} {args : Array Value} {below : List Frame} {meth : Method} {c : Code} {A : Nat → Prop} {G : GT} {ad : Nat → Nat} (C : CX p0 l s m args meth c A G ad cX7_leadsTo RX7 7 (some .boolean))  (M : StM) (a1 : Int32) (a2 : Int32) (s0 : Int32) (B : StB) (O : StO) (R0 : Int32 × StM) (hR : R0 = f_X7_leadsTo_J22 M a1 a2 s0) (hok : ok_X7_leadsTo_J22 M a1 a2 s0) : X p0 l e (rmd 3 0 0) s m args below meth c A G ad 7 0 0 (MQ below (QI G A ad R0.1 B R0.2 O) args s 0 0 A) B M O [(0, .ref (ad 193)), (1, .int a1), (2, .int a2)] 22 [.int s0, .ref (ad 193)] := by
  have hR : R0 = (nm (f_X7_goes M s0) (fun (z5 : Int32 × StM) => (if z5.1 = 0 then (0, z5.2) else (nm (f_X7_leadsTo_L35 fu z5.2 a1 a2 0 0) (fun (z28 : Int32) => (if ((z28 >>> (a2 &&& 31)) &&& 1) = 1 then (1, z5.2) else (0, z5.2))))))) := hR
  have hok : ((ok_X7_goes M s0) ∧ (∀ z5 : Int32 × StM, z5 = (f_X7_goes M s0) → ((z5.1 = 0 → True) ∧ (¬ z5.1 = 0 → (ok_X7_leadsTo_L35 fu z5.2 a1 a2 0 0))))) := hok
  have h4 := hok.1
  have hok := hok.2
  refine x_cIV (pc := 22) (as := [.int s0]) (q := 193) C (c_X7_goes C.2.2.2.2.2.2.2.1  B M O s0 h4) (fs := _) e_M rfl cv_X7_goes cd_X7_goes wd_7_59 ⟨Nat.le_of_ble_eq_true rfl, Nat.le_of_ble_eq_true rfl⟩ ⟨Nat.le_of_ble_eq_true rfl, Nat.le_of_ble_eq_true rfl⟩ rfl rfl (Nat.le_of_ble_eq_true rfl) dX7_leadsTo_22 ?_
  refine x_nmIM (fun z5 ez5 => ?_)
  have hR := nmE hR ez5
  have hok := hok z5 ez5
  refine x_if_ne (pc := 25) (tgt := 30) C dX7_leadsTo_25 (by decide) (fun c6 => ?_) (fun c6 => ?_)
  · have hR := hR.trans (if_neg c6)
    have hok := hok.2 c6
    refine x_iconst (pc := 30) (v := 0) C dX7_leadsTo_30 (by decide) ?_
    refine x_istore_n (pc := 31) (i := 3) (ls2 := [(3, .int 0), (0, .ref (ad 193)), (1, .int a1), (2, .int a2)]) C dX7_leadsTo_31 rfl (by decide) rfl ?_
    refine x_iconst (pc := 32) (v := 0) C dX7_leadsTo_32 (by decide) ?_
    refine x_istore (pc := 33) (i := 4) (ls2 := [(4, .int 0), (3, .int 0), (0, .ref (ad 193)), (1, .int a1), (2, .int a2)]) C dX7_leadsTo_33 (by decide) rfl ?_
    refine x_sub [2, 3, 4, 1, 0] (ls2 := [(0, .ref (ad 193)), (1, .int a1), (2, .int a2), (3, .int 0), (4, .int 0)]) rfl ?_
    obtain ⟨z28, ez28⟩ : ∃ z : Int32, z = f_X7_leadsTo_L35 fu z5.2 a1 a2 0 0 := ⟨_, rfl⟩
    refine t_X7_leadsTo_L35 C fu z5.2 a1 a2 0 0 B O z28 ez28 hok ?_
    have hR := nmE hR ez28
    refine x_iload_n (pc := 126) (i := 3) C 1 dX7_leadsTo_126 rfl rfl ?_
    refine x_iload_n (pc := 127) (i := 2) C 0 dX7_leadsTo_127 rfl rfl ?_
    refine x_ishr (pc := 128) C dX7_leadsTo_128 ?_
    refine x_iconst (pc := 129) (v := 1) C dX7_leadsTo_129 (by decide) ?_
    refine x_iand (pc := 130) C dX7_leadsTo_130 ?_
    refine x_iconst (pc := 131) (v := 1) C dX7_leadsTo_131 (by decide) ?_
    refine x_icmp_ne (pc := 132) (tgt := 139) C dX7_leadsTo_132 (by decide) (fun c29 => ?_) (fun c29 => ?_)
    · have hR := hR.trans (if_neg c29)
      refine x_iconst (pc := 139) (v := 0) C dX7_leadsTo_139 (by decide) ?_
      exact x_zretM (pc := 140) C rfl (by decide) hR dX7_leadsTo_140
    · have hR := hR.trans (if_pos c29)
      refine x_iconst (pc := 135) (v := 1) C dX7_leadsTo_135 (by decide) ?_
      refine x_goto (pc := 136) (tgt := 140) C dX7_leadsTo_136 (by decide) ?_
      exact x_zretM (pc := 140) C rfl (by decide) hR dX7_leadsTo_140
  · have hR := hR.trans (if_pos c6)
    refine x_iconst (pc := 28) (v := 0) C dX7_leadsTo_28 (by decide) ?_
    exact x_zretM (pc := 29) C rfl (by decide) hR dX7_leadsTo_29
set_option maxHeartbeats 4000000 in
set_option maxRecDepth 100000 in
theorem t_X7_leadsTo_J21 {p0 : Program} {l : Launch} {e : Env} {s : State} {m : MethodId} {args : Array Value} {below : List Frame} {meth : Method} {c : Code} {A : Nat → Prop} {G : GT} {ad : Nat → Nat} (C : CX p0 l s m args meth c A G ad cX7_leadsTo RX7 7 (some .boolean))  (M : StM) (a1 : Int32) (a2 : Int32) (B : StB) (O : StO) (R0 : Int32 × StM) (hR : R0 = f_X7_leadsTo_J21 M a1 a2) (hok : ok_X7_leadsTo_J21 M a1 a2) : X p0 l e (rmd 3 0 0) s m args below meth c A G ad 7 0 0 (MQ below (QI G A ad R0.1 B R0.2 O) args s 0 0 A) B M O [(0, .ref (ad 193)), (1, .int a1), (2, .int a2)] 21 [.ref (ad 193)] := by
  have hR : R0 = (f_X7_leadsTo_J22 M a1 a2 0) := hR
  have hok : (ok_X7_leadsTo_J22 M a1 a2 0) := hok
  refine x_iconst (pc := 21) (v := 0) C dX7_leadsTo_21 (by decide) ?_
  refine x_sub [0, 1, 2] (ls2 := [(0, .ref (ad 193)), (1, .int a1), (2, .int a2)]) rfl ?_
  exact t_X7_leadsTo_J22 C M a1 a2 0 B O _ hR hok
set_option maxHeartbeats 4000000 in
set_option maxRecDepth 100000 in
theorem c_X7_leadsTo {l : Launch} {A : Nat → Prop} {G : GT} {ad : Nat → Nat} (gl : Gl l A ad)  (B : StB) (M : StM) (O : StO) (x0 : Int32) (x1 : Int32) (hok : ok_X7_leadsTo M x0 x1) : Met l yX7_leadsTo (wof yX7_leadsTo cX7_leadsTo 7 (some .boolean)) (rmd 3 0 0) (va_Pc [.ref (ad 193), .int x0, .int x1] (PW G A ad B M O)) (QI G A ad (f_X7_leadsTo M x0 x1).1 B (f_X7_leadsTo M x0 x1).2 O) 0 0 A := by
  refine x_body (own := RX7) (by decide +kernel) rfl gl (Nat.le_of_ble_eq_true rfl) (ls := [(0, .ref (ad 193)), (1, .int x0), (2, .int x1)]) rfl ?_
  intro p0 e s m args below meth c C
  have hR : (f_X7_leadsTo M x0 x1) = (nm (f_X7_isAccount M x0) (fun (r2 : Int32) => (if r2 = 0 then (f_X7_leadsTo_J21 M x0 x1) else (nm (f_X7_isAccount M x1) (fun (r31 : Int32) => (if r31 = 0 then (f_X7_leadsTo_J21 M x0 x1) else (f_X7_leadsTo_J22 M x0 x1 1))))))) := rfl
  have hok : ((ok_X7_isAccount M x0) ∧ (∀ r2 : Int32, r2 = (f_X7_isAccount M x0) → ((r2 = 0 → (ok_X7_leadsTo_J21 M x0 x1)) ∧ (¬ r2 = 0 → ((ok_X7_isAccount M x1) ∧ (∀ r31 : Int32, r31 = (f_X7_isAccount M x1) → ((r31 = 0 → (ok_X7_leadsTo_J21 M x0 x1)) ∧ (¬ r31 = 0 → (ok_X7_leadsTo_J22 M x0 x1 1))))))))) := hok
  refine x_aload_n (pc := 0) (i := 0) C 0 dX7_leadsTo_0 rfl rfl ?_
  refine x_aload_n (pc := 1) (i := 0) C 0 dX7_leadsTo_1 rfl rfl ?_
  refine x_iload_n (pc := 2) (i := 1) C 1 dX7_leadsTo_2 rfl rfl ?_
  have h1 := hok.1
  have hok := hok.2
  refine x_cIV (pc := 3) (as := [.int x0]) (q := 193) C (c_X7_isAccount C.2.2.2.2.2.2.2.1  B M O x0 h1) (fs := _) e_M rfl cv_X7_isAccount cd_X7_isAccount wd_7_115 ⟨Nat.le_of_ble_eq_true rfl, Nat.le_of_ble_eq_true rfl⟩ ⟨Nat.le_of_ble_eq_true rfl, Nat.le_of_ble_eq_true rfl⟩ rfl rfl (Nat.le_of_ble_eq_true rfl) dX7_leadsTo_3 ?_
  refine x_nmI (fun r2 er2 => ?_)
  have hR := nmE hR er2
  have hok := hok r2 er2
  refine x_if_eq (pc := 6) (tgt := 21) C dX7_leadsTo_6 (by decide) (fun c3 => ?_) (fun c3 => ?_)
  · have hR := hR.trans (if_pos c3)
    have hok := hok.1 c3
    refine x_sub [0, 1, 2] (ls2 := [(0, .ref (ad 193)), (1, .int x0), (2, .int x1)]) rfl ?_
    exact t_X7_leadsTo_J21 C M x0 x1 B O _ hR hok
  · have hR := hR.trans (if_neg c3)
    have hok := hok.2 c3
    refine x_aload_n (pc := 9) (i := 0) C 0 dX7_leadsTo_9 rfl rfl ?_
    refine x_iload_n (pc := 10) (i := 2) C 2 dX7_leadsTo_10 rfl rfl ?_
    have h30 := hok.1
    have hok := hok.2
    refine x_cIV (pc := 11) (as := [.int x1]) (q := 193) C (c_X7_isAccount C.2.2.2.2.2.2.2.1  B M O x1 h30) (fs := _) e_M rfl cv_X7_isAccount cd_X7_isAccount wd_7_115 ⟨Nat.le_of_ble_eq_true rfl, Nat.le_of_ble_eq_true rfl⟩ ⟨Nat.le_of_ble_eq_true rfl, Nat.le_of_ble_eq_true rfl⟩ rfl rfl (Nat.le_of_ble_eq_true rfl) dX7_leadsTo_11 ?_
    refine x_nmI (fun r31 er31 => ?_)
    have hR := nmE hR er31
    have hok := hok r31 er31
    refine x_if_eq (pc := 14) (tgt := 21) C dX7_leadsTo_14 (by decide) (fun c32 => ?_) (fun c32 => ?_)
    · have hR := hR.trans (if_pos c32)
      have hok := hok.1 c32
      refine x_sub [0, 1, 2] (ls2 := [(0, .ref (ad 193)), (1, .int x0), (2, .int x1)]) rfl ?_
      exact t_X7_leadsTo_J21 C M x0 x1 B O _ hR hok
    · have hR := hR.trans (if_neg c32)
      have hok := hok.2 c32
      refine x_iconst (pc := 17) (v := 1) C dX7_leadsTo_17 (by decide) ?_
      refine x_goto (pc := 18) (tgt := 22) C dX7_leadsTo_18 (by decide) ?_
      refine x_sub [0, 1, 2] (ls2 := [(0, .ref (ad 193)), (1, .int x0), (2, .int x1)]) rfl ?_
      exact t_X7_leadsTo_J22 C M x0 x1 1 B O _ hR hok
