set_option maxHeartbeats 4000000 in
set_option maxRecDepth 100000 in
theorem t_X7_waits_L20 {p0 : Program} {l : Launch} {e : Env} {s : State} {m : MethodId} {args : Array Value} {below : List Frame} {meth : Method} {c : Code} {A : Nat → Prop} {G : GT} {ad : Nat → Nat} {Q : State → Prop} (C : CX p0 l s m args meth c A G ad cX7_waits RX7 4 (some .int))    (n : Nat) (M : StM) (a1 : Int32) (a2 : Int32) (a3 : Int32) (B : StB) (O : StO) : ∀ (R0 : Int32 × StM) (hR : R0 = f_X7_waits_L20 n M a1 a2 a3) (hok : ok_X7_waits_L20 n M a1 a2 a3) (k : X p0 l e (rmd 8 0 0) s m args below meth c A G ad 4 0 0 Q B R0.2 O [(2, .int R0.1)] 38 []), X p0 l e (rmd 8 0 0) s m args below meth c A G ad 4 0 0 Q B M O [(0, .ref (ad 193)), (1, .int a1), (2, .int a2), (3, .int a3)] 20 [] := by
  induction n generalizing M a1 a2 a3 with
  | zero => intro R0 hR hok k; exact False.elim hok
  | succ n ih =>
    intro R0 hR hok k
    have hR : R0 = (if a1 ≤ a3 then (a2, M) else (nm (f_X7_closesDay M) (fun (z7 : Int32 × StM) => (nm (a2 + z7.1) (fun (v8 : Int32) => (f_X7_waits_L20 n z7.2 a1 v8 (a3 + 1))))))) := hR
    have hok : ((a1 ≤ a3 → True) ∧ (¬ a1 ≤ a3 → ((ok_X7_closesDay M) ∧ (∀ z7 : Int32 × StM, z7 = (f_X7_closesDay M) → (∀ v8 : Int32, v8 = (a2 + z7.1) → (ok_X7_waits_L20 n z7.2 a1 v8 (a3 + 1))))))) := hok
    refine x_iload_n (pc := 20) (i := 3) C 3 dX7_waits_20 rfl rfl ?_
    refine x_iload_n (pc := 21) (i := 1) C 1 dX7_waits_21 rfl rfl ?_
    refine x_icmp_ge (pc := 22) (tgt := 38) C dX7_waits_22 (by decide) (fun c5 => ?_) (fun c5 => ?_)
    · have hR := hR.trans (if_pos c5)
      refine x_sub [2] (ls2 := [(2, .int a2)]) rfl ?_
      subst hR
      exact k
    · have hR := hR.trans (if_neg c5)
      have hok := hok.2 c5
      refine x_iload_n (pc := 25) (i := 2) C 2 dX7_waits_25 rfl rfl ?_
      refine x_aload_n (pc := 26) (i := 0) C 0 dX7_waits_26 rfl rfl ?_
      have h6 := hok.1
      have hok := hok.2
      refine x_cIV (pc := 27) (as := []) (q := 193) C (c_X7_closesDay C.2.2.2.2.2.2.2.1  B M O  h6) (fs := _) e_M rfl cv_X7_closesDay cd_X7_closesDay wd_7_184 ⟨Nat.le_of_ble_eq_true rfl, Nat.le_of_ble_eq_true rfl⟩ ⟨Nat.le_of_ble_eq_true rfl, Nat.le_of_ble_eq_true rfl⟩ rfl rfl (Nat.le_of_ble_eq_true rfl) dX7_waits_27 ?_
      refine x_nmIM (fun z7 ez7 => ?_)
      have hR := nmE hR ez7
      have hok := hok z7 ez7
      refine x_iadd (pc := 30) C dX7_waits_30 ?_
      refine x_nmI (fun v8 ev8 => ?_)
      have hR := nmE hR ev8
      have hok := hok v8 ev8
      refine x_istore_n (pc := 31) (i := 2) (ls2 := [(2, .int v8), (0, .ref (ad 193)), (1, .int a1), (3, .int a3)]) C dX7_waits_31 rfl (by decide) rfl ?_
      refine x_iinc (pc := 32) (i := 3) (v := (a3 + 1)) (ls2 := [(3, .int (a3 + 1)), (2, .int v8), (0, .ref (ad 193)), (1, .int a1)]) C 3 dX7_waits_32 rfl rfl (by decide) rfl ?_
      refine x_goto (pc := 35) (tgt := 20) C dX7_waits_35 (by decide) ?_
      refine x_sub [2, 3, 1, 0] (ls2 := [(0, .ref (ad 193)), (1, .int a1), (2, .int v8), (3, .int (a3 + 1))]) rfl ?_
      exact ih z7.2 a1 v8 (a3 + 1) R0 hR hok k
set_option maxHeartbeats 4000000 in
set_option maxRecDepth 100000 in
theorem c_X7_waits {l : Launch} {A : Nat → Prop} {G : GT} {ad : Nat → Nat} (gl : Gl l A ad)  (B : StB) (M : StM) (O : StO) (x0 : Int32) (hok : ok_X7_waits M x0) : Met l yX7_waits (wof yX7_waits cX7_waits 4 (some .int)) (rmd 8 0 0) (va_Pc [.ref (ad 193), .int x0] (PW G A ad B M O)) (QI G A ad (f_X7_waits M x0).1 B (f_X7_waits M x0).2 O) 0 0 A := by
  refine x_body (own := RX7) (by decide +kernel) rfl gl (Nat.le_of_ble_eq_true rfl) (ls := [(0, .ref (ad 193)), (1, .int x0)]) rfl ?_
  intro p0 e s m args below meth c C
  have hR : (f_X7_waits M x0) = (nm (f_X7_isIn x0 1 60) (fun (r1 : Int32) => (nm (f_X7_goes M r1) (fun (z3 : Int32 × StM) => (if z3.1 = 0 then (0, z3.2) else (nm (f_X7_waits_L20 fu z3.2 x0 0 0) (fun (z9 : Int32 × StM) => (z9.1, z9.2)))))))) := rfl
  have hok : (∀ r1 : Int32, r1 = (f_X7_isIn x0 1 60) → ((ok_X7_goes M r1) ∧ (∀ z3 : Int32 × StM, z3 = (f_X7_goes M r1) → ((z3.1 = 0 → True) ∧ (¬ z3.1 = 0 → (ok_X7_waits_L20 fu z3.2 x0 0 0)))))) := hok
  refine x_aload_n (pc := 0) (i := 0) C 0 dX7_waits_0 rfl rfl ?_
  refine x_iload_n (pc := 1) (i := 1) C 1 dX7_waits_1 rfl rfl ?_
  refine x_iconst (pc := 2) (v := 1) C dX7_waits_2 (by decide) ?_
  refine x_bipush (pc := 3) (v := 60) C dX7_waits_3 (by decide) ?_
  refine x_cIS (pc := 5) (as := [.int x0, .int 1, .int 60]) C (c_X7_isIn C.2.2.2.2.2.2.2.1  B M O x0 1 60) wd_7_91 cd_X7_isIn wd_7_90 ⟨Nat.le_of_ble_eq_true rfl, Nat.le_of_ble_eq_true rfl⟩ ⟨Nat.le_of_ble_eq_true rfl, Nat.le_of_ble_eq_true rfl⟩ rfl rfl (Nat.le_of_ble_eq_true rfl) dX7_waits_5 ?_
  refine x_nmI (fun r1 er1 => ?_)
  have hR := nmE hR er1
  have hok := hok r1 er1
  have h2 := hok.1
  have hok := hok.2
  refine x_cIV (pc := 8) (as := [.int r1]) (q := 193) C (c_X7_goes C.2.2.2.2.2.2.2.1  B M O r1 h2) (fs := _) e_M rfl cv_X7_goes cd_X7_goes wd_7_59 ⟨Nat.le_of_ble_eq_true rfl, Nat.le_of_ble_eq_true rfl⟩ ⟨Nat.le_of_ble_eq_true rfl, Nat.le_of_ble_eq_true rfl⟩ rfl rfl (Nat.le_of_ble_eq_true rfl) dX7_waits_8 ?_
  refine x_nmIM (fun z3 ez3 => ?_)
  have hR := nmE hR ez3
  have hok := hok z3 ez3
  refine x_if_ne (pc := 11) (tgt := 16) C dX7_waits_11 (by decide) (fun c4 => ?_) (fun c4 => ?_)
  · have hR := hR.trans (if_neg c4)
    have hok := hok.2 c4
    refine x_iconst (pc := 16) (v := 0) C dX7_waits_16 (by decide) ?_
    refine x_istore_n (pc := 17) (i := 2) (ls2 := [(2, .int 0), (0, .ref (ad 193)), (1, .int x0)]) C dX7_waits_17 rfl (by decide) rfl ?_
    refine x_iconst (pc := 18) (v := 0) C dX7_waits_18 (by decide) ?_
    refine x_istore_n (pc := 19) (i := 3) (ls2 := [(3, .int 0), (2, .int 0), (0, .ref (ad 193)), (1, .int x0)]) C dX7_waits_19 rfl (by decide) rfl ?_
    refine x_sub [2, 3, 1, 0] (ls2 := [(0, .ref (ad 193)), (1, .int x0), (2, .int 0), (3, .int 0)]) rfl ?_
    obtain ⟨z9, ez9⟩ : ∃ z : Int32 × StM, z = f_X7_waits_L20 fu z3.2 x0 0 0 := ⟨_, rfl⟩
    refine t_X7_waits_L20 C fu z3.2 x0 0 0 B O z9 ez9 hok ?_
    have hR := nmE hR ez9
    refine x_iload_n (pc := 38) (i := 2) C 0 dX7_waits_38 rfl rfl ?_
    exact x_iretM (pc := 39) C rfl hR dX7_waits_39
  · have hR := hR.trans (if_pos c4)
    refine x_iconst (pc := 14) (v := 0) C dX7_waits_14 (by decide) ?_
    exact x_iretM (pc := 15) C rfl hR dX7_waits_15
set_option maxHeartbeats 4000000 in
set_option maxRecDepth 100000 in
theorem t_X7_balanceAfter_L38 {p0 : Program} {l : Launch} {e : Env} {s : State} {m : MethodId} {args : Array Value} {below : List Frame} {meth : Method} {c : Code} {A : Nat → Prop} {G : GT} {ad : Nat → Nat} {Q : State → Prop} (C : CX p0 l s m args meth c A G ad cX7_balanceAfter RX7 5 (some .int))    (n : Nat) (M : StM) (a1 : Int32) (a2 : Int32) (a3 : Int32) (B : StB) (O : StO) : ∀ (R0 : StM) (hR : R0 = f_X7_balanceAfter_L38 n M a1 a2 a3) (hok : ok_X7_balanceAfter_L38 n M a1 a2 a3) (k : X p0 l e (rmd 8 0 0) s m args below meth c A G ad 5 0 0 Q B R0 O [(0, .ref (ad 193)), (1, .int a1)] 55 []), X p0 l e (rmd 8 0 0) s m args below meth c A G ad 5 0 0 Q B M O [(0, .ref (ad 193)), (1, .int a1), (2, .int a2), (3, .int a3)] 38 [] := by
  induction n generalizing M a1 a2 a3 with
  | zero => intro R0 hR hok k; exact False.elim hok
  | succ n ih =>
    intro R0 hR hok k
    have hR : R0 = (if a2 ≤ a3 then M else (nm (f_X7_closesDay M) (fun (z10 : Int32 × StM) => (f_X7_balanceAfter_L38 n z10.2 a1 a2 (a3 + 1))))) := hR
    have hok : ((a2 ≤ a3 → True) ∧ (¬ a2 ≤ a3 → ((ok_X7_closesDay M) ∧ (∀ z10 : Int32 × StM, z10 = (f_X7_closesDay M) → (ok_X7_balanceAfter_L38 n z10.2 a1 a2 (a3 + 1)))))) := hok
    refine x_iload_n (pc := 38) (i := 3) C 3 dX7_balanceAfter_38 rfl rfl ?_
    refine x_iload_n (pc := 39) (i := 2) C 2 dX7_balanceAfter_39 rfl rfl ?_
    refine x_icmp_ge (pc := 40) (tgt := 55) C dX7_balanceAfter_40 (by decide) (fun c8 => ?_) (fun c8 => ?_)
    · have hR := hR.trans (if_pos c8)
      refine x_sub [0, 1] (ls2 := [(0, .ref (ad 193)), (1, .int a1)]) rfl ?_
      subst hR
      exact k
    · have hR := hR.trans (if_neg c8)
      have hok := hok.2 c8
      refine x_aload_n (pc := 43) (i := 0) C 0 dX7_balanceAfter_43 rfl rfl ?_
      have h9 := hok.1
      have hok := hok.2
      refine x_cIV (pc := 44) (as := []) (q := 193) C (c_X7_closesDay C.2.2.2.2.2.2.2.1  B M O  h9) (fs := _) e_M rfl cv_X7_closesDay cd_X7_closesDay wd_7_184 ⟨Nat.le_of_ble_eq_true rfl, Nat.le_of_ble_eq_true rfl⟩ ⟨Nat.le_of_ble_eq_true rfl, Nat.le_of_ble_eq_true rfl⟩ rfl rfl (Nat.le_of_ble_eq_true rfl) dX7_balanceAfter_44 ?_
      refine x_nmIM (fun z10 ez10 => ?_)
      have hR := nmE hR ez10
      have hok := hok z10 ez10
      refine x_istore (pc := 47) (i := 4) (ls2 := [(4, .int z10.1), (0, .ref (ad 193)), (1, .int a1), (2, .int a2), (3, .int a3)]) C dX7_balanceAfter_47 (by decide) rfl ?_
      refine x_iinc (pc := 49) (i := 3) (v := (a3 + 1)) (ls2 := [(3, .int (a3 + 1)), (4, .int z10.1), (0, .ref (ad 193)), (1, .int a1), (2, .int a2)]) C 4 dX7_balanceAfter_49 rfl rfl (by decide) rfl ?_
      refine x_goto (pc := 52) (tgt := 38) C dX7_balanceAfter_52 (by decide) ?_
      refine x_sub [2, 3, 4, 0] (ls2 := [(0, .ref (ad 193)), (1, .int a1), (2, .int a2), (3, .int (a3 + 1))]) rfl ?_
      exact ih z10.2 a1 a2 (a3 + 1) R0 hR hok k
set_option maxHeartbeats 4000000 in
set_option maxRecDepth 100000 in
theorem c_X7_balanceAfter {l : Launch} {A : Nat → Prop} {G : GT} {ad : Nat → Nat} (gl : Gl l A ad)  (B : StB) (M : StM) (O : StO) (x0 : Int32) (x1 : Int32) (hok : ok_X7_balanceAfter M x0 x1) : Met l yX7_balanceAfter (wof yX7_balanceAfter cX7_balanceAfter 5 (some .int)) (rmd 8 0 0) (va_Pc [.ref (ad 193), .int x0, .int x1] (PW G A ad B M O)) (QI G A ad (f_X7_balanceAfter M x0 x1).1 B (f_X7_balanceAfter M x0 x1).2 O) 0 0 A := by
  refine x_body (own := RX7) (by decide +kernel) rfl gl (Nat.le_of_ble_eq_true rfl) (ls := [(0, .ref (ad 193)), (1, .int x0), (2, .int x1)]) rfl ?_
  intro p0 e s m args below meth c C
  have hR : (f_X7_balanceAfter M x0 x1) = (nm (f_X7_isAccount M x0) (fun (r2 : Int32) => (nm (f_X7_isIn x1 0 60) (fun (r3 : Int32) => (nm (f_X7_holds M r2 r3 1 1) (fun (z4 : Int32 × StM) => (if z4.1 = 0 then (0, z4.2) else (nm (f_X7_copies_M0_M2 z4.2 0 0) (fun (M7 : StM) => (nm (f_X7_balanceAfter_L38 fu M7 x0 x1 0) (fun (z11 : StM) => (nm (f_X7_of z11 x0 1) (fun (r13 : Int32) => (nm (f_X7_copies_M2_M0 z11 0 0) (fun (M15 : StM) => (r13, M15)))))))))))))))) := rfl
  have hok : ((ok_X7_isAccount M x0) ∧ (∀ r2 : Int32, r2 = (f_X7_isAccount M x0) → (∀ r3 : Int32, r3 = (f_X7_isIn x1 0 60) → (∀ z4 : Int32 × StM, z4 = (f_X7_holds M r2 r3 1 1) → ((z4.1 = 0 → True) ∧ (¬ z4.1 = 0 → ((ok_X7_copies_M0_M2 z4.2 0 0) ∧ (∀ M7 : StM, M7 = (f_X7_copies_M0_M2 z4.2 0 0) → ((ok_X7_balanceAfter_L38 fu M7 x0 x1 0) ∧ ∀ z11 : StM, z11 = f_X7_balanceAfter_L38 fu M7 x0 x1 0 → ((ok_X7_of z11 x0 1) ∧ (∀ r13 : Int32, r13 = (f_X7_of z11 x0 1) → ((ok_X7_copies_M2_M0 z11 0 0))))))))))))) := hok
  refine x_aload_n (pc := 0) (i := 0) C 0 dX7_balanceAfter_0 rfl rfl ?_
  refine x_aload_n (pc := 1) (i := 0) C 0 dX7_balanceAfter_1 rfl rfl ?_
  refine x_iload_n (pc := 2) (i := 1) C 1 dX7_balanceAfter_2 rfl rfl ?_
  have h1 := hok.1
  have hok := hok.2
  refine x_cIV (pc := 3) (as := [.int x0]) (q := 193) C (c_X7_isAccount C.2.2.2.2.2.2.2.1  B M O x0 h1) (fs := _) e_M rfl cv_X7_isAccount cd_X7_isAccount wd_7_115 ⟨Nat.le_of_ble_eq_true rfl, Nat.le_of_ble_eq_true rfl⟩ ⟨Nat.le_of_ble_eq_true rfl, Nat.le_of_ble_eq_true rfl⟩ rfl rfl (Nat.le_of_ble_eq_true rfl) dX7_balanceAfter_3 ?_
  refine x_nmI (fun r2 er2 => ?_)
  have hR := nmE hR er2
  have hok := hok r2 er2
  refine x_iload_n (pc := 6) (i := 2) C 2 dX7_balanceAfter_6 rfl rfl ?_
  refine x_iconst (pc := 7) (v := 0) C dX7_balanceAfter_7 (by decide) ?_
  refine x_bipush (pc := 8) (v := 60) C dX7_balanceAfter_8 (by decide) ?_
  refine x_cIS (pc := 10) (as := [.int x1, .int 0, .int 60]) C (c_X7_isIn C.2.2.2.2.2.2.2.1  B M O x1 0 60) wd_7_91 cd_X7_isIn wd_7_90 ⟨Nat.le_of_ble_eq_true rfl, Nat.le_of_ble_eq_true rfl⟩ ⟨Nat.le_of_ble_eq_true rfl, Nat.le_of_ble_eq_true rfl⟩ rfl rfl (Nat.le_of_ble_eq_true rfl) dX7_balanceAfter_10 ?_
  refine x_nmI (fun r3 er3 => ?_)
  have hR := nmE hR er3
  have hok := hok r3 er3
  refine x_iconst (pc := 13) (v := 1) C dX7_balanceAfter_13 (by decide) ?_
  refine x_iconst (pc := 14) (v := 1) C dX7_balanceAfter_14 (by decide) ?_
  refine x_cIV (pc := 15) (as := [.int r2, .int r3, .int 1, .int 1]) (q := 193) C (c_X7_holds C.2.2.2.2.2.2.2.1  B M O r2 r3 1 1) (fs := _) e_M rfl cv_X7_holds cd_X7_holds wd_7_63 ⟨Nat.le_of_ble_eq_true rfl, Nat.le_of_ble_eq_true rfl⟩ ⟨Nat.le_of_ble_eq_true rfl, Nat.le_of_ble_eq_true rfl⟩ rfl rfl (Nat.le_of_ble_eq_true rfl) dX7_balanceAfter_15 ?_
  refine x_nmIM (fun z4 ez4 => ?_)
  have hR := nmE hR ez4
  have hok := hok z4 ez4
  refine x_if_ne (pc := 18) (tgt := 23) C dX7_balanceAfter_18 (by decide) (fun c5 => ?_) (fun c5 => ?_)
  · have hR := hR.trans (if_neg c5)
    have hok := hok.2 c5
    refine x_aload_n (pc := 23) (i := 0) C 0 dX7_balanceAfter_23 rfl rfl ?_
    refine x_get (pc := 24) (q := 193) (i := 0) C e_M rfl ttX7 (by decide) wd_6_227 rfl dX7_balanceAfter_24 ?_
    refine x_iconst (pc := 27) (v := 0) C dX7_balanceAfter_27 (by decide) ?_
    refine x_aload_n (pc := 28) (i := 0) C 0 dX7_balanceAfter_28 rfl rfl ?_
    refine x_get (pc := 29) (q := 193) (i := 2) C e_M rfl ttX7 (by decide) wd_6_229 rfl dX7_balanceAfter_29 ?_
    refine x_iconst (pc := 32) (v := 0) C dX7_balanceAfter_32 (by decide) ?_
    have h6 := hok.1
    have hok := hok.2
    refine x_cVS (pc := 33) (as := [.ref (ad 194), .int 0, .ref (ad 196), .int 0]) C (c_X7_copies_M0_M2 C.2.2.2.2.2.2.2.1  B z4.2 O 0 0 h6) wd_7_68 cd_X7_copies wd_7_67 ⟨Nat.le_of_ble_eq_true rfl, Nat.le_of_ble_eq_true rfl⟩ ⟨Nat.le_of_ble_eq_true rfl, Nat.le_of_ble_eq_true rfl⟩ rfl rfl (Nat.le_of_ble_eq_true rfl) dX7_balanceAfter_33 ?_
    refine x_nmM (fun M7 eM7 => ?_)
    have hR := nmE hR eM7
    have hok := hok M7 eM7
    refine x_iconst (pc := 36) (v := 0) C dX7_balanceAfter_36 (by decide) ?_
    refine x_istore_n (pc := 37) (i := 3) (ls2 := [(3, .int 0), (0, .ref (ad 193)), (1, .int x0), (2, .int x1)]) C dX7_balanceAfter_37 rfl (by decide) rfl ?_
    refine x_sub [1, 2, 3, 0] (ls2 := [(0, .ref (ad 193)), (1, .int x0), (2, .int x1), (3, .int 0)]) rfl ?_
    obtain ⟨z11, ez11⟩ : ∃ z : StM, z = f_X7_balanceAfter_L38 fu M7 x0 x1 0 := ⟨_, rfl⟩
    refine t_X7_balanceAfter_L38 C fu M7 x0 x1 0 B O z11 ez11 hok.1 ?_
    have hR := nmE hR ez11
    have hok := hok.2 z11 ez11
    refine x_aload_n (pc := 55) (i := 0) C 0 dX7_balanceAfter_55 rfl rfl ?_
    refine x_iload_n (pc := 56) (i := 1) C 1 dX7_balanceAfter_56 rfl rfl ?_
    refine x_iconst (pc := 57) (v := 1) C dX7_balanceAfter_57 (by decide) ?_
    have h12 := hok.1
    have hok := hok.2
    refine x_cIV (pc := 58) (as := [.int x0, .int 1]) (q := 193) C (c_X7_of C.2.2.2.2.2.2.2.1  B z11 O x0 1 h12) (fs := _) e_M rfl cv_X7_of cd_X7_of wd_7_119 ⟨Nat.le_of_ble_eq_true rfl, Nat.le_of_ble_eq_true rfl⟩ ⟨Nat.le_of_ble_eq_true rfl, Nat.le_of_ble_eq_true rfl⟩ rfl rfl (Nat.le_of_ble_eq_true rfl) dX7_balanceAfter_58 ?_
    refine x_nmI (fun r13 er13 => ?_)
    have hR := nmE hR er13
    have hok := hok r13 er13
    refine x_istore_n (pc := 61) (i := 3) (ls2 := [(3, .int r13), (0, .ref (ad 193)), (1, .int x0)]) C dX7_balanceAfter_61 rfl (by decide) rfl ?_
    refine x_aload_n (pc := 62) (i := 0) C 1 dX7_balanceAfter_62 rfl rfl ?_
    refine x_get (pc := 63) (q := 193) (i := 2) C e_M rfl ttX7 (by decide) wd_6_229 rfl dX7_balanceAfter_63 ?_
    refine x_iconst (pc := 66) (v := 0) C dX7_balanceAfter_66 (by decide) ?_
    refine x_aload_n (pc := 67) (i := 0) C 1 dX7_balanceAfter_67 rfl rfl ?_
    refine x_get (pc := 68) (q := 193) (i := 0) C e_M rfl ttX7 (by decide) wd_6_227 rfl dX7_balanceAfter_68 ?_
    refine x_iconst (pc := 71) (v := 0) C dX7_balanceAfter_71 (by decide) ?_
    have h14 := hok
    refine x_cVS (pc := 72) (as := [.ref (ad 196), .int 0, .ref (ad 194), .int 0]) C (c_X7_copies_M2_M0 C.2.2.2.2.2.2.2.1  B z11 O 0 0 h14) wd_7_68 cd_X7_copies wd_7_67 ⟨Nat.le_of_ble_eq_true rfl, Nat.le_of_ble_eq_true rfl⟩ ⟨Nat.le_of_ble_eq_true rfl, Nat.le_of_ble_eq_true rfl⟩ rfl rfl (Nat.le_of_ble_eq_true rfl) dX7_balanceAfter_72 ?_
    refine x_nmM (fun M15 eM15 => ?_)
    have hR := nmE hR eM15
    refine x_iload_n (pc := 75) (i := 3) C 0 dX7_balanceAfter_75 rfl rfl ?_
    exact x_iretM (pc := 76) C rfl hR dX7_balanceAfter_76
  · have hR := hR.trans (if_pos c5)
    refine x_iconst (pc := 21) (v := 0) C dX7_balanceAfter_21 (by decide) ?_
    exact x_iretM (pc := 22) C rfl hR dX7_balanceAfter_22
set_option maxHeartbeats 4000000 in
set_option maxRecDepth 100000 in
theorem t_X7_wouldBounce_L46 {p0 : Program} {l : Launch} {e : Env} {s : State} {m : MethodId} {args : Array Value} {below : List Frame} {meth : Method} {c : Code} {A : Nat → Prop} {G : GT} {ad : Nat → Nat} {Q : State → Prop} (C : CX p0 l s m args meth c A G ad cX7_wouldBounce RX7 3 (some .boolean))    (n : Nat) (M : StM) (a1 : Int32) (B : StB) (O : StO) : ∀ (R0 : StM) (hR : R0 = f_X7_wouldBounce_L46 n M a1) (hok : ok_X7_wouldBounce_L46 n M a1) (k : X p0 l e (rmd 8 0 0) s m args below meth c A G ad 3 0 0 Q B R0 O [(0, .ref (ad 193))] 63 []), X p0 l e (rmd 8 0 0) s m args below meth c A G ad 3 0 0 Q B M O [(0, .ref (ad 193)), (1, .int a1)] 46 [] := by
  induction n generalizing M a1 with
  | zero => intro R0 hR hok k; exact False.elim hok
  | succ n ih =>
    intro R0 hR hok k
    have hR : R0 = (nm (f_X7_find M a1) (fun (r12 : Int32) => (if r12 = (-1) then M else (nm (f_X7_closesDay M) (fun (z15 : Int32 × StM) => (f_X7_wouldBounce_L46 n z15.2 a1)))))) := hR
    have hok : ((ok_X7_find M a1) ∧ (∀ r12 : Int32, r12 = (f_X7_find M a1) → ((r12 = (-1) → True) ∧ (¬ r12 = (-1) → ((ok_X7_closesDay M) ∧ (∀ z15 : Int32 × StM, z15 = (f_X7_closesDay M) → (ok_X7_wouldBounce_L46 n z15.2 a1))))))) := hok
    refine x_aload_n (pc := 46) (i := 0) C 0 dX7_wouldBounce_46 rfl rfl ?_
    refine x_iload_n (pc := 47) (i := 1) C 1 dX7_wouldBounce_47 rfl rfl ?_
    have h11 := hok.1
    have hok := hok.2
    refine x_cIV (pc := 48) (as := [.int a1]) (q := 193) C (c_X7_find C.2.2.2.2.2.2.2.1  B M O a1 h11) (fs := _) e_M rfl cv_X7_find cd_X7_find wd_7_164 ⟨Nat.le_of_ble_eq_true rfl, Nat.le_of_ble_eq_true rfl⟩ ⟨Nat.le_of_ble_eq_true rfl, Nat.le_of_ble_eq_true rfl⟩ rfl rfl (Nat.le_of_ble_eq_true rfl) dX7_wouldBounce_48 ?_
    refine x_nmI (fun r12 er12 => ?_)
    have hR := nmE hR er12
    have hok := hok r12 er12
    refine x_iconst (pc := 51) (v := (-1)) C dX7_wouldBounce_51 (by decide) ?_
    refine x_icmp_eq (pc := 52) (tgt := 63) C dX7_wouldBounce_52 (by decide) (fun c13 => ?_) (fun c13 => ?_)
    · have hR := hR.trans (if_pos c13)
      refine x_sub [0] (ls2 := [(0, .ref (ad 193))]) rfl ?_
      subst hR
      exact k
    · have hR := hR.trans (if_neg c13)
      have hok := hok.2 c13
      refine x_aload_n (pc := 55) (i := 0) C 0 dX7_wouldBounce_55 rfl rfl ?_
      have h14 := hok.1
      have hok := hok.2
      refine x_cIV (pc := 56) (as := []) (q := 193) C (c_X7_closesDay C.2.2.2.2.2.2.2.1  B M O  h14) (fs := _) e_M rfl cv_X7_closesDay cd_X7_closesDay wd_7_184 ⟨Nat.le_of_ble_eq_true rfl, Nat.le_of_ble_eq_true rfl⟩ ⟨Nat.le_of_ble_eq_true rfl, Nat.le_of_ble_eq_true rfl⟩ rfl rfl (Nat.le_of_ble_eq_true rfl) dX7_wouldBounce_56 ?_
      refine x_nmIM (fun z15 ez15 => ?_)
      have hR := nmE hR ez15
      have hok := hok z15 ez15
      refine x_istore_n (pc := 59) (i := 2) (ls2 := [(2, .int z15.1), (0, .ref (ad 193)), (1, .int a1)]) C dX7_wouldBounce_59 rfl (by decide) rfl ?_
      refine x_goto (pc := 60) (tgt := 46) C dX7_wouldBounce_60 (by decide) ?_
      refine x_sub [1, 2] (ls2 := [(0, .ref (ad 193)), (1, .int a1)]) rfl ?_
      exact ih z15.2 a1 R0 hR hok k
set_option maxHeartbeats 4000000 in
set_option maxRecDepth 100000 in
theorem t_X7_wouldBounce_J15 {p0 : Program} {l : Launch} {e : Env} {s : State} {m : MethodId} {args : Array Value} {below : List Frame} {meth : Method} {c : Code} {A : Nat → Prop} {G : GT} {ad : Nat → Nat} (C : CX p0 l s m args meth c A G ad cX7_wouldBounce RX7 3 (some .boolean))  (M : StM) (a1 : Int32) (s0 : Int32) (B : StB) (O : StO) (R0 : Int32 × StM) (hR : R0 = f_X7_wouldBounce_J15 M a1 s0) (hok : ok_X7_wouldBounce_J15 M a1 s0) : X p0 l e (rmd 8 0 0) s m args below meth c A G ad 3 0 0 (MQ below (QI G A ad R0.1 B R0.2 O) args s 0 0 A) B M O [(0, .ref (ad 193)), (1, .int a1)] 15 [.int s0, .ref (ad 193)] := by
  have hR : R0 = (nm (f_X7_goes M s0) (fun (z5 : Int32 × StM) => (if z5.1 = 0 then (0, z5.2) else (nm (f_X7_copies_M0_M2 z5.2 0 0) (fun (M8 : StM) => (nm (smi M8 9 a1) (fun (M9 : StM) => (nm (smi M9 10 0) (fun (M10 : StM) => (nm (f_X7_wouldBounce_L46 fu M10 a1) (fun (z16 : StM) => (nm (smi z16 9 (-1)) (fun (M17 : StM) => (nm (f_X7_copies_M2_M0 M17 0 0) (fun (M19 : StM) => ((mi M19 10), M19)))))))))))))))) := hR
  have hok : ((ok_X7_goes M s0) ∧ (∀ z5 : Int32 × StM, z5 = (f_X7_goes M s0) → ((z5.1 = 0 → True) ∧ (¬ z5.1 = 0 → ((ok_X7_copies_M0_M2 z5.2 0 0) ∧ (∀ M8 : StM, M8 = (f_X7_copies_M0_M2 z5.2 0 0) → (∀ M9 : StM, M9 = (smi M8 9 a1) → (∀ M10 : StM, M10 = (smi M9 10 0) → ((ok_X7_wouldBounce_L46 fu M10 a1) ∧ ∀ z16 : StM, z16 = f_X7_wouldBounce_L46 fu M10 a1 → (∀ M17 : StM, M17 = (smi z16 9 (-1)) → ((ok_X7_copies_M2_M0 M17 0 0) ∧ (∀ M19 : StM, M19 = (f_X7_copies_M2_M0 M17 0 0) → (narrow .boolean (.int (mi M19 10)) = .int (mi M19 10)))))))))))))) := hok
  have h4 := hok.1
  have hok := hok.2
  refine x_cIV (pc := 15) (as := [.int s0]) (q := 193) C (c_X7_goes C.2.2.2.2.2.2.2.1  B M O s0 h4) (fs := _) e_M rfl cv_X7_goes cd_X7_goes wd_7_59 ⟨Nat.le_of_ble_eq_true rfl, Nat.le_of_ble_eq_true rfl⟩ ⟨Nat.le_of_ble_eq_true rfl, Nat.le_of_ble_eq_true rfl⟩ rfl rfl (Nat.le_of_ble_eq_true rfl) dX7_wouldBounce_15 ?_
  refine x_nmIM (fun z5 ez5 => ?_)
  have hR := nmE hR ez5
  have hok := hok z5 ez5
  refine x_if_ne (pc := 18) (tgt := 23) C dX7_wouldBounce_18 (by decide) (fun c6 => ?_) (fun c6 => ?_)
  · have hR := hR.trans (if_neg c6)
    have hok := hok.2 c6
    refine x_aload_n (pc := 23) (i := 0) C 0 dX7_wouldBounce_23 rfl rfl ?_
    refine x_get (pc := 24) (q := 193) (i := 0) C e_M rfl ttX7 (by decide) wd_6_227 rfl dX7_wouldBounce_24 ?_
    refine x_iconst (pc := 27) (v := 0) C dX7_wouldBounce_27 (by decide) ?_
    refine x_aload_n (pc := 28) (i := 0) C 0 dX7_wouldBounce_28 rfl rfl ?_
    refine x_get (pc := 29) (q := 193) (i := 2) C e_M rfl ttX7 (by decide) wd_6_229 rfl dX7_wouldBounce_29 ?_
    refine x_iconst (pc := 32) (v := 0) C dX7_wouldBounce_32 (by decide) ?_
    have h7 := hok.1
    have hok := hok.2
    refine x_cVS (pc := 33) (as := [.ref (ad 194), .int 0, .ref (ad 196), .int 0]) C (c_X7_copies_M0_M2 C.2.2.2.2.2.2.2.1  B z5.2 O 0 0 h7) wd_7_68 cd_X7_copies wd_7_67 ⟨Nat.le_of_ble_eq_true rfl, Nat.le_of_ble_eq_true rfl⟩ ⟨Nat.le_of_ble_eq_true rfl, Nat.le_of_ble_eq_true rfl⟩ rfl rfl (Nat.le_of_ble_eq_true rfl) dX7_wouldBounce_33 ?_
    refine x_nmM (fun M8 eM8 => ?_)
    have hR := nmE hR eM8
    have hok := hok M8 eM8
    refine x_aload_n (pc := 36) (i := 0) C 0 dX7_wouldBounce_36 rfl rfl ?_
    refine x_iload_n (pc := 37) (i := 1) C 1 dX7_wouldBounce_37 rfl rfl ?_
    refine x_put (pc := 38) (M2 := (smi M8 9 a1)) (B2 := B) (O2 := O) (q := 193) (i := 9) C tyX7 tyX7_ok nmX7 e_M rfl ttX7 (by decide) wd_6_236 rfl rfl rfl (Nat.le_of_ble_eq_true rfl) dX7_wouldBounce_38 (put_M_9 ) (o_smi 9 a1) ?_
    refine x_nmM (fun M9 eM9 => ?_)
    have hR := nmE hR eM9
    have hok := hok M9 eM9
    refine x_aload_n (pc := 41) (i := 0) C 0 dX7_wouldBounce_41 rfl rfl ?_
    refine x_iconst (pc := 42) (v := 0) C dX7_wouldBounce_42 (by decide) ?_
    refine x_put (pc := 43) (M2 := (smi M9 10 0)) (B2 := B) (O2 := O) (q := 193) (i := 10) C tyX7 tyX7_ok nmX7 e_M rfl ttX7 (by decide) wd_6_237 rfl (by decide) (by decide) (Nat.le_of_ble_eq_true rfl) dX7_wouldBounce_43 (put_M_10 ) (o_smi 10 0) ?_
    refine x_nmM (fun M10 eM10 => ?_)
    have hR := nmE hR eM10
    have hok := hok M10 eM10
    refine x_sub [0, 1] (ls2 := [(0, .ref (ad 193)), (1, .int a1)]) rfl ?_
    obtain ⟨z16, ez16⟩ : ∃ z : StM, z = f_X7_wouldBounce_L46 fu M10 a1 := ⟨_, rfl⟩
    refine t_X7_wouldBounce_L46 C fu M10 a1 B O z16 ez16 hok.1 ?_
    have hR := nmE hR ez16
    have hok := hok.2 z16 ez16
    refine x_aload_n (pc := 63) (i := 0) C 0 dX7_wouldBounce_63 rfl rfl ?_
    refine x_iconst (pc := 64) (v := (-1)) C dX7_wouldBounce_64 (by decide) ?_
    refine x_put (pc := 65) (M2 := (smi z16 9 (-1))) (B2 := B) (O2 := O) (q := 193) (i := 9) C tyX7 tyX7_ok nmX7 e_M rfl ttX7 (by decide) wd_6_236 rfl rfl rfl (Nat.le_of_ble_eq_true rfl) dX7_wouldBounce_65 (put_M_9 ) (o_smi 9 (-1)) ?_
    refine x_nmM (fun M17 eM17 => ?_)
    have hR := nmE hR eM17
    have hok := hok M17 eM17
    refine x_aload_n (pc := 68) (i := 0) C 0 dX7_wouldBounce_68 rfl rfl ?_
    refine x_get (pc := 69) (q := 193) (i := 2) C e_M rfl ttX7 (by decide) wd_6_229 rfl dX7_wouldBounce_69 ?_
    refine x_iconst (pc := 72) (v := 0) C dX7_wouldBounce_72 (by decide) ?_
    refine x_aload_n (pc := 73) (i := 0) C 0 dX7_wouldBounce_73 rfl rfl ?_
    refine x_get (pc := 74) (q := 193) (i := 0) C e_M rfl ttX7 (by decide) wd_6_227 rfl dX7_wouldBounce_74 ?_
    refine x_iconst (pc := 77) (v := 0) C dX7_wouldBounce_77 (by decide) ?_
    have h18 := hok.1
    have hok := hok.2
    refine x_cVS (pc := 78) (as := [.ref (ad 196), .int 0, .ref (ad 194), .int 0]) C (c_X7_copies_M2_M0 C.2.2.2.2.2.2.2.1  B M17 O 0 0 h18) wd_7_68 cd_X7_copies wd_7_67 ⟨Nat.le_of_ble_eq_true rfl, Nat.le_of_ble_eq_true rfl⟩ ⟨Nat.le_of_ble_eq_true rfl, Nat.le_of_ble_eq_true rfl⟩ rfl rfl (Nat.le_of_ble_eq_true rfl) dX7_wouldBounce_78 ?_
    refine x_nmM (fun M19 eM19 => ?_)
    have hR := nmE hR eM19
    have hok := hok M19 eM19
    refine x_aload_n (pc := 81) (i := 0) C 0 dX7_wouldBounce_81 rfl rfl ?_
    refine x_get (pc := 82) (q := 193) (i := 10) C e_M rfl ttX7 (by decide) wd_6_237 rfl dX7_wouldBounce_82 ?_
    have h20 := hok
    exact x_zretM (pc := 85) C rfl h20 hR dX7_wouldBounce_85
  · have hR := hR.trans (if_pos c6)
    refine x_iconst (pc := 21) (v := 0) C dX7_wouldBounce_21 (by decide) ?_
    exact x_zretM (pc := 22) C rfl (by decide) hR dX7_wouldBounce_22
set_option maxHeartbeats 4000000 in
set_option maxRecDepth 100000 in
theorem c_X7_wouldBounce {l : Launch} {A : Nat → Prop} {G : GT} {ad : Nat → Nat} (gl : Gl l A ad)  (B : StB) (M : StM) (O : StO) (x0 : Int32) (hok : ok_X7_wouldBounce M x0) : Met l yX7_wouldBounce (wof yX7_wouldBounce cX7_wouldBounce 3 (some .boolean)) (rmd 8 0 0) (va_Pc [.ref (ad 193), .int x0] (PW G A ad B M O)) (QI G A ad (f_X7_wouldBounce M x0).1 B (f_X7_wouldBounce M x0).2 O) 0 0 A := by
  refine x_body (own := RX7) (by decide +kernel) rfl gl (Nat.le_of_ble_eq_true rfl) (ls := [(0, .ref (ad 193)), (1, .int x0)]) rfl ?_
  intro p0 e s m args below meth c C
  have hR : (f_X7_wouldBounce M x0) = (nm (f_X7_find M x0) (fun (r2 : Int32) => (if r2 = (-1) then (f_X7_wouldBounce_J15 M x0 0) else (f_X7_wouldBounce_J15 M x0 1)))) := rfl
  have hok : ((ok_X7_find M x0) ∧ (∀ r2 : Int32, r2 = (f_X7_find M x0) → ((r2 = (-1) → (ok_X7_wouldBounce_J15 M x0 0)) ∧ (¬ r2 = (-1) → (ok_X7_wouldBounce_J15 M x0 1))))) := hok
  refine x_aload_n (pc := 0) (i := 0) C 0 dX7_wouldBounce_0 rfl rfl ?_
  refine x_aload_n (pc := 1) (i := 0) C 0 dX7_wouldBounce_1 rfl rfl ?_
  refine x_iload_n (pc := 2) (i := 1) C 1 dX7_wouldBounce_2 rfl rfl ?_
  have h1 := hok.1
  have hok := hok.2
  refine x_cIV (pc := 3) (as := [.int x0]) (q := 193) C (c_X7_find C.2.2.2.2.2.2.2.1  B M O x0 h1) (fs := _) e_M rfl cv_X7_find cd_X7_find wd_7_164 ⟨Nat.le_of_ble_eq_true rfl, Nat.le_of_ble_eq_true rfl⟩ ⟨Nat.le_of_ble_eq_true rfl, Nat.le_of_ble_eq_true rfl⟩ rfl rfl (Nat.le_of_ble_eq_true rfl) dX7_wouldBounce_3 ?_
  refine x_nmI (fun r2 er2 => ?_)
  have hR := nmE hR er2
  have hok := hok r2 er2
  refine x_iconst (pc := 6) (v := (-1)) C dX7_wouldBounce_6 (by decide) ?_
  refine x_icmp_eq (pc := 7) (tgt := 14) C dX7_wouldBounce_7 (by decide) (fun c3 => ?_) (fun c3 => ?_)
  · have hR := hR.trans (if_pos c3)
    have hok := hok.1 c3
    refine x_iconst (pc := 14) (v := 0) C dX7_wouldBounce_14 (by decide) ?_
    refine x_sub [0, 1] (ls2 := [(0, .ref (ad 193)), (1, .int x0)]) rfl ?_
    exact t_X7_wouldBounce_J15 C M x0 0 B O _ hR hok
  · have hR := hR.trans (if_neg c3)
    have hok := hok.2 c3
    refine x_iconst (pc := 10) (v := 1) C dX7_wouldBounce_10 (by decide) ?_
    refine x_goto (pc := 11) (tgt := 15) C dX7_wouldBounce_11 (by decide) ?_
    refine x_sub [0, 1] (ls2 := [(0, .ref (ad 193)), (1, .int x0)]) rfl ?_
    exact t_X7_wouldBounce_J15 C M x0 1 B O _ hR hok
set_option maxHeartbeats 4000000 in
set_option maxRecDepth 100000 in
theorem c_X7_endDays {l : Launch} {A : Nat → Prop} {G : GT} {ad : Nat → Nat} (gl : Gl l A ad)  (B : StB) (M : StM) (O : StO) (x0 : Int32) (hok : ok_X7_endDays M x0) : Met l yX7_endDays (wof yX7_endDays cX7_endDays 2 (some .int)) (rmd 9 0 0) (va_Pc [.ref (ad 193), .int x0] (PW G A ad B M O)) (QI G A ad (f_X7_endDays M x0).1 B (f_X7_endDays M x0).2 O) 0 0 A := by
  refine x_body (own := RX7) (by decide +kernel) rfl gl (Nat.le_of_ble_eq_true rfl) (ls := [(0, .ref (ad 193)), (1, .int x0)]) rfl ?_
  intro p0 e s m args below meth c C
  have hR : (f_X7_endDays M x0) = (nm (f_X7_begins M) (fun (M2 : StM) => (nm (f_X7_waits M2 x0) (fun (z4 : Int32 × StM) => (nm (f_X7_ends z4.2 z4.1) (fun (z6 : Int32 × StM) => (z6.1, z6.2))))))) := rfl
  have hok : ((ok_X7_begins M) ∧ (∀ M2 : StM, M2 = (f_X7_begins M) → ((ok_X7_waits M2 x0) ∧ (∀ z4 : Int32 × StM, z4 = (f_X7_waits M2 x0) → ((ok_X7_ends z4.2 z4.1)))))) := hok
  refine x_aload_n (pc := 0) (i := 0) C 0 dX7_endDays_0 rfl rfl ?_
  have h1 := hok.1
  have hok := hok.2
  refine x_cVV (pc := 1) (as := []) (q := 193) C (c_X7_begins C.2.2.2.2.2.2.2.1  B M O  h1) (fs := _) e_M rfl cv_X7_begins cd_X7_begins wd_7_82 ⟨Nat.le_of_ble_eq_true rfl, Nat.le_of_ble_eq_true rfl⟩ ⟨Nat.le_of_ble_eq_true rfl, Nat.le_of_ble_eq_true rfl⟩ rfl rfl (Nat.le_of_ble_eq_true rfl) dX7_endDays_1 ?_
  refine x_nmM (fun M2 eM2 => ?_)
  have hR := nmE hR eM2
  have hok := hok M2 eM2
  refine x_aload_n (pc := 4) (i := 0) C 0 dX7_endDays_4 rfl rfl ?_
  refine x_aload_n (pc := 5) (i := 0) C 0 dX7_endDays_5 rfl rfl ?_
  refine x_iload_n (pc := 6) (i := 1) C 1 dX7_endDays_6 rfl rfl ?_
  have h3 := hok.1
  have hok := hok.2
  refine x_cIV (pc := 7) (as := [.int x0]) (q := 193) C (c_X7_waits C.2.2.2.2.2.2.2.1  B M2 O x0 h3) (fs := _) e_M rfl cv_X7_waits cd_X7_waits wd_7_180 ⟨Nat.le_of_ble_eq_true rfl, Nat.le_of_ble_eq_true rfl⟩ ⟨Nat.le_of_ble_eq_true rfl, Nat.le_of_ble_eq_true rfl⟩ rfl rfl (Nat.le_of_ble_eq_true rfl) dX7_endDays_7 ?_
  refine x_nmIM (fun z4 ez4 => ?_)
  have hR := nmE hR ez4
  have hok := hok z4 ez4
  have h5 := hok
  refine x_cIV (pc := 10) (as := [.int z4.1]) (q := 193) C (c_X7_ends C.2.2.2.2.2.2.2.1  B z4.2 O z4.1 h5) (fs := _) e_M rfl cv_X7_ends cd_X7_ends wd_7_96 ⟨Nat.le_of_ble_eq_true rfl, Nat.le_of_ble_eq_true rfl⟩ ⟨Nat.le_of_ble_eq_true rfl, Nat.le_of_ble_eq_true rfl⟩ rfl rfl (Nat.le_of_ble_eq_true rfl) dX7_endDays_10 ?_
  refine x_nmIM (fun z6 ez6 => ?_)
  have hR := nmE hR ez6
  exact x_iretM (pc := 13) C rfl hR dX7_endDays_13
set_option maxHeartbeats 4000000 in
set_option maxRecDepth 100000 in
theorem c_X7_does {l : Launch} {A : Nat → Prop} {G : GT} {ad : Nat → Nat} (gl : Gl l A ad)  (B : StB) (M : StM) (O : StO) (x0 : Int32) (hok : ok_X7_does M x0) : Met l yX7_does (wof yX7_does cX7_does 4 (some .int)) (rmd 9 0 0) (va_Pc [.ref (ad 193), .int x0] (PW G A ad B M O)) (QI G A ad (f_X7_does M x0).1 B (f_X7_does M x0).2 O) 0 0 A := by
  refine x_body (own := RX7) (by decide +kernel) rfl gl (Nat.le_of_ble_eq_true rfl) (ls := [(0, .ref (ad 193)), (1, .int x0)]) rfl ?_
  intro p0 e s m args below meth c C
  have hR : (f_X7_does M x0) = (nm (ma M 7 (ix (x0 + 1))) (fun (v2 : Int32) => (nm (ma M 7 (ix (x0 + 2))) (fun (v4 : Int32) => (if (ma M 7 (ix x0)) = 0 then (nm (f_X7_pays M v2 v4) (fun (z7 : Int32 × StM) => (z7.1, z7.2))) else (if (ma M 7 (ix x0)) = 1 then (nm (f_X7_draws M v2 v4) (fun (z9 : Int32 × StM) => (z9.1, z9.2))) else (if (ma M 7 (ix x0)) = 2 then (nm (f_X7_limits M v2 v4) (fun (z11 : Int32 × StM) => (z11.1, z11.2))) else (if (ma M 7 (ix x0)) = 3 then (nm (f_X7_seals M v2 v4 (ma M 7 (ix (x0 + 3))) (ma M 7 (ix (x0 + 4)))) (fun (z15 : Int32 × StM) => (z15.1, z15.2))) else (if (ma M 7 (ix x0)) = 4 then (nm (f_X7_voids M v2) (fun (z17 : Int32 × StM) => (z17.1, z17.2))) else (nm (f_X7_waits M v2) (fun (z19 : Int32 × StM) => (z19.1, z19.2)))))))))))) := rfl
  have hok : (vp_in (x0 + 1) 150 ∧ (∀ v2 : Int32, v2 = (ma M 7 (ix (x0 + 1))) → (vp_in (x0 + 2) 150 ∧ (∀ v4 : Int32, v4 = (ma M 7 (ix (x0 + 2))) → (vp_in x0 150 ∧ (((ma M 7 (ix x0)) = 0 → ((ok_X7_pays M v2 v4))) ∧ (¬ (ma M 7 (ix x0)) = 0 → (((ma M 7 (ix x0)) = 1 → ((ok_X7_draws M v2 v4))) ∧ (¬ (ma M 7 (ix x0)) = 1 → (((ma M 7 (ix x0)) = 2 → ((ok_X7_limits M v2 v4))) ∧ (¬ (ma M 7 (ix x0)) = 2 → (((ma M 7 (ix x0)) = 3 → (vp_in (x0 + 3) 150 ∧ (vp_in (x0 + 4) 150 ∧ ((ok_X7_seals M v2 v4 (ma M 7 (ix (x0 + 3))) (ma M 7 (ix (x0 + 4)))))))) ∧ (¬ (ma M 7 (ix x0)) = 3 → (((ma M 7 (ix x0)) = 4 → ((ok_X7_voids M v2))) ∧ (¬ (ma M 7 (ix x0)) = 4 → ((ok_X7_waits M v2))))))))))))))))) := hok
  refine x_aload_n (pc := 0) (i := 0) C 0 dX7_does_0 rfl rfl ?_
  refine x_get (pc := 1) (q := 193) (i := 20) C e_M rfl ttX7 (by decide) wd_7_7 rfl dX7_does_1 ?_
  refine x_iload_n (pc := 4) (i := 1) C 1 dX7_does_4 rfl rfl ?_
  refine x_iconst (pc := 5) (v := 1) C dX7_does_5 (by decide) ?_
  refine x_iadd (pc := 6) C dX7_does_6 ?_
  have h1 := hok.1
  have hok := hok.2
  refine x_iald (pc := 7) (q := 201) C e_M7 h1 dX7_does_7 ?_
  refine x_nmI (fun v2 ev2 => ?_)
  have hR := nmE hR ev2
  have hok := hok v2 ev2
  refine x_istore_n (pc := 8) (i := 2) (ls2 := [(2, .int v2), (0, .ref (ad 193)), (1, .int x0)]) C dX7_does_8 rfl (by decide) rfl ?_
  refine x_aload_n (pc := 9) (i := 0) C 1 dX7_does_9 rfl rfl ?_
  refine x_get (pc := 10) (q := 193) (i := 20) C e_M rfl ttX7 (by decide) wd_7_7 rfl dX7_does_10 ?_
  refine x_iload_n (pc := 13) (i := 1) C 2 dX7_does_13 rfl rfl ?_
  refine x_iconst (pc := 14) (v := 2) C dX7_does_14 (by decide) ?_
  refine x_iadd (pc := 15) C dX7_does_15 ?_
  have h3 := hok.1
  have hok := hok.2
  refine x_iald (pc := 16) (q := 201) C e_M7 h3 dX7_does_16 ?_
  refine x_nmI (fun v4 ev4 => ?_)
  have hR := nmE hR ev4
  have hok := hok v4 ev4
  refine x_istore_n (pc := 17) (i := 3) (ls2 := [(3, .int v4), (2, .int v2), (0, .ref (ad 193)), (1, .int x0)]) C dX7_does_17 rfl (by decide) rfl ?_
  refine x_aload_n (pc := 18) (i := 0) C 2 dX7_does_18 rfl rfl ?_
  refine x_get (pc := 19) (q := 193) (i := 20) C e_M rfl ttX7 (by decide) wd_7_7 rfl dX7_does_19 ?_
  refine x_iload_n (pc := 22) (i := 1) C 3 dX7_does_22 rfl rfl ?_
  have h5 := hok.1
  have hok := hok.2
  refine x_iald (pc := 23) (q := 201) C e_M7 h5 dX7_does_23 ?_
  by_cases c20_0 : (ma M 7 (ix x0)) = 0
  · have hR := hR.trans (if_pos c20_0)
    have hok := hok.1 c20_0
    refine x_tabIn (pc := 24) (tgt := 60) (off := 36) C dX7_does_24 c20_0 (by decide) (by decide) (by decide) (by decide) ?_
    refine x_aload_n (pc := 60) (i := 0) C 2 dX7_does_60 rfl rfl ?_
    refine x_iload_n (pc := 61) (i := 2) C 1 dX7_does_61 rfl rfl ?_
    refine x_iload_n (pc := 62) (i := 3) C 0 dX7_does_62 rfl rfl ?_
    have h6 := hok
    refine x_cIV (pc := 63) (as := [.int v2, .int v4]) (q := 193) C (c_X7_pays C.2.2.2.2.2.2.2.1  B M O v2 v4 h6) (fs := _) e_M rfl cv_X7_pays cd_X7_pays wd_7_108 ⟨Nat.le_of_ble_eq_true rfl, Nat.le_of_ble_eq_true rfl⟩ ⟨Nat.le_of_ble_eq_true rfl, Nat.le_of_ble_eq_true rfl⟩ rfl rfl (Nat.le_of_ble_eq_true rfl) dX7_does_63 ?_
    refine x_nmIM (fun z7 ez7 => ?_)
    have hR := nmE hR ez7
    exact x_iretM (pc := 66) C rfl hR dX7_does_66
  have hR := hR.trans (if_neg c20_0)
  have hok := hok.2 c20_0
  by_cases c20_1 : (ma M 7 (ix x0)) = 1
  · have hR := hR.trans (if_pos c20_1)
    have hok := hok.1 c20_1
    refine x_tabIn (pc := 24) (tgt := 67) (off := 43) C dX7_does_24 c20_1 (by decide) (by decide) (by decide) (by decide) ?_
    refine x_aload_n (pc := 67) (i := 0) C 2 dX7_does_67 rfl rfl ?_
    refine x_iload_n (pc := 68) (i := 2) C 1 dX7_does_68 rfl rfl ?_
    refine x_iload_n (pc := 69) (i := 3) C 0 dX7_does_69 rfl rfl ?_
    have h8 := hok
    refine x_cIV (pc := 70) (as := [.int v2, .int v4]) (q := 193) C (c_X7_draws C.2.2.2.2.2.2.2.1  B M O v2 v4 h8) (fs := _) e_M rfl cv_X7_draws cd_X7_draws wd_7_136 ⟨Nat.le_of_ble_eq_true rfl, Nat.le_of_ble_eq_true rfl⟩ ⟨Nat.le_of_ble_eq_true rfl, Nat.le_of_ble_eq_true rfl⟩ rfl rfl (Nat.le_of_ble_eq_true rfl) dX7_does_70 ?_
    refine x_nmIM (fun z9 ez9 => ?_)
    have hR := nmE hR ez9
    exact x_iretM (pc := 73) C rfl hR dX7_does_73
  have hR := hR.trans (if_neg c20_1)
  have hok := hok.2 c20_1
  by_cases c20_2 : (ma M 7 (ix x0)) = 2
  · have hR := hR.trans (if_pos c20_2)
    have hok := hok.1 c20_2
    refine x_tabIn (pc := 24) (tgt := 74) (off := 50) C dX7_does_24 c20_2 (by decide) (by decide) (by decide) (by decide) ?_
    refine x_aload_n (pc := 74) (i := 0) C 2 dX7_does_74 rfl rfl ?_
    refine x_iload_n (pc := 75) (i := 2) C 1 dX7_does_75 rfl rfl ?_
    refine x_iload_n (pc := 76) (i := 3) C 0 dX7_does_76 rfl rfl ?_
    have h10 := hok
    refine x_cIV (pc := 77) (as := [.int v2, .int v4]) (q := 193) C (c_X7_limits C.2.2.2.2.2.2.2.1  B M O v2 v4 h10) (fs := _) e_M rfl cv_X7_limits cd_X7_limits wd_7_144 ⟨Nat.le_of_ble_eq_true rfl, Nat.le_of_ble_eq_true rfl⟩ ⟨Nat.le_of_ble_eq_true rfl, Nat.le_of_ble_eq_true rfl⟩ rfl rfl (Nat.le_of_ble_eq_true rfl) dX7_does_77 ?_
    refine x_nmIM (fun z11 ez11 => ?_)
    have hR := nmE hR ez11
    exact x_iretM (pc := 80) C rfl hR dX7_does_80
  have hR := hR.trans (if_neg c20_2)
  have hok := hok.2 c20_2
  by_cases c20_3 : (ma M 7 (ix x0)) = 3
  · have hR := hR.trans (if_pos c20_3)
    have hok := hok.1 c20_3
    refine x_tabIn (pc := 24) (tgt := 81) (off := 57) C dX7_does_24 c20_3 (by decide) (by decide) (by decide) (by decide) ?_
    refine x_aload_n (pc := 81) (i := 0) C 2 dX7_does_81 rfl rfl ?_
    refine x_iload_n (pc := 82) (i := 2) C 1 dX7_does_82 rfl rfl ?_
    refine x_iload_n (pc := 83) (i := 3) C 0 dX7_does_83 rfl rfl ?_
    refine x_aload_n (pc := 84) (i := 0) C 2 dX7_does_84 rfl rfl ?_
    refine x_get (pc := 85) (q := 193) (i := 20) C e_M rfl ttX7 (by decide) wd_7_7 rfl dX7_does_85 ?_
    refine x_iload_n (pc := 88) (i := 1) C 3 dX7_does_88 rfl rfl ?_
    refine x_iconst (pc := 89) (v := 3) C dX7_does_89 (by decide) ?_
    refine x_iadd (pc := 90) C dX7_does_90 ?_
    have h12 := hok.1
    have hok := hok.2
    refine x_iald (pc := 91) (q := 201) C e_M7 h12 dX7_does_91 ?_
    refine x_aload_n (pc := 92) (i := 0) C 2 dX7_does_92 rfl rfl ?_
    refine x_get (pc := 93) (q := 193) (i := 20) C e_M rfl ttX7 (by decide) wd_7_7 rfl dX7_does_93 ?_
    refine x_iload_n (pc := 96) (i := 1) C 3 dX7_does_96 rfl rfl ?_
    refine x_iconst (pc := 97) (v := 4) C dX7_does_97 (by decide) ?_
    refine x_iadd (pc := 98) C dX7_does_98 ?_
    have h13 := hok.1
    have hok := hok.2
    refine x_iald (pc := 99) (q := 201) C e_M7 h13 dX7_does_99 ?_
    have h14 := hok
    refine x_cIV (pc := 100) (as := [.int v2, .int v4, .int (ma M 7 (ix (x0 + 3))), .int (ma M 7 (ix (x0 + 4)))]) (q := 193) C (c_X7_seals C.2.2.2.2.2.2.2.1  B M O v2 v4 (ma M 7 (ix (x0 + 3))) (ma M 7 (ix (x0 + 4))) h14) (fs := _) e_M rfl cv_X7_seals cd_X7_seals wd_7_152 ⟨Nat.le_of_ble_eq_true rfl, Nat.le_of_ble_eq_true rfl⟩ ⟨Nat.le_of_ble_eq_true rfl, Nat.le_of_ble_eq_true rfl⟩ rfl rfl (Nat.le_of_ble_eq_true rfl) dX7_does_100 ?_
    refine x_nmIM (fun z15 ez15 => ?_)
    have hR := nmE hR ez15
    exact x_iretM (pc := 103) C rfl hR dX7_does_103
  have hR := hR.trans (if_neg c20_3)
  have hok := hok.2 c20_3
  by_cases c20_4 : (ma M 7 (ix x0)) = 4
  · have hR := hR.trans (if_pos c20_4)
    have hok := hok.1 c20_4
    refine x_tabIn (pc := 24) (tgt := 104) (off := 80) C dX7_does_24 c20_4 (by decide) (by decide) (by decide) (by decide) ?_
    refine x_aload_n (pc := 104) (i := 0) C 2 dX7_does_104 rfl rfl ?_
    refine x_iload_n (pc := 105) (i := 2) C 1 dX7_does_105 rfl rfl ?_
    have h16 := hok
    refine x_cIV (pc := 106) (as := [.int v2]) (q := 193) C (c_X7_voids C.2.2.2.2.2.2.2.1  B M O v2 h16) (fs := _) e_M rfl cv_X7_voids cd_X7_voids wd_7_160 ⟨Nat.le_of_ble_eq_true rfl, Nat.le_of_ble_eq_true rfl⟩ ⟨Nat.le_of_ble_eq_true rfl, Nat.le_of_ble_eq_true rfl⟩ rfl rfl (Nat.le_of_ble_eq_true rfl) dX7_does_106 ?_
    refine x_nmIM (fun z17 ez17 => ?_)
    have hR := nmE hR ez17
    exact x_iretM (pc := 109) C rfl hR dX7_does_109
  have hR := hR.trans (if_neg c20_4)
  have hok := hok.2 c20_4
  refine x_tabOut (pc := 24) (tgt := 110) C dX7_does_24 (by
    have c20_0 : ¬ Int32.toInt (ma M 7 (ix x0)) = 0 := sw_no c20_0
    have c20_1 : ¬ Int32.toInt (ma M 7 (ix x0)) = 1 := sw_no c20_1
    have c20_2 : ¬ Int32.toInt (ma M 7 (ix x0)) = 2 := sw_no c20_2
    have c20_3 : ¬ Int32.toInt (ma M 7 (ix x0)) = 3 := sw_no c20_3
    have c20_4 : ¬ Int32.toInt (ma M 7 (ix x0)) = 4 := sw_no c20_4
    omega) (by decide) ?_
  refine x_aload_n (pc := 110) (i := 0) C 2 dX7_does_110 rfl rfl ?_
  refine x_iload_n (pc := 111) (i := 2) C 1 dX7_does_111 rfl rfl ?_
  have h18 := hok
  refine x_cIV (pc := 112) (as := [.int v2]) (q := 193) C (c_X7_waits C.2.2.2.2.2.2.2.1  B M O v2 h18) (fs := _) e_M rfl cv_X7_waits cd_X7_waits wd_7_180 ⟨Nat.le_of_ble_eq_true rfl, Nat.le_of_ble_eq_true rfl⟩ ⟨Nat.le_of_ble_eq_true rfl, Nat.le_of_ble_eq_true rfl⟩ rfl rfl (Nat.le_of_ble_eq_true rfl) dX7_does_112 ?_
  refine x_nmIM (fun z19 ez19 => ?_)
  have hR := nmE hR ez19
  exact x_iretM (pc := 115) C rfl hR dX7_does_115
