set_option maxHeartbeats 4000000 in
set_option maxRecDepth 100000 in
theorem t_X7_voids_J17 {p0 : Program} {l : Launch} {e : Env} {s : State} {m : MethodId} {args : Array Value} {below : List Frame} {meth : Method} {c : Code} {A : Nat → Prop} {G : GT} {ad : Nat → Nat} (C : CX p0 l s m args meth c A G ad cX7_voids RX7 4 (some .int))  (M : StM) (a2 : Int32) (s0 : Int32) (B : StB) (O : StO) (R0 : Int32 × StM) (hR : R0 = f_X7_voids_J17 M a2 s0) (hok : ok_X7_voids_J17 M a2 s0) : X p0 l e (rmd 3 0 0) s m args below meth c A G ad 4 0 0 (MQ below (QI G A ad R0.1 B R0.2 O) args s 0 0 A) B M O [(0, .ref (ad 193)), (2, .int a2)] 17 [.int s0, .ref (ad 193)] := by
  have hR : R0 = (nm (f_X7_goes M s0) (fun (z5 : Int32 × StM) => (if z5.1 = 0 then (0, z5.2) else (nm (f_X7_ofPlace z5.2 a2 3) (fun (r8 : Int32) => (nm (f_X7_drops z5.2 a2) (fun (M10 : StM) => (r8, M10)))))))) := hR
  have hok : ((ok_X7_goes M s0) ∧ (∀ z5 : Int32 × StM, z5 = (f_X7_goes M s0) → ((z5.1 = 0 → True) ∧ (¬ z5.1 = 0 → ((ok_X7_ofPlace z5.2 a2 3) ∧ (∀ r8 : Int32, r8 = (f_X7_ofPlace z5.2 a2 3) → ((ok_X7_drops z5.2 a2)))))))) := hok
  have h4 := hok.1
  have hok := hok.2
  refine x_cIV (pc := 17) (as := [.int s0]) (q := 193) C (c_X7_goes C.2.2.2.2.2.2.2.1  B M O s0 h4) (fs := _) e_M rfl cv_X7_goes cd_X7_goes wd_7_59 ⟨Nat.le_of_ble_eq_true rfl, Nat.le_of_ble_eq_true rfl⟩ ⟨Nat.le_of_ble_eq_true rfl, Nat.le_of_ble_eq_true rfl⟩ rfl rfl (Nat.le_of_ble_eq_true rfl) dX7_voids_17 ?_
  refine x_nmIM (fun z5 ez5 => ?_)
  have hR := nmE hR ez5
  have hok := hok z5 ez5
  refine x_if_ne (pc := 20) (tgt := 25) C dX7_voids_20 (by decide) (fun c6 => ?_) (fun c6 => ?_)
  · have hR := hR.trans (if_neg c6)
    have hok := hok.2 c6
    refine x_aload_n (pc := 25) (i := 0) C 0 dX7_voids_25 rfl rfl ?_
    refine x_iload_n (pc := 26) (i := 2) C 1 dX7_voids_26 rfl rfl ?_
    refine x_iconst (pc := 27) (v := 3) C dX7_voids_27 (by decide) ?_
    have h7 := hok.1
    have hok := hok.2
    refine x_cIV (pc := 28) (as := [.int a2, .int 3]) (q := 193) C (c_X7_ofPlace C.2.2.2.2.2.2.2.1  B z5.2 O a2 3 h7) (fs := _) e_M rfl cv_X7_ofPlace cd_X7_ofPlace wd_7_168 ⟨Nat.le_of_ble_eq_true rfl, Nat.le_of_ble_eq_true rfl⟩ ⟨Nat.le_of_ble_eq_true rfl, Nat.le_of_ble_eq_true rfl⟩ rfl rfl (Nat.le_of_ble_eq_true rfl) dX7_voids_28 ?_
    refine x_nmI (fun r8 er8 => ?_)
    have hR := nmE hR er8
    have hok := hok r8 er8
    refine x_istore_n (pc := 31) (i := 3) (ls2 := [(3, .int r8), (0, .ref (ad 193)), (2, .int a2)]) C dX7_voids_31 rfl (by decide) rfl ?_
    refine x_aload_n (pc := 32) (i := 0) C 1 dX7_voids_32 rfl rfl ?_
    refine x_iload_n (pc := 33) (i := 2) C 2 dX7_voids_33 rfl rfl ?_
    have h9 := hok
    refine x_cVV (pc := 34) (as := [.int a2]) (q := 193) C (c_X7_drops C.2.2.2.2.2.2.2.1  B z5.2 O a2 h9) (fs := _) e_M rfl cv_X7_drops cd_X7_drops wd_7_172 ⟨Nat.le_of_ble_eq_true rfl, Nat.le_of_ble_eq_true rfl⟩ ⟨Nat.le_of_ble_eq_true rfl, Nat.le_of_ble_eq_true rfl⟩ rfl rfl (Nat.le_of_ble_eq_true rfl) dX7_voids_34 ?_
    refine x_nmM (fun M10 eM10 => ?_)
    have hR := nmE hR eM10
    refine x_iload_n (pc := 37) (i := 3) C 0 dX7_voids_37 rfl rfl ?_
    exact x_iretM (pc := 38) C rfl hR dX7_voids_38
  · have hR := hR.trans (if_pos c6)
    refine x_iconst (pc := 23) (v := 0) C dX7_voids_23 (by decide) ?_
    exact x_iretM (pc := 24) C rfl hR dX7_voids_24
set_option maxHeartbeats 4000000 in
set_option maxRecDepth 100000 in
theorem c_X7_voids {l : Launch} {A : Nat → Prop} {G : GT} {ad : Nat → Nat} (gl : Gl l A ad)  (B : StB) (M : StM) (O : StO) (x0 : Int32) (hok : ok_X7_voids M x0) : Met l yX7_voids (wof yX7_voids cX7_voids 4 (some .int)) (rmd 3 0 0) (va_Pc [.ref (ad 193), .int x0] (PW G A ad B M O)) (QI G A ad (f_X7_voids M x0).1 B (f_X7_voids M x0).2 O) 0 0 A := by
  refine x_body (own := RX7) (by decide +kernel) rfl gl (Nat.le_of_ble_eq_true rfl) (ls := [(0, .ref (ad 193)), (1, .int x0)]) rfl ?_
  intro p0 e s m args below meth c C
  have hR : (f_X7_voids M x0) = (nm (f_X7_find M x0) (fun (r2 : Int32) => (if r2 = (-1) then (f_X7_voids_J17 M r2 0) else (f_X7_voids_J17 M r2 1)))) := rfl
  have hok : ((ok_X7_find M x0) ∧ (∀ r2 : Int32, r2 = (f_X7_find M x0) → ((r2 = (-1) → (ok_X7_voids_J17 M r2 0)) ∧ (¬ r2 = (-1) → (ok_X7_voids_J17 M r2 1))))) := hok
  refine x_aload_n (pc := 0) (i := 0) C 0 dX7_voids_0 rfl rfl ?_
  refine x_iload_n (pc := 1) (i := 1) C 1 dX7_voids_1 rfl rfl ?_
  have h1 := hok.1
  have hok := hok.2
  refine x_cIV (pc := 2) (as := [.int x0]) (q := 193) C (c_X7_find C.2.2.2.2.2.2.2.1  B M O x0 h1) (fs := _) e_M rfl cv_X7_find cd_X7_find wd_7_164 ⟨Nat.le_of_ble_eq_true rfl, Nat.le_of_ble_eq_true rfl⟩ ⟨Nat.le_of_ble_eq_true rfl, Nat.le_of_ble_eq_true rfl⟩ rfl rfl (Nat.le_of_ble_eq_true rfl) dX7_voids_2 ?_
  refine x_nmI (fun r2 er2 => ?_)
  have hR := nmE hR er2
  have hok := hok r2 er2
  refine x_istore_n (pc := 5) (i := 2) (ls2 := [(2, .int r2), (0, .ref (ad 193)), (1, .int x0)]) C dX7_voids_5 rfl (by decide) rfl ?_
  refine x_aload_n (pc := 6) (i := 0) C 1 dX7_voids_6 rfl rfl ?_
  refine x_iload_n (pc := 7) (i := 2) C 0 dX7_voids_7 rfl rfl ?_
  refine x_iconst (pc := 8) (v := (-1)) C dX7_voids_8 (by decide) ?_
  refine x_icmp_eq (pc := 9) (tgt := 16) C dX7_voids_9 (by decide) (fun c3 => ?_) (fun c3 => ?_)
  · have hR := hR.trans (if_pos c3)
    have hok := hok.1 c3
    refine x_iconst (pc := 16) (v := 0) C dX7_voids_16 (by decide) ?_
    refine x_sub [1, 0] (ls2 := [(0, .ref (ad 193)), (2, .int r2)]) rfl ?_
    exact t_X7_voids_J17 C M r2 0 B O _ hR hok
  · have hR := hR.trans (if_neg c3)
    have hok := hok.2 c3
    refine x_iconst (pc := 12) (v := 1) C dX7_voids_12 (by decide) ?_
    refine x_goto (pc := 13) (tgt := 17) C dX7_voids_13 (by decide) ?_
    refine x_sub [1, 0] (ls2 := [(0, .ref (ad 193)), (2, .int r2)]) rfl ?_
    exact t_X7_voids_J17 C M r2 1 B O _ hR hok
set_option maxHeartbeats 4000000 in
set_option maxRecDepth 100000 in
theorem c_X7_gives {l : Launch} {A : Nat → Prop} {G : GT} {ad : Nat → Nat} (gl : Gl l A ad)  (B : StB) (M : StM) (O : StO) (x0 : Int32) (x1 : Int32) (x2 : Int32) (hok : ok_X7_gives M x0 x1 x2) : Met l yX7_gives (wof yX7_gives cX7_gives 4 none) (rmd 3 0 0) (va_Pc [.ref (ad 193), .int x0, .int x1, .int x2] (PW G A ad B M O)) (QV G A ad B (f_X7_gives M x0 x1 x2) O) 0 0 A := by
  refine x_body (own := RX7) (by decide +kernel) rfl gl (Nat.le_of_ble_eq_true rfl) (ls := [(0, .ref (ad 193)), (1, .int x0), (2, .int x1), (3, .int x2)]) rfl ?_
  intro p0 e s m args below meth c C
  have hR : (f_X7_gives M x0 x1 x2) = (if x2 ≤ 0 then M else (nm (f_X7_changes M x0 (-x2)) (fun (M3 : StM) => (nm (sma M3 0 (ix 4) ((ma M3 0 (ix 4)) + x2)) (fun (M6 : StM) => (nm (sma M6 0 (ix 9) ((ma M6 0 (ix 9)) + x2)) (fun (M9 : StM) => (nm (f_X7_writes M9 x1 x2 x0) (fun (M11 : StM) => M11))))))))) := rfl
  have hok : ((x2 ≤ 0 → True) ∧ (¬ x2 ≤ 0 → ((ok_X7_changes M x0 (-x2)) ∧ (∀ M3 : StM, M3 = (f_X7_changes M x0 (-x2)) → (∀ M6 : StM, M6 = (sma M3 0 (ix 4) ((ma M3 0 (ix 4)) + x2)) → (∀ M9 : StM, M9 = (sma M6 0 (ix 9) ((ma M6 0 (ix 9)) + x2)) → ((ok_X7_writes M9 x1 x2 x0)))))))) := hok
  refine x_iload_n (pc := 0) (i := 3) C 3 dX7_gives_0 rfl rfl ?_
  refine x_if_le (pc := 1) (tgt := 39) C dX7_gives_1 (by decide) (fun c1 => ?_) (fun c1 => ?_)
  · have hR := hR.trans (if_pos c1)
    exact x_vretM (pc := 39) C rfl hR dX7_gives_39
  · have hR := hR.trans (if_neg c1)
    have hok := hok.2 c1
    refine x_aload_n (pc := 4) (i := 0) C 0 dX7_gives_4 rfl rfl ?_
    refine x_iload_n (pc := 5) (i := 1) C 1 dX7_gives_5 rfl rfl ?_
    refine x_iload_n (pc := 6) (i := 3) C 3 dX7_gives_6 rfl rfl ?_
    refine x_ineg (pc := 7) C dX7_gives_7 ?_
    have h2 := hok.1
    have hok := hok.2
    refine x_cVV (pc := 8) (as := [.int x0, .int (-x2)]) (q := 193) C (c_X7_changes C.2.2.2.2.2.2.2.1  B M O x0 (-x2) h2) (fs := _) e_M rfl cv_X7_changes cd_X7_changes wd_7_123 ⟨Nat.le_of_ble_eq_true rfl, Nat.le_of_ble_eq_true rfl⟩ ⟨Nat.le_of_ble_eq_true rfl, Nat.le_of_ble_eq_true rfl⟩ rfl rfl (Nat.le_of_ble_eq_true rfl) dX7_gives_8 ?_
    refine x_nmM (fun M3 eM3 => ?_)
    have hR := nmE hR eM3
    have hok := hok M3 eM3
    refine x_aload_n (pc := 11) (i := 0) C 0 dX7_gives_11 rfl rfl ?_
    refine x_get (pc := 12) (q := 193) (i := 0) C e_M rfl ttX7 (by decide) wd_6_227 rfl dX7_gives_12 ?_
    refine x_iconst (pc := 15) (v := 4) C dX7_gives_15 (by decide) ?_
    refine x_dup2 (pc := 16) C dX7_gives_16 rfl rfl ?_
    have h4 : vp_in (4) 124 := (by decide : ¬ ((4 : Int32) < 0 ∨ 124 ≤ Int32.toNatClampNeg 4))
    refine x_iald (pc := 17) (q := 194) C e_M0 h4 dX7_gives_17 ?_
    refine x_iload_n (pc := 18) (i := 3) C 3 dX7_gives_18 rfl rfl ?_
    refine x_iadd (pc := 19) C dX7_gives_19 ?_
    have h5 : vp_in (4) 124 := (by decide : ¬ ((4 : Int32) < 0 ∨ 124 ≤ Int32.toNatClampNeg 4))
    refine x_iastM (pc := 20) (j := 0) (q := 194) C rfl (by decide) e_M0 e_M0.2 h5 dX7_gives_20 ?_
    refine x_nmM (fun M6 eM6 => ?_)
    have hR := nmE hR eM6
    have hok := hok M6 eM6
    refine x_aload_n (pc := 21) (i := 0) C 0 dX7_gives_21 rfl rfl ?_
    refine x_get (pc := 22) (q := 193) (i := 0) C e_M rfl ttX7 (by decide) wd_6_227 rfl dX7_gives_22 ?_
    refine x_bipush (pc := 25) (v := 9) C dX7_gives_25 (by decide) ?_
    refine x_dup2 (pc := 27) C dX7_gives_27 rfl rfl ?_
    have h7 : vp_in (9) 124 := (by decide : ¬ ((9 : Int32) < 0 ∨ 124 ≤ Int32.toNatClampNeg 9))
    refine x_iald (pc := 28) (q := 194) C e_M0 h7 dX7_gives_28 ?_
    refine x_iload_n (pc := 29) (i := 3) C 3 dX7_gives_29 rfl rfl ?_
    refine x_iadd (pc := 30) C dX7_gives_30 ?_
    have h8 : vp_in (9) 124 := (by decide : ¬ ((9 : Int32) < 0 ∨ 124 ≤ Int32.toNatClampNeg 9))
    refine x_iastM (pc := 31) (j := 0) (q := 194) C rfl (by decide) e_M0 e_M0.2 h8 dX7_gives_31 ?_
    refine x_nmM (fun M9 eM9 => ?_)
    have hR := nmE hR eM9
    have hok := hok M9 eM9
    refine x_aload_n (pc := 32) (i := 0) C 0 dX7_gives_32 rfl rfl ?_
    refine x_iload_n (pc := 33) (i := 2) C 2 dX7_gives_33 rfl rfl ?_
    refine x_iload_n (pc := 34) (i := 3) C 3 dX7_gives_34 rfl rfl ?_
    refine x_iload_n (pc := 35) (i := 1) C 1 dX7_gives_35 rfl rfl ?_
    have h10 := hok
    refine x_cVV (pc := 36) (as := [.int x1, .int x2, .int x0]) (q := 193) C (c_X7_writes C.2.2.2.2.2.2.2.1  B M9 O x1 x2 x0 h10) (fs := _) e_M rfl cv_X7_writes cd_X7_writes wd_7_127 ⟨Nat.le_of_ble_eq_true rfl, Nat.le_of_ble_eq_true rfl⟩ ⟨Nat.le_of_ble_eq_true rfl, Nat.le_of_ble_eq_true rfl⟩ rfl rfl (Nat.le_of_ble_eq_true rfl) dX7_gives_36 ?_
    refine x_nmM (fun M11 eM11 => ?_)
    have hR := nmE hR eM11
    exact x_vretM (pc := 39) C rfl hR dX7_gives_39
set_option maxHeartbeats 4000000 in
set_option maxRecDepth 100000 in
theorem t_X7_transferAt_L20 {p0 : Program} {l : Launch} {e : Env} {s : State} {m : MethodId} {args : Array Value} {below : List Frame} {meth : Method} {c : Code} {A : Nat → Prop} {G : GT} {ad : Nat → Nat} {Q : State → Prop} (C : CX p0 l s m args meth c A G ad cX7_transferAt RX7 7 (some .int))    (n : Nat) (M : StM) (a1 : Int32) (a2 : Int32) (a3 : Int32) (a4 : Int32) (a5 : Int32) (B : StB) (O : StO) : ∀ (R0 : Int32) (hR : R0 = f_X7_transferAt_L20 n M a1 a2 a3 a4 a5) (hok : ok_X7_transferAt_L20 n M a1 a2 a3 a4 a5) (k : X p0 l e (rmd 3 0 0) s m args below meth c A G ad 7 0 0 Q B M O [(0, .ref (ad 193)), (1, .int a1), (2, .int a2), (3, .int a3), (4, .int R0)] 79 []), X p0 l e (rmd 3 0 0) s m args below meth c A G ad 7 0 0 Q B M O [(0, .ref (ad 193)), (1, .int a1), (2, .int a2), (3, .int a3), (4, .int a4), (5, .int a5)] 20 [] := by
  induction n generalizing M a1 a2 a3 a4 a5 with
  | zero => intro R0 hR hok k; exact False.elim hok
  | succ n ih =>
    intro R0 hR hok k
    have hR : R0 = (if (ma M 0 (ix 3)) ≤ a5 then a4 else (nm (f_X7_ofPlace M a3 4) (fun (r6 : Int32) => (nm (f_X7_ofPlace M a5 4) (fun (r8 : Int32) => (nm (r6 - r8) (fun (v9 : Int32) => (if 0 < v9 then (nm (a4 + 1) (fun (v11 : Int32) => (f_X7_transferAt_L20 n M a1 a2 a3 v11 (a5 + 1)))) else (if v9 = 0 then (if a3 ≤ a5 then (nm (a4 + 0) (fun (v15 : Int32) => (f_X7_transferAt_L20 n M a1 a2 a3 v15 (a5 + 1)))) else (nm (a4 + 1) (fun (v16 : Int32) => (f_X7_transferAt_L20 n M a1 a2 a3 v16 (a5 + 1))))) else (nm (a4 + 0) (fun (v13 : Int32) => (f_X7_transferAt_L20 n M a1 a2 a3 v13 (a5 + 1))))))))))))) := hR
    have hok : (((ma M 0 (ix 3)) ≤ a5 → True) ∧ (¬ (ma M 0 (ix 3)) ≤ a5 → ((ok_X7_ofPlace M a3 4) ∧ (∀ r6 : Int32, r6 = (f_X7_ofPlace M a3 4) → ((ok_X7_ofPlace M a5 4) ∧ (∀ r8 : Int32, r8 = (f_X7_ofPlace M a5 4) → (∀ v9 : Int32, v9 = (r6 - r8) → ((0 < v9 → (∀ v11 : Int32, v11 = (a4 + 1) → (ok_X7_transferAt_L20 n M a1 a2 a3 v11 (a5 + 1)))) ∧ (¬ 0 < v9 → ((v9 = 0 → ((a3 ≤ a5 → (∀ v15 : Int32, v15 = (a4 + 0) → (ok_X7_transferAt_L20 n M a1 a2 a3 v15 (a5 + 1)))) ∧ (¬ a3 ≤ a5 → (∀ v16 : Int32, v16 = (a4 + 1) → (ok_X7_transferAt_L20 n M a1 a2 a3 v16 (a5 + 1)))))) ∧ (¬ v9 = 0 → (∀ v13 : Int32, v13 = (a4 + 0) → (ok_X7_transferAt_L20 n M a1 a2 a3 v13 (a5 + 1)))))))))))))) := hok
    refine x_iload (pc := 20) (i := 5) C 5 dX7_transferAt_20 rfl ?_
    refine x_aload_n (pc := 22) (i := 0) C 0 dX7_transferAt_22 rfl rfl ?_
    refine x_get (pc := 23) (q := 193) (i := 0) C e_M rfl ttX7 (by decide) wd_6_227 rfl dX7_transferAt_23 ?_
    refine x_iconst (pc := 26) (v := 3) C dX7_transferAt_26 (by decide) ?_
    have h3 : vp_in (3) 124 := (by decide : ¬ ((3 : Int32) < 0 ∨ 124 ≤ Int32.toNatClampNeg 3))
    refine x_iald (pc := 27) (q := 194) C e_M0 h3 dX7_transferAt_27 ?_
    refine x_icmp_ge (pc := 28) (tgt := 79) C dX7_transferAt_28 (by decide) (fun c4 => ?_) (fun c4 => ?_)
    · have hR := hR.trans (if_pos c4)
      refine x_sub [0, 1, 2, 3, 4] (ls2 := [(0, .ref (ad 193)), (1, .int a1), (2, .int a2), (3, .int a3), (4, .int a4)]) rfl ?_
      subst hR
      exact k
    · have hR := hR.trans (if_neg c4)
      have hok := hok.2 c4
      refine x_aload_n (pc := 31) (i := 0) C 0 dX7_transferAt_31 rfl rfl ?_
      refine x_iload_n (pc := 32) (i := 3) C 3 dX7_transferAt_32 rfl rfl ?_
      refine x_iconst (pc := 33) (v := 4) C dX7_transferAt_33 (by decide) ?_
      have h5 := hok.1
      have hok := hok.2
      refine x_cIV (pc := 34) (as := [.int a3, .int 4]) (q := 193) C (c_X7_ofPlace C.2.2.2.2.2.2.2.1  B M O a3 4 h5) (fs := _) e_M rfl cv_X7_ofPlace cd_X7_ofPlace wd_7_168 ⟨Nat.le_of_ble_eq_true rfl, Nat.le_of_ble_eq_true rfl⟩ ⟨Nat.le_of_ble_eq_true rfl, Nat.le_of_ble_eq_true rfl⟩ rfl rfl (Nat.le_of_ble_eq_true rfl) dX7_transferAt_34 ?_
      refine x_nmI (fun r6 er6 => ?_)
      have hR := nmE hR er6
      have hok := hok r6 er6
      refine x_aload_n (pc := 37) (i := 0) C 0 dX7_transferAt_37 rfl rfl ?_
      refine x_iload (pc := 38) (i := 5) C 5 dX7_transferAt_38 rfl ?_
      refine x_iconst (pc := 40) (v := 4) C dX7_transferAt_40 (by decide) ?_
      have h7 := hok.1
      have hok := hok.2
      refine x_cIV (pc := 41) (as := [.int a5, .int 4]) (q := 193) C (c_X7_ofPlace C.2.2.2.2.2.2.2.1  B M O a5 4 h7) (fs := _) e_M rfl cv_X7_ofPlace cd_X7_ofPlace wd_7_168 ⟨Nat.le_of_ble_eq_true rfl, Nat.le_of_ble_eq_true rfl⟩ ⟨Nat.le_of_ble_eq_true rfl, Nat.le_of_ble_eq_true rfl⟩ rfl rfl (Nat.le_of_ble_eq_true rfl) dX7_transferAt_41 ?_
      refine x_nmI (fun r8 er8 => ?_)
      have hR := nmE hR er8
      have hok := hok r8 er8
      refine x_isub (pc := 44) C dX7_transferAt_44 ?_
      refine x_nmI (fun v9 ev9 => ?_)
      have hR := nmE hR ev9
      have hok := hok v9 ev9
      refine x_istore (pc := 45) (i := 6) (ls2 := [(6, .int v9), (0, .ref (ad 193)), (1, .int a1), (2, .int a2), (3, .int a3), (4, .int a4), (5, .int a5)]) C dX7_transferAt_45 (by decide) rfl ?_
      refine x_iload (pc := 47) (i := 4) C 5 dX7_transferAt_47 rfl ?_
      refine x_iload (pc := 49) (i := 6) C 0 dX7_transferAt_49 rfl ?_
      refine x_if_gt (pc := 51) (tgt := 65) C dX7_transferAt_51 (by decide) (fun c10 => ?_) (fun c10 => ?_)
      · have hR := hR.trans (if_pos c10)
        have hok := hok.1 c10
        refine x_iconst (pc := 65) (v := 1) C dX7_transferAt_65 (by decide) ?_
        refine x_goto (pc := 66) (tgt := 70) C dX7_transferAt_66 (by decide) ?_
        refine x_iadd (pc := 70) C dX7_transferAt_70 ?_
        refine x_nmI (fun v11 ev11 => ?_)
        have hR := nmE hR ev11
        have hok := hok v11 ev11
        refine x_istore (pc := 71) (i := 4) (ls2 := [(4, .int v11), (6, .int v9), (0, .ref (ad 193)), (1, .int a1), (2, .int a2), (3, .int a3), (5, .int a5)]) C dX7_transferAt_71 (by decide) rfl ?_
        refine x_iinc (pc := 73) (i := 5) (v := (a5 + 1)) (ls2 := [(5, .int (a5 + 1)), (4, .int v11), (6, .int v9), (0, .ref (ad 193)), (1, .int a1), (2, .int a2), (3, .int a3)]) C 6 dX7_transferAt_73 rfl rfl (by decide) rfl ?_
        refine x_goto (pc := 76) (tgt := 20) C dX7_transferAt_76 (by decide) ?_
        refine x_sub [3, 4, 5, 6, 1, 0] (ls2 := [(0, .ref (ad 193)), (1, .int a1), (2, .int a2), (3, .int a3), (4, .int v11), (5, .int (a5 + 1))]) rfl ?_
        exact ih M a1 a2 a3 v11 (a5 + 1) R0 hR hok k
      · have hR := hR.trans (if_neg c10)
        have hok := hok.2 c10
        refine x_iload (pc := 54) (i := 6) C 0 dX7_transferAt_54 rfl ?_
        refine x_if_ne (pc := 56) (tgt := 69) C dX7_transferAt_56 (by decide) (fun c12 => ?_) (fun c12 => ?_)
        · have hR := hR.trans (if_neg c12)
          have hok := hok.2 c12
          refine x_iconst (pc := 69) (v := 0) C dX7_transferAt_69 (by decide) ?_
          refine x_iadd (pc := 70) C dX7_transferAt_70 ?_
          refine x_nmI (fun v13 ev13 => ?_)
          have hR := nmE hR ev13
          have hok := hok v13 ev13
          refine x_istore (pc := 71) (i := 4) (ls2 := [(4, .int v13), (6, .int v9), (0, .ref (ad 193)), (1, .int a1), (2, .int a2), (3, .int a3), (5, .int a5)]) C dX7_transferAt_71 (by decide) rfl ?_
          refine x_iinc (pc := 73) (i := 5) (v := (a5 + 1)) (ls2 := [(5, .int (a5 + 1)), (4, .int v13), (6, .int v9), (0, .ref (ad 193)), (1, .int a1), (2, .int a2), (3, .int a3)]) C 6 dX7_transferAt_73 rfl rfl (by decide) rfl ?_
          refine x_goto (pc := 76) (tgt := 20) C dX7_transferAt_76 (by decide) ?_
          refine x_sub [3, 4, 5, 6, 1, 0] (ls2 := [(0, .ref (ad 193)), (1, .int a1), (2, .int a2), (3, .int a3), (4, .int v13), (5, .int (a5 + 1))]) rfl ?_
          exact ih M a1 a2 a3 v13 (a5 + 1) R0 hR hok k
        · have hR := hR.trans (if_pos c12)
          have hok := hok.1 c12
          refine x_iload (pc := 59) (i := 5) C 6 dX7_transferAt_59 rfl ?_
          refine x_iload_n (pc := 61) (i := 3) C 4 dX7_transferAt_61 rfl rfl ?_
          refine x_icmp_ge (pc := 62) (tgt := 69) C dX7_transferAt_62 (by decide) (fun c14 => ?_) (fun c14 => ?_)
          · have hR := hR.trans (if_pos c14)
            have hok := hok.1 c14
            refine x_iconst (pc := 69) (v := 0) C dX7_transferAt_69 (by decide) ?_
            refine x_iadd (pc := 70) C dX7_transferAt_70 ?_
            refine x_nmI (fun v15 ev15 => ?_)
            have hR := nmE hR ev15
            have hok := hok v15 ev15
            refine x_istore (pc := 71) (i := 4) (ls2 := [(4, .int v15), (6, .int v9), (0, .ref (ad 193)), (1, .int a1), (2, .int a2), (3, .int a3), (5, .int a5)]) C dX7_transferAt_71 (by decide) rfl ?_
            refine x_iinc (pc := 73) (i := 5) (v := (a5 + 1)) (ls2 := [(5, .int (a5 + 1)), (4, .int v15), (6, .int v9), (0, .ref (ad 193)), (1, .int a1), (2, .int a2), (3, .int a3)]) C 6 dX7_transferAt_73 rfl rfl (by decide) rfl ?_
            refine x_goto (pc := 76) (tgt := 20) C dX7_transferAt_76 (by decide) ?_
            refine x_sub [3, 4, 5, 6, 1, 0] (ls2 := [(0, .ref (ad 193)), (1, .int a1), (2, .int a2), (3, .int a3), (4, .int v15), (5, .int (a5 + 1))]) rfl ?_
            exact ih M a1 a2 a3 v15 (a5 + 1) R0 hR hok k
          · have hR := hR.trans (if_neg c14)
            have hok := hok.2 c14
            refine x_iconst (pc := 65) (v := 1) C dX7_transferAt_65 (by decide) ?_
            refine x_goto (pc := 66) (tgt := 70) C dX7_transferAt_66 (by decide) ?_
            refine x_iadd (pc := 70) C dX7_transferAt_70 ?_
            refine x_nmI (fun v16 ev16 => ?_)
            have hR := nmE hR ev16
            have hok := hok v16 ev16
            refine x_istore (pc := 71) (i := 4) (ls2 := [(4, .int v16), (6, .int v9), (0, .ref (ad 193)), (1, .int a1), (2, .int a2), (3, .int a3), (5, .int a5)]) C dX7_transferAt_71 (by decide) rfl ?_
            refine x_iinc (pc := 73) (i := 5) (v := (a5 + 1)) (ls2 := [(5, .int (a5 + 1)), (4, .int v16), (6, .int v9), (0, .ref (ad 193)), (1, .int a1), (2, .int a2), (3, .int a3)]) C 6 dX7_transferAt_73 rfl rfl (by decide) rfl ?_
            refine x_goto (pc := 76) (tgt := 20) C dX7_transferAt_76 (by decide) ?_
            refine x_sub [3, 4, 5, 6, 1, 0] (ls2 := [(0, .ref (ad 193)), (1, .int a1), (2, .int a2), (3, .int a3), (4, .int v16), (5, .int (a5 + 1))]) rfl ?_
            exact ih M a1 a2 a3 v16 (a5 + 1) R0 hR hok k
set_option maxHeartbeats 4000000 in
set_option maxRecDepth 100000 in
theorem t_X7_transferAt_L4 {p0 : Program} {l : Launch} {e : Env} {s : State} {m : MethodId} {args : Array Value} {below : List Frame} {meth : Method} {c : Code} {A : Nat → Prop} {G : GT} {ad : Nat → Nat} {Q : State → Prop} (C : CX p0 l s m args meth c A G ad cX7_transferAt RX7 7 (some .int))    (n : Nat) (M : StM) (a1 : Int32) (a2 : Int32) (a3 : Int32) (B : StB) (O : StO) : ∀ (R0 : Int32) (hR : R0 = f_X7_transferAt_L4 n M a1 a2 a3) (hok : ok_X7_transferAt_L4 n M a1 a2 a3) (k : X p0 l e (rmd 3 0 0) s m args below meth c A G ad 7 0 0 Q B M O [(0, .ref (ad 193)), (2, .int R0)] 102 []), X p0 l e (rmd 3 0 0) s m args below meth c A G ad 7 0 0 Q B M O [(0, .ref (ad 193)), (1, .int a1), (2, .int a2), (3, .int a3)] 4 [] := by
  induction n generalizing M a1 a2 a3 with
  | zero => intro R0 hR hok k; exact False.elim hok
  | succ n ih =>
    intro R0 hR hok k
    have hR : R0 = (if (ma M 0 (ix 3)) ≤ a3 then a2 else (nm (f_X7_transferAt_L20 fu M a1 a2 a3 0 0) (fun (z17 : Int32) => (if z17 = a1 then (nm (f_X7_ofPlace M a3 0) (fun (r20 : Int32) => (f_X7_transferAt_L4 n M a1 r20 (a3 + 1)))) else (f_X7_transferAt_L4 n M a1 a2 (a3 + 1)))))) := hR
    have hok : (((ma M 0 (ix 3)) ≤ a3 → True) ∧ (¬ (ma M 0 (ix 3)) ≤ a3 → ((ok_X7_transferAt_L20 fu M a1 a2 a3 0 0) ∧ ∀ z17 : Int32, z17 = f_X7_transferAt_L20 fu M a1 a2 a3 0 0 → ((z17 = a1 → ((ok_X7_ofPlace M a3 0) ∧ (∀ r20 : Int32, r20 = (f_X7_ofPlace M a3 0) → (ok_X7_transferAt_L4 n M a1 r20 (a3 + 1))))) ∧ (¬ z17 = a1 → (ok_X7_transferAt_L4 n M a1 a2 (a3 + 1))))))) := hok
    refine x_iload_n (pc := 4) (i := 3) C 3 dX7_transferAt_4 rfl rfl ?_
    refine x_aload_n (pc := 5) (i := 0) C 0 dX7_transferAt_5 rfl rfl ?_
    refine x_get (pc := 6) (q := 193) (i := 0) C e_M rfl ttX7 (by decide) wd_6_227 rfl dX7_transferAt_6 ?_
    refine x_iconst (pc := 9) (v := 3) C dX7_transferAt_9 (by decide) ?_
    have h1 : vp_in (3) 124 := (by decide : ¬ ((3 : Int32) < 0 ∨ 124 ≤ Int32.toNatClampNeg 3))
    refine x_iald (pc := 10) (q := 194) C e_M0 h1 dX7_transferAt_10 ?_
    refine x_icmp_ge (pc := 11) (tgt := 102) C dX7_transferAt_11 (by decide) (fun c2 => ?_) (fun c2 => ?_)
    · have hR := hR.trans (if_pos c2)
      refine x_sub [0, 2] (ls2 := [(0, .ref (ad 193)), (2, .int a2)]) rfl ?_
      subst hR
      exact k
    · have hR := hR.trans (if_neg c2)
      have hok := hok.2 c2
      refine x_iconst (pc := 14) (v := 0) C dX7_transferAt_14 (by decide) ?_
      refine x_istore (pc := 15) (i := 4) (ls2 := [(4, .int 0), (0, .ref (ad 193)), (1, .int a1), (2, .int a2), (3, .int a3)]) C dX7_transferAt_15 (by decide) rfl ?_
      refine x_iconst (pc := 17) (v := 0) C dX7_transferAt_17 (by decide) ?_
      refine x_istore (pc := 18) (i := 5) (ls2 := [(5, .int 0), (4, .int 0), (0, .ref (ad 193)), (1, .int a1), (2, .int a2), (3, .int a3)]) C dX7_transferAt_18 (by decide) rfl ?_
      refine x_sub [2, 3, 4, 5, 1, 0] (ls2 := [(0, .ref (ad 193)), (1, .int a1), (2, .int a2), (3, .int a3), (4, .int 0), (5, .int 0)]) rfl ?_
      obtain ⟨z17, ez17⟩ : ∃ z : Int32, z = f_X7_transferAt_L20 fu M a1 a2 a3 0 0 := ⟨_, rfl⟩
      refine t_X7_transferAt_L20 C fu M a1 a2 a3 0 0 B O z17 ez17 hok.1 ?_
      have hR := nmE hR ez17
      have hok := hok.2 z17 ez17
      refine x_iload (pc := 79) (i := 4) C 4 dX7_transferAt_79 rfl ?_
      refine x_iload_n (pc := 81) (i := 1) C 1 dX7_transferAt_81 rfl rfl ?_
      refine x_icmp_ne (pc := 82) (tgt := 94) C dX7_transferAt_82 (by decide) (fun c18 => ?_) (fun c18 => ?_)
      · have hR := hR.trans (if_neg c18)
        have hok := hok.2 c18
        refine x_iload_n (pc := 94) (i := 2) C 2 dX7_transferAt_94 rfl rfl ?_
        refine x_istore_n (pc := 95) (i := 2) (ls2 := [(2, .int a2), (0, .ref (ad 193)), (1, .int a1), (3, .int a3), (4, .int z17)]) C dX7_transferAt_95 rfl (by decide) rfl ?_
        refine x_iinc (pc := 96) (i := 3) (v := (a3 + 1)) (ls2 := [(3, .int (a3 + 1)), (2, .int a2), (0, .ref (ad 193)), (1, .int a1), (4, .int z17)]) C 3 dX7_transferAt_96 rfl rfl (by decide) rfl ?_
        refine x_goto (pc := 99) (tgt := 4) C dX7_transferAt_99 (by decide) ?_
        refine x_sub [2, 3, 1, 0] (ls2 := [(0, .ref (ad 193)), (1, .int a1), (2, .int a2), (3, .int (a3 + 1))]) rfl ?_
        exact ih M a1 a2 (a3 + 1) R0 hR hok k
      · have hR := hR.trans (if_pos c18)
        have hok := hok.1 c18
        refine x_aload_n (pc := 85) (i := 0) C 0 dX7_transferAt_85 rfl rfl ?_
        refine x_iload_n (pc := 86) (i := 3) C 3 dX7_transferAt_86 rfl rfl ?_
        refine x_iconst (pc := 87) (v := 0) C dX7_transferAt_87 (by decide) ?_
        have h19 := hok.1
        have hok := hok.2
        refine x_cIV (pc := 88) (as := [.int a3, .int 0]) (q := 193) C (c_X7_ofPlace C.2.2.2.2.2.2.2.1  B M O a3 0 h19) (fs := _) e_M rfl cv_X7_ofPlace cd_X7_ofPlace wd_7_168 ⟨Nat.le_of_ble_eq_true rfl, Nat.le_of_ble_eq_true rfl⟩ ⟨Nat.le_of_ble_eq_true rfl, Nat.le_of_ble_eq_true rfl⟩ rfl rfl (Nat.le_of_ble_eq_true rfl) dX7_transferAt_88 ?_
        refine x_nmI (fun r20 er20 => ?_)
        have hR := nmE hR er20
        have hok := hok r20 er20
        refine x_goto (pc := 91) (tgt := 95) C dX7_transferAt_91 (by decide) ?_
        refine x_istore_n (pc := 95) (i := 2) (ls2 := [(2, .int r20), (0, .ref (ad 193)), (1, .int a1), (3, .int a3), (4, .int z17)]) C dX7_transferAt_95 rfl (by decide) rfl ?_
        refine x_iinc (pc := 96) (i := 3) (v := (a3 + 1)) (ls2 := [(3, .int (a3 + 1)), (2, .int r20), (0, .ref (ad 193)), (1, .int a1), (4, .int z17)]) C 3 dX7_transferAt_96 rfl rfl (by decide) rfl ?_
        refine x_goto (pc := 99) (tgt := 4) C dX7_transferAt_99 (by decide) ?_
        refine x_sub [2, 3, 1, 0] (ls2 := [(0, .ref (ad 193)), (1, .int a1), (2, .int r20), (3, .int (a3 + 1))]) rfl ?_
        exact ih M a1 r20 (a3 + 1) R0 hR hok k
set_option maxHeartbeats 4000000 in
set_option maxRecDepth 100000 in
theorem t_X7_transferAt_J113 {p0 : Program} {l : Launch} {e : Env} {s : State} {m : MethodId} {args : Array Value} {below : List Frame} {meth : Method} {c : Code} {A : Nat → Prop} {G : GT} {ad : Nat → Nat} (C : CX p0 l s m args meth c A G ad cX7_transferAt RX7 7 (some .int))  (M : StM) (a2 : Int32) (s0 : Int32) (B : StB) (O : StO) (R0 : Int32 × StM) (hR : R0 = f_X7_transferAt_J113 M a2 s0) (hok : ok_X7_transferAt_J113 M a2 s0) : X p0 l e (rmd 3 0 0) s m args below meth c A G ad 7 0 0 (MQ below (QI G A ad R0.1 B R0.2 O) args s 0 0 A) B M O [(2, .int a2)] 113 [.int s0, .ref (ad 193)] := by
  have hR : R0 = (nm (f_X7_goes M s0) (fun (z24 : Int32 × StM) => (if z24.1 = 0 then (0, z24.2) else (a2, z24.2)))) := hR
  have hok : ((ok_X7_goes M s0)) := hok
  have h23 := hok
  refine x_cIV (pc := 113) (as := [.int s0]) (q := 193) C (c_X7_goes C.2.2.2.2.2.2.2.1  B M O s0 h23) (fs := _) e_M rfl cv_X7_goes cd_X7_goes wd_7_59 ⟨Nat.le_of_ble_eq_true rfl, Nat.le_of_ble_eq_true rfl⟩ ⟨Nat.le_of_ble_eq_true rfl, Nat.le_of_ble_eq_true rfl⟩ rfl rfl (Nat.le_of_ble_eq_true rfl) dX7_transferAt_113 ?_
  refine x_nmIM (fun z24 ez24 => ?_)
  have hR := nmE hR ez24
  refine x_if_eq (pc := 116) (tgt := 123) C dX7_transferAt_116 (by decide) (fun c25 => ?_) (fun c25 => ?_)
  · have hR := hR.trans (if_pos c25)
    refine x_iconst (pc := 123) (v := 0) C dX7_transferAt_123 (by decide) ?_
    exact x_iretM (pc := 124) C rfl hR dX7_transferAt_124
  · have hR := hR.trans (if_neg c25)
    refine x_iload_n (pc := 119) (i := 2) C 0 dX7_transferAt_119 rfl rfl ?_
    refine x_goto (pc := 120) (tgt := 124) C dX7_transferAt_120 (by decide) ?_
    exact x_iretM (pc := 124) C rfl hR dX7_transferAt_124
set_option maxHeartbeats 4000000 in
set_option maxRecDepth 100000 in
theorem c_X7_transferAt {l : Launch} {A : Nat → Prop} {G : GT} {ad : Nat → Nat} (gl : Gl l A ad)  (B : StB) (M : StM) (O : StO) (x0 : Int32) (hok : ok_X7_transferAt M x0) : Met l yX7_transferAt (wof yX7_transferAt cX7_transferAt 7 (some .int)) (rmd 3 0 0) (va_Pc [.ref (ad 193), .int x0] (PW G A ad B M O)) (QI G A ad (f_X7_transferAt M x0).1 B (f_X7_transferAt M x0).2 O) 0 0 A := by
  refine x_body (own := RX7) (by decide +kernel) rfl gl (Nat.le_of_ble_eq_true rfl) (ls := [(0, .ref (ad 193)), (1, .int x0)]) rfl ?_
  intro p0 e s m args below meth c C
  have hR : (f_X7_transferAt M x0) = (nm (f_X7_transferAt_L4 fu M x0 (-1) 0) (fun (z21 : Int32) => (if z21 = (-1) then (f_X7_transferAt_J113 M z21 0) else (f_X7_transferAt_J113 M z21 1)))) := rfl
  have hok : ((ok_X7_transferAt_L4 fu M x0 (-1) 0) ∧ ∀ z21 : Int32, z21 = f_X7_transferAt_L4 fu M x0 (-1) 0 → ((z21 = (-1) → (ok_X7_transferAt_J113 M z21 0)) ∧ (¬ z21 = (-1) → (ok_X7_transferAt_J113 M z21 1)))) := hok
  refine x_iconst (pc := 0) (v := (-1)) C dX7_transferAt_0 (by decide) ?_
  refine x_istore_n (pc := 1) (i := 2) (ls2 := [(2, .int (-1)), (0, .ref (ad 193)), (1, .int x0)]) C dX7_transferAt_1 rfl (by decide) rfl ?_
  refine x_iconst (pc := 2) (v := 0) C dX7_transferAt_2 (by decide) ?_
  refine x_istore_n (pc := 3) (i := 3) (ls2 := [(3, .int 0), (2, .int (-1)), (0, .ref (ad 193)), (1, .int x0)]) C dX7_transferAt_3 rfl (by decide) rfl ?_
  refine x_sub [2, 3, 1, 0] (ls2 := [(0, .ref (ad 193)), (1, .int x0), (2, .int (-1)), (3, .int 0)]) rfl ?_
  obtain ⟨z21, ez21⟩ : ∃ z : Int32, z = f_X7_transferAt_L4 fu M x0 (-1) 0 := ⟨_, rfl⟩
  refine t_X7_transferAt_L4 C fu M x0 (-1) 0 B O z21 ez21 hok.1 ?_
  have hR := nmE hR ez21
  have hok := hok.2 z21 ez21
  refine x_aload_n (pc := 102) (i := 0) C 0 dX7_transferAt_102 rfl rfl ?_
  refine x_iload_n (pc := 103) (i := 2) C 1 dX7_transferAt_103 rfl rfl ?_
  refine x_iconst (pc := 104) (v := (-1)) C dX7_transferAt_104 (by decide) ?_
  refine x_icmp_eq (pc := 105) (tgt := 112) C dX7_transferAt_105 (by decide) (fun c22 => ?_) (fun c22 => ?_)
  · have hR := hR.trans (if_pos c22)
    have hok := hok.1 c22
    refine x_iconst (pc := 112) (v := 0) C dX7_transferAt_112 (by decide) ?_
    refine x_sub [1] (ls2 := [(2, .int z21)]) rfl ?_
    exact t_X7_transferAt_J113 C M z21 0 B O _ hR hok
  · have hR := hR.trans (if_neg c22)
    have hok := hok.2 c22
    refine x_iconst (pc := 108) (v := 1) C dX7_transferAt_108 (by decide) ?_
    refine x_goto (pc := 109) (tgt := 113) C dX7_transferAt_109 (by decide) ?_
    refine x_sub [1] (ls2 := [(2, .int z21)]) rfl ?_
    exact t_X7_transferAt_J113 C M z21 1 B O _ hR hok
set_option maxHeartbeats 4000000 in
set_option maxRecDepth 100000 in
theorem t_X7_asksTransfer_J17 {p0 : Program} {l : Launch} {e : Env} {s : State} {m : MethodId} {args : Array Value} {below : List Frame} {meth : Method} {c : Code} {A : Nat → Prop} {G : GT} {ad : Nat → Nat} (C : CX p0 l s m args meth c A G ad cX7_asksTransfer RX7 4 (some .int))  (M : StM) (a2 : Int32) (a3 : Int32) (s0 : Int32) (B : StB) (O : StO) (R0 : Int32 × StM) (hR : R0 = f_X7_asksTransfer_J17 M a2 a3 s0) (hok : ok_X7_asksTransfer_J17 M a2 a3 s0) : X p0 l e (rmd 3 0 0) s m args below meth c A G ad 4 0 0 (MQ below (QI G A ad R0.1 B R0.2 O) args s 0 0 A) B M O [(0, .ref (ad 193)), (2, .int a2), (3, .int a3)] 17 [.int s0, .ref (ad 193)] := by
  have hR : R0 = (nm (f_X7_goes M s0) (fun (z5 : Int32 × StM) => (if z5.1 = 0 then (0, z5.2) else (nm (f_X7_ofPlace z5.2 a3 a2) (fun (r8 : Int32) => (r8, z5.2)))))) := hR
  have hok : ((ok_X7_goes M s0) ∧ (∀ z5 : Int32 × StM, z5 = (f_X7_goes M s0) → ((z5.1 = 0 → True) ∧ (¬ z5.1 = 0 → ((ok_X7_ofPlace z5.2 a3 a2)))))) := hok
  have h4 := hok.1
  have hok := hok.2
  refine x_cIV (pc := 17) (as := [.int s0]) (q := 193) C (c_X7_goes C.2.2.2.2.2.2.2.1  B M O s0 h4) (fs := _) e_M rfl cv_X7_goes cd_X7_goes wd_7_59 ⟨Nat.le_of_ble_eq_true rfl, Nat.le_of_ble_eq_true rfl⟩ ⟨Nat.le_of_ble_eq_true rfl, Nat.le_of_ble_eq_true rfl⟩ rfl rfl (Nat.le_of_ble_eq_true rfl) dX7_asksTransfer_17 ?_
  refine x_nmIM (fun z5 ez5 => ?_)
  have hR := nmE hR ez5
  have hok := hok z5 ez5
  refine x_if_eq (pc := 20) (tgt := 32) C dX7_asksTransfer_20 (by decide) (fun c6 => ?_) (fun c6 => ?_)
  · have hR := hR.trans (if_pos c6)
    refine x_iconst (pc := 32) (v := 0) C dX7_asksTransfer_32 (by decide) ?_
    exact x_iretM (pc := 33) C rfl hR dX7_asksTransfer_33
  · have hR := hR.trans (if_neg c6)
    have hok := hok.2 c6
    refine x_aload_n (pc := 23) (i := 0) C 0 dX7_asksTransfer_23 rfl rfl ?_
    refine x_iload_n (pc := 24) (i := 3) C 2 dX7_asksTransfer_24 rfl rfl ?_
    refine x_iload_n (pc := 25) (i := 2) C 1 dX7_asksTransfer_25 rfl rfl ?_
    have h7 := hok
    refine x_cIV (pc := 26) (as := [.int a3, .int a2]) (q := 193) C (c_X7_ofPlace C.2.2.2.2.2.2.2.1  B z5.2 O a3 a2 h7) (fs := _) e_M rfl cv_X7_ofPlace cd_X7_ofPlace wd_7_168 ⟨Nat.le_of_ble_eq_true rfl, Nat.le_of_ble_eq_true rfl⟩ ⟨Nat.le_of_ble_eq_true rfl, Nat.le_of_ble_eq_true rfl⟩ rfl rfl (Nat.le_of_ble_eq_true rfl) dX7_asksTransfer_26 ?_
    refine x_nmI (fun r8 er8 => ?_)
    have hR := nmE hR er8
    refine x_goto (pc := 29) (tgt := 33) C dX7_asksTransfer_29 (by decide) ?_
    exact x_iretM (pc := 33) C rfl hR dX7_asksTransfer_33
set_option maxHeartbeats 4000000 in
set_option maxRecDepth 100000 in
theorem c_X7_asksTransfer {l : Launch} {A : Nat → Prop} {G : GT} {ad : Nat → Nat} (gl : Gl l A ad)  (B : StB) (M : StM) (O : StO) (x0 : Int32) (x1 : Int32) (hok : ok_X7_asksTransfer M x0 x1) : Met l yX7_asksTransfer (wof yX7_asksTransfer cX7_asksTransfer 4 (some .int)) (rmd 3 0 0) (va_Pc [.ref (ad 193), .int x0, .int x1] (PW G A ad B M O)) (QI G A ad (f_X7_asksTransfer M x0 x1).1 B (f_X7_asksTransfer M x0 x1).2 O) 0 0 A := by
  refine x_body (own := RX7) (by decide +kernel) rfl gl (Nat.le_of_ble_eq_true rfl) (ls := [(0, .ref (ad 193)), (1, .int x0), (2, .int x1)]) rfl ?_
  intro p0 e s m args below meth c C
  have hR : (f_X7_asksTransfer M x0 x1) = (nm (f_X7_find M x0) (fun (r2 : Int32) => (if r2 = (-1) then (f_X7_asksTransfer_J17 M x1 r2 0) else (f_X7_asksTransfer_J17 M x1 r2 1)))) := rfl
  have hok : ((ok_X7_find M x0) ∧ (∀ r2 : Int32, r2 = (f_X7_find M x0) → ((r2 = (-1) → (ok_X7_asksTransfer_J17 M x1 r2 0)) ∧ (¬ r2 = (-1) → (ok_X7_asksTransfer_J17 M x1 r2 1))))) := hok
  refine x_aload_n (pc := 0) (i := 0) C 0 dX7_asksTransfer_0 rfl rfl ?_
  refine x_iload_n (pc := 1) (i := 1) C 1 dX7_asksTransfer_1 rfl rfl ?_
  have h1 := hok.1
  have hok := hok.2
  refine x_cIV (pc := 2) (as := [.int x0]) (q := 193) C (c_X7_find C.2.2.2.2.2.2.2.1  B M O x0 h1) (fs := _) e_M rfl cv_X7_find cd_X7_find wd_7_164 ⟨Nat.le_of_ble_eq_true rfl, Nat.le_of_ble_eq_true rfl⟩ ⟨Nat.le_of_ble_eq_true rfl, Nat.le_of_ble_eq_true rfl⟩ rfl rfl (Nat.le_of_ble_eq_true rfl) dX7_asksTransfer_2 ?_
  refine x_nmI (fun r2 er2 => ?_)
  have hR := nmE hR er2
  have hok := hok r2 er2
  refine x_istore_n (pc := 5) (i := 3) (ls2 := [(3, .int r2), (0, .ref (ad 193)), (1, .int x0), (2, .int x1)]) C dX7_asksTransfer_5 rfl (by decide) rfl ?_
  refine x_aload_n (pc := 6) (i := 0) C 1 dX7_asksTransfer_6 rfl rfl ?_
  refine x_iload_n (pc := 7) (i := 3) C 0 dX7_asksTransfer_7 rfl rfl ?_
  refine x_iconst (pc := 8) (v := (-1)) C dX7_asksTransfer_8 (by decide) ?_
  refine x_icmp_eq (pc := 9) (tgt := 16) C dX7_asksTransfer_9 (by decide) (fun c3 => ?_) (fun c3 => ?_)
  · have hR := hR.trans (if_pos c3)
    have hok := hok.1 c3
    refine x_iconst (pc := 16) (v := 0) C dX7_asksTransfer_16 (by decide) ?_
    refine x_sub [1, 3, 0] (ls2 := [(0, .ref (ad 193)), (2, .int x1), (3, .int r2)]) rfl ?_
    exact t_X7_asksTransfer_J17 C M x1 r2 0 B O _ hR hok
  · have hR := hR.trans (if_neg c3)
    have hok := hok.2 c3
    refine x_iconst (pc := 12) (v := 1) C dX7_asksTransfer_12 (by decide) ?_
    refine x_goto (pc := 13) (tgt := 17) C dX7_asksTransfer_13 (by decide) ?_
    refine x_sub [1, 3, 0] (ls2 := [(0, .ref (ad 193)), (2, .int x1), (3, .int r2)]) rfl ?_
    exact t_X7_asksTransfer_J17 C M x1 r2 1 B O _ hR hok
