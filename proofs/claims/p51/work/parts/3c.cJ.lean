set_option maxHeartbeats 4000000 in
set_option maxRecDepth 100000 in
theorem t_X2_copyFrom_L18 {p0 : Program} {l : Launch} {e : Env} {s : State} {m : MethodId} {args : Array Value} {below : List Frame} {meth : Method} {c : Code} {A : Nat → Prop} {G : GT} {ad : Nat → Nat} {Q : State → Prop} (C : CX p0 l s m args meth c A G ad cX2_copyFrom RX2 3 none) {p : Nat} (hp : p < 176 ∧ p % 16 = 12) {q0 : Nat} (hq0 : q0 < 176 ∧ q0 % 16 = 12)   (n : Nat) (B : StB) (a2 : Int32) (M : StM) (O : StO) : ∀ (R0 : StB) (hR : R0 = f_X2_copyFrom_L18 n p q0 B a2) (hok : ok_X2_copyFrom_L18 n p q0 B a2) (k : X p0 l e (rmd 1 0 0) s m args below meth c A G ad 3 0 0 Q R0 M O [] 66 []), X p0 l e (rmd 1 0 0) s m args below meth c A G ad 3 0 0 Q B M O [(0, .ref (ad p)), (1, .ref (ad q0)), (2, .int a2)] 18 [] := by
  induction n generalizing B a2 with
  | zero => intro R0 hR hok k; exact False.elim hok
  | succ n ih =>
    intro R0 hR hok k
    have hR : R0 = (if 10 ≤ a2 then B else (nm (sba B (p + 1) (ix a2) (vp_nar .char (ba B (q0 + 1) (ix a2)))) (fun (B6 : StB) => (nm (sba B6 (p + 2) (ix a2) (ba B6 (q0 + 2) (ix a2))) (fun (B9 : StB) => (nm (sba B9 (p + 3) (ix a2) (ba B9 (q0 + 3) (ix a2))) (fun (B12 : StB) => (f_X2_copyFrom_L18 n p q0 B12 (a2 + 1))))))))) := hR
    have hok : ((10 ≤ a2 → True) ∧ (¬ 10 ≤ a2 → (vp_in a2 10 ∧ (vp_in a2 10 ∧ (∀ B6 : StB, B6 = (sba B (p + 1) (ix a2) (vp_nar .char (ba B (q0 + 1) (ix a2)))) → (vp_in a2 10 ∧ (vp_in a2 10 ∧ (∀ B9 : StB, B9 = (sba B6 (p + 2) (ix a2) (ba B6 (q0 + 2) (ix a2))) → (vp_in a2 10 ∧ (vp_in a2 10 ∧ (∀ B12 : StB, B12 = (sba B9 (p + 3) (ix a2) (ba B9 (q0 + 3) (ix a2))) → (ok_X2_copyFrom_L18 n p q0 B12 (a2 + 1))))))))))))) := hok
    refine x_iload_n (pc := 18) (i := 2) C 2 dX2_copyFrom_18 rfl rfl ?_
    refine x_bipush (pc := 19) (v := 10) C dX2_copyFrom_19 (by decide) ?_
    refine x_icmp_ge (pc := 21) (tgt := 66) C dX2_copyFrom_21 (by decide) (fun c3 => ?_) (fun c3 => ?_)
    · have hR := hR.trans (if_pos c3)
      refine x_sub [] (ls2 := []) rfl ?_
      subst hR
      exact k
    · have hR := hR.trans (if_neg c3)
      have hok := hok.2 c3
      refine x_aload_n (pc := 24) (i := 0) C 0 dX2_copyFrom_24 rfl rfl ?_
      refine x_get (pc := 25) (q := p) (i := 2) C (e_J (by omega)) rfl ttX2 (by decide) wd_1_127 rfl dX2_copyFrom_25 ?_
      refine x_iload_n (pc := 28) (i := 2) C 2 dX2_copyFrom_28 rfl rfl ?_
      refine x_aload_n (pc := 29) (i := 1) C 1 dX2_copyFrom_29 rfl rfl ?_
      refine x_get (pc := 30) (q := q0) (i := 2) C (e_J (by omega)) rfl ttX2 (by decide) wd_1_127 rfl dX2_copyFrom_30 ?_
      refine x_iload_n (pc := 33) (i := 2) C 2 dX2_copyFrom_33 rfl rfl ?_
      have h4 := hok.1
      have hok := hok.2
      refine x_cald (pc := 34) (q := q0 + 1) C (e_Jk (by omega)) h4 dX2_copyFrom_34 ?_
      have h5 := hok.1
      have hok := hok.2
      refine x_castB (pc := 35) (q := p + 1) C (e_Jk (by omega)) (e_Jk (by omega)).2 h5 dX2_copyFrom_35 ?_
      refine x_nmB (fun B6 eB6 => ?_)
      have hR := nmE hR eB6
      have hok := hok B6 eB6
      refine x_aload_n (pc := 36) (i := 0) C 0 dX2_copyFrom_36 rfl rfl ?_
      refine x_get (pc := 37) (q := p) (i := 3) C (e_J (by omega)) rfl ttX2 (by decide) wd_1_129 rfl dX2_copyFrom_37 ?_
      refine x_iload_n (pc := 40) (i := 2) C 2 dX2_copyFrom_40 rfl rfl ?_
      refine x_aload_n (pc := 41) (i := 1) C 1 dX2_copyFrom_41 rfl rfl ?_
      refine x_get (pc := 42) (q := q0) (i := 3) C (e_J (by omega)) rfl ttX2 (by decide) wd_1_129 rfl dX2_copyFrom_42 ?_
      refine x_iload_n (pc := 45) (i := 2) C 2 dX2_copyFrom_45 rfl rfl ?_
      have h7 := hok.1
      have hok := hok.2
      refine x_iald (pc := 46) (q := q0 + 2) C (e_Ja (by omega)) h7 dX2_copyFrom_46 ?_
      have h8 := hok.1
      have hok := hok.2
      refine x_iastB (pc := 47) (q := p + 2) C (e_Ja (by omega)) (e_Ja (by omega)).2 h8 dX2_copyFrom_47 ?_
      refine x_nmB (fun B9 eB9 => ?_)
      have hR := nmE hR eB9
      have hok := hok B9 eB9
      refine x_aload_n (pc := 48) (i := 0) C 0 dX2_copyFrom_48 rfl rfl ?_
      refine x_get (pc := 49) (q := p) (i := 4) C (e_J (by omega)) rfl ttX2 (by decide) wd_1_131 rfl dX2_copyFrom_49 ?_
      refine x_iload_n (pc := 52) (i := 2) C 2 dX2_copyFrom_52 rfl rfl ?_
      refine x_aload_n (pc := 53) (i := 1) C 1 dX2_copyFrom_53 rfl rfl ?_
      refine x_get (pc := 54) (q := q0) (i := 4) C (e_J (by omega)) rfl ttX2 (by decide) wd_1_131 rfl dX2_copyFrom_54 ?_
      refine x_iload_n (pc := 57) (i := 2) C 2 dX2_copyFrom_57 rfl rfl ?_
      have h10 := hok.1
      have hok := hok.2
      refine x_iald (pc := 58) (q := q0 + 3) C (e_Jc (by omega)) h10 dX2_copyFrom_58 ?_
      have h11 := hok.1
      have hok := hok.2
      refine x_iastB (pc := 59) (q := p + 3) C (e_Jc (by omega)) (e_Jc (by omega)).2 h11 dX2_copyFrom_59 ?_
      refine x_nmB (fun B12 eB12 => ?_)
      have hR := nmE hR eB12
      have hok := hok B12 eB12
      refine x_iinc (pc := 60) (i := 2) (v := (a2 + 1)) (ls2 := [(2, .int (a2 + 1)), (0, .ref (ad p)), (1, .ref (ad q0))]) C 2 dX2_copyFrom_60 rfl rfl (by decide) rfl ?_
      refine x_goto (pc := 63) (tgt := 18) C dX2_copyFrom_63 (by decide) ?_
      refine x_sub [1, 2, 0] (ls2 := [(0, .ref (ad p)), (1, .ref (ad q0)), (2, .int (a2 + 1))]) rfl ?_
      exact ih B12 (a2 + 1) R0 hR hok k
set_option maxHeartbeats 4000000 in
set_option maxRecDepth 100000 in
theorem c_X2_copyFrom {l : Launch} {A : Nat → Prop} {G : GT} {ad : Nat → Nat} (gl : Gl l A G ad) (p : Nat) (hp : p < 176 ∧ p % 16 = 12) (q0 : Nat) (hq0 : q0 < 176 ∧ q0 % 16 = 12) (B : StB) (M : StM) (O : StO)  (hok : ok_X2_copyFrom p q0 B) : Met l yX2_copyFrom (wof yX2_copyFrom cX2_copyFrom 3 none) (rmd 1 0 0) (va_Pc [.ref (ad p), .ref (ad q0)] (PW G A ad B M O)) (QV G A ad (f_X2_copyFrom p q0 B) M O) 0 0 A := by
  refine x_body (own := RX2) (by decide +kernel) rfl gl (Nat.le_of_ble_eq_true rfl) (ls := [(0, .ref (ad p)), (1, .ref (ad q0))]) rfl ?_
  intro p0 e s m args below meth c C
  have hR : (f_X2_copyFrom p q0 B) = (nm (sbi B p 0 (bi B q0 0)) (fun (B1 : StB) => (nm (sbi B1 p 1 (bi B1 q0 1)) (fun (B2 : StB) => (nm (f_X2_copyFrom_L18 fu p q0 B2 0) (fun (z13 : StB) => z13)))))) := rfl
  have hok : (∀ B1 : StB, B1 = (sbi B p 0 (bi B q0 0)) → (∀ B2 : StB, B2 = (sbi B1 p 1 (bi B1 q0 1)) → (ok_X2_copyFrom_L18 fu p q0 B2 0))) := hok
  refine x_aload_n (pc := 0) (i := 0) C 0 dX2_copyFrom_0 rfl rfl ?_
  refine x_aload_n (pc := 1) (i := 1) C 1 dX2_copyFrom_1 rfl rfl ?_
  refine x_get (pc := 2) (q := q0) (i := 0) C (e_J (by omega)) rfl ttX2 (by decide) wd_1_124 rfl dX2_copyFrom_2 ?_
  refine x_put (pc := 5) (B2 := (sbi B p 0 (bi B q0 0))) (M2 := M) (O2 := O) (q := p) (i := 0) C tyX2 tyX2_ok nmX2 (e_J (by omega)) rfl ttX2 (by decide) wd_1_124 rfl rfl rfl (Nat.le_of_ble_eq_true rfl) dX2_copyFrom_5 (put_J_0 (by omega)) (o_sbi p 0 (bi B q0 0)) ?_
  refine x_nmB (fun B1 eB1 => ?_)
  have hR := nmE hR eB1
  have hok := hok B1 eB1
  refine x_aload_n (pc := 8) (i := 0) C 0 dX2_copyFrom_8 rfl rfl ?_
  refine x_aload_n (pc := 9) (i := 1) C 1 dX2_copyFrom_9 rfl rfl ?_
  refine x_get (pc := 10) (q := q0) (i := 1) C (e_J (by omega)) rfl ttX2 (by decide) wd_1_126 rfl dX2_copyFrom_10 ?_
  refine x_put (pc := 13) (B2 := (sbi B1 p 1 (bi B1 q0 1))) (M2 := M) (O2 := O) (q := p) (i := 1) C tyX2 tyX2_ok nmX2 (e_J (by omega)) rfl ttX2 (by decide) wd_1_126 rfl rfl rfl (Nat.le_of_ble_eq_true rfl) dX2_copyFrom_13 (put_J_1 (by omega)) (o_sbi p 1 (bi B1 q0 1)) ?_
  refine x_nmB (fun B2 eB2 => ?_)
  have hR := nmE hR eB2
  have hok := hok B2 eB2
  refine x_iconst (pc := 16) (v := 0) C dX2_copyFrom_16 (by decide) ?_
  refine x_istore_n (pc := 17) (i := 2) (ls2 := [(2, .int 0), (0, .ref (ad p)), (1, .ref (ad q0))]) C dX2_copyFrom_17 rfl (by decide) rfl ?_
  refine x_sub [1, 2, 0] (ls2 := [(0, .ref (ad p)), (1, .ref (ad q0)), (2, .int 0)]) rfl ?_
  obtain ⟨z13, ez13⟩ : ∃ z : StB, z = f_X2_copyFrom_L18 fu p q0 B2 0 := ⟨_, rfl⟩
  refine t_X2_copyFrom_L18 C hp hq0 fu B2 0 M O z13 ez13 hok ?_
  have hR := nmE hR ez13
  exact x_vretB (pc := 66) C rfl hR dX2_copyFrom_66
set_option maxHeartbeats 4000000 in
set_option maxRecDepth 100000 in
theorem c_X2_add {l : Launch} {A : Nat → Prop} {G : GT} {ad : Nat → Nat} (gl : Gl l A G ad) (p : Nat) (hp : p < 176 ∧ p % 16 = 12) (B : StB) (M : StM) (O : StO) (x0 : Int32) (x1 : Int32) (x2 : Int32) (hok : ok_X2_add p B x0 x1 x2) : Met l yX2_add (wof yX2_add cX2_add 4 none) (rmd 2 0 0) (va_Pc [.ref (ad p), .int x0, .int x1, .int x2] (PW G A ad B M O)) (QV G A ad (f_X2_add p B x0 x1 x2) M O) 0 0 A := by
  refine x_body (own := RX2) (by decide +kernel) rfl gl (Nat.le_of_ble_eq_true rfl) (ls := [(0, .ref (ad p)), (1, .int x0), (2, .int x1), (3, .int x2)]) rfl ?_
  intro p0 e s m args below meth c C
  have hR : (f_X2_add p B x0 x1 x2) = (if 1 ≤ x1 then (nm (f_J9_floorMod_7cf53 ((bi B p 1) + 1) 10) (fun (r3 : Int32) => (nm (sbi B p 1 r3) (fun (B4 : StB) => (nm (sba B4 (p + 1) (ix (bi B4 p 1)) (vp_nar .char x0)) (fun (B6 : StB) => (nm (sba B6 (p + 2) (ix (bi B6 p 1)) x1) (fun (B8 : StB) => (nm (sba B8 (p + 3) (ix (bi B8 p 1)) x2) (fun (B10 : StB) => (nm (sbi B10 p 0 (mn ((bi B10 p 0) + 1) 10)) (fun (B11 : StB) => B11)))))))))))) else B) := rfl
  have hok : ((1 ≤ x1 → ((ok_J9_floorMod_7cf53 ((bi B p 1) + 1) 10) ∧ (∀ r3 : Int32, r3 = (f_J9_floorMod_7cf53 ((bi B p 1) + 1) 10) → (∀ B4 : StB, B4 = (sbi B p 1 r3) → (vp_in (bi B4 p 1) 10 ∧ (∀ B6 : StB, B6 = (sba B4 (p + 1) (ix (bi B4 p 1)) (vp_nar .char x0)) → (vp_in (bi B6 p 1) 10 ∧ (∀ B8 : StB, B8 = (sba B6 (p + 2) (ix (bi B6 p 1)) x1) → (vp_in (bi B8 p 1) 10))))))))) ∧ (¬ 1 ≤ x1 → True)) := hok
  refine x_iload_n (pc := 0) (i := 2) C 2 dX2_add_0 rfl rfl ?_
  refine x_iconst (pc := 1) (v := 1) C dX2_add_1 (by decide) ?_
  refine x_icmp_ge (pc := 2) (tgt := 6) C dX2_add_2 (by decide) (fun c1 => ?_) (fun c1 => ?_)
  · have hR := hR.trans (if_pos c1)
    have hok := hok.1 c1
    refine x_aload_n (pc := 6) (i := 0) C 0 dX2_add_6 rfl rfl ?_
    refine x_aload_n (pc := 7) (i := 0) C 0 dX2_add_7 rfl rfl ?_
    refine x_get (pc := 8) (q := p) (i := 1) C (e_J (by omega)) rfl ttX2 (by decide) wd_1_126 rfl dX2_add_8 ?_
    refine x_iconst (pc := 11) (v := 1) C dX2_add_11 (by decide) ?_
    refine x_iadd (pc := 12) C dX2_add_12 ?_
    refine x_bipush (pc := 13) (v := 10) C dX2_add_13 (by decide) ?_
    have h2 := hok.1
    have hok := hok.2
    refine x_cIS (pc := 15) (as := [.int ((bi B p 1) + 1), .int 10]) C (c_J9_floorMod_7cf53 C.2.2.2.2.2.2.2.1  B M O ((bi B p 1) + 1) 10 h2) wd_3_26 cd_J9_floorMod_7cf53 wd_3_79 ⟨Nat.le_of_ble_eq_true rfl, Nat.le_of_ble_eq_true rfl⟩ ⟨Nat.le_of_ble_eq_true rfl, Nat.le_of_ble_eq_true rfl⟩ rfl rfl (Nat.le_of_ble_eq_true rfl) dX2_add_15 ?_
    refine x_nmI (fun r3 er3 => ?_)
    have hR := nmE hR er3
    have hok := hok r3 er3
    refine x_put (pc := 18) (B2 := (sbi B p 1 r3)) (M2 := M) (O2 := O) (q := p) (i := 1) C tyX2 tyX2_ok nmX2 (e_J (by omega)) rfl ttX2 (by decide) wd_1_126 rfl rfl rfl (Nat.le_of_ble_eq_true rfl) dX2_add_18 (put_J_1 (by omega)) (o_sbi p 1 r3) ?_
    refine x_nmB (fun B4 eB4 => ?_)
    have hR := nmE hR eB4
    have hok := hok B4 eB4
    refine x_aload_n (pc := 21) (i := 0) C 0 dX2_add_21 rfl rfl ?_
    refine x_get (pc := 22) (q := p) (i := 2) C (e_J (by omega)) rfl ttX2 (by decide) wd_1_127 rfl dX2_add_22 ?_
    refine x_aload_n (pc := 25) (i := 0) C 0 dX2_add_25 rfl rfl ?_
    refine x_get (pc := 26) (q := p) (i := 1) C (e_J (by omega)) rfl ttX2 (by decide) wd_1_126 rfl dX2_add_26 ?_
    refine x_iload_n (pc := 29) (i := 1) C 1 dX2_add_29 rfl rfl ?_
    have h5 := hok.1
    have hok := hok.2
    refine x_castB (pc := 30) (q := p + 1) C (e_Jk (by omega)) (e_Jk (by omega)).2 h5 dX2_add_30 ?_
    refine x_nmB (fun B6 eB6 => ?_)
    have hR := nmE hR eB6
    have hok := hok B6 eB6
    refine x_aload_n (pc := 31) (i := 0) C 0 dX2_add_31 rfl rfl ?_
    refine x_get (pc := 32) (q := p) (i := 3) C (e_J (by omega)) rfl ttX2 (by decide) wd_1_129 rfl dX2_add_32 ?_
    refine x_aload_n (pc := 35) (i := 0) C 0 dX2_add_35 rfl rfl ?_
    refine x_get (pc := 36) (q := p) (i := 1) C (e_J (by omega)) rfl ttX2 (by decide) wd_1_126 rfl dX2_add_36 ?_
    refine x_iload_n (pc := 39) (i := 2) C 2 dX2_add_39 rfl rfl ?_
    have h7 := hok.1
    have hok := hok.2
    refine x_iastB (pc := 40) (q := p + 2) C (e_Ja (by omega)) (e_Ja (by omega)).2 h7 dX2_add_40 ?_
    refine x_nmB (fun B8 eB8 => ?_)
    have hR := nmE hR eB8
    have hok := hok B8 eB8
    refine x_aload_n (pc := 41) (i := 0) C 0 dX2_add_41 rfl rfl ?_
    refine x_get (pc := 42) (q := p) (i := 4) C (e_J (by omega)) rfl ttX2 (by decide) wd_1_131 rfl dX2_add_42 ?_
    refine x_aload_n (pc := 45) (i := 0) C 0 dX2_add_45 rfl rfl ?_
    refine x_get (pc := 46) (q := p) (i := 1) C (e_J (by omega)) rfl ttX2 (by decide) wd_1_126 rfl dX2_add_46 ?_
    refine x_iload_n (pc := 49) (i := 3) C 3 dX2_add_49 rfl rfl ?_
    have h9 := hok
    refine x_iastB (pc := 50) (q := p + 3) C (e_Jc (by omega)) (e_Jc (by omega)).2 h9 dX2_add_50 ?_
    refine x_nmB (fun B10 eB10 => ?_)
    have hR := nmE hR eB10
    refine x_aload_n (pc := 51) (i := 0) C 0 dX2_add_51 rfl rfl ?_
    refine x_aload_n (pc := 52) (i := 0) C 0 dX2_add_52 rfl rfl ?_
    refine x_get (pc := 53) (q := p) (i := 0) C (e_J (by omega)) rfl ttX2 (by decide) wd_1_124 rfl dX2_add_53 ?_
    refine x_iconst (pc := 56) (v := 1) C dX2_add_56 (by decide) ?_
    refine x_iadd (pc := 57) C dX2_add_57 ?_
    refine x_bipush (pc := 58) (v := 10) C dX2_add_58 (by decide) ?_
    refine x_mmin (pc := 60) C wd_3_80 wd_3_49 wd_1_21 wd_3_50 ⟨Nat.le_of_ble_eq_true rfl, Nat.le_of_ble_eq_true rfl⟩ ⟨Nat.le_of_ble_eq_true rfl, Nat.le_of_ble_eq_true rfl⟩ dX2_add_60 ?_
    refine x_put (pc := 63) (B2 := (sbi B10 p 0 (mn ((bi B10 p 0) + 1) 10))) (M2 := M) (O2 := O) (q := p) (i := 0) C tyX2 tyX2_ok nmX2 (e_J (by omega)) rfl ttX2 (by decide) wd_1_124 rfl rfl rfl (Nat.le_of_ble_eq_true rfl) dX2_add_63 (put_J_0 (by omega)) (o_sbi p 0 (mn ((bi B10 p 0) + 1) 10)) ?_
    refine x_nmB (fun B11 eB11 => ?_)
    have hR := nmE hR eB11
    exact x_vretB (pc := 66) C rfl hR dX2_add_66
  · have hR := hR.trans (if_neg c1)
    exact x_vretB (pc := 5) C rfl hR dX2_add_5
set_option maxHeartbeats 4000000 in
set_option maxRecDepth 100000 in
theorem c_X2_slot {l : Launch} {A : Nat → Prop} {G : GT} {ad : Nat → Nat} (gl : Gl l A G ad) (p : Nat) (hp : p < 176 ∧ p % 16 = 12) (B : StB) (M : StM) (O : StO) (x0 : Int32) (hok : ok_X2_slot p B x0) : Met l yX2_slot (wof yX2_slot cX2_slot 2 (some .int)) (rmd 2 0 0) (va_Pc [.ref (ad p), .int x0] (PW G A ad B M O)) (QI G A ad (f_X2_slot p B x0) B M O) 0 0 A := by
  refine x_body (own := RX2) (by decide +kernel) rfl gl (Nat.le_of_ble_eq_true rfl) (ls := [(0, .ref (ad p)), (1, .int x0)]) rfl ?_
  intro p0 e s m args below meth c C
  have hR : (f_X2_slot p B x0) = (nm (f_J9_floorMod_7cf53 ((bi B p 1) - x0) 10) (fun (r2 : Int32) => r2)) := rfl
  have hok : ((ok_J9_floorMod_7cf53 ((bi B p 1) - x0) 10)) := hok
  refine x_aload_n (pc := 0) (i := 0) C 0 dX2_slot_0 rfl rfl ?_
  refine x_get (pc := 1) (q := p) (i := 1) C (e_J (by omega)) rfl ttX2 (by decide) wd_1_126 rfl dX2_slot_1 ?_
  refine x_iload_n (pc := 4) (i := 1) C 1 dX2_slot_4 rfl rfl ?_
  refine x_isub (pc := 5) C dX2_slot_5 ?_
  refine x_bipush (pc := 6) (v := 10) C dX2_slot_6 (by decide) ?_
  have h1 := hok
  refine x_cIS (pc := 8) (as := [.int ((bi B p 1) - x0), .int 10]) C (c_J9_floorMod_7cf53 C.2.2.2.2.2.2.2.1  B M O ((bi B p 1) - x0) 10 h1) wd_3_26 cd_J9_floorMod_7cf53 wd_3_79 ⟨Nat.le_of_ble_eq_true rfl, Nat.le_of_ble_eq_true rfl⟩ ⟨Nat.le_of_ble_eq_true rfl, Nat.le_of_ble_eq_true rfl⟩ rfl rfl (Nat.le_of_ble_eq_true rfl) dX2_slot_8 ?_
  refine x_nmI (fun r2 er2 => ?_)
  have hR := nmE hR er2
  exact x_iret (pc := 11) C rfl hR dX2_slot_11
