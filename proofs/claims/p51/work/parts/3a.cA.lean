set_option maxHeartbeats 4000000 in
set_option maxRecDepth 100000 in
theorem c_J9_floorMod_7cf53 {l : Launch} {A : Nat → Prop} {G : GT} {ad : Nat → Nat} (gl : Gl l A G ad)  (B : StB) (M : StM) (O : StO) (x0 : Int32) (x1 : Int32) (hok : ok_J9_floorMod_7cf53 x0 x1) : Met l yJ9_floorMod_7cf53 (wof yJ9_floorMod_7cf53 cJ9_floorMod_7cf53 3 (some .int)) (rmd 1 0 0) (va_Pc [.int x0, .int x1] (PW G A ad B M O)) (QI G A ad (f_J9_floorMod_7cf53 x0 x1) B M O) 0 0 A := by
  refine x_bodyF (own := RJ9) (by decide +kernel) rfl gl (Nat.le_of_ble_eq_true rfl) (ls := [(0, .int x0), (1, .int x1)]) rfl ?_
  intro p0 e s m args below meth c C
  have hR : (f_J9_floorMod_7cf53 x0 x1) = (nm (x0 - x0 / x1 * x1) (fun (v2 : Int32) => (if 0 ≤ (x0 ^^^ x1) then v2 else (if v2 = 0 then v2 else (v2 + x1))))) := rfl
  have hok : (¬ x1 = 0) := hok
  refine x_iload_n (pc := 0) (i := 0) C 0 dJ9_floorMod_7cf53_0 rfl rfl ?_
  refine x_iload_n (pc := 1) (i := 1) C 1 dJ9_floorMod_7cf53_1 rfl rfl ?_
  have h1 := hok
  refine x_irem (pc := 2) C dJ9_floorMod_7cf53_2 h1 ?_
  refine x_nmI (fun v2 ev2 => ?_)
  have hR := nmE hR ev2
  refine x_istore_n (pc := 3) (i := 2) (ls2 := [(2, .int v2), (0, .int x0), (1, .int x1)]) C dJ9_floorMod_7cf53_3 rfl (by decide) rfl ?_
  refine x_iload_n (pc := 4) (i := 0) C 1 dJ9_floorMod_7cf53_4 rfl rfl ?_
  refine x_iload_n (pc := 5) (i := 1) C 2 dJ9_floorMod_7cf53_5 rfl rfl ?_
  refine x_ixor (pc := 6) C dJ9_floorMod_7cf53_6 ?_
  refine x_if_ge (pc := 7) (tgt := 18) C dJ9_floorMod_7cf53_7 (by decide) (fun c3 => ?_) (fun c3 => ?_)
  · have hR := hR.trans (if_pos c3)
    refine x_iload_n (pc := 18) (i := 2) C 0 dJ9_floorMod_7cf53_18 rfl rfl ?_
    exact x_iret (pc := 19) C rfl hR dJ9_floorMod_7cf53_19
  · have hR := hR.trans (if_neg c3)
    refine x_iload_n (pc := 10) (i := 2) C 0 dJ9_floorMod_7cf53_10 rfl rfl ?_
    refine x_if_eq (pc := 11) (tgt := 18) C dJ9_floorMod_7cf53_11 (by decide) (fun c4 => ?_) (fun c4 => ?_)
    · have hR := hR.trans (if_pos c4)
      refine x_iload_n (pc := 18) (i := 2) C 0 dJ9_floorMod_7cf53_18 rfl rfl ?_
      exact x_iret (pc := 19) C rfl hR dJ9_floorMod_7cf53_19
    · have hR := hR.trans (if_neg c4)
      refine x_iload_n (pc := 14) (i := 2) C 0 dJ9_floorMod_7cf53_14 rfl rfl ?_
      refine x_iload_n (pc := 15) (i := 1) C 2 dJ9_floorMod_7cf53_15 rfl rfl ?_
      refine x_iadd (pc := 16) C dJ9_floorMod_7cf53_16 ?_
      exact x_iret (pc := 17) C rfl hR dJ9_floorMod_7cf53_17
set_option maxHeartbeats 4000000 in
set_option maxRecDepth 100000 in
theorem c_X6_isIn {l : Launch} {A : Nat → Prop} {G : GT} {ad : Nat → Nat} (gl : Gl l A G ad)  (B : StB) (M : StM) (O : StO) (x0 : Int32) (x1 : Int32) (x2 : Int32) : Met l yX6_isIn (wof yX6_isIn cX6_isIn 3 (some .boolean)) (rmd 1 0 0) (va_Pc [.int x0, .int x1, .int x2] (PW G A ad B M O)) (QI G A ad (f_X6_isIn x0 x1 x2) B M O) 0 0 A := by
  refine x_body (own := RX6) (by decide +kernel) rfl gl (Nat.le_of_ble_eq_true rfl) (ls := [(0, .int x0), (1, .int x1), (2, .int x2)]) rfl ?_
  intro p0 e s m args below meth c C
  have hR : (f_X6_isIn x0 x1 x2) = (if x0 < x1 then 0 else (if x2 < x0 then 0 else 1)) := rfl
  refine x_iload_n (pc := 0) (i := 0) C 0 dX6_isIn_0 rfl rfl ?_
  refine x_iload_n (pc := 1) (i := 1) C 1 dX6_isIn_1 rfl rfl ?_
  refine x_icmp_lt (pc := 2) (tgt := 14) C dX6_isIn_2 (by decide) (fun c1 => ?_) (fun c1 => ?_)
  · have hR := hR.trans (if_pos c1)
    refine x_iconst (pc := 14) (v := 0) C dX6_isIn_14 (by decide) ?_
    exact x_zret (pc := 15) C rfl (by decide) hR dX6_isIn_15
  · have hR := hR.trans (if_neg c1)
    refine x_iload_n (pc := 5) (i := 0) C 0 dX6_isIn_5 rfl rfl ?_
    refine x_iload_n (pc := 6) (i := 2) C 2 dX6_isIn_6 rfl rfl ?_
    refine x_icmp_gt (pc := 7) (tgt := 14) C dX6_isIn_7 (by decide) (fun c2 => ?_) (fun c2 => ?_)
    · have hR := hR.trans (if_pos c2)
      refine x_iconst (pc := 14) (v := 0) C dX6_isIn_14 (by decide) ?_
      exact x_zret (pc := 15) C rfl (by decide) hR dX6_isIn_15
    · have hR := hR.trans (if_neg c2)
      refine x_iconst (pc := 10) (v := 1) C dX6_isIn_10 (by decide) ?_
      refine x_goto (pc := 11) (tgt := 15) C dX6_isIn_11 (by decide) ?_
      exact x_zret (pc := 15) C rfl (by decide) hR dX6_isIn_15
set_option maxHeartbeats 4000000 in
set_option maxRecDepth 100000 in
theorem t_X0_copyFrom_L10 {p0 : Program} {l : Launch} {e : Env} {s : State} {m : MethodId} {args : Array Value} {below : List Frame} {meth : Method} {c : Code} {A : Nat → Prop} {G : GT} {ad : Nat → Nat} {Q : State → Prop} (C : CX p0 l s m args meth c A G ad cX0_copyFrom RX0 3 none) {p : Nat} (hp : p < 176 ∧ p % 16 = 1) {q0 : Nat} (hq0 : q0 < 176 ∧ q0 % 16 = 1)   (n : Nat) (B : StB) (a2 : Int32) (M : StM) (O : StO) : ∀ (R0 : StB) (hR : R0 = f_X0_copyFrom_L10 n p q0 B a2) (hok : ok_X0_copyFrom_L10 n p q0 B a2) (k : X p0 l e (rmd 1 0 0) s m args below meth c A G ad 3 0 0 Q R0 M O [] 72 []), X p0 l e (rmd 1 0 0) s m args below meth c A G ad 3 0 0 Q B M O [(0, .ref (ad p)), (1, .ref (ad q0)), (2, .int a2)] 10 [] := by
  induction n generalizing B a2 with
  | zero => intro R0 hR hok k; exact False.elim hok
  | succ n ih =>
    intro R0 hR hok k
    have hR : R0 = (if (bi B p 0) ≤ a2 then B else (nm (sba B (p + 1) (ix a2) (ba B (q0 + 1) (ix a2))) (fun (B5 : StB) => (nm (sba B5 (p + 2) (ix a2) (ba B5 (q0 + 2) (ix a2))) (fun (B8 : StB) => (nm (sba B8 (p + 3) (ix a2) (ba B8 (q0 + 3) (ix a2))) (fun (B11 : StB) => (nm (sba B11 (p + 4) (ix a2) (vp_nar .boolean (ba B11 (q0 + 4) (ix a2)))) (fun (B14 : StB) => (f_X0_copyFrom_L10 n p q0 B14 (a2 + 1))))))))))) := hR
    have hok : (((bi B p 0) ≤ a2 → True) ∧ (¬ (bi B p 0) ≤ a2 → (vp_in a2 8 ∧ (vp_in a2 8 ∧ (∀ B5 : StB, B5 = (sba B (p + 1) (ix a2) (ba B (q0 + 1) (ix a2))) → (vp_in a2 8 ∧ (vp_in a2 8 ∧ (∀ B8 : StB, B8 = (sba B5 (p + 2) (ix a2) (ba B5 (q0 + 2) (ix a2))) → (vp_in a2 8 ∧ (vp_in a2 8 ∧ (∀ B11 : StB, B11 = (sba B8 (p + 3) (ix a2) (ba B8 (q0 + 3) (ix a2))) → (vp_in a2 8 ∧ (vp_in a2 8 ∧ (∀ B14 : StB, B14 = (sba B11 (p + 4) (ix a2) (vp_nar .boolean (ba B11 (q0 + 4) (ix a2)))) → (ok_X0_copyFrom_L10 n p q0 B14 (a2 + 1)))))))))))))))) := hok
    refine x_iload_n (pc := 10) (i := 2) C 2 dX0_copyFrom_10 rfl rfl ?_
    refine x_aload_n (pc := 11) (i := 0) C 0 dX0_copyFrom_11 rfl rfl ?_
    refine x_get (pc := 12) (q := p) (i := 0) C (e_A (by omega)) rfl ttX0 (by decide) wd_1_52 rfl dX0_copyFrom_12 ?_
    refine x_icmp_ge (pc := 15) (tgt := 72) C dX0_copyFrom_15 (by decide) (fun c2 => ?_) (fun c2 => ?_)
    · have hR := hR.trans (if_pos c2)
      refine x_sub [] (ls2 := []) rfl ?_
      subst hR
      exact k
    · have hR := hR.trans (if_neg c2)
      have hok := hok.2 c2
      refine x_aload_n (pc := 18) (i := 0) C 0 dX0_copyFrom_18 rfl rfl ?_
      refine x_get (pc := 19) (q := p) (i := 1) C (e_A (by omega)) rfl ttX0 (by decide) wd_1_55 rfl dX0_copyFrom_19 ?_
      refine x_iload_n (pc := 22) (i := 2) C 2 dX0_copyFrom_22 rfl rfl ?_
      refine x_aload_n (pc := 23) (i := 1) C 1 dX0_copyFrom_23 rfl rfl ?_
      refine x_get (pc := 24) (q := q0) (i := 1) C (e_A (by omega)) rfl ttX0 (by decide) wd_1_55 rfl dX0_copyFrom_24 ?_
      refine x_iload_n (pc := 27) (i := 2) C 2 dX0_copyFrom_27 rfl rfl ?_
      have h3 := hok.1
      have hok := hok.2
      refine x_iald (pc := 28) (q := q0 + 1) C (e_Ak (by omega)) h3 dX0_copyFrom_28 ?_
      have h4 := hok.1
      have hok := hok.2
      refine x_iastB (pc := 29) (q := p + 1) C (e_Ak (by omega)) (e_Ak (by omega)).2 h4 dX0_copyFrom_29 ?_
      refine x_nmB (fun B5 eB5 => ?_)
      have hR := nmE hR eB5
      have hok := hok B5 eB5
      refine x_aload_n (pc := 30) (i := 0) C 0 dX0_copyFrom_30 rfl rfl ?_
      refine x_get (pc := 31) (q := p) (i := 2) C (e_A (by omega)) rfl ttX0 (by decide) wd_1_58 rfl dX0_copyFrom_31 ?_
      refine x_iload_n (pc := 34) (i := 2) C 2 dX0_copyFrom_34 rfl rfl ?_
      refine x_aload_n (pc := 35) (i := 1) C 1 dX0_copyFrom_35 rfl rfl ?_
      refine x_get (pc := 36) (q := q0) (i := 2) C (e_A (by omega)) rfl ttX0 (by decide) wd_1_58 rfl dX0_copyFrom_36 ?_
      refine x_iload_n (pc := 39) (i := 2) C 2 dX0_copyFrom_39 rfl rfl ?_
      have h6 := hok.1
      have hok := hok.2
      refine x_iald (pc := 40) (q := q0 + 2) C (e_Ab (by omega)) h6 dX0_copyFrom_40 ?_
      have h7 := hok.1
      have hok := hok.2
      refine x_iastB (pc := 41) (q := p + 2) C (e_Ab (by omega)) (e_Ab (by omega)).2 h7 dX0_copyFrom_41 ?_
      refine x_nmB (fun B8 eB8 => ?_)
      have hR := nmE hR eB8
      have hok := hok B8 eB8
      refine x_aload_n (pc := 42) (i := 0) C 0 dX0_copyFrom_42 rfl rfl ?_
      refine x_get (pc := 43) (q := p) (i := 3) C (e_A (by omega)) rfl ttX0 (by decide) wd_1_61 rfl dX0_copyFrom_43 ?_
      refine x_iload_n (pc := 46) (i := 2) C 2 dX0_copyFrom_46 rfl rfl ?_
      refine x_aload_n (pc := 47) (i := 1) C 1 dX0_copyFrom_47 rfl rfl ?_
      refine x_get (pc := 48) (q := q0) (i := 3) C (e_A (by omega)) rfl ttX0 (by decide) wd_1_61 rfl dX0_copyFrom_48 ?_
      refine x_iload_n (pc := 51) (i := 2) C 2 dX0_copyFrom_51 rfl rfl ?_
      have h9 := hok.1
      have hok := hok.2
      refine x_iald (pc := 52) (q := q0 + 3) C (e_Al (by omega)) h9 dX0_copyFrom_52 ?_
      have h10 := hok.1
      have hok := hok.2
      refine x_iastB (pc := 53) (q := p + 3) C (e_Al (by omega)) (e_Al (by omega)).2 h10 dX0_copyFrom_53 ?_
      refine x_nmB (fun B11 eB11 => ?_)
      have hR := nmE hR eB11
      have hok := hok B11 eB11
      refine x_aload_n (pc := 54) (i := 0) C 0 dX0_copyFrom_54 rfl rfl ?_
      refine x_get (pc := 55) (q := p) (i := 4) C (e_A (by omega)) rfl ttX0 (by decide) wd_1_63 rfl dX0_copyFrom_55 ?_
      refine x_iload_n (pc := 58) (i := 2) C 2 dX0_copyFrom_58 rfl rfl ?_
      refine x_aload_n (pc := 59) (i := 1) C 1 dX0_copyFrom_59 rfl rfl ?_
      refine x_get (pc := 60) (q := q0) (i := 4) C (e_A (by omega)) rfl ttX0 (by decide) wd_1_63 rfl dX0_copyFrom_60 ?_
      refine x_iload_n (pc := 63) (i := 2) C 2 dX0_copyFrom_63 rfl rfl ?_
      have h12 := hok.1
      have hok := hok.2
      refine x_zald (pc := 64) (q := q0 + 4) C (e_At (by omega)) h12 dX0_copyFrom_64 ?_
      have h13 := hok.1
      have hok := hok.2
      refine x_zastB (pc := 65) (q := p + 4) C (e_At (by omega)) (e_At (by omega)).2 h13 dX0_copyFrom_65 ?_
      refine x_nmB (fun B14 eB14 => ?_)
      have hR := nmE hR eB14
      have hok := hok B14 eB14
      refine x_iinc (pc := 66) (i := 2) (v := (a2 + 1)) (ls2 := [(2, .int (a2 + 1)), (0, .ref (ad p)), (1, .ref (ad q0))]) C 2 dX0_copyFrom_66 rfl rfl (by decide) rfl ?_
      refine x_goto (pc := 69) (tgt := 10) C dX0_copyFrom_69 (by decide) ?_
      refine x_sub [1, 2, 0] (ls2 := [(0, .ref (ad p)), (1, .ref (ad q0)), (2, .int (a2 + 1))]) rfl ?_
      exact ih B14 (a2 + 1) R0 hR hok k
set_option maxHeartbeats 4000000 in
set_option maxRecDepth 100000 in
theorem c_X0_copyFrom {l : Launch} {A : Nat → Prop} {G : GT} {ad : Nat → Nat} (gl : Gl l A G ad) (p : Nat) (hp : p < 176 ∧ p % 16 = 1) (q0 : Nat) (hq0 : q0 < 176 ∧ q0 % 16 = 1) (B : StB) (M : StM) (O : StO)  (hok : ok_X0_copyFrom p q0 B) : Met l yX0_copyFrom (wof yX0_copyFrom cX0_copyFrom 3 none) (rmd 1 0 0) (va_Pc [.ref (ad p), .ref (ad q0)] (PW G A ad B M O)) (QV G A ad (f_X0_copyFrom p q0 B) M O) 0 0 A := by
  refine x_body (own := RX0) (by decide +kernel) rfl gl (Nat.le_of_ble_eq_true rfl) (ls := [(0, .ref (ad p)), (1, .ref (ad q0))]) rfl ?_
  intro p0 e s m args below meth c C
  have hR : (f_X0_copyFrom p q0 B) = (nm (sbi B p 0 (bi B q0 0)) (fun (B1 : StB) => (nm (f_X0_copyFrom_L10 fu p q0 B1 0) (fun (z15 : StB) => z15)))) := rfl
  have hok : (∀ B1 : StB, B1 = (sbi B p 0 (bi B q0 0)) → (ok_X0_copyFrom_L10 fu p q0 B1 0)) := hok
  refine x_aload_n (pc := 0) (i := 0) C 0 dX0_copyFrom_0 rfl rfl ?_
  refine x_aload_n (pc := 1) (i := 1) C 1 dX0_copyFrom_1 rfl rfl ?_
  refine x_get (pc := 2) (q := q0) (i := 0) C (e_A (by omega)) rfl ttX0 (by decide) wd_1_52 rfl dX0_copyFrom_2 ?_
  refine x_put (pc := 5) (B2 := (sbi B p 0 (bi B q0 0))) (M2 := M) (O2 := O) (q := p) (i := 0) C tyX0 tyX0_ok nmX0 (e_A (by omega)) rfl ttX0 (by decide) wd_1_52 rfl rfl rfl (Nat.le_of_ble_eq_true rfl) dX0_copyFrom_5 (put_A_0 (by omega)) (o_sbi p 0 (bi B q0 0)) ?_
  refine x_nmB (fun B1 eB1 => ?_)
  have hR := nmE hR eB1
  have hok := hok B1 eB1
  refine x_iconst (pc := 8) (v := 0) C dX0_copyFrom_8 (by decide) ?_
  refine x_istore_n (pc := 9) (i := 2) (ls2 := [(2, .int 0), (0, .ref (ad p)), (1, .ref (ad q0))]) C dX0_copyFrom_9 rfl (by decide) rfl ?_
  refine x_sub [1, 2, 0] (ls2 := [(0, .ref (ad p)), (1, .ref (ad q0)), (2, .int 0)]) rfl ?_
  obtain ⟨z15, ez15⟩ : ∃ z : StB, z = f_X0_copyFrom_L10 fu p q0 B1 0 := ⟨_, rfl⟩
  refine t_X0_copyFrom_L10 C hp hq0 fu B1 0 M O z15 ez15 hok ?_
  have hR := nmE hR ez15
  exact x_vretB (pc := 72) C rfl hR dX0_copyFrom_72
set_option maxHeartbeats 4000000 in
set_option maxRecDepth 100000 in
theorem c_X0_add {l : Launch} {A : Nat → Prop} {G : GT} {ad : Nat → Nat} (gl : Gl l A G ad) (p : Nat) (hp : p < 176 ∧ p % 16 = 1) (B : StB) (M : StM) (O : StO) (x0 : Int32) (hok : ok_X0_add p B x0) : Met l yX0_add (wof yX0_add cX0_add 3 (some .int)) (rmd 1 0 0) (va_Pc [.ref (ad p), .int x0] (PW G A ad B M O)) (QI G A ad (f_X0_add p B x0).1 (f_X0_add p B x0).2 M O) 0 0 A := by
  refine x_body (own := RX0) (by decide +kernel) rfl gl (Nat.le_of_ble_eq_true rfl) (ls := [(0, .ref (ad p)), (1, .int x0)]) rfl ?_
  intro p0 e s m args below meth c C
  have hR : (f_X0_add p B x0) = (nm (bi B p 0) (fun (v1 : Int32) => (nm (sba B (p + 1) (ix v1) x0) (fun (B3 : StB) => (nm (sba B3 (p + 2) (ix v1) 0) (fun (B5 : StB) => (nm (sba B5 (p + 3) (ix v1) 0) (fun (B7 : StB) => (nm (sba B7 (p + 4) (ix v1) (vp_nar .boolean 0)) (fun (B9 : StB) => (nm (sbi B9 p 0 ((bi B9 p 0) + 1)) (fun (B10 : StB) => (v1, B10))))))))))))) := rfl
  have hok : (∀ v1 : Int32, v1 = (bi B p 0) → (vp_in v1 8 ∧ (∀ B3 : StB, B3 = (sba B (p + 1) (ix v1) x0) → (vp_in v1 8 ∧ (∀ B5 : StB, B5 = (sba B3 (p + 2) (ix v1) 0) → (vp_in v1 8 ∧ (∀ B7 : StB, B7 = (sba B5 (p + 3) (ix v1) 0) → (vp_in v1 8)))))))) := hok
  refine x_aload_n (pc := 0) (i := 0) C 0 dX0_add_0 rfl rfl ?_
  refine x_get (pc := 1) (q := p) (i := 0) C (e_A (by omega)) rfl ttX0 (by decide) wd_1_52 rfl dX0_add_1 ?_
  refine x_nmI (fun v1 ev1 => ?_)
  have hR := nmE hR ev1
  have hok := hok v1 ev1
  refine x_istore_n (pc := 4) (i := 2) (ls2 := [(2, .int v1), (0, .ref (ad p)), (1, .int x0)]) C dX0_add_4 rfl (by decide) rfl ?_
  refine x_aload_n (pc := 5) (i := 0) C 1 dX0_add_5 rfl rfl ?_
  refine x_get (pc := 6) (q := p) (i := 1) C (e_A (by omega)) rfl ttX0 (by decide) wd_1_55 rfl dX0_add_6 ?_
  refine x_iload_n (pc := 9) (i := 2) C 0 dX0_add_9 rfl rfl ?_
  refine x_iload_n (pc := 10) (i := 1) C 2 dX0_add_10 rfl rfl ?_
  have h2 := hok.1
  have hok := hok.2
  refine x_iastB (pc := 11) (q := p + 1) C (e_Ak (by omega)) (e_Ak (by omega)).2 h2 dX0_add_11 ?_
  refine x_nmB (fun B3 eB3 => ?_)
  have hR := nmE hR eB3
  have hok := hok B3 eB3
  refine x_aload_n (pc := 12) (i := 0) C 1 dX0_add_12 rfl rfl ?_
  refine x_get (pc := 13) (q := p) (i := 2) C (e_A (by omega)) rfl ttX0 (by decide) wd_1_58 rfl dX0_add_13 ?_
  refine x_iload_n (pc := 16) (i := 2) C 0 dX0_add_16 rfl rfl ?_
  refine x_iconst (pc := 17) (v := 0) C dX0_add_17 (by decide) ?_
  have h4 := hok.1
  have hok := hok.2
  refine x_iastB (pc := 18) (q := p + 2) C (e_Ab (by omega)) (e_Ab (by omega)).2 h4 dX0_add_18 ?_
  refine x_nmB (fun B5 eB5 => ?_)
  have hR := nmE hR eB5
  have hok := hok B5 eB5
  refine x_aload_n (pc := 19) (i := 0) C 1 dX0_add_19 rfl rfl ?_
  refine x_get (pc := 20) (q := p) (i := 3) C (e_A (by omega)) rfl ttX0 (by decide) wd_1_61 rfl dX0_add_20 ?_
  refine x_iload_n (pc := 23) (i := 2) C 0 dX0_add_23 rfl rfl ?_
  refine x_iconst (pc := 24) (v := 0) C dX0_add_24 (by decide) ?_
  have h6 := hok.1
  have hok := hok.2
  refine x_iastB (pc := 25) (q := p + 3) C (e_Al (by omega)) (e_Al (by omega)).2 h6 dX0_add_25 ?_
  refine x_nmB (fun B7 eB7 => ?_)
  have hR := nmE hR eB7
  have hok := hok B7 eB7
  refine x_aload_n (pc := 26) (i := 0) C 1 dX0_add_26 rfl rfl ?_
  refine x_get (pc := 27) (q := p) (i := 4) C (e_A (by omega)) rfl ttX0 (by decide) wd_1_63 rfl dX0_add_27 ?_
  refine x_iload_n (pc := 30) (i := 2) C 0 dX0_add_30 rfl rfl ?_
  refine x_iconst (pc := 31) (v := 0) C dX0_add_31 (by decide) ?_
  have h8 := hok
  refine x_zastB (pc := 32) (q := p + 4) C (e_At (by omega)) (e_At (by omega)).2 h8 dX0_add_32 ?_
  refine x_nmB (fun B9 eB9 => ?_)
  have hR := nmE hR eB9
  refine x_aload_n (pc := 33) (i := 0) C 1 dX0_add_33 rfl rfl ?_
  refine x_dup (pc := 34) C dX0_add_34 rfl ?_
  refine x_get (pc := 35) (q := p) (i := 0) C (e_A (by omega)) rfl ttX0 (by decide) wd_1_52 rfl dX0_add_35 ?_
  refine x_iconst (pc := 38) (v := 1) C dX0_add_38 (by decide) ?_
  refine x_iadd (pc := 39) C dX0_add_39 ?_
  refine x_put (pc := 40) (B2 := (sbi B9 p 0 ((bi B9 p 0) + 1))) (M2 := M) (O2 := O) (q := p) (i := 0) C tyX0 tyX0_ok nmX0 (e_A (by omega)) rfl ttX0 (by decide) wd_1_52 rfl rfl rfl (Nat.le_of_ble_eq_true rfl) dX0_add_40 (put_A_0 (by omega)) (o_sbi p 0 ((bi B9 p 0) + 1)) ?_
  refine x_nmB (fun B10 eB10 => ?_)
  have hR := nmE hR eB10
  refine x_iload_n (pc := 43) (i := 2) C 0 dX0_add_43 rfl rfl ?_
  exact x_iretB (pc := 44) C rfl hR dX0_add_44
set_option maxHeartbeats 4000000 in
set_option maxRecDepth 100000 in
theorem c_X0_has {l : Launch} {A : Nat → Prop} {G : GT} {ad : Nat → Nat} (gl : Gl l A G ad) (p : Nat) (hp : p < 176 ∧ p % 16 = 1) (B : StB) (M : StM) (O : StO) (x0 : Int32) : Met l yX0_has (wof yX0_has cX0_has 2 (some .boolean)) (rmd 1 0 0) (va_Pc [.ref (ad p), .int x0] (PW G A ad B M O)) (QI G A ad (f_X0_has p B x0) B M O) 0 0 A := by
  refine x_body (own := RX0) (by decide +kernel) rfl gl (Nat.le_of_ble_eq_true rfl) (ls := [(0, .ref (ad p)), (1, .int x0)]) rfl ?_
  intro p0 e s m args below meth c C
  have hR : (f_X0_has p B x0) = (if x0 < 0 then 0 else (if (bi B p 0) ≤ x0 then 0 else 1)) := rfl
  refine x_iload_n (pc := 0) (i := 1) C 1 dX0_has_0 rfl rfl ?_
  refine x_if_lt (pc := 1) (tgt := 16) C dX0_has_1 (by decide) (fun c1 => ?_) (fun c1 => ?_)
  · have hR := hR.trans (if_pos c1)
    refine x_iconst (pc := 16) (v := 0) C dX0_has_16 (by decide) ?_
    exact x_zret (pc := 17) C rfl (by decide) hR dX0_has_17
  · have hR := hR.trans (if_neg c1)
    refine x_iload_n (pc := 4) (i := 1) C 1 dX0_has_4 rfl rfl ?_
    refine x_aload_n (pc := 5) (i := 0) C 0 dX0_has_5 rfl rfl ?_
    refine x_get (pc := 6) (q := p) (i := 0) C (e_A (by omega)) rfl ttX0 (by decide) wd_1_52 rfl dX0_has_6 ?_
    refine x_icmp_ge (pc := 9) (tgt := 16) C dX0_has_9 (by decide) (fun c2 => ?_) (fun c2 => ?_)
    · have hR := hR.trans (if_pos c2)
      refine x_iconst (pc := 16) (v := 0) C dX0_has_16 (by decide) ?_
      exact x_zret (pc := 17) C rfl (by decide) hR dX0_has_17
    · have hR := hR.trans (if_neg c2)
      refine x_iconst (pc := 12) (v := 1) C dX0_has_12 (by decide) ?_
      refine x_goto (pc := 13) (tgt := 17) C dX0_has_13 (by decide) ?_
      exact x_zret (pc := 17) C rfl (by decide) hR dX0_has_17
set_option maxHeartbeats 4000000 in
set_option maxRecDepth 100000 in
theorem c_X0_available {l : Launch} {A : Nat → Prop} {G : GT} {ad : Nat → Nat} (gl : Gl l A G ad) (p : Nat) (hp : p < 176 ∧ p % 16 = 1) (B : StB) (M : StM) (O : StO) (x0 : Int32) (hok : ok_X0_available p B x0) : Met l yX0_available (wof yX0_available cX0_available 2 (some .int)) (rmd 1 0 0) (va_Pc [.ref (ad p), .int x0] (PW G A ad B M O)) (QI G A ad (f_X0_available p B x0) B M O) 0 0 A := by
  refine x_body (own := RX0) (by decide +kernel) rfl gl (Nat.le_of_ble_eq_true rfl) (ls := [(0, .ref (ad p)), (1, .int x0)]) rfl ?_
  intro p0 e s m args below meth c C
  have hR : (f_X0_available p B x0) = ((ba B (p + 2) (ix x0)) + (ba B (p + 3) (ix x0))) := rfl
  have hok : (vp_in x0 8 ∧ (vp_in x0 8)) := hok
  refine x_aload_n (pc := 0) (i := 0) C 0 dX0_available_0 rfl rfl ?_
  refine x_get (pc := 1) (q := p) (i := 2) C (e_A (by omega)) rfl ttX0 (by decide) wd_1_58 rfl dX0_available_1 ?_
  refine x_iload_n (pc := 4) (i := 1) C 1 dX0_available_4 rfl rfl ?_
  have h1 := hok.1
  have hok := hok.2
  refine x_iald (pc := 5) (q := p + 2) C (e_Ab (by omega)) h1 dX0_available_5 ?_
  refine x_aload_n (pc := 6) (i := 0) C 0 dX0_available_6 rfl rfl ?_
  refine x_get (pc := 7) (q := p) (i := 3) C (e_A (by omega)) rfl ttX0 (by decide) wd_1_61 rfl dX0_available_7 ?_
  refine x_iload_n (pc := 10) (i := 1) C 1 dX0_available_10 rfl rfl ?_
  have h2 := hok
  refine x_iald (pc := 11) (q := p + 3) C (e_Al (by omega)) h2 dX0_available_11 ?_
  refine x_iadd (pc := 12) C dX0_available_12 ?_
  exact x_iret (pc := 13) C rfl hR dX0_available_13
set_option maxHeartbeats 4000000 in
set_option maxRecDepth 100000 in
theorem c_X0_changeLimit {l : Launch} {A : Nat → Prop} {G : GT} {ad : Nat → Nat} (gl : Gl l A G ad) (p : Nat) (hp : p < 176 ∧ p % 16 = 1) (B : StB) (M : StM) (O : StO) (x0 : Int32) (x1 : Int32) (hok : ok_X0_changeLimit p B x0 x1) : Met l yX0_changeLimit (wof yX0_changeLimit cX0_changeLimit 4 (some .int)) (rmd 1 0 0) (va_Pc [.ref (ad p), .int x0, .int x1] (PW G A ad B M O)) (QI G A ad (f_X0_changeLimit p B x0 x1).1 (f_X0_changeLimit p B x0 x1).2 M O) 0 0 A := by
  refine x_body (own := RX0) (by decide +kernel) rfl gl (Nat.le_of_ble_eq_true rfl) (ls := [(0, .ref (ad p)), (1, .int x0), (2, .int x1)]) rfl ?_
  intro p0 e s m args below meth c C
  have hR : (f_X0_changeLimit p B x0 x1) = (nm (ba B (p + 3) (ix x0)) (fun (v2 : Int32) => (nm (sba B (p + 3) (ix x0) x1) (fun (B4 : StB) => (v2, B4))))) := rfl
  have hok : (vp_in x0 8 ∧ (∀ v2 : Int32, v2 = (ba B (p + 3) (ix x0)) → (vp_in x0 8))) := hok
  refine x_aload_n (pc := 0) (i := 0) C 0 dX0_changeLimit_0 rfl rfl ?_
  refine x_get (pc := 1) (q := p) (i := 3) C (e_A (by omega)) rfl ttX0 (by decide) wd_1_61 rfl dX0_changeLimit_1 ?_
  refine x_iload_n (pc := 4) (i := 1) C 1 dX0_changeLimit_4 rfl rfl ?_
  have h1 := hok.1
  have hok := hok.2
  refine x_iald (pc := 5) (q := p + 3) C (e_Al (by omega)) h1 dX0_changeLimit_5 ?_
  refine x_nmI (fun v2 ev2 => ?_)
  have hR := nmE hR ev2
  have hok := hok v2 ev2
  refine x_istore_n (pc := 6) (i := 3) (ls2 := [(3, .int v2), (0, .ref (ad p)), (1, .int x0), (2, .int x1)]) C dX0_changeLimit_6 rfl (by decide) rfl ?_
  refine x_aload_n (pc := 7) (i := 0) C 1 dX0_changeLimit_7 rfl rfl ?_
  refine x_get (pc := 8) (q := p) (i := 3) C (e_A (by omega)) rfl ttX0 (by decide) wd_1_61 rfl dX0_changeLimit_8 ?_
  refine x_iload_n (pc := 11) (i := 1) C 2 dX0_changeLimit_11 rfl rfl ?_
  refine x_iload_n (pc := 12) (i := 2) C 3 dX0_changeLimit_12 rfl rfl ?_
  have h3 := hok
  refine x_iastB (pc := 13) (q := p + 3) C (e_Al (by omega)) (e_Al (by omega)).2 h3 dX0_changeLimit_13 ?_
  refine x_nmB (fun B4 eB4 => ?_)
  have hR := nmE hR eB4
  refine x_iload_n (pc := 14) (i := 3) C 0 dX0_changeLimit_14 rfl rfl ?_
  exact x_iretB (pc := 15) C rfl hR dX0_changeLimit_15
set_option maxHeartbeats 4000000 in
set_option maxRecDepth 100000 in
theorem c_X0_fullCharge {l : Launch} {A : Nat → Prop} {G : GT} {ad : Nat → Nat} (gl : Gl l A G ad) (p : Nat) (hp : p < 176 ∧ p % 16 = 1) (B : StB) (M : StM) (O : StO) (x0 : Int32) (hok : ok_X0_fullCharge p B x0) : Met l yX0_fullCharge (wof yX0_fullCharge cX0_fullCharge 2 (some .int)) (rmd 2 0 0) (va_Pc [.ref (ad p), .int x0] (PW G A ad B M O)) (QI G A ad (f_X0_fullCharge p B x0) B M O) 0 0 A := by
  refine x_body (own := RX0) (by decide +kernel) rfl gl (Nat.le_of_ble_eq_true rfl) (ls := [(0, .ref (ad p)), (1, .int x0)]) rfl ?_
  intro p0 e s m args below meth c C
  have hR : (f_X0_fullCharge p B x0) = (if (ba B (p + 1) (ix x0)) = 2 then 5 else (mx 1 (((-(ba B (p + 2) (ix x0))) / 50) * 2))) := rfl
  have hok : (vp_in x0 8 ∧ (((ba B (p + 1) (ix x0)) = 2 → True) ∧ (¬ (ba B (p + 1) (ix x0)) = 2 → (vp_in x0 8)))) := hok
  refine x_aload_n (pc := 0) (i := 0) C 0 dX0_fullCharge_0 rfl rfl ?_
  refine x_get (pc := 1) (q := p) (i := 1) C (e_A (by omega)) rfl ttX0 (by decide) wd_1_55 rfl dX0_fullCharge_1 ?_
  refine x_iload_n (pc := 4) (i := 1) C 1 dX0_fullCharge_4 rfl rfl ?_
  have h1 := hok.1
  have hok := hok.2
  refine x_iald (pc := 5) (q := p + 1) C (e_Ak (by omega)) h1 dX0_fullCharge_5 ?_
  refine x_iconst (pc := 6) (v := 2) C dX0_fullCharge_6 (by decide) ?_
  refine x_icmp_ne (pc := 7) (tgt := 12) C dX0_fullCharge_7 (by decide) (fun c2 => ?_) (fun c2 => ?_)
  · have hR := hR.trans (if_neg c2)
    have hok := hok.2 c2
    refine x_iconst (pc := 12) (v := 1) C dX0_fullCharge_12 (by decide) ?_
    refine x_aload_n (pc := 13) (i := 0) C 0 dX0_fullCharge_13 rfl rfl ?_
    refine x_get (pc := 14) (q := p) (i := 2) C (e_A (by omega)) rfl ttX0 (by decide) wd_1_58 rfl dX0_fullCharge_14 ?_
    refine x_iload_n (pc := 17) (i := 1) C 1 dX0_fullCharge_17 rfl rfl ?_
    have h3 := hok
    refine x_iald (pc := 18) (q := p + 2) C (e_Ab (by omega)) h3 dX0_fullCharge_18 ?_
    refine x_ineg (pc := 19) C dX0_fullCharge_19 ?_
    refine x_bipush (pc := 20) (v := 50) C dX0_fullCharge_20 (by decide) ?_
    refine x_idiv (pc := 22) C dX0_fullCharge_22 (by decide) ?_
    refine x_iconst (pc := 23) (v := 2) C dX0_fullCharge_23 (by decide) ?_
    refine x_imul (pc := 24) C dX0_fullCharge_24 ?_
    refine x_mmax (pc := 25) C wd_3_179 wd_3_180 wd_1_21 wd_3_181 ⟨Nat.le_of_ble_eq_true rfl, Nat.le_of_ble_eq_true rfl⟩ ⟨Nat.le_of_ble_eq_true rfl, Nat.le_of_ble_eq_true rfl⟩ dX0_fullCharge_25 ?_
    exact x_iret (pc := 28) C rfl hR dX0_fullCharge_28
  · have hR := hR.trans (if_pos c2)
    refine x_iconst (pc := 10) (v := 5) C dX0_fullCharge_10 (by decide) ?_
    exact x_iret (pc := 11) C rfl hR dX0_fullCharge_11
set_option maxHeartbeats 4000000 in
set_option maxRecDepth 100000 in
theorem t_X0_forgetTouches_L2 {p0 : Program} {l : Launch} {e : Env} {s : State} {m : MethodId} {args : Array Value} {below : List Frame} {meth : Method} {c : Code} {A : Nat → Prop} {G : GT} {ad : Nat → Nat} {Q : State → Prop} (C : CX p0 l s m args meth c A G ad cX0_forgetTouches RX0 2 none) {p : Nat} (hp : p < 176 ∧ p % 16 = 1)   (n : Nat) (B : StB) (a1 : Int32) (M : StM) (O : StO) : ∀ (R0 : StB) (hR : R0 = f_X0_forgetTouches_L2 n p B a1) (hok : ok_X0_forgetTouches_L2 n p B a1) (k : X p0 l e (rmd 1 0 0) s m args below meth c A G ad 2 0 0 Q R0 M O [] 23 []), X p0 l e (rmd 1 0 0) s m args below meth c A G ad 2 0 0 Q B M O [(0, .ref (ad p)), (1, .int a1)] 2 [] := by
  induction n generalizing B a1 with
  | zero => intro R0 hR hok k; exact False.elim hok
  | succ n ih =>
    intro R0 hR hok k
    have hR : R0 = (if (bi B p 0) ≤ a1 then B else (nm (sba B (p + 4) (ix a1) (vp_nar .boolean 0)) (fun (B3 : StB) => (f_X0_forgetTouches_L2 n p B3 (a1 + 1))))) := hR
    have hok : (((bi B p 0) ≤ a1 → True) ∧ (¬ (bi B p 0) ≤ a1 → (vp_in a1 8 ∧ (∀ B3 : StB, B3 = (sba B (p + 4) (ix a1) (vp_nar .boolean 0)) → (ok_X0_forgetTouches_L2 n p B3 (a1 + 1)))))) := hok
    refine x_iload_n (pc := 2) (i := 1) C 1 dX0_forgetTouches_2 rfl rfl ?_
    refine x_aload_n (pc := 3) (i := 0) C 0 dX0_forgetTouches_3 rfl rfl ?_
    refine x_get (pc := 4) (q := p) (i := 0) C (e_A (by omega)) rfl ttX0 (by decide) wd_1_52 rfl dX0_forgetTouches_4 ?_
    refine x_icmp_ge (pc := 7) (tgt := 23) C dX0_forgetTouches_7 (by decide) (fun c1 => ?_) (fun c1 => ?_)
    · have hR := hR.trans (if_pos c1)
      refine x_sub [] (ls2 := []) rfl ?_
      subst hR
      exact k
    · have hR := hR.trans (if_neg c1)
      have hok := hok.2 c1
      refine x_aload_n (pc := 10) (i := 0) C 0 dX0_forgetTouches_10 rfl rfl ?_
      refine x_get (pc := 11) (q := p) (i := 4) C (e_A (by omega)) rfl ttX0 (by decide) wd_1_63 rfl dX0_forgetTouches_11 ?_
      refine x_iload_n (pc := 14) (i := 1) C 1 dX0_forgetTouches_14 rfl rfl ?_
      refine x_iconst (pc := 15) (v := 0) C dX0_forgetTouches_15 (by decide) ?_
      have h2 := hok.1
      have hok := hok.2
      refine x_zastB (pc := 16) (q := p + 4) C (e_At (by omega)) (e_At (by omega)).2 h2 dX0_forgetTouches_16 ?_
      refine x_nmB (fun B3 eB3 => ?_)
      have hR := nmE hR eB3
      have hok := hok B3 eB3
      refine x_iinc (pc := 17) (i := 1) (v := (a1 + 1)) (ls2 := [(1, .int (a1 + 1)), (0, .ref (ad p))]) C 1 dX0_forgetTouches_17 rfl rfl (by decide) rfl ?_
      refine x_goto (pc := 20) (tgt := 2) C dX0_forgetTouches_20 (by decide) ?_
      refine x_sub [1, 0] (ls2 := [(0, .ref (ad p)), (1, .int (a1 + 1))]) rfl ?_
      exact ih B3 (a1 + 1) R0 hR hok k
set_option maxHeartbeats 4000000 in
set_option maxRecDepth 100000 in
theorem c_X0_forgetTouches {l : Launch} {A : Nat → Prop} {G : GT} {ad : Nat → Nat} (gl : Gl l A G ad) (p : Nat) (hp : p < 176 ∧ p % 16 = 1) (B : StB) (M : StM) (O : StO)  (hok : ok_X0_forgetTouches p B) : Met l yX0_forgetTouches (wof yX0_forgetTouches cX0_forgetTouches 2 none) (rmd 1 0 0) (va_Pc [.ref (ad p)] (PW G A ad B M O)) (QV G A ad (f_X0_forgetTouches p B) M O) 0 0 A := by
  refine x_body (own := RX0) (by decide +kernel) rfl gl (Nat.le_of_ble_eq_true rfl) (ls := [(0, .ref (ad p))]) rfl ?_
  intro p0 e s m args below meth c C
  have hR : (f_X0_forgetTouches p B) = (nm (f_X0_forgetTouches_L2 fu p B 0) (fun (z4 : StB) => z4)) := rfl
  have hok : (ok_X0_forgetTouches_L2 fu p B 0) := hok
  refine x_iconst (pc := 0) (v := 0) C dX0_forgetTouches_0 (by decide) ?_
  refine x_istore_n (pc := 1) (i := 1) (ls2 := [(1, .int 0), (0, .ref (ad p))]) C dX0_forgetTouches_1 rfl (by decide) rfl ?_
  refine x_sub [1, 0] (ls2 := [(0, .ref (ad p)), (1, .int 0)]) rfl ?_
  obtain ⟨z4, ez4⟩ : ∃ z : StB, z = f_X0_forgetTouches_L2 fu p B 0 := ⟨_, rfl⟩
  refine t_X0_forgetTouches_L2 C hp fu B 0 M O z4 ez4 hok ?_
  have hR := nmE hR ez4
  exact x_vretB (pc := 23) C rfl hR dX0_forgetTouches_23
set_option maxHeartbeats 4000000 in
set_option maxRecDepth 100000 in
theorem t_X0_rankOf_L4 {p0 : Program} {l : Launch} {e : Env} {s : State} {m : MethodId} {args : Array Value} {below : List Frame} {meth : Method} {c : Code} {A : Nat → Prop} {G : GT} {ad : Nat → Nat} {Q : State → Prop} (C : CX p0 l s m args meth c A G ad cX0_rankOf RX0 6 (some .int)) {p : Nat} (hp : p < 176 ∧ p % 16 = 1)   (n : Nat) (B : StB) (a1 : Int32) (a2 : Int32) (a3 : Int32) (M : StM) (O : StO) : ∀ (R0 : Int32) (hR : R0 = f_X0_rankOf_L4 n p B a1 a2 a3) (hok : ok_X0_rankOf_L4 n p B a1 a2 a3) (k : X p0 l e (rmd 1 0 0) s m args below meth c A G ad 6 0 0 Q B M O [(2, .int R0)] 80 []), X p0 l e (rmd 1 0 0) s m args below meth c A G ad 6 0 0 Q B M O [(0, .ref (ad p)), (1, .int a1), (2, .int a2), (3, .int a3)] 4 [] := by
  induction n generalizing B a1 a2 a3 with
  | zero => intro R0 hR hok k; exact False.elim hok
  | succ n ih =>
    intro R0 hR hok k
    have hR : R0 = (if (bi B p 0) ≤ a3 then a2 else (if (ba B (p + 2) (ix a3)) ≤ (ba B (p + 2) (ix a1)) then (if (ba B (p + 2) (ix a3)) = (ba B (p + 2) (ix a1)) then (if a1 ≤ a3 then (f_X0_rankOf_L4 n p B a1 a2 (a3 + 1)) else (f_X0_rankOf_L4 n p B a1 (a2 + 1) (a3 + 1))) else (f_X0_rankOf_L4 n p B a1 a2 (a3 + 1))) else (if (ba B (p + 2) (ix a3)) = (ba B (p + 2) (ix a1)) then (if a1 ≤ a3 then (f_X0_rankOf_L4 n p B a1 (a2 + 1) (a3 + 1)) else (f_X0_rankOf_L4 n p B a1 (a2 + 1) (a3 + 1))) else (f_X0_rankOf_L4 n p B a1 (a2 + 1) (a3 + 1))))) := hR
    have hok : (((bi B p 0) ≤ a3 → True) ∧ (¬ (bi B p 0) ≤ a3 → (vp_in a3 8 ∧ (vp_in a1 8 ∧ (((ba B (p + 2) (ix a3)) ≤ (ba B (p + 2) (ix a1)) → (vp_in a3 8 ∧ (vp_in a1 8 ∧ (((ba B (p + 2) (ix a3)) = (ba B (p + 2) (ix a1)) → ((a1 ≤ a3 → (ok_X0_rankOf_L4 n p B a1 a2 (a3 + 1))) ∧ (¬ a1 ≤ a3 → (ok_X0_rankOf_L4 n p B a1 (a2 + 1) (a3 + 1))))) ∧ (¬ (ba B (p + 2) (ix a3)) = (ba B (p + 2) (ix a1)) → (ok_X0_rankOf_L4 n p B a1 a2 (a3 + 1))))))) ∧ (¬ (ba B (p + 2) (ix a3)) ≤ (ba B (p + 2) (ix a1)) → (vp_in a3 8 ∧ (vp_in a1 8 ∧ (((ba B (p + 2) (ix a3)) = (ba B (p + 2) (ix a1)) → ((a1 ≤ a3 → (ok_X0_rankOf_L4 n p B a1 (a2 + 1) (a3 + 1))) ∧ (¬ a1 ≤ a3 → (ok_X0_rankOf_L4 n p B a1 (a2 + 1) (a3 + 1))))) ∧ (¬ (ba B (p + 2) (ix a3)) = (ba B (p + 2) (ix a1)) → (ok_X0_rankOf_L4 n p B a1 (a2 + 1) (a3 + 1)))))))))))) := hok
    refine x_iload_n (pc := 4) (i := 3) C 3 dX0_rankOf_4 rfl rfl ?_
    refine x_aload_n (pc := 5) (i := 0) C 0 dX0_rankOf_5 rfl rfl ?_
    refine x_get (pc := 6) (q := p) (i := 0) C (e_A (by omega)) rfl ttX0 (by decide) wd_1_52 rfl dX0_rankOf_6 ?_
    refine x_icmp_ge (pc := 9) (tgt := 80) C dX0_rankOf_9 (by decide) (fun c1 => ?_) (fun c1 => ?_)
    · have hR := hR.trans (if_pos c1)
      refine x_sub [2] (ls2 := [(2, .int a2)]) rfl ?_
      subst hR
      exact k
    · have hR := hR.trans (if_neg c1)
      have hok := hok.2 c1
      refine x_aload_n (pc := 12) (i := 0) C 0 dX0_rankOf_12 rfl rfl ?_
      refine x_get (pc := 13) (q := p) (i := 2) C (e_A (by omega)) rfl ttX0 (by decide) wd_1_58 rfl dX0_rankOf_13 ?_
      refine x_iload_n (pc := 16) (i := 3) C 3 dX0_rankOf_16 rfl rfl ?_
      have h2 := hok.1
      have hok := hok.2
      refine x_iald (pc := 17) (q := p + 2) C (e_Ab (by omega)) h2 dX0_rankOf_17 ?_
      refine x_aload_n (pc := 18) (i := 0) C 0 dX0_rankOf_18 rfl rfl ?_
      refine x_get (pc := 19) (q := p) (i := 2) C (e_A (by omega)) rfl ttX0 (by decide) wd_1_58 rfl dX0_rankOf_19 ?_
      refine x_iload_n (pc := 22) (i := 1) C 1 dX0_rankOf_22 rfl rfl ?_
      have h3 := hok.1
      have hok := hok.2
      refine x_iald (pc := 23) (q := p + 2) C (e_Ab (by omega)) h3 dX0_rankOf_23 ?_
      refine x_icmp_le (pc := 24) (tgt := 31) C dX0_rankOf_24 (by decide) (fun c4 => ?_) (fun c4 => ?_)
      · have hR := hR.trans (if_pos c4)
        have hok := hok.1 c4
        refine x_iconst (pc := 31) (v := 0) C dX0_rankOf_31 (by decide) ?_
        refine x_istore (pc := 32) (i := 4) (ls2 := [(4, .int 0), (0, .ref (ad p)), (1, .int a1), (2, .int a2), (3, .int a3)]) C dX0_rankOf_32 (by decide) rfl ?_
        refine x_aload_n (pc := 34) (i := 0) C 1 dX0_rankOf_34 rfl rfl ?_
        refine x_get (pc := 35) (q := p) (i := 2) C (e_A (by omega)) rfl ttX0 (by decide) wd_1_58 rfl dX0_rankOf_35 ?_
        refine x_iload_n (pc := 38) (i := 3) C 4 dX0_rankOf_38 rfl rfl ?_
        have h5 := hok.1
        have hok := hok.2
        refine x_iald (pc := 39) (q := p + 2) C (e_Ab (by omega)) h5 dX0_rankOf_39 ?_
        refine x_aload_n (pc := 40) (i := 0) C 1 dX0_rankOf_40 rfl rfl ?_
        refine x_get (pc := 41) (q := p) (i := 2) C (e_A (by omega)) rfl ttX0 (by decide) wd_1_58 rfl dX0_rankOf_41 ?_
        refine x_iload_n (pc := 44) (i := 1) C 2 dX0_rankOf_44 rfl rfl ?_
        have h6 := hok.1
        have hok := hok.2
        refine x_iald (pc := 45) (q := p + 2) C (e_Ab (by omega)) h6 dX0_rankOf_45 ?_
        refine x_icmp_ne (pc := 46) (tgt := 58) C dX0_rankOf_46 (by decide) (fun c7 => ?_) (fun c7 => ?_)
        · have hR := hR.trans (if_neg c7)
          have hok := hok.2 c7
          refine x_iconst (pc := 58) (v := 0) C dX0_rankOf_58 (by decide) ?_
          refine x_istore (pc := 59) (i := 5) (ls2 := [(5, .int 0), (4, .int 0), (0, .ref (ad p)), (1, .int a1), (2, .int a2), (3, .int a3)]) C dX0_rankOf_59 (by decide) rfl ?_
          refine x_iload (pc := 61) (i := 4) C 1 dX0_rankOf_61 rfl ?_
          refine x_if_ne (pc := 63) (tgt := 71) C dX0_rankOf_63 (by decide) (fun hf => absurd hf (by decide)) (fun _ => ?_)
          refine x_iload (pc := 66) (i := 5) C 0 dX0_rankOf_66 rfl ?_
          refine x_if_eq (pc := 68) (tgt := 74) C dX0_rankOf_68 (by decide) (fun _ => ?_) (fun hf => absurd hf (by decide))
          refine x_iinc (pc := 74) (i := 3) (v := (a3 + 1)) (ls2 := [(3, .int (a3 + 1)), (5, .int 0), (4, .int 0), (0, .ref (ad p)), (1, .int a1), (2, .int a2)]) C 5 dX0_rankOf_74 rfl rfl (by decide) rfl ?_
          refine x_goto (pc := 77) (tgt := 4) C dX0_rankOf_77 (by decide) ?_
          refine x_sub [3, 4, 5, 0] (ls2 := [(0, .ref (ad p)), (1, .int a1), (2, .int a2), (3, .int (a3 + 1))]) rfl ?_
          exact ih B a1 a2 (a3 + 1) R0 hR hok k
        · have hR := hR.trans (if_pos c7)
          have hok := hok.1 c7
          refine x_iload_n (pc := 49) (i := 3) C 4 dX0_rankOf_49 rfl rfl ?_
          refine x_iload_n (pc := 50) (i := 1) C 2 dX0_rankOf_50 rfl rfl ?_
          refine x_icmp_ge (pc := 51) (tgt := 58) C dX0_rankOf_51 (by decide) (fun c10 => ?_) (fun c10 => ?_)
          · have hR := hR.trans (if_pos c10)
            have hok := hok.1 c10
            refine x_iconst (pc := 58) (v := 0) C dX0_rankOf_58 (by decide) ?_
            refine x_istore (pc := 59) (i := 5) (ls2 := [(5, .int 0), (4, .int 0), (0, .ref (ad p)), (1, .int a1), (2, .int a2), (3, .int a3)]) C dX0_rankOf_59 (by decide) rfl ?_
            refine x_iload (pc := 61) (i := 4) C 1 dX0_rankOf_61 rfl ?_
            refine x_if_ne (pc := 63) (tgt := 71) C dX0_rankOf_63 (by decide) (fun hf => absurd hf (by decide)) (fun _ => ?_)
            refine x_iload (pc := 66) (i := 5) C 0 dX0_rankOf_66 rfl ?_
            refine x_if_eq (pc := 68) (tgt := 74) C dX0_rankOf_68 (by decide) (fun _ => ?_) (fun hf => absurd hf (by decide))
            refine x_iinc (pc := 74) (i := 3) (v := (a3 + 1)) (ls2 := [(3, .int (a3 + 1)), (5, .int 0), (4, .int 0), (0, .ref (ad p)), (1, .int a1), (2, .int a2)]) C 5 dX0_rankOf_74 rfl rfl (by decide) rfl ?_
            refine x_goto (pc := 77) (tgt := 4) C dX0_rankOf_77 (by decide) ?_
            refine x_sub [3, 4, 5, 0] (ls2 := [(0, .ref (ad p)), (1, .int a1), (2, .int a2), (3, .int (a3 + 1))]) rfl ?_
            exact ih B a1 a2 (a3 + 1) R0 hR hok k
          · have hR := hR.trans (if_neg c10)
            have hok := hok.2 c10
            refine x_iconst (pc := 54) (v := 1) C dX0_rankOf_54 (by decide) ?_
            refine x_goto (pc := 55) (tgt := 59) C dX0_rankOf_55 (by decide) ?_
            refine x_istore (pc := 59) (i := 5) (ls2 := [(5, .int 1), (4, .int 0), (0, .ref (ad p)), (1, .int a1), (2, .int a2), (3, .int a3)]) C dX0_rankOf_59 (by decide) rfl ?_
            refine x_iload (pc := 61) (i := 4) C 1 dX0_rankOf_61 rfl ?_
            refine x_if_ne (pc := 63) (tgt := 71) C dX0_rankOf_63 (by decide) (fun hf => absurd hf (by decide)) (fun _ => ?_)
            refine x_iload (pc := 66) (i := 5) C 0 dX0_rankOf_66 rfl ?_
            refine x_if_eq (pc := 68) (tgt := 74) C dX0_rankOf_68 (by decide) (fun hf => absurd hf (by decide)) (fun _ => ?_)
            refine x_iinc (pc := 71) (i := 2) (v := (a2 + 1)) (ls2 := [(2, .int (a2 + 1)), (5, .int 1), (4, .int 0), (0, .ref (ad p)), (1, .int a1), (3, .int a3)]) C 4 dX0_rankOf_71 rfl rfl (by decide) rfl ?_
            refine x_iinc (pc := 74) (i := 3) (v := (a3 + 1)) (ls2 := [(3, .int (a3 + 1)), (2, .int (a2 + 1)), (5, .int 1), (4, .int 0), (0, .ref (ad p)), (1, .int a1)]) C 5 dX0_rankOf_74 rfl rfl (by decide) rfl ?_
            refine x_goto (pc := 77) (tgt := 4) C dX0_rankOf_77 (by decide) ?_
            refine x_sub [4, 5, 1, 0] (ls2 := [(0, .ref (ad p)), (1, .int a1), (2, .int (a2 + 1)), (3, .int (a3 + 1))]) rfl ?_
            exact ih B a1 (a2 + 1) (a3 + 1) R0 hR hok k
      · have hR := hR.trans (if_neg c4)
        have hok := hok.2 c4
        refine x_iconst (pc := 27) (v := 1) C dX0_rankOf_27 (by decide) ?_
        refine x_goto (pc := 28) (tgt := 32) C dX0_rankOf_28 (by decide) ?_
        refine x_istore (pc := 32) (i := 4) (ls2 := [(4, .int 1), (0, .ref (ad p)), (1, .int a1), (2, .int a2), (3, .int a3)]) C dX0_rankOf_32 (by decide) rfl ?_
        refine x_aload_n (pc := 34) (i := 0) C 1 dX0_rankOf_34 rfl rfl ?_
        refine x_get (pc := 35) (q := p) (i := 2) C (e_A (by omega)) rfl ttX0 (by decide) wd_1_58 rfl dX0_rankOf_35 ?_
        refine x_iload_n (pc := 38) (i := 3) C 4 dX0_rankOf_38 rfl rfl ?_
        have h15 := hok.1
        have hok := hok.2
        refine x_iald (pc := 39) (q := p + 2) C (e_Ab (by omega)) h15 dX0_rankOf_39 ?_
        refine x_aload_n (pc := 40) (i := 0) C 1 dX0_rankOf_40 rfl rfl ?_
        refine x_get (pc := 41) (q := p) (i := 2) C (e_A (by omega)) rfl ttX0 (by decide) wd_1_58 rfl dX0_rankOf_41 ?_
        refine x_iload_n (pc := 44) (i := 1) C 2 dX0_rankOf_44 rfl rfl ?_
        have h16 := hok.1
        have hok := hok.2
        refine x_iald (pc := 45) (q := p + 2) C (e_Ab (by omega)) h16 dX0_rankOf_45 ?_
        refine x_icmp_ne (pc := 46) (tgt := 58) C dX0_rankOf_46 (by decide) (fun c17 => ?_) (fun c17 => ?_)
        · have hR := hR.trans (if_neg c17)
          have hok := hok.2 c17
          refine x_iconst (pc := 58) (v := 0) C dX0_rankOf_58 (by decide) ?_
          refine x_istore (pc := 59) (i := 5) (ls2 := [(5, .int 0), (4, .int 1), (0, .ref (ad p)), (1, .int a1), (2, .int a2), (3, .int a3)]) C dX0_rankOf_59 (by decide) rfl ?_
          refine x_iload (pc := 61) (i := 4) C 1 dX0_rankOf_61 rfl ?_
          refine x_if_ne (pc := 63) (tgt := 71) C dX0_rankOf_63 (by decide) (fun _ => ?_) (fun hf => absurd hf (by decide))
          refine x_iinc (pc := 71) (i := 2) (v := (a2 + 1)) (ls2 := [(2, .int (a2 + 1)), (5, .int 0), (4, .int 1), (0, .ref (ad p)), (1, .int a1), (3, .int a3)]) C 4 dX0_rankOf_71 rfl rfl (by decide) rfl ?_
          refine x_iinc (pc := 74) (i := 3) (v := (a3 + 1)) (ls2 := [(3, .int (a3 + 1)), (2, .int (a2 + 1)), (5, .int 0), (4, .int 1), (0, .ref (ad p)), (1, .int a1)]) C 5 dX0_rankOf_74 rfl rfl (by decide) rfl ?_
          refine x_goto (pc := 77) (tgt := 4) C dX0_rankOf_77 (by decide) ?_
          refine x_sub [4, 5, 1, 0] (ls2 := [(0, .ref (ad p)), (1, .int a1), (2, .int (a2 + 1)), (3, .int (a3 + 1))]) rfl ?_
          exact ih B a1 (a2 + 1) (a3 + 1) R0 hR hok k
        · have hR := hR.trans (if_pos c17)
          have hok := hok.1 c17
          refine x_iload_n (pc := 49) (i := 3) C 4 dX0_rankOf_49 rfl rfl ?_
          refine x_iload_n (pc := 50) (i := 1) C 2 dX0_rankOf_50 rfl rfl ?_
          refine x_icmp_ge (pc := 51) (tgt := 58) C dX0_rankOf_51 (by decide) (fun c19 => ?_) (fun c19 => ?_)
          · have hR := hR.trans (if_pos c19)
            have hok := hok.1 c19
            refine x_iconst (pc := 58) (v := 0) C dX0_rankOf_58 (by decide) ?_
            refine x_istore (pc := 59) (i := 5) (ls2 := [(5, .int 0), (4, .int 1), (0, .ref (ad p)), (1, .int a1), (2, .int a2), (3, .int a3)]) C dX0_rankOf_59 (by decide) rfl ?_
            refine x_iload (pc := 61) (i := 4) C 1 dX0_rankOf_61 rfl ?_
            refine x_if_ne (pc := 63) (tgt := 71) C dX0_rankOf_63 (by decide) (fun _ => ?_) (fun hf => absurd hf (by decide))
            refine x_iinc (pc := 71) (i := 2) (v := (a2 + 1)) (ls2 := [(2, .int (a2 + 1)), (5, .int 0), (4, .int 1), (0, .ref (ad p)), (1, .int a1), (3, .int a3)]) C 4 dX0_rankOf_71 rfl rfl (by decide) rfl ?_
            refine x_iinc (pc := 74) (i := 3) (v := (a3 + 1)) (ls2 := [(3, .int (a3 + 1)), (2, .int (a2 + 1)), (5, .int 0), (4, .int 1), (0, .ref (ad p)), (1, .int a1)]) C 5 dX0_rankOf_74 rfl rfl (by decide) rfl ?_
            refine x_goto (pc := 77) (tgt := 4) C dX0_rankOf_77 (by decide) ?_
            refine x_sub [4, 5, 1, 0] (ls2 := [(0, .ref (ad p)), (1, .int a1), (2, .int (a2 + 1)), (3, .int (a3 + 1))]) rfl ?_
            exact ih B a1 (a2 + 1) (a3 + 1) R0 hR hok k
          · have hR := hR.trans (if_neg c19)
            have hok := hok.2 c19
            refine x_iconst (pc := 54) (v := 1) C dX0_rankOf_54 (by decide) ?_
            refine x_goto (pc := 55) (tgt := 59) C dX0_rankOf_55 (by decide) ?_
            refine x_istore (pc := 59) (i := 5) (ls2 := [(5, .int 1), (4, .int 1), (0, .ref (ad p)), (1, .int a1), (2, .int a2), (3, .int a3)]) C dX0_rankOf_59 (by decide) rfl ?_
            refine x_iload (pc := 61) (i := 4) C 1 dX0_rankOf_61 rfl ?_
            refine x_if_ne (pc := 63) (tgt := 71) C dX0_rankOf_63 (by decide) (fun _ => ?_) (fun hf => absurd hf (by decide))
            refine x_iinc (pc := 71) (i := 2) (v := (a2 + 1)) (ls2 := [(2, .int (a2 + 1)), (5, .int 1), (4, .int 1), (0, .ref (ad p)), (1, .int a1), (3, .int a3)]) C 4 dX0_rankOf_71 rfl rfl (by decide) rfl ?_
            refine x_iinc (pc := 74) (i := 3) (v := (a3 + 1)) (ls2 := [(3, .int (a3 + 1)), (2, .int (a2 + 1)), (5, .int 1), (4, .int 1), (0, .ref (ad p)), (1, .int a1)]) C 5 dX0_rankOf_74 rfl rfl (by decide) rfl ?_
            refine x_goto (pc := 77) (tgt := 4) C dX0_rankOf_77 (by decide) ?_
            refine x_sub [4, 5, 1, 0] (ls2 := [(0, .ref (ad p)), (1, .int a1), (2, .int (a2 + 1)), (3, .int (a3 + 1))]) rfl ?_
            exact ih B a1 (a2 + 1) (a3 + 1) R0 hR hok k
set_option maxHeartbeats 4000000 in
set_option maxRecDepth 100000 in
theorem c_X0_rankOf {l : Launch} {A : Nat → Prop} {G : GT} {ad : Nat → Nat} (gl : Gl l A G ad) (p : Nat) (hp : p < 176 ∧ p % 16 = 1) (B : StB) (M : StM) (O : StO) (x0 : Int32) (hok : ok_X0_rankOf p B x0) : Met l yX0_rankOf (wof yX0_rankOf cX0_rankOf 6 (some .int)) (rmd 1 0 0) (va_Pc [.ref (ad p), .int x0] (PW G A ad B M O)) (QI G A ad (f_X0_rankOf p B x0) B M O) 0 0 A := by
  refine x_body (own := RX0) (by decide +kernel) rfl gl (Nat.le_of_ble_eq_true rfl) (ls := [(0, .ref (ad p)), (1, .int x0)]) rfl ?_
  intro p0 e s m args below meth c C
  have hR : (f_X0_rankOf p B x0) = (nm (f_X0_rankOf_L4 fu p B x0 0 0) (fun (z22 : Int32) => z22)) := rfl
  have hok : (ok_X0_rankOf_L4 fu p B x0 0 0) := hok
  refine x_iconst (pc := 0) (v := 0) C dX0_rankOf_0 (by decide) ?_
  refine x_istore_n (pc := 1) (i := 2) (ls2 := [(2, .int 0), (0, .ref (ad p)), (1, .int x0)]) C dX0_rankOf_1 rfl (by decide) rfl ?_
  refine x_iconst (pc := 2) (v := 0) C dX0_rankOf_2 (by decide) ?_
  refine x_istore_n (pc := 3) (i := 3) (ls2 := [(3, .int 0), (2, .int 0), (0, .ref (ad p)), (1, .int x0)]) C dX0_rankOf_3 rfl (by decide) rfl ?_
  refine x_sub [2, 3, 1, 0] (ls2 := [(0, .ref (ad p)), (1, .int x0), (2, .int 0), (3, .int 0)]) rfl ?_
  obtain ⟨z22, ez22⟩ : ∃ z : Int32, z = f_X0_rankOf_L4 fu p B x0 0 0 := ⟨_, rfl⟩
  refine t_X0_rankOf_L4 C hp fu B x0 0 0 M O z22 ez22 hok ?_
  have hR := nmE hR ez22
  refine x_iload_n (pc := 80) (i := 2) C 0 dX0_rankOf_80 rfl rfl ?_
  exact x_iret (pc := 81) C rfl hR dX0_rankOf_81
set_option maxHeartbeats 4000000 in
set_option maxRecDepth 100000 in
theorem t_X0_sum_L4 {p0 : Program} {l : Launch} {e : Env} {s : State} {m : MethodId} {args : Array Value} {below : List Frame} {meth : Method} {c : Code} {A : Nat → Prop} {G : GT} {ad : Nat → Nat} {Q : State → Prop} (C : CX p0 l s m args meth c A G ad cX0_sum RX0 4 (some .long)) {p : Nat} (hp : p < 176 ∧ p % 16 = 1)   (n : Nat) (B : StB) (a1 : Int64) (a3 : Int32) (M : StM) (O : StO) : ∀ (R0 : Int64) (hR : R0 = f_X0_sum_L4 n p B a1 a3) (hok : ok_X0_sum_L4 n p B a1 a3) (k : X p0 l e (rmd 1 0 0) s m args below meth c A G ad 4 0 0 Q B M O [(1, .long R0)] 28 []), X p0 l e (rmd 1 0 0) s m args below meth c A G ad 4 0 0 Q B M O [(0, .ref (ad p)), (1, .long a1), (3, .int a3)] 4 [] := by
  induction n generalizing B a1 a3 with
  | zero => intro R0 hR hok k; exact False.elim hok
  | succ n ih =>
    intro R0 hR hok k
    have hR : R0 = (if (bi B p 0) ≤ a3 then a1 else (nm (a1 + (Int32.toInt64 (ba B (p + 2) (ix a3)))) (fun (v3 : Int64) => (f_X0_sum_L4 n p B v3 (a3 + 1))))) := hR
    have hok : (((bi B p 0) ≤ a3 → True) ∧ (¬ (bi B p 0) ≤ a3 → (vp_in a3 8 ∧ (∀ v3 : Int64, v3 = (a1 + (Int32.toInt64 (ba B (p + 2) (ix a3)))) → (ok_X0_sum_L4 n p B v3 (a3 + 1)))))) := hok
    refine x_iload_n (pc := 4) (i := 3) C 2 dX0_sum_4 rfl rfl ?_
    refine x_aload_n (pc := 5) (i := 0) C 0 dX0_sum_5 rfl rfl ?_
    refine x_get (pc := 6) (q := p) (i := 0) C (e_A (by omega)) rfl ttX0 (by decide) wd_1_52 rfl dX0_sum_6 ?_
    refine x_icmp_ge (pc := 9) (tgt := 28) C dX0_sum_9 (by decide) (fun c1 => ?_) (fun c1 => ?_)
    · have hR := hR.trans (if_pos c1)
      refine x_sub [1] (ls2 := [(1, .long a1)]) rfl ?_
      subst hR
      exact k
    · have hR := hR.trans (if_neg c1)
      have hok := hok.2 c1
      refine x_lload_n (pc := 12) (i := 1) C 1 dX0_sum_12 rfl rfl ?_
      refine x_aload_n (pc := 13) (i := 0) C 0 dX0_sum_13 rfl rfl ?_
      refine x_get (pc := 14) (q := p) (i := 2) C (e_A (by omega)) rfl ttX0 (by decide) wd_1_58 rfl dX0_sum_14 ?_
      refine x_iload_n (pc := 17) (i := 3) C 2 dX0_sum_17 rfl rfl ?_
      have h2 := hok.1
      have hok := hok.2
      refine x_iald (pc := 18) (q := p + 2) C (e_Ab (by omega)) h2 dX0_sum_18 ?_
      refine x_i2l (pc := 19) C dX0_sum_19 ?_
      refine x_ladd (pc := 20) C dX0_sum_20 ?_
      refine x_nmL (fun v3 ev3 => ?_)
      have hR := nmE hR ev3
      have hok := hok v3 ev3
      refine x_lstore_n (pc := 21) (i := 1) (ls2 := [(1, .long v3), (0, .ref (ad p)), (3, .int a3)]) C dX0_sum_21 rfl (by decide) rfl ?_
      refine x_iinc (pc := 22) (i := 3) (v := (a3 + 1)) (ls2 := [(3, .int (a3 + 1)), (1, .long v3), (0, .ref (ad p))]) C 2 dX0_sum_22 rfl rfl (by decide) rfl ?_
      refine x_goto (pc := 25) (tgt := 4) C dX0_sum_25 (by decide) ?_
      refine x_sub [2, 1, 0] (ls2 := [(0, .ref (ad p)), (1, .long v3), (3, .int (a3 + 1))]) rfl ?_
      exact ih B v3 (a3 + 1) R0 hR hok k
set_option maxHeartbeats 4000000 in
set_option maxRecDepth 100000 in
theorem c_X0_sum {l : Launch} {A : Nat → Prop} {G : GT} {ad : Nat → Nat} (gl : Gl l A G ad) (p : Nat) (hp : p < 176 ∧ p % 16 = 1) (B : StB) (M : StM) (O : StO)  (hok : ok_X0_sum p B) : Met l yX0_sum (wof yX0_sum cX0_sum 4 (some .long)) (rmd 1 0 0) (va_Pc [.ref (ad p)] (PW G A ad B M O)) (QL G A ad (f_X0_sum p B) B M O) 0 0 A := by
  refine x_body (own := RX0) (by decide +kernel) rfl gl (Nat.le_of_ble_eq_true rfl) (ls := [(0, .ref (ad p))]) rfl ?_
  intro p0 e s m args below meth c C
  have hR : (f_X0_sum p B) = (nm (f_X0_sum_L4 fu p B 0 0) (fun (z4 : Int64) => z4)) := rfl
  have hok : (ok_X0_sum_L4 fu p B 0 0) := hok
  refine x_lconst (pc := 0) (v := 0) C dX0_sum_0 (by decide) ?_
  refine x_lstore_n (pc := 1) (i := 1) (ls2 := [(1, .long 0), (0, .ref (ad p))]) C dX0_sum_1 rfl (by decide) rfl ?_
  refine x_iconst (pc := 2) (v := 0) C dX0_sum_2 (by decide) ?_
  refine x_istore_n (pc := 3) (i := 3) (ls2 := [(3, .int 0), (1, .long 0), (0, .ref (ad p))]) C dX0_sum_3 rfl (by decide) rfl ?_
  refine x_sub [2, 1, 0] (ls2 := [(0, .ref (ad p)), (1, .long 0), (3, .int 0)]) rfl ?_
  obtain ⟨z4, ez4⟩ : ∃ z : Int64, z = f_X0_sum_L4 fu p B 0 0 := ⟨_, rfl⟩
  refine t_X0_sum_L4 C hp fu B 0 0 M O z4 ez4 hok ?_
  have hR := nmE hR ez4
  refine x_lload_n (pc := 28) (i := 1) C 0 dX0_sum_28 rfl rfl ?_
  exact x_lret (pc := 29) C rfl hR dX0_sum_29
set_option maxHeartbeats 4000000 in
set_option maxRecDepth 100000 in
theorem c_X0_interest {l : Launch} {A : Nat → Prop} {G : GT} {ad : Nat → Nat} (gl : Gl l A G ad) (p : Nat) (hp : p < 176 ∧ p % 16 = 1) (B : StB) (M : StM) (O : StO) (x0 : Int32) (hok : ok_X0_interest p B x0) : Met l yX0_interest (wof yX0_interest cX0_interest 4 (some .int)) (rmd 3 0 0) (va_Pc [.ref (ad p), .int x0] (PW G A ad B M O)) (QI G A ad (f_X0_interest p B x0) B M O) 0 0 A := by
  refine x_body (own := RX0) (by decide +kernel) rfl gl (Nat.le_of_ble_eq_true rfl) (ls := [(0, .ref (ad p)), (1, .int x0)]) rfl ?_
  intro p0 e s m args below meth c C
  have hR : (f_X0_interest p B x0) = (nm (ba B (p + 2) (ix x0)) (fun (v2 : Int32) => (if 0 ≤ v2 then (nm ((mn v2 9999) / 100) (fun (v4 : Int32) => (if (ba B (p + 1) (ix x0)) = 0 then v4 else (if (ba B (p + 1) (ix x0)) = 1 then (mn (3 * v4) 30) else (if (ba B (p + 1) (ix x0)) = 2 then 0 else (if (ba B (p + 1) (ix x0)) = 3 then (if (ba B (p + 4) (ix x0)) = 0 then (5 * v4) else 0) else 0)))))) else (nm (f_X0_fullCharge p B x0) (fun (r10 : Int32) => (nm (f_X0_available p B x0) (fun (r12 : Int32) => (-(mn r10 r12))))))))) := rfl
  have hok : (vp_in x0 8 ∧ (∀ v2 : Int32, v2 = (ba B (p + 2) (ix x0)) → ((0 ≤ v2 → (∀ v4 : Int32, v4 = ((mn v2 9999) / 100) → (vp_in x0 8 ∧ (((ba B (p + 1) (ix x0)) = 0 → True) ∧ (¬ (ba B (p + 1) (ix x0)) = 0 → (((ba B (p + 1) (ix x0)) = 1 → True) ∧ (¬ (ba B (p + 1) (ix x0)) = 1 → (((ba B (p + 1) (ix x0)) = 2 → True) ∧ (¬ (ba B (p + 1) (ix x0)) = 2 → (((ba B (p + 1) (ix x0)) = 3 → (vp_in x0 8)) ∧ (¬ (ba B (p + 1) (ix x0)) = 3 → True))))))))))) ∧ (¬ 0 ≤ v2 → ((ok_X0_fullCharge p B x0) ∧ (∀ r10 : Int32, r10 = (f_X0_fullCharge p B x0) → ((ok_X0_available p B x0)))))))) := hok
  refine x_aload_n (pc := 0) (i := 0) C 0 dX0_interest_0 rfl rfl ?_
  refine x_get (pc := 1) (q := p) (i := 2) C (e_A (by omega)) rfl ttX0 (by decide) wd_1_58 rfl dX0_interest_1 ?_
  refine x_iload_n (pc := 4) (i := 1) C 1 dX0_interest_4 rfl rfl ?_
  have h1 := hok.1
  have hok := hok.2
  refine x_iald (pc := 5) (q := p + 2) C (e_Ab (by omega)) h1 dX0_interest_5 ?_
  refine x_nmI (fun v2 ev2 => ?_)
  have hR := nmE hR ev2
  have hok := hok v2 ev2
  refine x_istore_n (pc := 6) (i := 2) (ls2 := [(2, .int v2), (0, .ref (ad p)), (1, .int x0)]) C dX0_interest_6 rfl (by decide) rfl ?_
  refine x_iload_n (pc := 7) (i := 2) C 0 dX0_interest_7 rfl rfl ?_
  refine x_if_ge (pc := 8) (tgt := 26) C dX0_interest_8 (by decide) (fun c3 => ?_) (fun c3 => ?_)
  · have hR := hR.trans (if_pos c3)
    have hok := hok.1 c3
    refine x_iload_n (pc := 26) (i := 2) C 0 dX0_interest_26 rfl rfl ?_
    refine x_sipush (pc := 27) (v := 9999) C dX0_interest_27 (by decide) ?_
    refine x_mmin (pc := 30) C wd_3_183 wd_3_49 wd_1_21 wd_3_50 ⟨Nat.le_of_ble_eq_true rfl, Nat.le_of_ble_eq_true rfl⟩ ⟨Nat.le_of_ble_eq_true rfl, Nat.le_of_ble_eq_true rfl⟩ dX0_interest_30 ?_
    refine x_bipush (pc := 33) (v := 100) C dX0_interest_33 (by decide) ?_
    refine x_idiv (pc := 35) C dX0_interest_35 (by decide) ?_
    refine x_nmI (fun v4 ev4 => ?_)
    have hR := nmE hR ev4
    have hok := hok v4 ev4
    refine x_istore_n (pc := 36) (i := 3) (ls2 := [(3, .int v4), (2, .int v2), (0, .ref (ad p)), (1, .int x0)]) C dX0_interest_36 rfl (by decide) rfl ?_
    refine x_aload_n (pc := 37) (i := 0) C 2 dX0_interest_37 rfl rfl ?_
    refine x_get (pc := 38) (q := p) (i := 1) C (e_A (by omega)) rfl ttX0 (by decide) wd_1_55 rfl dX0_interest_38 ?_
    refine x_iload_n (pc := 41) (i := 1) C 3 dX0_interest_41 rfl rfl ?_
    have h5 := hok.1
    have hok := hok.2
    refine x_iald (pc := 42) (q := p + 1) C (e_Ak (by omega)) h5 dX0_interest_42 ?_
    by_cases c8_0 : (ba B (p + 1) (ix x0)) = 0
    · have hR := hR.trans (if_pos c8_0)
      have hok := hok.1 c8_0
      refine x_tabIn (pc := 43) (tgt := 72) (off := 29) C dX0_interest_43 c8_0 (by decide) (by decide) (by decide) (by decide) ?_
      refine x_iload_n (pc := 72) (i := 3) C 0 dX0_interest_72 rfl rfl ?_
      exact x_iret (pc := 73) C rfl hR dX0_interest_73
    have hR := hR.trans (if_neg c8_0)
    have hok := hok.2 c8_0
    by_cases c8_1 : (ba B (p + 1) (ix x0)) = 1
    · have hR := hR.trans (if_pos c8_1)
      have hok := hok.1 c8_1
      refine x_tabIn (pc := 43) (tgt := 74) (off := 31) C dX0_interest_43 c8_1 (by decide) (by decide) (by decide) (by decide) ?_
      refine x_iconst (pc := 74) (v := 3) C dX0_interest_74 (by decide) ?_
      refine x_iload_n (pc := 75) (i := 3) C 0 dX0_interest_75 rfl rfl ?_
      refine x_imul (pc := 76) C dX0_interest_76 ?_
      refine x_bipush (pc := 77) (v := 30) C dX0_interest_77 (by decide) ?_
      refine x_mmin (pc := 79) C wd_3_183 wd_3_49 wd_1_21 wd_3_50 ⟨Nat.le_of_ble_eq_true rfl, Nat.le_of_ble_eq_true rfl⟩ ⟨Nat.le_of_ble_eq_true rfl, Nat.le_of_ble_eq_true rfl⟩ dX0_interest_79 ?_
      exact x_iret (pc := 82) C rfl hR dX0_interest_82
    have hR := hR.trans (if_neg c8_1)
    have hok := hok.2 c8_1
    by_cases c8_2 : (ba B (p + 1) (ix x0)) = 2
    · have hR := hR.trans (if_pos c8_2)
      have hok := hok.1 c8_2
      refine x_tabIn (pc := 43) (tgt := 100) (off := 57) C dX0_interest_43 c8_2 (by decide) (by decide) (by decide) (by decide) ?_
      refine x_iconst (pc := 100) (v := 0) C dX0_interest_100 (by decide) ?_
      exact x_iret (pc := 101) C rfl hR dX0_interest_101
    have hR := hR.trans (if_neg c8_2)
    have hok := hok.2 c8_2
    by_cases c8_3 : (ba B (p + 1) (ix x0)) = 3
    · have hR := hR.trans (if_pos c8_3)
      have hok := hok.1 c8_3
      refine x_tabIn (pc := 43) (tgt := 83) (off := 40) C dX0_interest_43 c8_3 (by decide) (by decide) (by decide) (by decide) ?_
      refine x_aload_n (pc := 83) (i := 0) C 2 dX0_interest_83 rfl rfl ?_
      refine x_get (pc := 84) (q := p) (i := 4) C (e_A (by omega)) rfl ttX0 (by decide) wd_1_63 rfl dX0_interest_84 ?_
      refine x_iload_n (pc := 87) (i := 1) C 3 dX0_interest_87 rfl rfl ?_
      have h6 := hok
      refine x_zald (pc := 88) (q := p + 4) C (e_At (by omega)) h6 dX0_interest_88 ?_
      refine x_if_eq (pc := 89) (tgt := 96) C dX0_interest_89 (by decide) (fun c7 => ?_) (fun c7 => ?_)
      · have hR := hR.trans (if_pos c7)
        refine x_iconst (pc := 96) (v := 5) C dX0_interest_96 (by decide) ?_
        refine x_iload_n (pc := 97) (i := 3) C 0 dX0_interest_97 rfl rfl ?_
        refine x_imul (pc := 98) C dX0_interest_98 ?_
        exact x_iret (pc := 99) C rfl hR dX0_interest_99
      · have hR := hR.trans (if_neg c7)
        refine x_iconst (pc := 92) (v := 0) C dX0_interest_92 (by decide) ?_
        refine x_goto (pc := 93) (tgt := 99) C dX0_interest_93 (by decide) ?_
        exact x_iret (pc := 99) C rfl hR dX0_interest_99
    have hR := hR.trans (if_neg c8_3)
    have hok := hok.2 c8_3
    refine x_tabOut (pc := 43) (tgt := 100) C dX0_interest_43 (by
      have c8_0 : ¬ Int32.toInt (ba B (p + 1) (ix x0)) = 0 := sw_no c8_0
      have c8_1 : ¬ Int32.toInt (ba B (p + 1) (ix x0)) = 1 := sw_no c8_1
      have c8_2 : ¬ Int32.toInt (ba B (p + 1) (ix x0)) = 2 := sw_no c8_2
      have c8_3 : ¬ Int32.toInt (ba B (p + 1) (ix x0)) = 3 := sw_no c8_3
      omega) (by decide) ?_
    refine x_iconst (pc := 100) (v := 0) C dX0_interest_100 (by decide) ?_
    exact x_iret (pc := 101) C rfl hR dX0_interest_101
  · have hR := hR.trans (if_neg c3)
    have hok := hok.2 c3
    refine x_aload_n (pc := 11) (i := 0) C 1 dX0_interest_11 rfl rfl ?_
    refine x_iload_n (pc := 12) (i := 1) C 2 dX0_interest_12 rfl rfl ?_
    have h9 := hok.1
    have hok := hok.2
    refine x_cIV (pc := 13) (as := [.int x0]) (q := p) C (c_X0_fullCharge C.2.2.2.2.2.2.2.1 p (by omega) B M O x0 h9) (fs := _) (e_A (by omega)) rfl cv_X0_fullCharge cd_X0_fullCharge wd_3_175 ⟨Nat.le_of_ble_eq_true rfl, Nat.le_of_ble_eq_true rfl⟩ ⟨Nat.le_of_ble_eq_true rfl, Nat.le_of_ble_eq_true rfl⟩ rfl rfl (Nat.le_of_ble_eq_true rfl) dX0_interest_13 ?_
    refine x_nmI (fun r10 er10 => ?_)
    have hR := nmE hR er10
    have hok := hok r10 er10
    refine x_aload_n (pc := 16) (i := 0) C 1 dX0_interest_16 rfl rfl ?_
    refine x_iload_n (pc := 17) (i := 1) C 2 dX0_interest_17 rfl rfl ?_
    have h11 := hok
    refine x_cIV (pc := 18) (as := [.int x0]) (q := p) C (c_X0_available C.2.2.2.2.2.2.2.1 p (by omega) B M O x0 h11) (fs := _) (e_A (by omega)) rfl cv_X0_available cd_X0_available wd_3_182 ⟨Nat.le_of_ble_eq_true rfl, Nat.le_of_ble_eq_true rfl⟩ ⟨Nat.le_of_ble_eq_true rfl, Nat.le_of_ble_eq_true rfl⟩ rfl rfl (Nat.le_of_ble_eq_true rfl) dX0_interest_18 ?_
    refine x_nmI (fun r12 er12 => ?_)
    have hR := nmE hR er12
    refine x_mmin (pc := 21) C wd_3_183 wd_3_49 wd_1_21 wd_3_50 ⟨Nat.le_of_ble_eq_true rfl, Nat.le_of_ble_eq_true rfl⟩ ⟨Nat.le_of_ble_eq_true rfl, Nat.le_of_ble_eq_true rfl⟩ dX0_interest_21 ?_
    refine x_ineg (pc := 24) C dX0_interest_24 ?_
    exact x_iret (pc := 25) C rfl hR dX0_interest_25
set_option maxHeartbeats 4000000 in
set_option maxRecDepth 100000 in
theorem t_X0_atRank_L4 {p0 : Program} {l : Launch} {e : Env} {s : State} {m : MethodId} {args : Array Value} {below : List Frame} {meth : Method} {c : Code} {A : Nat → Prop} {G : GT} {ad : Nat → Nat} {Q : State → Prop} (C : CX p0 l s m args meth c A G ad cX0_atRank RX0 4 (some .int)) {p : Nat} (hp : p < 176 ∧ p % 16 = 1)   (n : Nat) (B : StB) (a1 : Int32) (a2 : Int32) (a3 : Int32) (M : StM) (O : StO) : ∀ (R0 : Int32) (hR : R0 = f_X0_atRank_L4 n p B a1 a2 a3) (hok : ok_X0_atRank_L4 n p B a1 a2 a3) (k : X p0 l e (rmd 2 0 0) s m args below meth c A G ad 4 0 0 Q B M O [(2, .int R0)] 29 []), X p0 l e (rmd 2 0 0) s m args below meth c A G ad 4 0 0 Q B M O [(0, .ref (ad p)), (1, .int a1), (2, .int a2), (3, .int a3)] 4 [] := by
  induction n generalizing B a1 a2 a3 with
  | zero => intro R0 hR hok k; exact False.elim hok
  | succ n ih =>
    intro R0 hR hok k
    have hR : R0 = (if (bi B p 0) ≤ a3 then a2 else (nm (f_X0_rankOf p B a3) (fun (r3 : Int32) => (if r3 = a1 then (f_X0_atRank_L4 n p B a1 a3 (a3 + 1)) else (f_X0_atRank_L4 n p B a1 a2 (a3 + 1)))))) := hR
    have hok : (((bi B p 0) ≤ a3 → True) ∧ (¬ (bi B p 0) ≤ a3 → ((ok_X0_rankOf p B a3) ∧ (∀ r3 : Int32, r3 = (f_X0_rankOf p B a3) → ((r3 = a1 → (ok_X0_atRank_L4 n p B a1 a3 (a3 + 1))) ∧ (¬ r3 = a1 → (ok_X0_atRank_L4 n p B a1 a2 (a3 + 1)))))))) := hok
    refine x_iload_n (pc := 4) (i := 3) C 3 dX0_atRank_4 rfl rfl ?_
    refine x_aload_n (pc := 5) (i := 0) C 0 dX0_atRank_5 rfl rfl ?_
    refine x_get (pc := 6) (q := p) (i := 0) C (e_A (by omega)) rfl ttX0 (by decide) wd_1_52 rfl dX0_atRank_6 ?_
    refine x_icmp_ge (pc := 9) (tgt := 29) C dX0_atRank_9 (by decide) (fun c1 => ?_) (fun c1 => ?_)
    · have hR := hR.trans (if_pos c1)
      refine x_sub [2] (ls2 := [(2, .int a2)]) rfl ?_
      subst hR
      exact k
    · have hR := hR.trans (if_neg c1)
      have hok := hok.2 c1
      refine x_aload_n (pc := 12) (i := 0) C 0 dX0_atRank_12 rfl rfl ?_
      refine x_iload_n (pc := 13) (i := 3) C 3 dX0_atRank_13 rfl rfl ?_
      have h2 := hok.1
      have hok := hok.2
      refine x_cIV (pc := 14) (as := [.int a3]) (q := p) C (c_X0_rankOf C.2.2.2.2.2.2.2.1 p (by omega) B M O a3 h2) (fs := _) (e_A (by omega)) rfl cv_X0_rankOf cd_X0_rankOf wd_4_161 ⟨Nat.le_of_ble_eq_true rfl, Nat.le_of_ble_eq_true rfl⟩ ⟨Nat.le_of_ble_eq_true rfl, Nat.le_of_ble_eq_true rfl⟩ rfl rfl (Nat.le_of_ble_eq_true rfl) dX0_atRank_14 ?_
      refine x_nmI (fun r3 er3 => ?_)
      have hR := nmE hR er3
      have hok := hok r3 er3
      refine x_iload_n (pc := 17) (i := 1) C 1 dX0_atRank_17 rfl rfl ?_
      refine x_icmp_ne (pc := 18) (tgt := 23) C dX0_atRank_18 (by decide) (fun c4 => ?_) (fun c4 => ?_)
      · have hR := hR.trans (if_neg c4)
        have hok := hok.2 c4
        refine x_iinc (pc := 23) (i := 3) (v := (a3 + 1)) (ls2 := [(3, .int (a3 + 1)), (0, .ref (ad p)), (1, .int a1), (2, .int a2)]) C 3 dX0_atRank_23 rfl rfl (by decide) rfl ?_
        refine x_goto (pc := 26) (tgt := 4) C dX0_atRank_26 (by decide) ?_
        refine x_sub [1, 2, 3, 0] (ls2 := [(0, .ref (ad p)), (1, .int a1), (2, .int a2), (3, .int (a3 + 1))]) rfl ?_
        exact ih B a1 a2 (a3 + 1) R0 hR hok k
      · have hR := hR.trans (if_pos c4)
        have hok := hok.1 c4
        refine x_iload_n (pc := 21) (i := 3) C 3 dX0_atRank_21 rfl rfl ?_
        refine x_istore_n (pc := 22) (i := 2) (ls2 := [(2, .int a3), (0, .ref (ad p)), (1, .int a1), (3, .int a3)]) C dX0_atRank_22 rfl (by decide) rfl ?_
        refine x_iinc (pc := 23) (i := 3) (v := (a3 + 1)) (ls2 := [(3, .int (a3 + 1)), (2, .int a3), (0, .ref (ad p)), (1, .int a1)]) C 3 dX0_atRank_23 rfl rfl (by decide) rfl ?_
        refine x_goto (pc := 26) (tgt := 4) C dX0_atRank_26 (by decide) ?_
        refine x_sub [2, 3, 1, 0] (ls2 := [(0, .ref (ad p)), (1, .int a1), (2, .int a3), (3, .int (a3 + 1))]) rfl ?_
        exact ih B a1 a3 (a3 + 1) R0 hR hok k
set_option maxHeartbeats 4000000 in
set_option maxRecDepth 100000 in
theorem c_X0_atRank {l : Launch} {A : Nat → Prop} {G : GT} {ad : Nat → Nat} (gl : Gl l A G ad) (p : Nat) (hp : p < 176 ∧ p % 16 = 1) (B : StB) (M : StM) (O : StO) (x0 : Int32) (hok : ok_X0_atRank p B x0) : Met l yX0_atRank (wof yX0_atRank cX0_atRank 4 (some .int)) (rmd 2 0 0) (va_Pc [.ref (ad p), .int x0] (PW G A ad B M O)) (QI G A ad (f_X0_atRank p B x0) B M O) 0 0 A := by
  refine x_body (own := RX0) (by decide +kernel) rfl gl (Nat.le_of_ble_eq_true rfl) (ls := [(0, .ref (ad p)), (1, .int x0)]) rfl ?_
  intro p0 e s m args below meth c C
  have hR : (f_X0_atRank p B x0) = (nm (f_X0_atRank_L4 fu p B x0 0 0) (fun (z5 : Int32) => z5)) := rfl
  have hok : (ok_X0_atRank_L4 fu p B x0 0 0) := hok
  refine x_iconst (pc := 0) (v := 0) C dX0_atRank_0 (by decide) ?_
  refine x_istore_n (pc := 1) (i := 2) (ls2 := [(2, .int 0), (0, .ref (ad p)), (1, .int x0)]) C dX0_atRank_1 rfl (by decide) rfl ?_
  refine x_iconst (pc := 2) (v := 0) C dX0_atRank_2 (by decide) ?_
  refine x_istore_n (pc := 3) (i := 3) (ls2 := [(3, .int 0), (2, .int 0), (0, .ref (ad p)), (1, .int x0)]) C dX0_atRank_3 rfl (by decide) rfl ?_
  refine x_sub [2, 3, 1, 0] (ls2 := [(0, .ref (ad p)), (1, .int x0), (2, .int 0), (3, .int 0)]) rfl ?_
  obtain ⟨z5, ez5⟩ : ∃ z : Int32, z = f_X0_atRank_L4 fu p B x0 0 0 := ⟨_, rfl⟩
  refine t_X0_atRank_L4 C hp fu B x0 0 0 M O z5 ez5 hok ?_
  have hR := nmE hR ez5
  refine x_iload_n (pc := 29) (i := 2) C 0 dX0_atRank_29 rfl rfl ?_
  exact x_iret (pc := 30) C rfl hR dX0_atRank_30
