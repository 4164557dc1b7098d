set_option maxHeartbeats 4000000 in
set_option maxRecDepth 100000 in
theorem c_X4_append {l : Launch} {A : Nat → Prop} {G : GT} {ad : Nat → Nat} (gl : Gl l A ad)  (B : StB) (M : StM) (O : StO) (x0 : Int32) (hok : ok_X4_append B x0) : Met l yX4_append (wof yX4_append cX4_append 2 (some .int)) (rmd 1 0 0) (va_Pc [.ref (ad 179), .int x0] (PW G A ad B M O)) (QI G A ad (f_X4_append B x0).1 (f_X4_append B x0).2 M O) 0 0 A := by
  refine x_body (own := RX4) (by decide +kernel) rfl gl (Nat.le_of_ble_eq_true rfl) (ls := [(0, .ref (ad 179)), (1, .int x0)]) rfl ?_
  intro p0 e s m args below meth c C
  have hR : (f_X4_append B x0) = (nm (sba B 180 (ix (bi B 179 1)) (vp_nar .char x0)) (fun (B2 : StB) => (nm (sbi B2 179 1 ((bi B2 179 1) + 1)) (fun (B3 : StB) => ((bi B3 179 1), B3))))) := rfl
  have hok : (vp_in (bi B 179 1) 60) := hok
  refine x_aload_n (pc := 0) (i := 0) C 0 dX4_append_0 rfl rfl ?_
  refine x_get (pc := 1) (q := 179) (i := 0) C e_R rfl ttX4 (by decide) wd_1_217 rfl dX4_append_1 ?_
  refine x_aload_n (pc := 4) (i := 0) C 0 dX4_append_4 rfl rfl ?_
  refine x_get (pc := 5) (q := 179) (i := 1) C e_R rfl ttX4 (by decide) wd_1_218 rfl dX4_append_5 ?_
  refine x_iload_n (pc := 8) (i := 1) C 1 dX4_append_8 rfl rfl ?_
  have h1 := hok
  refine x_castB (pc := 9) (q := 180) C e_Rt e_Rt.2 h1 dX4_append_9 ?_
  refine x_nmB (fun B2 eB2 => ?_)
  have hR := nmE hR eB2
  refine x_aload_n (pc := 10) (i := 0) C 0 dX4_append_10 rfl rfl ?_
  refine x_dup (pc := 11) C dX4_append_11 rfl ?_
  refine x_get (pc := 12) (q := 179) (i := 1) C e_R rfl ttX4 (by decide) wd_1_218 rfl dX4_append_12 ?_
  refine x_iconst (pc := 15) (v := 1) C dX4_append_15 (by decide) ?_
  refine x_iadd (pc := 16) C dX4_append_16 ?_
  refine x_put (pc := 17) (B2 := (sbi B2 179 1 ((bi B2 179 1) + 1))) (M2 := M) (O2 := O) (q := 179) (i := 1) C tyX4 tyX4_ok nmX4 e_R rfl ttX4 (by decide) wd_1_218 rfl rfl rfl (Nat.le_of_ble_eq_true rfl) dX4_append_17 (put_R_1 ) (o_sbi 179 1 ((bi B2 179 1) + 1)) ?_
  refine x_nmB (fun B3 eB3 => ?_)
  have hR := nmE hR eB3
  refine x_aload_n (pc := 20) (i := 0) C 0 dX4_append_20 rfl rfl ?_
  refine x_get (pc := 21) (q := 179) (i := 1) C e_R rfl ttX4 (by decide) wd_1_218 rfl dX4_append_21 ?_
  exact x_iretB (pc := 24) C rfl hR dX4_append_24
set_option maxHeartbeats 4000000 in
set_option maxRecDepth 100000 in
theorem c_X4_readSign {l : Launch} {A : Nat → Prop} {G : GT} {ad : Nat → Nat} (gl : Gl l A ad)  (B : StB) (M : StM) (O : StO) (x0 : Int32) (hok : ok_X4_readSign B x0) : Met l yX4_readSign (wof yX4_readSign cX4_readSign 2 (some .boolean)) (rmd 1 0 0) (va_Pc [.ref (ad 179), .int x0] (PW G A ad B M O)) (QI G A ad (f_X4_readSign B x0).1 (f_X4_readSign B x0).2 M O) 0 0 A := by
  refine x_body (own := RX4) (by decide +kernel) rfl gl (Nat.le_of_ble_eq_true rfl) (ls := [(0, .ref (ad 179)), (1, .int x0)]) rfl ?_
  intro p0 e s m args below meth c C
  have hR : (f_X4_readSign B x0) = (if (bi B 179 1) ≤ (bi B 179 2) then (0, B) else (if (ba B 180 (ix (bi B 179 2))) = x0 then (nm (sbi B 179 2 ((bi B 179 2) + 1)) (fun (B4 : StB) => (1, B4))) else (0, B))) := rfl
  have hok : (((bi B 179 1) ≤ (bi B 179 2) → True) ∧ (¬ (bi B 179 1) ≤ (bi B 179 2) → (vp_in (bi B 179 2) 60))) := hok
  refine x_aload_n (pc := 0) (i := 0) C 0 dX4_readSign_0 rfl rfl ?_
  refine x_get (pc := 1) (q := 179) (i := 2) C e_R rfl ttX4 (by decide) wd_1_220 rfl dX4_readSign_1 ?_
  refine x_aload_n (pc := 4) (i := 0) C 0 dX4_readSign_4 rfl rfl ?_
  refine x_get (pc := 5) (q := 179) (i := 1) C e_R rfl ttX4 (by decide) wd_1_218 rfl dX4_readSign_5 ?_
  refine x_icmp_ge (pc := 8) (tgt := 24) C dX4_readSign_8 (by decide) (fun c1 => ?_) (fun c1 => ?_)
  · have hR := hR.trans (if_pos c1)
    refine x_iconst (pc := 24) (v := 0) C dX4_readSign_24 (by decide) ?_
    exact x_zretB (pc := 25) C rfl (by decide) hR dX4_readSign_25
  · have hR := hR.trans (if_neg c1)
    have hok := hok.2 c1
    refine x_aload_n (pc := 11) (i := 0) C 0 dX4_readSign_11 rfl rfl ?_
    refine x_get (pc := 12) (q := 179) (i := 0) C e_R rfl ttX4 (by decide) wd_1_217 rfl dX4_readSign_12 ?_
    refine x_aload_n (pc := 15) (i := 0) C 0 dX4_readSign_15 rfl rfl ?_
    refine x_get (pc := 16) (q := 179) (i := 2) C e_R rfl ttX4 (by decide) wd_1_220 rfl dX4_readSign_16 ?_
    have h2 := hok
    refine x_cald (pc := 19) (q := 180) C e_Rt h2 dX4_readSign_19 ?_
    refine x_iload_n (pc := 20) (i := 1) C 1 dX4_readSign_20 rfl rfl ?_
    refine x_icmp_eq (pc := 21) (tgt := 26) C dX4_readSign_21 (by decide) (fun c3 => ?_) (fun c3 => ?_)
    · have hR := hR.trans (if_pos c3)
      refine x_aload_n (pc := 26) (i := 0) C 0 dX4_readSign_26 rfl rfl ?_
      refine x_dup (pc := 27) C dX4_readSign_27 rfl ?_
      refine x_get (pc := 28) (q := 179) (i := 2) C e_R rfl ttX4 (by decide) wd_1_220 rfl dX4_readSign_28 ?_
      refine x_iconst (pc := 31) (v := 1) C dX4_readSign_31 (by decide) ?_
      refine x_iadd (pc := 32) C dX4_readSign_32 ?_
      refine x_put (pc := 33) (B2 := (sbi B 179 2 ((bi B 179 2) + 1))) (M2 := M) (O2 := O) (q := 179) (i := 2) C tyX4 tyX4_ok nmX4 e_R rfl ttX4 (by decide) wd_1_220 rfl rfl rfl (Nat.le_of_ble_eq_true rfl) dX4_readSign_33 (put_R_2 ) (o_sbi 179 2 ((bi B 179 2) + 1)) ?_
      refine x_nmB (fun B4 eB4 => ?_)
      have hR := nmE hR eB4
      refine x_iconst (pc := 36) (v := 1) C dX4_readSign_36 (by decide) ?_
      exact x_zretB (pc := 37) C rfl (by decide) hR dX4_readSign_37
    · have hR := hR.trans (if_neg c3)
      refine x_iconst (pc := 24) (v := 0) C dX4_readSign_24 (by decide) ?_
      exact x_zretB (pc := 25) C rfl (by decide) hR dX4_readSign_25
set_option maxHeartbeats 4000000 in
set_option maxRecDepth 100000 in
theorem c_X4_isDigitHere {l : Launch} {A : Nat → Prop} {G : GT} {ad : Nat → Nat} (gl : Gl l A ad)  (B : StB) (M : StM) (O : StO)  (hok : ok_X4_isDigitHere B) : Met l yX4_isDigitHere (wof yX4_isDigitHere cX4_isDigitHere 1 (some .boolean)) (rmd 1 0 0) (va_Pc [.ref (ad 179)] (PW G A ad B M O)) (QI G A ad (f_X4_isDigitHere B) B M O) 0 0 A := by
  refine x_body (own := RX4) (by decide +kernel) rfl gl (Nat.le_of_ble_eq_true rfl) (ls := [(0, .ref (ad 179))]) rfl ?_
  intro p0 e s m args below meth c C
  have hR : (f_X4_isDigitHere B) = (if (bi B 179 1) ≤ (bi B 179 2) then 0 else (if (ba B 180 (ix (bi B 179 2))) < 48 then 0 else (if 57 < (ba B 180 (ix (bi B 179 2))) then 0 else 1))) := rfl
  have hok : (((bi B 179 1) ≤ (bi B 179 2) → True) ∧ (¬ (bi B 179 1) ≤ (bi B 179 2) → (vp_in (bi B 179 2) 60 ∧ (((ba B 180 (ix (bi B 179 2))) < 48 → True) ∧ (¬ (ba B 180 (ix (bi B 179 2))) < 48 → (vp_in (bi B 179 2) 60)))))) := hok
  refine x_aload_n (pc := 0) (i := 0) C 0 dX4_isDigitHere_0 rfl rfl ?_
  refine x_get (pc := 1) (q := 179) (i := 2) C e_R rfl ttX4 (by decide) wd_1_220 rfl dX4_isDigitHere_1 ?_
  refine x_aload_n (pc := 4) (i := 0) C 0 dX4_isDigitHere_4 rfl rfl ?_
  refine x_get (pc := 5) (q := 179) (i := 1) C e_R rfl ttX4 (by decide) wd_1_218 rfl dX4_isDigitHere_5 ?_
  refine x_icmp_ge (pc := 8) (tgt := 43) C dX4_isDigitHere_8 (by decide) (fun c1 => ?_) (fun c1 => ?_)
  · have hR := hR.trans (if_pos c1)
    refine x_iconst (pc := 43) (v := 0) C dX4_isDigitHere_43 (by decide) ?_
    exact x_zret (pc := 44) C rfl (by decide) hR dX4_isDigitHere_44
  · have hR := hR.trans (if_neg c1)
    have hok := hok.2 c1
    refine x_aload_n (pc := 11) (i := 0) C 0 dX4_isDigitHere_11 rfl rfl ?_
    refine x_get (pc := 12) (q := 179) (i := 0) C e_R rfl ttX4 (by decide) wd_1_217 rfl dX4_isDigitHere_12 ?_
    refine x_aload_n (pc := 15) (i := 0) C 0 dX4_isDigitHere_15 rfl rfl ?_
    refine x_get (pc := 16) (q := 179) (i := 2) C e_R rfl ttX4 (by decide) wd_1_220 rfl dX4_isDigitHere_16 ?_
    have h2 := hok.1
    have hok := hok.2
    refine x_cald (pc := 19) (q := 180) C e_Rt h2 dX4_isDigitHere_19 ?_
    refine x_bipush (pc := 20) (v := 48) C dX4_isDigitHere_20 (by decide) ?_
    refine x_icmp_lt (pc := 22) (tgt := 43) C dX4_isDigitHere_22 (by decide) (fun c3 => ?_) (fun c3 => ?_)
    · have hR := hR.trans (if_pos c3)
      refine x_iconst (pc := 43) (v := 0) C dX4_isDigitHere_43 (by decide) ?_
      exact x_zret (pc := 44) C rfl (by decide) hR dX4_isDigitHere_44
    · have hR := hR.trans (if_neg c3)
      have hok := hok.2 c3
      refine x_aload_n (pc := 25) (i := 0) C 0 dX4_isDigitHere_25 rfl rfl ?_
      refine x_get (pc := 26) (q := 179) (i := 0) C e_R rfl ttX4 (by decide) wd_1_217 rfl dX4_isDigitHere_26 ?_
      refine x_aload_n (pc := 29) (i := 0) C 0 dX4_isDigitHere_29 rfl rfl ?_
      refine x_get (pc := 30) (q := 179) (i := 2) C e_R rfl ttX4 (by decide) wd_1_220 rfl dX4_isDigitHere_30 ?_
      have h4 := hok
      refine x_cald (pc := 33) (q := 180) C e_Rt h4 dX4_isDigitHere_33 ?_
      refine x_bipush (pc := 34) (v := 57) C dX4_isDigitHere_34 (by decide) ?_
      refine x_icmp_gt (pc := 36) (tgt := 43) C dX4_isDigitHere_36 (by decide) (fun c5 => ?_) (fun c5 => ?_)
      · have hR := hR.trans (if_pos c5)
        refine x_iconst (pc := 43) (v := 0) C dX4_isDigitHere_43 (by decide) ?_
        exact x_zret (pc := 44) C rfl (by decide) hR dX4_isDigitHere_44
      · have hR := hR.trans (if_neg c5)
        refine x_iconst (pc := 39) (v := 1) C dX4_isDigitHere_39 (by decide) ?_
        refine x_goto (pc := 40) (tgt := 44) C dX4_isDigitHere_40 (by decide) ?_
        exact x_zret (pc := 44) C rfl (by decide) hR dX4_isDigitHere_44
set_option maxHeartbeats 4000000 in
set_option maxRecDepth 100000 in
theorem t_X4_readNumber_L4 {p0 : Program} {l : Launch} {e : Env} {s : State} {m : MethodId} {args : Array Value} {below : List Frame} {meth : Method} {c : Code} {A : Nat → Prop} {G : GT} {ad : Nat → Nat} {Q : State → Prop} (C : CX p0 l s m args meth c A G ad cX4_readNumber RX4 4 (some .int))    (n : Nat) (B : StB) (a1 : Int32) (a2 : Int32) (a3 : Int32) (M : StM) (O : StO) : ∀ (R0 : Int32 × StB) (hR : R0 = f_X4_readNumber_L4 n B a1 a2 a3) (hok : ok_X4_readNumber_L4 n B a1 a2 a3) (k : X p0 l e (rmd 2 0 0) s m args below meth c A G ad 4 0 0 Q R0.2 M O [(2, .int R0.1)] 54 []), X p0 l e (rmd 2 0 0) s m args below meth c A G ad 4 0 0 Q B M O [(0, .ref (ad 179)), (1, .int a1), (2, .int a2), (3, .int a3)] 4 [] := by
  induction n generalizing B a1 a2 a3 with
  | zero => intro R0 hR hok k; exact False.elim hok
  | succ n ih =>
    intro R0 hR hok k
    have hR : R0 = (if a1 ≤ a3 then (a2, B) else (nm (f_X4_isDigitHere B) (fun (r3 : Int32) => (if r3 = 0 then (a2, B) else (nm (((mx a2 0) * 10) + ((ba B 180 (ix (bi B 179 2))) - 48)) (fun (v6 : Int32) => (nm (sbi B 179 2 ((bi B 179 2) + 1)) (fun (B7 : StB) => (f_X4_readNumber_L4 n B7 a1 v6 (a3 + 1)))))))))) := hR
    have hok : ((a1 ≤ a3 → True) ∧ (¬ a1 ≤ a3 → ((ok_X4_isDigitHere B) ∧ (∀ r3 : Int32, r3 = (f_X4_isDigitHere B) → ((r3 = 0 → True) ∧ (¬ r3 = 0 → (vp_in (bi B 179 2) 60 ∧ (∀ v6 : Int32, v6 = (((mx a2 0) * 10) + ((ba B 180 (ix (bi B 179 2))) - 48)) → (∀ B7 : StB, B7 = (sbi B 179 2 ((bi B 179 2) + 1)) → (ok_X4_readNumber_L4 n B7 a1 v6 (a3 + 1))))))))))) := hok
    refine x_iload_n (pc := 4) (i := 3) C 3 dX4_readNumber_4 rfl rfl ?_
    refine x_iload_n (pc := 5) (i := 1) C 1 dX4_readNumber_5 rfl rfl ?_
    refine x_icmp_ge (pc := 6) (tgt := 54) C dX4_readNumber_6 (by decide) (fun c1 => ?_) (fun c1 => ?_)
    · have hR := hR.trans (if_pos c1)
      refine x_sub [2] (ls2 := [(2, .int a2)]) rfl ?_
      subst hR
      exact k
    · have hR := hR.trans (if_neg c1)
      have hok := hok.2 c1
      refine x_aload_n (pc := 9) (i := 0) C 0 dX4_readNumber_9 rfl rfl ?_
      have h2 := hok.1
      have hok := hok.2
      refine x_cIV (pc := 10) (as := []) (q := 179) C (c_X4_isDigitHere C.2.2.2.2.2.2.2.1  B M O  h2) (fs := _) e_R rfl cv_X4_isDigitHere cd_X4_isDigitHere wd_6_159 ⟨Nat.le_of_ble_eq_true rfl, Nat.le_of_ble_eq_true rfl⟩ ⟨Nat.le_of_ble_eq_true rfl, Nat.le_of_ble_eq_true rfl⟩ rfl rfl (Nat.le_of_ble_eq_true rfl) dX4_readNumber_10 ?_
      refine x_nmI (fun r3 er3 => ?_)
      have hR := nmE hR er3
      have hok := hok r3 er3
      refine x_if_eq (pc := 13) (tgt := 54) C dX4_readNumber_13 (by decide) (fun c4 => ?_) (fun c4 => ?_)
      · have hR := hR.trans (if_pos c4)
        refine x_sub [2] (ls2 := [(2, .int a2)]) rfl ?_
        subst hR
        exact k
      · have hR := hR.trans (if_neg c4)
        have hok := hok.2 c4
        refine x_iload_n (pc := 16) (i := 2) C 2 dX4_readNumber_16 rfl rfl ?_
        refine x_iconst (pc := 17) (v := 0) C dX4_readNumber_17 (by decide) ?_
        refine x_mmax (pc := 18) C wd_6_163 wd_3_211 wd_1_21 wd_3_212 ⟨Nat.le_of_ble_eq_true rfl, Nat.le_of_ble_eq_true rfl⟩ ⟨Nat.le_of_ble_eq_true rfl, Nat.le_of_ble_eq_true rfl⟩ dX4_readNumber_18 ?_
        refine x_bipush (pc := 21) (v := 10) C dX4_readNumber_21 (by decide) ?_
        refine x_imul (pc := 23) C dX4_readNumber_23 ?_
        refine x_aload_n (pc := 24) (i := 0) C 0 dX4_readNumber_24 rfl rfl ?_
        refine x_get (pc := 25) (q := 179) (i := 0) C e_R rfl ttX4 (by decide) wd_1_217 rfl dX4_readNumber_25 ?_
        refine x_aload_n (pc := 28) (i := 0) C 0 dX4_readNumber_28 rfl rfl ?_
        refine x_get (pc := 29) (q := 179) (i := 2) C e_R rfl ttX4 (by decide) wd_1_220 rfl dX4_readNumber_29 ?_
        have h5 := hok.1
        have hok := hok.2
        refine x_cald (pc := 32) (q := 180) C e_Rt h5 dX4_readNumber_32 ?_
        refine x_bipush (pc := 33) (v := 48) C dX4_readNumber_33 (by decide) ?_
        refine x_isub (pc := 35) C dX4_readNumber_35 ?_
        refine x_iadd (pc := 36) C dX4_readNumber_36 ?_
        refine x_nmI (fun v6 ev6 => ?_)
        have hR := nmE hR ev6
        have hok := hok v6 ev6
        refine x_istore_n (pc := 37) (i := 2) (ls2 := [(2, .int v6), (0, .ref (ad 179)), (1, .int a1), (3, .int a3)]) C dX4_readNumber_37 rfl (by decide) rfl ?_
        refine x_aload_n (pc := 38) (i := 0) C 1 dX4_readNumber_38 rfl rfl ?_
        refine x_dup (pc := 39) C dX4_readNumber_39 rfl ?_
        refine x_get (pc := 40) (q := 179) (i := 2) C e_R rfl ttX4 (by decide) wd_1_220 rfl dX4_readNumber_40 ?_
        refine x_iconst (pc := 43) (v := 1) C dX4_readNumber_43 (by decide) ?_
        refine x_iadd (pc := 44) C dX4_readNumber_44 ?_
        refine x_put (pc := 45) (B2 := (sbi B 179 2 ((bi B 179 2) + 1))) (M2 := M) (O2 := O) (q := 179) (i := 2) C tyX4 tyX4_ok nmX4 e_R rfl ttX4 (by decide) wd_1_220 rfl rfl rfl (Nat.le_of_ble_eq_true rfl) dX4_readNumber_45 (put_R_2 ) (o_sbi 179 2 ((bi B 179 2) + 1)) ?_
        refine x_nmB (fun B7 eB7 => ?_)
        have hR := nmE hR eB7
        have hok := hok B7 eB7
        refine x_iinc (pc := 48) (i := 3) (v := (a3 + 1)) (ls2 := [(3, .int (a3 + 1)), (2, .int v6), (0, .ref (ad 179)), (1, .int a1)]) C 3 dX4_readNumber_48 rfl rfl (by decide) rfl ?_
        refine x_goto (pc := 51) (tgt := 4) C dX4_readNumber_51 (by decide) ?_
        refine x_sub [2, 3, 1, 0] (ls2 := [(0, .ref (ad 179)), (1, .int a1), (2, .int v6), (3, .int (a3 + 1))]) rfl ?_
        exact ih B7 a1 v6 (a3 + 1) R0 hR hok k
set_option maxHeartbeats 4000000 in
set_option maxRecDepth 100000 in
theorem c_X4_readNumber {l : Launch} {A : Nat → Prop} {G : GT} {ad : Nat → Nat} (gl : Gl l A ad)  (B : StB) (M : StM) (O : StO) (x0 : Int32) (hok : ok_X4_readNumber B x0) : Met l yX4_readNumber (wof yX4_readNumber cX4_readNumber 4 (some .int)) (rmd 2 0 0) (va_Pc [.ref (ad 179), .int x0] (PW G A ad B M O)) (QI G A ad (f_X4_readNumber B x0).1 (f_X4_readNumber B x0).2 M O) 0 0 A := by
  refine x_body (own := RX4) (by decide +kernel) rfl gl (Nat.le_of_ble_eq_true rfl) (ls := [(0, .ref (ad 179)), (1, .int x0)]) rfl ?_
  intro p0 e s m args below meth c C
  have hR : (f_X4_readNumber B x0) = (nm (f_X4_readNumber_L4 fu B x0 (-1) 0) (fun (z8 : Int32 × StB) => (z8.1, z8.2))) := rfl
  have hok : (ok_X4_readNumber_L4 fu B x0 (-1) 0) := hok
  refine x_iconst (pc := 0) (v := (-1)) C dX4_readNumber_0 (by decide) ?_
  refine x_istore_n (pc := 1) (i := 2) (ls2 := [(2, .int (-1)), (0, .ref (ad 179)), (1, .int x0)]) C dX4_readNumber_1 rfl (by decide) rfl ?_
  refine x_iconst (pc := 2) (v := 0) C dX4_readNumber_2 (by decide) ?_
  refine x_istore_n (pc := 3) (i := 3) (ls2 := [(3, .int 0), (2, .int (-1)), (0, .ref (ad 179)), (1, .int x0)]) C dX4_readNumber_3 rfl (by decide) rfl ?_
  refine x_sub [2, 3, 1, 0] (ls2 := [(0, .ref (ad 179)), (1, .int x0), (2, .int (-1)), (3, .int 0)]) rfl ?_
  obtain ⟨z8, ez8⟩ : ∃ z : Int32 × StB, z = f_X4_readNumber_L4 fu B x0 (-1) 0 := ⟨_, rfl⟩
  refine t_X4_readNumber_L4 C fu B x0 (-1) 0 M O z8 ez8 hok ?_
  have hR := nmE hR ez8
  refine x_iload_n (pc := 54) (i := 2) C 0 dX4_readNumber_54 rfl rfl ?_
  exact x_iretB (pc := 55) C rfl hR dX4_readNumber_55
