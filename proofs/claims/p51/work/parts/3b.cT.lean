set_option maxHeartbeats 4000000 in
set_option maxRecDepth 100000 in
theorem c_X5_copySlot {l : Launch} {A : Nat → Prop} {G : GT} {ad : Nat → Nat} (gl : Gl l A G ad) (p : Nat) (hp : p < 176 ∧ p % 16 = 6) (q0 : Nat) (hq0 : q0 < 176 ∧ q0 % 16 = 6) (B : StB) (M : StM) (O : StO) (x1 : Int32) (x2 : Int32) (hok : ok_X5_copySlot p q0 B x1 x2) : Met l yX5_copySlot (wof yX5_copySlot cX5_copySlot 4 none) (rmd 1 0 0) (va_Pc [.ref (ad p), .ref (ad q0), .int x1, .int x2] (PW G A ad B M O)) (QV G A ad (f_X5_copySlot p q0 B x1 x2) M O) 0 0 A := by
  refine x_body (own := RX5) (by decide +kernel) rfl gl (Nat.le_of_ble_eq_true rfl) (ls := [(0, .ref (ad p)), (1, .ref (ad q0)), (2, .int x1), (3, .int x2)]) rfl ?_
  intro p0 e s m args below meth c C
  have hR : (f_X5_copySlot p q0 B x1 x2) = (nm (sba B (p + 1) (ix x2) (ba B (q0 + 1) (ix x1))) (fun (B3 : StB) => (nm (sba B3 (p + 2) (ix x2) (ba B3 (q0 + 2) (ix x1))) (fun (B6 : StB) => (nm (sba B6 (p + 3) (ix x2) (ba B6 (q0 + 3) (ix x1))) (fun (B9 : StB) => (nm (sba B9 (p + 4) (ix x2) (ba B9 (q0 + 4) (ix x1))) (fun (B12 : StB) => (nm (sba B12 (p + 5) (ix x2) (ba B12 (q0 + 5) (ix x1))) (fun (B15 : StB) => B15)))))))))) := rfl
  have hok : (vp_in x1 10 ∧ (vp_in x2 10 ∧ (∀ B3 : StB, B3 = (sba B (p + 1) (ix x2) (ba B (q0 + 1) (ix x1))) → (vp_in x1 10 ∧ (vp_in x2 10 ∧ (∀ B6 : StB, B6 = (sba B3 (p + 2) (ix x2) (ba B3 (q0 + 2) (ix x1))) → (vp_in x1 10 ∧ (vp_in x2 10 ∧ (∀ B9 : StB, B9 = (sba B6 (p + 3) (ix x2) (ba B6 (q0 + 3) (ix x1))) → (vp_in x1 10 ∧ (vp_in x2 10 ∧ (∀ B12 : StB, B12 = (sba B9 (p + 4) (ix x2) (ba B9 (q0 + 4) (ix x1))) → (vp_in x1 10 ∧ (vp_in x2 10)))))))))))))) := hok
  refine x_aload_n (pc := 0) (i := 0) C 0 dX5_copySlot_0 rfl rfl ?_
  refine x_get (pc := 1) (q := p) (i := 2) C (e_T (by omega)) rfl ttX5 (by decide) wd_1_89 rfl dX5_copySlot_1 ?_
  refine x_iload_n (pc := 4) (i := 3) C 3 dX5_copySlot_4 rfl rfl ?_
  refine x_aload_n (pc := 5) (i := 1) C 1 dX5_copySlot_5 rfl rfl ?_
  refine x_get (pc := 6) (q := q0) (i := 2) C (e_T (by omega)) rfl ttX5 (by decide) wd_1_89 rfl dX5_copySlot_6 ?_
  refine x_iload_n (pc := 9) (i := 2) C 2 dX5_copySlot_9 rfl rfl ?_
  have h1 := hok.1
  have hok := hok.2
  refine x_iald (pc := 10) (q := q0 + 1) C (e_Ti (by omega)) h1 dX5_copySlot_10 ?_
  have h2 := hok.1
  have hok := hok.2
  refine x_iastB (pc := 11) (q := p + 1) C (e_Ti (by omega)) (e_Ti (by omega)).2 h2 dX5_copySlot_11 ?_
  refine x_nmB (fun B3 eB3 => ?_)
  have hR := nmE hR eB3
  have hok := hok B3 eB3
  refine x_aload_n (pc := 12) (i := 0) C 0 dX5_copySlot_12 rfl rfl ?_
  refine x_get (pc := 13) (q := p) (i := 3) C (e_T (by omega)) rfl ttX5 (by decide) wd_1_91 rfl dX5_copySlot_13 ?_
  refine x_iload_n (pc := 16) (i := 3) C 3 dX5_copySlot_16 rfl rfl ?_
  refine x_aload_n (pc := 17) (i := 1) C 1 dX5_copySlot_17 rfl rfl ?_
  refine x_get (pc := 18) (q := q0) (i := 3) C (e_T (by omega)) rfl ttX5 (by decide) wd_1_91 rfl dX5_copySlot_18 ?_
  refine x_iload_n (pc := 21) (i := 2) C 2 dX5_copySlot_21 rfl rfl ?_
  have h4 := hok.1
  have hok := hok.2
  refine x_iald (pc := 22) (q := q0 + 2) C (e_Ts (by omega)) h4 dX5_copySlot_22 ?_
  have h5 := hok.1
  have hok := hok.2
  refine x_iastB (pc := 23) (q := p + 2) C (e_Ts (by omega)) (e_Ts (by omega)).2 h5 dX5_copySlot_23 ?_
  refine x_nmB (fun B6 eB6 => ?_)
  have hR := nmE hR eB6
  have hok := hok B6 eB6
  refine x_aload_n (pc := 24) (i := 0) C 0 dX5_copySlot_24 rfl rfl ?_
  refine x_get (pc := 25) (q := p) (i := 4) C (e_T (by omega)) rfl ttX5 (by decide) wd_1_94 rfl dX5_copySlot_25 ?_
  refine x_iload_n (pc := 28) (i := 3) C 3 dX5_copySlot_28 rfl rfl ?_
  refine x_aload_n (pc := 29) (i := 1) C 1 dX5_copySlot_29 rfl rfl ?_
  refine x_get (pc := 30) (q := q0) (i := 4) C (e_T (by omega)) rfl ttX5 (by decide) wd_1_94 rfl dX5_copySlot_30 ?_
  refine x_iload_n (pc := 33) (i := 2) C 2 dX5_copySlot_33 rfl rfl ?_
  have h7 := hok.1
  have hok := hok.2
  refine x_iald (pc := 34) (q := q0 + 3) C (e_Tr (by omega)) h7 dX5_copySlot_34 ?_
  have h8 := hok.1
  have hok := hok.2
  refine x_iastB (pc := 35) (q := p + 3) C (e_Tr (by omega)) (e_Tr (by omega)).2 h8 dX5_copySlot_35 ?_
  refine x_nmB (fun B9 eB9 => ?_)
  have hR := nmE hR eB9
  have hok := hok B9 eB9
  refine x_aload_n (pc := 36) (i := 0) C 0 dX5_copySlot_36 rfl rfl ?_
  refine x_get (pc := 37) (q := p) (i := 5) C (e_T (by omega)) rfl ttX5 (by decide) wd_1_97 rfl dX5_copySlot_37 ?_
  refine x_iload_n (pc := 40) (i := 3) C 3 dX5_copySlot_40 rfl rfl ?_
  refine x_aload_n (pc := 41) (i := 1) C 1 dX5_copySlot_41 rfl rfl ?_
  refine x_get (pc := 42) (q := q0) (i := 5) C (e_T (by omega)) rfl ttX5 (by decide) wd_1_97 rfl dX5_copySlot_42 ?_
  refine x_iload_n (pc := 45) (i := 2) C 2 dX5_copySlot_45 rfl rfl ?_
  have h10 := hok.1
  have hok := hok.2
  refine x_iald (pc := 46) (q := q0 + 4) C (e_Ta (by omega)) h10 dX5_copySlot_46 ?_
  have h11 := hok.1
  have hok := hok.2
  refine x_iastB (pc := 47) (q := p + 4) C (e_Ta (by omega)) (e_Ta (by omega)).2 h11 dX5_copySlot_47 ?_
  refine x_nmB (fun B12 eB12 => ?_)
  have hR := nmE hR eB12
  have hok := hok B12 eB12
  refine x_aload_n (pc := 48) (i := 0) C 0 dX5_copySlot_48 rfl rfl ?_
  refine x_get (pc := 49) (q := p) (i := 6) C (e_T (by omega)) rfl ttX5 (by decide) wd_1_100 rfl dX5_copySlot_49 ?_
  refine x_iload_n (pc := 52) (i := 3) C 3 dX5_copySlot_52 rfl rfl ?_
  refine x_aload_n (pc := 53) (i := 1) C 1 dX5_copySlot_53 rfl rfl ?_
  refine x_get (pc := 54) (q := q0) (i := 6) C (e_T (by omega)) rfl ttX5 (by decide) wd_1_100 rfl dX5_copySlot_54 ?_
  refine x_iload_n (pc := 57) (i := 2) C 2 dX5_copySlot_57 rfl rfl ?_
  have h13 := hok.1
  have hok := hok.2
  refine x_iald (pc := 58) (q := q0 + 5) C (e_Td (by omega)) h13 dX5_copySlot_58 ?_
  have h14 := hok
  refine x_iastB (pc := 59) (q := p + 5) C (e_Td (by omega)) (e_Td (by omega)).2 h14 dX5_copySlot_59 ?_
  refine x_nmB (fun B15 eB15 => ?_)
  have hR := nmE hR eB15
  exact x_vretB (pc := 60) C rfl hR dX5_copySlot_60
set_option maxHeartbeats 4000000 in
set_option maxRecDepth 100000 in
theorem c_X5_add {l : Launch} {A : Nat → Prop} {G : GT} {ad : Nat → Nat} (gl : Gl l A G ad) (p : Nat) (hp : p < 176 ∧ p % 16 = 6) (B : StB) (M : StM) (O : StO) (x0 : Int32) (x1 : Int32) (x2 : Int32) (x3 : Int32) (hok : ok_X5_add p B x0 x1 x2 x3) : Met l yX5_add (wof yX5_add cX5_add 6 (some .int)) (rmd 1 0 0) (va_Pc [.ref (ad p), .int x0, .int x1, .int x2, .int x3] (PW G A ad B M O)) (QI G A ad (f_X5_add p B x0 x1 x2 x3).1 (f_X5_add p B x0 x1 x2 x3).2 M O) 0 0 A := by
  refine x_body (own := RX5) (by decide +kernel) rfl gl (Nat.le_of_ble_eq_true rfl) (ls := [(0, .ref (ad p)), (1, .int x0), (2, .int x1), (3, .int x2), (4, .int x3)]) rfl ?_
  intro p0 e s m args below meth c C
  have hR : (f_X5_add p B x0 x1 x2 x3) = (nm (bi B p 1) (fun (v1 : Int32) => (nm (sba B (p + 1) (ix (bi B p 0)) v1) (fun (B3 : StB) => (nm (sba B3 (p + 2) (ix (bi B3 p 0)) x0) (fun (B5 : StB) => (nm (sba B5 (p + 3) (ix (bi B5 p 0)) x1) (fun (B7 : StB) => (nm (sba B7 (p + 4) (ix (bi B7 p 0)) x2) (fun (B9 : StB) => (nm (sba B9 (p + 5) (ix (bi B9 p 0)) x3) (fun (B11 : StB) => (nm (sbi B11 p 0 ((bi B11 p 0) + 1)) (fun (B12 : StB) => (nm (sbi B12 p 1 ((bi B12 p 1) + 1)) (fun (B13 : StB) => (v1, B13))))))))))))))))) := rfl
  have hok : (∀ v1 : Int32, v1 = (bi B p 1) → (vp_in (bi B p 0) 10 ∧ (∀ B3 : StB, B3 = (sba B (p + 1) (ix (bi B p 0)) v1) → (vp_in (bi B3 p 0) 10 ∧ (∀ B5 : StB, B5 = (sba B3 (p + 2) (ix (bi B3 p 0)) x0) → (vp_in (bi B5 p 0) 10 ∧ (∀ B7 : StB, B7 = (sba B5 (p + 3) (ix (bi B5 p 0)) x1) → (vp_in (bi B7 p 0) 10 ∧ (∀ B9 : StB, B9 = (sba B7 (p + 4) (ix (bi B7 p 0)) x2) → (vp_in (bi B9 p 0) 10)))))))))) := hok
  refine x_aload_n (pc := 0) (i := 0) C 0 dX5_add_0 rfl rfl ?_
  refine x_get (pc := 1) (q := p) (i := 1) C (e_T (by omega)) rfl ttX5 (by decide) wd_1_88 rfl dX5_add_1 ?_
  refine x_nmI (fun v1 ev1 => ?_)
  have hR := nmE hR ev1
  have hok := hok v1 ev1
  refine x_istore (pc := 4) (i := 5) (ls2 := [(5, .int v1), (0, .ref (ad p)), (1, .int x0), (2, .int x1), (3, .int x2), (4, .int x3)]) C dX5_add_4 (by decide) rfl ?_
  refine x_aload_n (pc := 6) (i := 0) C 1 dX5_add_6 rfl rfl ?_
  refine x_get (pc := 7) (q := p) (i := 2) C (e_T (by omega)) rfl ttX5 (by decide) wd_1_89 rfl dX5_add_7 ?_
  refine x_aload_n (pc := 10) (i := 0) C 1 dX5_add_10 rfl rfl ?_
  refine x_get (pc := 11) (q := p) (i := 0) C (e_T (by omega)) rfl ttX5 (by decide) wd_1_85 rfl dX5_add_11 ?_
  refine x_iload (pc := 14) (i := 5) C 0 dX5_add_14 rfl ?_
  have h2 := hok.1
  have hok := hok.2
  refine x_iastB (pc := 16) (q := p + 1) C (e_Ti (by omega)) (e_Ti (by omega)).2 h2 dX5_add_16 ?_
  refine x_nmB (fun B3 eB3 => ?_)
  have hR := nmE hR eB3
  have hok := hok B3 eB3
  refine x_aload_n (pc := 17) (i := 0) C 1 dX5_add_17 rfl rfl ?_
  refine x_get (pc := 18) (q := p) (i := 3) C (e_T (by omega)) rfl ttX5 (by decide) wd_1_91 rfl dX5_add_18 ?_
  refine x_aload_n (pc := 21) (i := 0) C 1 dX5_add_21 rfl rfl ?_
  refine x_get (pc := 22) (q := p) (i := 0) C (e_T (by omega)) rfl ttX5 (by decide) wd_1_85 rfl dX5_add_22 ?_
  refine x_iload_n (pc := 25) (i := 1) C 2 dX5_add_25 rfl rfl ?_
  have h4 := hok.1
  have hok := hok.2
  refine x_iastB (pc := 26) (q := p + 2) C (e_Ts (by omega)) (e_Ts (by omega)).2 h4 dX5_add_26 ?_
  refine x_nmB (fun B5 eB5 => ?_)
  have hR := nmE hR eB5
  have hok := hok B5 eB5
  refine x_aload_n (pc := 27) (i := 0) C 1 dX5_add_27 rfl rfl ?_
  refine x_get (pc := 28) (q := p) (i := 4) C (e_T (by omega)) rfl ttX5 (by decide) wd_1_94 rfl dX5_add_28 ?_
  refine x_aload_n (pc := 31) (i := 0) C 1 dX5_add_31 rfl rfl ?_
  refine x_get (pc := 32) (q := p) (i := 0) C (e_T (by omega)) rfl ttX5 (by decide) wd_1_85 rfl dX5_add_32 ?_
  refine x_iload_n (pc := 35) (i := 2) C 3 dX5_add_35 rfl rfl ?_
  have h6 := hok.1
  have hok := hok.2
  refine x_iastB (pc := 36) (q := p + 3) C (e_Tr (by omega)) (e_Tr (by omega)).2 h6 dX5_add_36 ?_
  refine x_nmB (fun B7 eB7 => ?_)
  have hR := nmE hR eB7
  have hok := hok B7 eB7
  refine x_aload_n (pc := 37) (i := 0) C 1 dX5_add_37 rfl rfl ?_
  refine x_get (pc := 38) (q := p) (i := 5) C (e_T (by omega)) rfl ttX5 (by decide) wd_1_97 rfl dX5_add_38 ?_
  refine x_aload_n (pc := 41) (i := 0) C 1 dX5_add_41 rfl rfl ?_
  refine x_get (pc := 42) (q := p) (i := 0) C (e_T (by omega)) rfl ttX5 (by decide) wd_1_85 rfl dX5_add_42 ?_
  refine x_iload_n (pc := 45) (i := 3) C 4 dX5_add_45 rfl rfl ?_
  have h8 := hok.1
  have hok := hok.2
  refine x_iastB (pc := 46) (q := p + 4) C (e_Ta (by omega)) (e_Ta (by omega)).2 h8 dX5_add_46 ?_
  refine x_nmB (fun B9 eB9 => ?_)
  have hR := nmE hR eB9
  have hok := hok B9 eB9
  refine x_aload_n (pc := 47) (i := 0) C 1 dX5_add_47 rfl rfl ?_
  refine x_get (pc := 48) (q := p) (i := 6) C (e_T (by omega)) rfl ttX5 (by decide) wd_1_100 rfl dX5_add_48 ?_
  refine x_aload_n (pc := 51) (i := 0) C 1 dX5_add_51 rfl rfl ?_
  refine x_get (pc := 52) (q := p) (i := 0) C (e_T (by omega)) rfl ttX5 (by decide) wd_1_85 rfl dX5_add_52 ?_
  refine x_iload (pc := 55) (i := 4) C 5 dX5_add_55 rfl ?_
  have h10 := hok
  refine x_iastB (pc := 57) (q := p + 5) C (e_Td (by omega)) (e_Td (by omega)).2 h10 dX5_add_57 ?_
  refine x_nmB (fun B11 eB11 => ?_)
  have hR := nmE hR eB11
  refine x_aload_n (pc := 58) (i := 0) C 1 dX5_add_58 rfl rfl ?_
  refine x_dup (pc := 59) C dX5_add_59 rfl ?_
  refine x_get (pc := 60) (q := p) (i := 0) C (e_T (by omega)) rfl ttX5 (by decide) wd_1_85 rfl dX5_add_60 ?_
  refine x_iconst (pc := 63) (v := 1) C dX5_add_63 (by decide) ?_
  refine x_iadd (pc := 64) C dX5_add_64 ?_
  refine x_put (pc := 65) (B2 := (sbi B11 p 0 ((bi B11 p 0) + 1))) (M2 := M) (O2 := O) (q := p) (i := 0) C tyX5 tyX5_ok nmX5 (e_T (by omega)) rfl ttX5 (by decide) wd_1_85 rfl rfl rfl (Nat.le_of_ble_eq_true rfl) dX5_add_65 (put_T_0 (by omega)) (o_sbi p 0 ((bi B11 p 0) + 1)) ?_
  refine x_nmB (fun B12 eB12 => ?_)
  have hR := nmE hR eB12
  refine x_aload_n (pc := 68) (i := 0) C 1 dX5_add_68 rfl rfl ?_
  refine x_dup (pc := 69) C dX5_add_69 rfl ?_
  refine x_get (pc := 70) (q := p) (i := 1) C (e_T (by omega)) rfl ttX5 (by decide) wd_1_88 rfl dX5_add_70 ?_
  refine x_iconst (pc := 73) (v := 1) C dX5_add_73 (by decide) ?_
  refine x_iadd (pc := 74) C dX5_add_74 ?_
  refine x_put (pc := 75) (B2 := (sbi B12 p 1 ((bi B12 p 1) + 1))) (M2 := M) (O2 := O) (q := p) (i := 1) C tyX5 tyX5_ok nmX5 (e_T (by omega)) rfl ttX5 (by decide) wd_1_88 rfl rfl rfl (Nat.le_of_ble_eq_true rfl) dX5_add_75 (put_T_1 (by omega)) (o_sbi p 1 ((bi B12 p 1) + 1)) ?_
  refine x_nmB (fun B13 eB13 => ?_)
  have hR := nmE hR eB13
  refine x_iload (pc := 78) (i := 5) C 0 dX5_add_78 rfl ?_
  exact x_iretB (pc := 80) C rfl hR dX5_add_80
set_option maxHeartbeats 4000000 in
set_option maxRecDepth 100000 in
theorem t_X5_find_L2 {p0 : Program} {l : Launch} {e : Env} {s : State} {m : MethodId} {args : Array Value} {below : List Frame} {meth : Method} {c : Code} {A : Nat → Prop} {G : GT} {ad : Nat → Nat} (C : CX p0 l s m args meth c A G ad cX5_find RX5 3 (some .int)) {p : Nat} (hp : p < 176 ∧ p % 16 = 6)   (n : Nat) (B : StB) (a1 : Int32) (a2 : Int32) (M : StM) (O : StO) : ∀ (R0 : Int32) (hR : R0 = f_X5_find_L2 n p B a1 a2) (hok : ok_X5_find_L2 n p B a1 a2), X p0 l e (rmd 1 0 0) s m args below meth c A G ad 3 0 0 (MQ below (QI G A ad R0 B M O) args s 0 0 A) B M O [(0, .ref (ad p)), (1, .int a1), (2, .int a2)] 2 [] := by
  induction n generalizing B a1 a2 with
  | zero => intro R0 hR hok; exact False.elim hok
  | succ n ih =>
    intro R0 hR hok
    have hR : R0 = (if (bi B p 0) ≤ a2 then (-1) else (if (ba B (p + 1) (ix a2)) = a1 then a2 else (f_X5_find_L2 n p B a1 (a2 + 1)))) := hR
    have hok : (((bi B p 0) ≤ a2 → True) ∧ (¬ (bi B p 0) ≤ a2 → (vp_in a2 10 ∧ (((ba B (p + 1) (ix a2)) = a1 → True) ∧ (¬ (ba B (p + 1) (ix a2)) = a1 → (ok_X5_find_L2 n p B a1 (a2 + 1))))))) := hok
    refine x_iload_n (pc := 2) (i := 2) C 2 dX5_find_2 rfl rfl ?_
    refine x_aload_n (pc := 3) (i := 0) C 0 dX5_find_3 rfl rfl ?_
    refine x_get (pc := 4) (q := p) (i := 0) C (e_T (by omega)) rfl ttX5 (by decide) wd_1_85 rfl dX5_find_4 ?_
    refine x_icmp_ge (pc := 7) (tgt := 28) C dX5_find_7 (by decide) (fun c1 => ?_) (fun c1 => ?_)
    · have hR := hR.trans (if_pos c1)
      refine x_iconst (pc := 28) (v := (-1)) C dX5_find_28 (by decide) ?_
      exact x_iret (pc := 29) C rfl hR dX5_find_29
    · have hR := hR.trans (if_neg c1)
      have hok := hok.2 c1
      refine x_aload_n (pc := 10) (i := 0) C 0 dX5_find_10 rfl rfl ?_
      refine x_get (pc := 11) (q := p) (i := 2) C (e_T (by omega)) rfl ttX5 (by decide) wd_1_89 rfl dX5_find_11 ?_
      refine x_iload_n (pc := 14) (i := 2) C 2 dX5_find_14 rfl rfl ?_
      have h2 := hok.1
      have hok := hok.2
      refine x_iald (pc := 15) (q := p + 1) C (e_Ti (by omega)) h2 dX5_find_15 ?_
      refine x_iload_n (pc := 16) (i := 1) C 1 dX5_find_16 rfl rfl ?_
      refine x_icmp_ne (pc := 17) (tgt := 22) C dX5_find_17 (by decide) (fun c3 => ?_) (fun c3 => ?_)
      · have hR := hR.trans (if_neg c3)
        have hok := hok.2 c3
        refine x_iinc (pc := 22) (i := 2) (v := (a2 + 1)) (ls2 := [(2, .int (a2 + 1)), (0, .ref (ad p)), (1, .int a1)]) C 2 dX5_find_22 rfl rfl (by decide) rfl ?_
        refine x_goto (pc := 25) (tgt := 2) C dX5_find_25 (by decide) ?_
        refine x_sub [1, 2, 0] (ls2 := [(0, .ref (ad p)), (1, .int a1), (2, .int (a2 + 1))]) rfl ?_
        exact ih B a1 (a2 + 1) R0 hR hok
      · have hR := hR.trans (if_pos c3)
        refine x_iload_n (pc := 20) (i := 2) C 2 dX5_find_20 rfl rfl ?_
        exact x_iret (pc := 21) C rfl hR dX5_find_21
set_option maxHeartbeats 4000000 in
set_option maxRecDepth 100000 in
theorem c_X5_find {l : Launch} {A : Nat → Prop} {G : GT} {ad : Nat → Nat} (gl : Gl l A G ad) (p : Nat) (hp : p < 176 ∧ p % 16 = 6) (B : StB) (M : StM) (O : StO) (x0 : Int32) (hok : ok_X5_find p B x0) : Met l yX5_find (wof yX5_find cX5_find 3 (some .int)) (rmd 1 0 0) (va_Pc [.ref (ad p), .int x0] (PW G A ad B M O)) (QI G A ad (f_X5_find p B x0) B M O) 0 0 A := by
  refine x_body (own := RX5) (by decide +kernel) rfl gl (Nat.le_of_ble_eq_true rfl) (ls := [(0, .ref (ad p)), (1, .int x0)]) rfl ?_
  intro p0 e s m args below meth c C
  have hR : (f_X5_find p B x0) = (f_X5_find_L2 fu p B x0 0) := rfl
  have hok : (ok_X5_find_L2 fu p B x0 0) := hok
  refine x_iconst (pc := 0) (v := 0) C dX5_find_0 (by decide) ?_
  refine x_istore_n (pc := 1) (i := 2) (ls2 := [(2, .int 0), (0, .ref (ad p)), (1, .int x0)]) C dX5_find_1 rfl (by decide) rfl ?_
  refine x_sub [1, 2, 0] (ls2 := [(0, .ref (ad p)), (1, .int x0), (2, .int 0)]) rfl ?_
  exact t_X5_find_L2 C hp fu B x0 0 M O _ hR hok
set_option maxHeartbeats 4000000 in
set_option maxRecDepth 100000 in
theorem t_X5_positionOf_L4 {p0 : Program} {l : Launch} {e : Env} {s : State} {m : MethodId} {args : Array Value} {below : List Frame} {meth : Method} {c : Code} {A : Nat → Prop} {G : GT} {ad : Nat → Nat} {Q : State → Prop} (C : CX p0 l s m args meth c A G ad cX5_positionOf RX5 6 (some .int)) {p : Nat} (hp : p < 176 ∧ p % 16 = 6)   (n : Nat) (B : StB) (a1 : Int32) (a2 : Int32) (a3 : Int32) (M : StM) (O : StO) : ∀ (R0 : Int32) (hR : R0 = f_X5_positionOf_L4 n p B a1 a2 a3) (hok : ok_X5_positionOf_L4 n p B a1 a2 a3) (k : X p0 l e (rmd 1 0 0) s m args below meth c A G ad 6 0 0 Q B M O [(2, .int R0)] 80 []), X p0 l e (rmd 1 0 0) s m args below meth c A G ad 6 0 0 Q B M O [(0, .ref (ad p)), (1, .int a1), (2, .int a2), (3, .int a3)] 4 [] := by
  induction n generalizing B a1 a2 a3 with
  | zero => intro R0 hR hok k; exact False.elim hok
  | succ n ih =>
    intro R0 hR hok k
    have hR : R0 = (if (bi B p 0) ≤ a3 then a2 else (if (ba B (p + 5) (ix a1)) ≤ (ba B (p + 5) (ix a3)) then (if (ba B (p + 5) (ix a3)) = (ba B (p + 5) (ix a1)) then (if a1 ≤ a3 then (f_X5_positionOf_L4 n p B a1 a2 (a3 + 1)) else (f_X5_positionOf_L4 n p B a1 (a2 + 1) (a3 + 1))) else (f_X5_positionOf_L4 n p B a1 a2 (a3 + 1))) else (if (ba B (p + 5) (ix a3)) = (ba B (p + 5) (ix a1)) then (if a1 ≤ a3 then (f_X5_positionOf_L4 n p B a1 (a2 + 1) (a3 + 1)) else (f_X5_positionOf_L4 n p B a1 (a2 + 1) (a3 + 1))) else (f_X5_positionOf_L4 n p B a1 (a2 + 1) (a3 + 1))))) := hR
    have hok : (((bi B p 0) ≤ a3 → True) ∧ (¬ (bi B p 0) ≤ a3 → (vp_in a3 10 ∧ (vp_in a1 10 ∧ (((ba B (p + 5) (ix a1)) ≤ (ba B (p + 5) (ix a3)) → (vp_in a3 10 ∧ (vp_in a1 10 ∧ (((ba B (p + 5) (ix a3)) = (ba B (p + 5) (ix a1)) → ((a1 ≤ a3 → (ok_X5_positionOf_L4 n p B a1 a2 (a3 + 1))) ∧ (¬ a1 ≤ a3 → (ok_X5_positionOf_L4 n p B a1 (a2 + 1) (a3 + 1))))) ∧ (¬ (ba B (p + 5) (ix a3)) = (ba B (p + 5) (ix a1)) → (ok_X5_positionOf_L4 n p B a1 a2 (a3 + 1))))))) ∧ (¬ (ba B (p + 5) (ix a1)) ≤ (ba B (p + 5) (ix a3)) → (vp_in a3 10 ∧ (vp_in a1 10 ∧ (((ba B (p + 5) (ix a3)) = (ba B (p + 5) (ix a1)) → ((a1 ≤ a3 → (ok_X5_positionOf_L4 n p B a1 (a2 + 1) (a3 + 1))) ∧ (¬ a1 ≤ a3 → (ok_X5_positionOf_L4 n p B a1 (a2 + 1) (a3 + 1))))) ∧ (¬ (ba B (p + 5) (ix a3)) = (ba B (p + 5) (ix a1)) → (ok_X5_positionOf_L4 n p B a1 (a2 + 1) (a3 + 1)))))))))))) := hok
    refine x_iload_n (pc := 4) (i := 3) C 3 dX5_positionOf_4 rfl rfl ?_
    refine x_aload_n (pc := 5) (i := 0) C 0 dX5_positionOf_5 rfl rfl ?_
    refine x_get (pc := 6) (q := p) (i := 0) C (e_T (by omega)) rfl ttX5 (by decide) wd_1_85 rfl dX5_positionOf_6 ?_
    refine x_icmp_ge (pc := 9) (tgt := 80) C dX5_positionOf_9 (by decide) (fun c1 => ?_) (fun c1 => ?_)
    · have hR := hR.trans (if_pos c1)
      refine x_sub [2] (ls2 := [(2, .int a2)]) rfl ?_
      subst hR
      exact k
    · have hR := hR.trans (if_neg c1)
      have hok := hok.2 c1
      refine x_aload_n (pc := 12) (i := 0) C 0 dX5_positionOf_12 rfl rfl ?_
      refine x_get (pc := 13) (q := p) (i := 6) C (e_T (by omega)) rfl ttX5 (by decide) wd_1_100 rfl dX5_positionOf_13 ?_
      refine x_iload_n (pc := 16) (i := 3) C 3 dX5_positionOf_16 rfl rfl ?_
      have h2 := hok.1
      have hok := hok.2
      refine x_iald (pc := 17) (q := p + 5) C (e_Td (by omega)) h2 dX5_positionOf_17 ?_
      refine x_aload_n (pc := 18) (i := 0) C 0 dX5_positionOf_18 rfl rfl ?_
      refine x_get (pc := 19) (q := p) (i := 6) C (e_T (by omega)) rfl ttX5 (by decide) wd_1_100 rfl dX5_positionOf_19 ?_
      refine x_iload_n (pc := 22) (i := 1) C 1 dX5_positionOf_22 rfl rfl ?_
      have h3 := hok.1
      have hok := hok.2
      refine x_iald (pc := 23) (q := p + 5) C (e_Td (by omega)) h3 dX5_positionOf_23 ?_
      refine x_icmp_ge (pc := 24) (tgt := 31) C dX5_positionOf_24 (by decide) (fun c4 => ?_) (fun c4 => ?_)
      · have hR := hR.trans (if_pos c4)
        have hok := hok.1 c4
        refine x_iconst (pc := 31) (v := 0) C dX5_positionOf_31 (by decide) ?_
        refine x_istore (pc := 32) (i := 4) (ls2 := [(4, .int 0), (0, .ref (ad p)), (1, .int a1), (2, .int a2), (3, .int a3)]) C dX5_positionOf_32 (by decide) rfl ?_
        refine x_aload_n (pc := 34) (i := 0) C 1 dX5_positionOf_34 rfl rfl ?_
        refine x_get (pc := 35) (q := p) (i := 6) C (e_T (by omega)) rfl ttX5 (by decide) wd_1_100 rfl dX5_positionOf_35 ?_
        refine x_iload_n (pc := 38) (i := 3) C 4 dX5_positionOf_38 rfl rfl ?_
        have h5 := hok.1
        have hok := hok.2
        refine x_iald (pc := 39) (q := p + 5) C (e_Td (by omega)) h5 dX5_positionOf_39 ?_
        refine x_aload_n (pc := 40) (i := 0) C 1 dX5_positionOf_40 rfl rfl ?_
        refine x_get (pc := 41) (q := p) (i := 6) C (e_T (by omega)) rfl ttX5 (by decide) wd_1_100 rfl dX5_positionOf_41 ?_
        refine x_iload_n (pc := 44) (i := 1) C 2 dX5_positionOf_44 rfl rfl ?_
        have h6 := hok.1
        have hok := hok.2
        refine x_iald (pc := 45) (q := p + 5) C (e_Td (by omega)) h6 dX5_positionOf_45 ?_
        refine x_icmp_ne (pc := 46) (tgt := 58) C dX5_positionOf_46 (by decide) (fun c7 => ?_) (fun c7 => ?_)
        · have hR := hR.trans (if_neg c7)
          have hok := hok.2 c7
          refine x_iconst (pc := 58) (v := 0) C dX5_positionOf_58 (by decide) ?_
          refine x_istore (pc := 59) (i := 5) (ls2 := [(5, .int 0), (4, .int 0), (0, .ref (ad p)), (1, .int a1), (2, .int a2), (3, .int a3)]) C dX5_positionOf_59 (by decide) rfl ?_
          refine x_iload (pc := 61) (i := 4) C 1 dX5_positionOf_61 rfl ?_
          refine x_if_ne (pc := 63) (tgt := 71) C dX5_positionOf_63 (by decide) (fun hf => absurd hf (by decide)) (fun _ => ?_)
          refine x_iload (pc := 66) (i := 5) C 0 dX5_positionOf_66 rfl ?_
          refine x_if_eq (pc := 68) (tgt := 74) C dX5_positionOf_68 (by decide) (fun _ => ?_) (fun hf => absurd hf (by decide))
          refine x_iinc (pc := 74) (i := 3) (v := (a3 + 1)) (ls2 := [(3, .int (a3 + 1)), (5, .int 0), (4, .int 0), (0, .ref (ad p)), (1, .int a1), (2, .int a2)]) C 5 dX5_positionOf_74 rfl rfl (by decide) rfl ?_
          refine x_goto (pc := 77) (tgt := 4) C dX5_positionOf_77 (by decide) ?_
          refine x_sub [3, 4, 5, 0] (ls2 := [(0, .ref (ad p)), (1, .int a1), (2, .int a2), (3, .int (a3 + 1))]) rfl ?_
          exact ih B a1 a2 (a3 + 1) R0 hR hok k
        · have hR := hR.trans (if_pos c7)
          have hok := hok.1 c7
          refine x_iload_n (pc := 49) (i := 3) C 4 dX5_positionOf_49 rfl rfl ?_
          refine x_iload_n (pc := 50) (i := 1) C 2 dX5_positionOf_50 rfl rfl ?_
          refine x_icmp_ge (pc := 51) (tgt := 58) C dX5_positionOf_51 (by decide) (fun c10 => ?_) (fun c10 => ?_)
          · have hR := hR.trans (if_pos c10)
            have hok := hok.1 c10
            refine x_iconst (pc := 58) (v := 0) C dX5_positionOf_58 (by decide) ?_
            refine x_istore (pc := 59) (i := 5) (ls2 := [(5, .int 0), (4, .int 0), (0, .ref (ad p)), (1, .int a1), (2, .int a2), (3, .int a3)]) C dX5_positionOf_59 (by decide) rfl ?_
            refine x_iload (pc := 61) (i := 4) C 1 dX5_positionOf_61 rfl ?_
            refine x_if_ne (pc := 63) (tgt := 71) C dX5_positionOf_63 (by decide) (fun hf => absurd hf (by decide)) (fun _ => ?_)
            refine x_iload (pc := 66) (i := 5) C 0 dX5_positionOf_66 rfl ?_
            refine x_if_eq (pc := 68) (tgt := 74) C dX5_positionOf_68 (by decide) (fun _ => ?_) (fun hf => absurd hf (by decide))
            refine x_iinc (pc := 74) (i := 3) (v := (a3 + 1)) (ls2 := [(3, .int (a3 + 1)), (5, .int 0), (4, .int 0), (0, .ref (ad p)), (1, .int a1), (2, .int a2)]) C 5 dX5_positionOf_74 rfl rfl (by decide) rfl ?_
            refine x_goto (pc := 77) (tgt := 4) C dX5_positionOf_77 (by decide) ?_
            refine x_sub [3, 4, 5, 0] (ls2 := [(0, .ref (ad p)), (1, .int a1), (2, .int a2), (3, .int (a3 + 1))]) rfl ?_
            exact ih B a1 a2 (a3 + 1) R0 hR hok k
          · have hR := hR.trans (if_neg c10)
            have hok := hok.2 c10
            refine x_iconst (pc := 54) (v := 1) C dX5_positionOf_54 (by decide) ?_
            refine x_goto (pc := 55) (tgt := 59) C dX5_positionOf_55 (by decide) ?_
            refine x_istore (pc := 59) (i := 5) (ls2 := [(5, .int 1), (4, .int 0), (0, .ref (ad p)), (1, .int a1), (2, .int a2), (3, .int a3)]) C dX5_positionOf_59 (by decide) rfl ?_
            refine x_iload (pc := 61) (i := 4) C 1 dX5_positionOf_61 rfl ?_
            refine x_if_ne (pc := 63) (tgt := 71) C dX5_positionOf_63 (by decide) (fun hf => absurd hf (by decide)) (fun _ => ?_)
            refine x_iload (pc := 66) (i := 5) C 0 dX5_positionOf_66 rfl ?_
            refine x_if_eq (pc := 68) (tgt := 74) C dX5_positionOf_68 (by decide) (fun hf => absurd hf (by decide)) (fun _ => ?_)
            refine x_iinc (pc := 71) (i := 2) (v := (a2 + 1)) (ls2 := [(2, .int (a2 + 1)), (5, .int 1), (4, .int 0), (0, .ref (ad p)), (1, .int a1), (3, .int a3)]) C 4 dX5_positionOf_71 rfl rfl (by decide) rfl ?_
            refine x_iinc (pc := 74) (i := 3) (v := (a3 + 1)) (ls2 := [(3, .int (a3 + 1)), (2, .int (a2 + 1)), (5, .int 1), (4, .int 0), (0, .ref (ad p)), (1, .int a1)]) C 5 dX5_positionOf_74 rfl rfl (by decide) rfl ?_
            refine x_goto (pc := 77) (tgt := 4) C dX5_positionOf_77 (by decide) ?_
            refine x_sub [4, 5, 1, 0] (ls2 := [(0, .ref (ad p)), (1, .int a1), (2, .int (a2 + 1)), (3, .int (a3 + 1))]) rfl ?_
            exact ih B a1 (a2 + 1) (a3 + 1) R0 hR hok k
      · have hR := hR.trans (if_neg c4)
        have hok := hok.2 c4
        refine x_iconst (pc := 27) (v := 1) C dX5_positionOf_27 (by decide) ?_
        refine x_goto (pc := 28) (tgt := 32) C dX5_positionOf_28 (by decide) ?_
        refine x_istore (pc := 32) (i := 4) (ls2 := [(4, .int 1), (0, .ref (ad p)), (1, .int a1), (2, .int a2), (3, .int a3)]) C dX5_positionOf_32 (by decide) rfl ?_
        refine x_aload_n (pc := 34) (i := 0) C 1 dX5_positionOf_34 rfl rfl ?_
        refine x_get (pc := 35) (q := p) (i := 6) C (e_T (by omega)) rfl ttX5 (by decide) wd_1_100 rfl dX5_positionOf_35 ?_
        refine x_iload_n (pc := 38) (i := 3) C 4 dX5_positionOf_38 rfl rfl ?_
        have h15 := hok.1
        have hok := hok.2
        refine x_iald (pc := 39) (q := p + 5) C (e_Td (by omega)) h15 dX5_positionOf_39 ?_
        refine x_aload_n (pc := 40) (i := 0) C 1 dX5_positionOf_40 rfl rfl ?_
        refine x_get (pc := 41) (q := p) (i := 6) C (e_T (by omega)) rfl ttX5 (by decide) wd_1_100 rfl dX5_positionOf_41 ?_
        refine x_iload_n (pc := 44) (i := 1) C 2 dX5_positionOf_44 rfl rfl ?_
        have h16 := hok.1
        have hok := hok.2
        refine x_iald (pc := 45) (q := p + 5) C (e_Td (by omega)) h16 dX5_positionOf_45 ?_
        refine x_icmp_ne (pc := 46) (tgt := 58) C dX5_positionOf_46 (by decide) (fun c17 => ?_) (fun c17 => ?_)
        · have hR := hR.trans (if_neg c17)
          have hok := hok.2 c17
          refine x_iconst (pc := 58) (v := 0) C dX5_positionOf_58 (by decide) ?_
          refine x_istore (pc := 59) (i := 5) (ls2 := [(5, .int 0), (4, .int 1), (0, .ref (ad p)), (1, .int a1), (2, .int a2), (3, .int a3)]) C dX5_positionOf_59 (by decide) rfl ?_
          refine x_iload (pc := 61) (i := 4) C 1 dX5_positionOf_61 rfl ?_
          refine x_if_ne (pc := 63) (tgt := 71) C dX5_positionOf_63 (by decide) (fun _ => ?_) (fun hf => absurd hf (by decide))
          refine x_iinc (pc := 71) (i := 2) (v := (a2 + 1)) (ls2 := [(2, .int (a2 + 1)), (5, .int 0), (4, .int 1), (0, .ref (ad p)), (1, .int a1), (3, .int a3)]) C 4 dX5_positionOf_71 rfl rfl (by decide) rfl ?_
          refine x_iinc (pc := 74) (i := 3) (v := (a3 + 1)) (ls2 := [(3, .int (a3 + 1)), (2, .int (a2 + 1)), (5, .int 0), (4, .int 1), (0, .ref (ad p)), (1, .int a1)]) C 5 dX5_positionOf_74 rfl rfl (by decide) rfl ?_
          refine x_goto (pc := 77) (tgt := 4) C dX5_positionOf_77 (by decide) ?_
          refine x_sub [4, 5, 1, 0] (ls2 := [(0, .ref (ad p)), (1, .int a1), (2, .int (a2 + 1)), (3, .int (a3 + 1))]) rfl ?_
          exact ih B a1 (a2 + 1) (a3 + 1) R0 hR hok k
        · have hR := hR.trans (if_pos c17)
          have hok := hok.1 c17
          refine x_iload_n (pc := 49) (i := 3) C 4 dX5_positionOf_49 rfl rfl ?_
          refine x_iload_n (pc := 50) (i := 1) C 2 dX5_positionOf_50 rfl rfl ?_
          refine x_icmp_ge (pc := 51) (tgt := 58) C dX5_positionOf_51 (by decide) (fun c19 => ?_) (fun c19 => ?_)
          · have hR := hR.trans (if_pos c19)
            have hok := hok.1 c19
            refine x_iconst (pc := 58) (v := 0) C dX5_positionOf_58 (by decide) ?_
            refine x_istore (pc := 59) (i := 5) (ls2 := [(5, .int 0), (4, .int 1), (0, .ref (ad p)), (1, .int a1), (2, .int a2), (3, .int a3)]) C dX5_positionOf_59 (by decide) rfl ?_
            refine x_iload (pc := 61) (i := 4) C 1 dX5_positionOf_61 rfl ?_
            refine x_if_ne (pc := 63) (tgt := 71) C dX5_positionOf_63 (by decide) (fun _ => ?_) (fun hf => absurd hf (by decide))
            refine x_iinc (pc := 71) (i := 2) (v := (a2 + 1)) (ls2 := [(2, .int (a2 + 1)), (5, .int 0), (4, .int 1), (0, .ref (ad p)), (1, .int a1), (3, .int a3)]) C 4 dX5_positionOf_71 rfl rfl (by decide) rfl ?_
            refine x_iinc (pc := 74) (i := 3) (v := (a3 + 1)) (ls2 := [(3, .int (a3 + 1)), (2, .int (a2 + 1)), (5, .int 0), (4, .int 1), (0, .ref (ad p)), (1, .int a1)]) C 5 dX5_positionOf_74 rfl rfl (by decide) rfl ?_
            refine x_goto (pc := 77) (tgt := 4) C dX5_positionOf_77 (by decide) ?_
            refine x_sub [4, 5, 1, 0] (ls2 := [(0, .ref (ad p)), (1, .int a1), (2, .int (a2 + 1)), (3, .int (a3 + 1))]) rfl ?_
            exact ih B a1 (a2 + 1) (a3 + 1) R0 hR hok k
          · have hR := hR.trans (if_neg c19)
            have hok := hok.2 c19
            refine x_iconst (pc := 54) (v := 1) C dX5_positionOf_54 (by decide) ?_
            refine x_goto (pc := 55) (tgt := 59) C dX5_positionOf_55 (by decide) ?_
            refine x_istore (pc := 59) (i := 5) (ls2 := [(5, .int 1), (4, .int 1), (0, .ref (ad p)), (1, .int a1), (2, .int a2), (3, .int a3)]) C dX5_positionOf_59 (by decide) rfl ?_
            refine x_iload (pc := 61) (i := 4) C 1 dX5_positionOf_61 rfl ?_
            refine x_if_ne (pc := 63) (tgt := 71) C dX5_positionOf_63 (by decide) (fun _ => ?_) (fun hf => absurd hf (by decide))
            refine x_iinc (pc := 71) (i := 2) (v := (a2 + 1)) (ls2 := [(2, .int (a2 + 1)), (5, .int 1), (4, .int 1), (0, .ref (ad p)), (1, .int a1), (3, .int a3)]) C 4 dX5_positionOf_71 rfl rfl (by decide) rfl ?_
            refine x_iinc (pc := 74) (i := 3) (v := (a3 + 1)) (ls2 := [(3, .int (a3 + 1)), (2, .int (a2 + 1)), (5, .int 1), (4, .int 1), (0, .ref (ad p)), (1, .int a1)]) C 5 dX5_positionOf_74 rfl rfl (by decide) rfl ?_
            refine x_goto (pc := 77) (tgt := 4) C dX5_positionOf_77 (by decide) ?_
            refine x_sub [4, 5, 1, 0] (ls2 := [(0, .ref (ad p)), (1, .int a1), (2, .int (a2 + 1)), (3, .int (a3 + 1))]) rfl ?_
            exact ih B a1 (a2 + 1) (a3 + 1) R0 hR hok k
set_option maxHeartbeats 4000000 in
set_option maxRecDepth 100000 in
theorem c_X5_positionOf {l : Launch} {A : Nat → Prop} {G : GT} {ad : Nat → Nat} (gl : Gl l A G ad) (p : Nat) (hp : p < 176 ∧ p % 16 = 6) (B : StB) (M : StM) (O : StO) (x0 : Int32) (hok : ok_X5_positionOf p B x0) : Met l yX5_positionOf (wof yX5_positionOf cX5_positionOf 6 (some .int)) (rmd 1 0 0) (va_Pc [.ref (ad p), .int x0] (PW G A ad B M O)) (QI G A ad (f_X5_positionOf p B x0) B M O) 0 0 A := by
  refine x_body (own := RX5) (by decide +kernel) rfl gl (Nat.le_of_ble_eq_true rfl) (ls := [(0, .ref (ad p)), (1, .int x0)]) rfl ?_
  intro p0 e s m args below meth c C
  have hR : (f_X5_positionOf p B x0) = (nm (f_X5_positionOf_L4 fu p B x0 0 0) (fun (z22 : Int32) => z22)) := rfl
  have hok : (ok_X5_positionOf_L4 fu p B x0 0 0) := hok
  refine x_iconst (pc := 0) (v := 0) C dX5_positionOf_0 (by decide) ?_
  refine x_istore_n (pc := 1) (i := 2) (ls2 := [(2, .int 0), (0, .ref (ad p)), (1, .int x0)]) C dX5_positionOf_1 rfl (by decide) rfl ?_
  refine x_iconst (pc := 2) (v := 0) C dX5_positionOf_2 (by decide) ?_
  refine x_istore_n (pc := 3) (i := 3) (ls2 := [(3, .int 0), (2, .int 0), (0, .ref (ad p)), (1, .int x0)]) C dX5_positionOf_3 rfl (by decide) rfl ?_
  refine x_sub [2, 3, 1, 0] (ls2 := [(0, .ref (ad p)), (1, .int x0), (2, .int 0), (3, .int 0)]) rfl ?_
  obtain ⟨z22, ez22⟩ : ∃ z : Int32, z = f_X5_positionOf_L4 fu p B x0 0 0 := ⟨_, rfl⟩
  refine t_X5_positionOf_L4 C hp fu B x0 0 0 M O z22 ez22 hok ?_
  have hR := nmE hR ez22
  refine x_iload_n (pc := 80) (i := 2) C 0 dX5_positionOf_80 rfl rfl ?_
  exact x_iret (pc := 81) C rfl hR dX5_positionOf_81
set_option maxHeartbeats 4000000 in
set_option maxRecDepth 100000 in
theorem t_X5_net_L4 {p0 : Program} {l : Launch} {e : Env} {s : State} {m : MethodId} {args : Array Value} {below : List Frame} {meth : Method} {c : Code} {A : Nat → Prop} {G : GT} {ad : Nat → Nat} {Q : State → Prop} (C : CX p0 l s m args meth c A G ad cX5_net RX5 4 (some .int)) {p : Nat} (hp : p < 176 ∧ p % 16 = 6)   (n : Nat) (B : StB) (a1 : Int32) (a2 : Int32) (a3 : Int32) (M : StM) (O : StO) : ∀ (R0 : Int32) (hR : R0 = f_X5_net_L4 n p B a1 a2 a3) (hok : ok_X5_net_L4 n p B a1 a2 a3) (k : X p0 l e (rmd 1 0 0) s m args below meth c A G ad 4 0 0 Q B M O [(2, .int R0)] 56 []), X p0 l e (rmd 1 0 0) s m args below meth c A G ad 4 0 0 Q B M O [(0, .ref (ad p)), (1, .int a1), (2, .int a2), (3, .int a3)] 4 [] := by
  induction n generalizing B a1 a2 a3 with
  | zero => intro R0 hR hok k; exact False.elim hok
  | succ n ih =>
    intro R0 hR hok k
    have hR : R0 = (if (bi B p 0) ≤ a3 then a2 else (if (ba B (p + 3) (ix a3)) = a1 then (nm (a2 + (ba B (p + 4) (ix a3))) (fun (v9 : Int32) => (if (ba B (p + 2) (ix a3)) = a1 then (nm (v9 - (ba B (p + 4) (ix a3))) (fun (v13 : Int32) => (f_X5_net_L4 n p B a1 v13 (a3 + 1)))) else (f_X5_net_L4 n p B a1 v9 (a3 + 1))))) else (if (ba B (p + 2) (ix a3)) = a1 then (nm (a2 - (ba B (p + 4) (ix a3))) (fun (v7 : Int32) => (f_X5_net_L4 n p B a1 v7 (a3 + 1)))) else (f_X5_net_L4 n p B a1 a2 (a3 + 1))))) := hR
    have hok : (((bi B p 0) ≤ a3 → True) ∧ (¬ (bi B p 0) ≤ a3 → (vp_in a3 10 ∧ (((ba B (p + 3) (ix a3)) = a1 → (vp_in a3 10 ∧ (∀ v9 : Int32, v9 = (a2 + (ba B (p + 4) (ix a3))) → (vp_in a3 10 ∧ (((ba B (p + 2) (ix a3)) = a1 → (vp_in a3 10 ∧ (∀ v13 : Int32, v13 = (v9 - (ba B (p + 4) (ix a3))) → (ok_X5_net_L4 n p B a1 v13 (a3 + 1))))) ∧ (¬ (ba B (p + 2) (ix a3)) = a1 → (ok_X5_net_L4 n p B a1 v9 (a3 + 1)))))))) ∧ (¬ (ba B (p + 3) (ix a3)) = a1 → (vp_in a3 10 ∧ (((ba B (p + 2) (ix a3)) = a1 → (vp_in a3 10 ∧ (∀ v7 : Int32, v7 = (a2 - (ba B (p + 4) (ix a3))) → (ok_X5_net_L4 n p B a1 v7 (a3 + 1))))) ∧ (¬ (ba B (p + 2) (ix a3)) = a1 → (ok_X5_net_L4 n p B a1 a2 (a3 + 1)))))))))) := hok
    refine x_iload_n (pc := 4) (i := 3) C 3 dX5_net_4 rfl rfl ?_
    refine x_aload_n (pc := 5) (i := 0) C 0 dX5_net_5 rfl rfl ?_
    refine x_get (pc := 6) (q := p) (i := 0) C (e_T (by omega)) rfl ttX5 (by decide) wd_1_85 rfl dX5_net_6 ?_
    refine x_icmp_ge (pc := 9) (tgt := 56) C dX5_net_9 (by decide) (fun c1 => ?_) (fun c1 => ?_)
    · have hR := hR.trans (if_pos c1)
      refine x_sub [2] (ls2 := [(2, .int a2)]) rfl ?_
      subst hR
      exact k
    · have hR := hR.trans (if_neg c1)
      have hok := hok.2 c1
      refine x_aload_n (pc := 12) (i := 0) C 0 dX5_net_12 rfl rfl ?_
      refine x_get (pc := 13) (q := p) (i := 4) C (e_T (by omega)) rfl ttX5 (by decide) wd_1_94 rfl dX5_net_13 ?_
      refine x_iload_n (pc := 16) (i := 3) C 3 dX5_net_16 rfl rfl ?_
      have h2 := hok.1
      have hok := hok.2
      refine x_iald (pc := 17) (q := p + 3) C (e_Tr (by omega)) h2 dX5_net_17 ?_
      refine x_iload_n (pc := 18) (i := 1) C 1 dX5_net_18 rfl rfl ?_
      refine x_icmp_ne (pc := 19) (tgt := 31) C dX5_net_19 (by decide) (fun c3 => ?_) (fun c3 => ?_)
      · have hR := hR.trans (if_neg c3)
        have hok := hok.2 c3
        refine x_aload_n (pc := 31) (i := 0) C 0 dX5_net_31 rfl rfl ?_
        refine x_get (pc := 32) (q := p) (i := 3) C (e_T (by omega)) rfl ttX5 (by decide) wd_1_91 rfl dX5_net_32 ?_
        refine x_iload_n (pc := 35) (i := 3) C 3 dX5_net_35 rfl rfl ?_
        have h4 := hok.1
        have hok := hok.2
        refine x_iald (pc := 36) (q := p + 2) C (e_Ts (by omega)) h4 dX5_net_36 ?_
        refine x_iload_n (pc := 37) (i := 1) C 1 dX5_net_37 rfl rfl ?_
        refine x_icmp_ne (pc := 38) (tgt := 50) C dX5_net_38 (by decide) (fun c5 => ?_) (fun c5 => ?_)
        · have hR := hR.trans (if_neg c5)
          have hok := hok.2 c5
          refine x_iinc (pc := 50) (i := 3) (v := (a3 + 1)) (ls2 := [(3, .int (a3 + 1)), (0, .ref (ad p)), (1, .int a1), (2, .int a2)]) C 3 dX5_net_50 rfl rfl (by decide) rfl ?_
          refine x_goto (pc := 53) (tgt := 4) C dX5_net_53 (by decide) ?_
          refine x_sub [1, 2, 3, 0] (ls2 := [(0, .ref (ad p)), (1, .int a1), (2, .int a2), (3, .int (a3 + 1))]) rfl ?_
          exact ih B a1 a2 (a3 + 1) R0 hR hok k
        · have hR := hR.trans (if_pos c5)
          have hok := hok.1 c5
          refine x_iload_n (pc := 41) (i := 2) C 2 dX5_net_41 rfl rfl ?_
          refine x_aload_n (pc := 42) (i := 0) C 0 dX5_net_42 rfl rfl ?_
          refine x_get (pc := 43) (q := p) (i := 5) C (e_T (by omega)) rfl ttX5 (by decide) wd_1_97 rfl dX5_net_43 ?_
          refine x_iload_n (pc := 46) (i := 3) C 3 dX5_net_46 rfl rfl ?_
          have h6 := hok.1
          have hok := hok.2
          refine x_iald (pc := 47) (q := p + 4) C (e_Ta (by omega)) h6 dX5_net_47 ?_
          refine x_isub (pc := 48) C dX5_net_48 ?_
          refine x_nmI (fun v7 ev7 => ?_)
          have hR := nmE hR ev7
          have hok := hok v7 ev7
          refine x_istore_n (pc := 49) (i := 2) (ls2 := [(2, .int v7), (0, .ref (ad p)), (1, .int a1), (3, .int a3)]) C dX5_net_49 rfl (by decide) rfl ?_
          refine x_iinc (pc := 50) (i := 3) (v := (a3 + 1)) (ls2 := [(3, .int (a3 + 1)), (2, .int v7), (0, .ref (ad p)), (1, .int a1)]) C 3 dX5_net_50 rfl rfl (by decide) rfl ?_
          refine x_goto (pc := 53) (tgt := 4) C dX5_net_53 (by decide) ?_
          refine x_sub [2, 3, 1, 0] (ls2 := [(0, .ref (ad p)), (1, .int a1), (2, .int v7), (3, .int (a3 + 1))]) rfl ?_
          exact ih B a1 v7 (a3 + 1) R0 hR hok k
      · have hR := hR.trans (if_pos c3)
        have hok := hok.1 c3
        refine x_iload_n (pc := 22) (i := 2) C 2 dX5_net_22 rfl rfl ?_
        refine x_aload_n (pc := 23) (i := 0) C 0 dX5_net_23 rfl rfl ?_
        refine x_get (pc := 24) (q := p) (i := 5) C (e_T (by omega)) rfl ttX5 (by decide) wd_1_97 rfl dX5_net_24 ?_
        refine x_iload_n (pc := 27) (i := 3) C 3 dX5_net_27 rfl rfl ?_
        have h8 := hok.1
        have hok := hok.2
        refine x_iald (pc := 28) (q := p + 4) C (e_Ta (by omega)) h8 dX5_net_28 ?_
        refine x_iadd (pc := 29) C dX5_net_29 ?_
        refine x_nmI (fun v9 ev9 => ?_)
        have hR := nmE hR ev9
        have hok := hok v9 ev9
        refine x_istore_n (pc := 30) (i := 2) (ls2 := [(2, .int v9), (0, .ref (ad p)), (1, .int a1), (3, .int a3)]) C dX5_net_30 rfl (by decide) rfl ?_
        refine x_aload_n (pc := 31) (i := 0) C 1 dX5_net_31 rfl rfl ?_
        refine x_get (pc := 32) (q := p) (i := 3) C (e_T (by omega)) rfl ttX5 (by decide) wd_1_91 rfl dX5_net_32 ?_
        refine x_iload_n (pc := 35) (i := 3) C 3 dX5_net_35 rfl rfl ?_
        have h10 := hok.1
        have hok := hok.2
        refine x_iald (pc := 36) (q := p + 2) C (e_Ts (by omega)) h10 dX5_net_36 ?_
        refine x_iload_n (pc := 37) (i := 1) C 2 dX5_net_37 rfl rfl ?_
        refine x_icmp_ne (pc := 38) (tgt := 50) C dX5_net_38 (by decide) (fun c11 => ?_) (fun c11 => ?_)
        · have hR := hR.trans (if_neg c11)
          have hok := hok.2 c11
          refine x_iinc (pc := 50) (i := 3) (v := (a3 + 1)) (ls2 := [(3, .int (a3 + 1)), (2, .int v9), (0, .ref (ad p)), (1, .int a1)]) C 3 dX5_net_50 rfl rfl (by decide) rfl ?_
          refine x_goto (pc := 53) (tgt := 4) C dX5_net_53 (by decide) ?_
          refine x_sub [2, 3, 1, 0] (ls2 := [(0, .ref (ad p)), (1, .int a1), (2, .int v9), (3, .int (a3 + 1))]) rfl ?_
          exact ih B a1 v9 (a3 + 1) R0 hR hok k
        · have hR := hR.trans (if_pos c11)
          have hok := hok.1 c11
          refine x_iload_n (pc := 41) (i := 2) C 0 dX5_net_41 rfl rfl ?_
          refine x_aload_n (pc := 42) (i := 0) C 1 dX5_net_42 rfl rfl ?_
          refine x_get (pc := 43) (q := p) (i := 5) C (e_T (by omega)) rfl ttX5 (by decide) wd_1_97 rfl dX5_net_43 ?_
          refine x_iload_n (pc := 46) (i := 3) C 3 dX5_net_46 rfl rfl ?_
          have h12 := hok.1
          have hok := hok.2
          refine x_iald (pc := 47) (q := p + 4) C (e_Ta (by omega)) h12 dX5_net_47 ?_
          refine x_isub (pc := 48) C dX5_net_48 ?_
          refine x_nmI (fun v13 ev13 => ?_)
          have hR := nmE hR ev13
          have hok := hok v13 ev13
          refine x_istore_n (pc := 49) (i := 2) (ls2 := [(2, .int v13), (0, .ref (ad p)), (1, .int a1), (3, .int a3)]) C dX5_net_49 rfl (by decide) rfl ?_
          refine x_iinc (pc := 50) (i := 3) (v := (a3 + 1)) (ls2 := [(3, .int (a3 + 1)), (2, .int v13), (0, .ref (ad p)), (1, .int a1)]) C 3 dX5_net_50 rfl rfl (by decide) rfl ?_
          refine x_goto (pc := 53) (tgt := 4) C dX5_net_53 (by decide) ?_
          refine x_sub [2, 3, 1, 0] (ls2 := [(0, .ref (ad p)), (1, .int a1), (2, .int v13), (3, .int (a3 + 1))]) rfl ?_
          exact ih B a1 v13 (a3 + 1) R0 hR hok k
set_option maxHeartbeats 4000000 in
set_option maxRecDepth 100000 in
theorem c_X5_net {l : Launch} {A : Nat → Prop} {G : GT} {ad : Nat → Nat} (gl : Gl l A G ad) (p : Nat) (hp : p < 176 ∧ p % 16 = 6) (B : StB) (M : StM) (O : StO) (x0 : Int32) (hok : ok_X5_net p B x0) : Met l yX5_net (wof yX5_net cX5_net 4 (some .int)) (rmd 1 0 0) (va_Pc [.ref (ad p), .int x0] (PW G A ad B M O)) (QI G A ad (f_X5_net p B x0) B M O) 0 0 A := by
  refine x_body (own := RX5) (by decide +kernel) rfl gl (Nat.le_of_ble_eq_true rfl) (ls := [(0, .ref (ad p)), (1, .int x0)]) rfl ?_
  intro p0 e s m args below meth c C
  have hR : (f_X5_net p B x0) = (nm (f_X5_net_L4 fu p B x0 0 0) (fun (z14 : Int32) => z14)) := rfl
  have hok : (ok_X5_net_L4 fu p B x0 0 0) := hok
  refine x_iconst (pc := 0) (v := 0) C dX5_net_0 (by decide) ?_
  refine x_istore_n (pc := 1) (i := 2) (ls2 := [(2, .int 0), (0, .ref (ad p)), (1, .int x0)]) C dX5_net_1 rfl (by decide) rfl ?_
  refine x_iconst (pc := 2) (v := 0) C dX5_net_2 (by decide) ?_
  refine x_istore_n (pc := 3) (i := 3) (ls2 := [(3, .int 0), (2, .int 0), (0, .ref (ad p)), (1, .int x0)]) C dX5_net_3 rfl (by decide) rfl ?_
  refine x_sub [2, 3, 1, 0] (ls2 := [(0, .ref (ad p)), (1, .int x0), (2, .int 0), (3, .int 0)]) rfl ?_
  obtain ⟨z14, ez14⟩ : ∃ z : Int32, z = f_X5_net_L4 fu p B x0 0 0 := ⟨_, rfl⟩
  refine t_X5_net_L4 C hp fu B x0 0 0 M O z14 ez14 hok ?_
  have hR := nmE hR ez14
  refine x_iload_n (pc := 56) (i := 2) C 0 dX5_net_56 rfl rfl ?_
  exact x_iret (pc := 57) C rfl hR dX5_net_57
set_option maxHeartbeats 4000000 in
set_option maxRecDepth 100000 in
theorem t_X5_connect_L15 {p0 : Program} {l : Launch} {e : Env} {s : State} {m : MethodId} {args : Array Value} {below : List Frame} {meth : Method} {c : Code} {A : Nat → Prop} {G : GT} {ad : Nat → Nat} {Q : State → Prop} (C : CX p0 l s m args meth c A G ad cX5_connect RX5 7 (some .boolean)) {p : Nat} (hp : p < 176 ∧ p % 16 = 6)   (n : Nat) (B : StB) (a1 : Int32) (a2 : Int32) (a3 : Int32) (a4 : Int32) (a5 : Int32) (M : StM) (O : StO) : ∀ (R0 : Int32) (hR : R0 = f_X5_connect_L15 n p B a1 a2 a3 a4 a5) (hok : ok_X5_connect_L15 n p B a1 a2 a3 a4 a5) (k : X p0 l e (rmd 1 0 0) s m args below meth c A G ad 7 0 0 Q B M O [(0, .ref (ad p)), (1, .int a1), (2, .int a2), (3, .int R0), (4, .int a4)] 67 []), X p0 l e (rmd 1 0 0) s m args below meth c A G ad 7 0 0 Q B M O [(0, .ref (ad p)), (1, .int a1), (2, .int a2), (3, .int a3), (4, .int a4), (5, .int a5)] 15 [] := by
  induction n generalizing B a1 a2 a3 a4 a5 with
  | zero => intro R0 hR hok k; exact False.elim hok
  | succ n ih =>
    intro R0 hR hok k
    have hR : R0 = (if (bi B p 0) ≤ a5 then a3 else (nm (ba B (p + 2) (ix a5)) (fun (v4 : Int32) => (if v4 = a1 then (nm (a3 ||| (1 <<< ((ba B (p + 3) (ix a5)) &&& 31))) (fun (v7 : Int32) => (f_X5_connect_L15 n p B a1 a2 v7 a4 (a5 + 1)))) else (if ((a3 >>> (v4 &&& 31)) &&& 1) = 1 then (nm (a3 ||| (1 <<< ((ba B (p + 3) (ix a5)) &&& 31))) (fun (v10 : Int32) => (f_X5_connect_L15 n p B a1 a2 v10 a4 (a5 + 1)))) else (f_X5_connect_L15 n p B a1 a2 a3 a4 (a5 + 1))))))) := hR
    have hok : (((bi B p 0) ≤ a5 → True) ∧ (¬ (bi B p 0) ≤ a5 → (vp_in a5 10 ∧ (∀ v4 : Int32, v4 = (ba B (p + 2) (ix a5)) → ((v4 = a1 → (vp_in a5 10 ∧ (∀ v7 : Int32, v7 = (a3 ||| (1 <<< ((ba B (p + 3) (ix a5)) &&& 31))) → (ok_X5_connect_L15 n p B a1 a2 v7 a4 (a5 + 1))))) ∧ (¬ v4 = a1 → ((((a3 >>> (v4 &&& 31)) &&& 1) = 1 → (vp_in a5 10 ∧ (∀ v10 : Int32, v10 = (a3 ||| (1 <<< ((ba B (p + 3) (ix a5)) &&& 31))) → (ok_X5_connect_L15 n p B a1 a2 v10 a4 (a5 + 1))))) ∧ (¬ ((a3 >>> (v4 &&& 31)) &&& 1) = 1 → (ok_X5_connect_L15 n p B a1 a2 a3 a4 (a5 + 1)))))))))) := hok
    refine x_iload (pc := 15) (i := 5) C 5 dX5_connect_15 rfl ?_
    refine x_aload_n (pc := 17) (i := 0) C 0 dX5_connect_17 rfl rfl ?_
    refine x_get (pc := 18) (q := p) (i := 0) C (e_T (by omega)) rfl ttX5 (by decide) wd_1_85 rfl dX5_connect_18 ?_
    refine x_icmp_ge (pc := 21) (tgt := 67) C dX5_connect_21 (by decide) (fun c2 => ?_) (fun c2 => ?_)
    · have hR := hR.trans (if_pos c2)
      refine x_sub [0, 1, 2, 3, 4] (ls2 := [(0, .ref (ad p)), (1, .int a1), (2, .int a2), (3, .int a3), (4, .int a4)]) rfl ?_
      subst hR
      exact k
    · have hR := hR.trans (if_neg c2)
      have hok := hok.2 c2
      refine x_aload_n (pc := 24) (i := 0) C 0 dX5_connect_24 rfl rfl ?_
      refine x_get (pc := 25) (q := p) (i := 3) C (e_T (by omega)) rfl ttX5 (by decide) wd_1_91 rfl dX5_connect_25 ?_
      refine x_iload (pc := 28) (i := 5) C 5 dX5_connect_28 rfl ?_
      have h3 := hok.1
      have hok := hok.2
      refine x_iald (pc := 30) (q := p + 2) C (e_Ts (by omega)) h3 dX5_connect_30 ?_
      refine x_nmI (fun v4 ev4 => ?_)
      have hR := nmE hR ev4
      have hok := hok v4 ev4
      refine x_istore (pc := 31) (i := 6) (ls2 := [(6, .int v4), (0, .ref (ad p)), (1, .int a1), (2, .int a2), (3, .int a3), (4, .int a4), (5, .int a5)]) C dX5_connect_31 (by decide) rfl ?_
      refine x_iload (pc := 33) (i := 6) C 0 dX5_connect_33 rfl ?_
      refine x_iload_n (pc := 35) (i := 1) C 2 dX5_connect_35 rfl rfl ?_
      refine x_icmp_eq (pc := 36) (tgt := 49) C dX5_connect_36 (by decide) (fun c5 => ?_) (fun c5 => ?_)
      · have hR := hR.trans (if_pos c5)
        have hok := hok.1 c5
        refine x_iload_n (pc := 49) (i := 3) C 4 dX5_connect_49 rfl rfl ?_
        refine x_iconst (pc := 50) (v := 1) C dX5_connect_50 (by decide) ?_
        refine x_aload_n (pc := 51) (i := 0) C 1 dX5_connect_51 rfl rfl ?_
        refine x_get (pc := 52) (q := p) (i := 4) C (e_T (by omega)) rfl ttX5 (by decide) wd_1_94 rfl dX5_connect_52 ?_
        refine x_iload (pc := 55) (i := 5) C 6 dX5_connect_55 rfl ?_
        have h6 := hok.1
        have hok := hok.2
        refine x_iald (pc := 57) (q := p + 3) C (e_Tr (by omega)) h6 dX5_connect_57 ?_
        refine x_ishl (pc := 58) C dX5_connect_58 ?_
        refine x_ior (pc := 59) C dX5_connect_59 ?_
        refine x_nmI (fun v7 ev7 => ?_)
        have hR := nmE hR ev7
        have hok := hok v7 ev7
        refine x_istore_n (pc := 60) (i := 3) (ls2 := [(3, .int v7), (6, .int v4), (0, .ref (ad p)), (1, .int a1), (2, .int a2), (4, .int a4), (5, .int a5)]) C dX5_connect_60 rfl (by decide) rfl ?_
        refine x_iinc (pc := 61) (i := 5) (v := (a5 + 1)) (ls2 := [(5, .int (a5 + 1)), (3, .int v7), (6, .int v4), (0, .ref (ad p)), (1, .int a1), (2, .int a2), (4, .int a4)]) C 6 dX5_connect_61 rfl rfl (by decide) rfl ?_
        refine x_goto (pc := 64) (tgt := 15) C dX5_connect_64 (by decide) ?_
        refine x_sub [3, 4, 5, 1, 6, 0] (ls2 := [(0, .ref (ad p)), (1, .int a1), (2, .int a2), (3, .int v7), (4, .int a4), (5, .int (a5 + 1))]) rfl ?_
        exact ih B a1 a2 v7 a4 (a5 + 1) R0 hR hok k
      · have hR := hR.trans (if_neg c5)
        have hok := hok.2 c5
        refine x_iload_n (pc := 39) (i := 3) C 4 dX5_connect_39 rfl rfl ?_
        refine x_iload (pc := 40) (i := 6) C 0 dX5_connect_40 rfl ?_
        refine x_ishr (pc := 42) C dX5_connect_42 ?_
        refine x_iconst (pc := 43) (v := 1) C dX5_connect_43 (by decide) ?_
        refine x_iand (pc := 44) C dX5_connect_44 ?_
        refine x_iconst (pc := 45) (v := 1) C dX5_connect_45 (by decide) ?_
        refine x_icmp_ne (pc := 46) (tgt := 61) C dX5_connect_46 (by decide) (fun c8 => ?_) (fun c8 => ?_)
        · have hR := hR.trans (if_neg c8)
          have hok := hok.2 c8
          refine x_iinc (pc := 61) (i := 5) (v := (a5 + 1)) (ls2 := [(5, .int (a5 + 1)), (6, .int v4), (0, .ref (ad p)), (1, .int a1), (2, .int a2), (3, .int a3), (4, .int a4)]) C 6 dX5_connect_61 rfl rfl (by decide) rfl ?_
          refine x_goto (pc := 64) (tgt := 15) C dX5_connect_64 (by decide) ?_
          refine x_sub [2, 3, 4, 5, 6, 0] (ls2 := [(0, .ref (ad p)), (1, .int a1), (2, .int a2), (3, .int a3), (4, .int a4), (5, .int (a5 + 1))]) rfl ?_
          exact ih B a1 a2 a3 a4 (a5 + 1) R0 hR hok k
        · have hR := hR.trans (if_pos c8)
          have hok := hok.1 c8
          refine x_iload_n (pc := 49) (i := 3) C 4 dX5_connect_49 rfl rfl ?_
          refine x_iconst (pc := 50) (v := 1) C dX5_connect_50 (by decide) ?_
          refine x_aload_n (pc := 51) (i := 0) C 1 dX5_connect_51 rfl rfl ?_
          refine x_get (pc := 52) (q := p) (i := 4) C (e_T (by omega)) rfl ttX5 (by decide) wd_1_94 rfl dX5_connect_52 ?_
          refine x_iload (pc := 55) (i := 5) C 6 dX5_connect_55 rfl ?_
          have h9 := hok.1
          have hok := hok.2
          refine x_iald (pc := 57) (q := p + 3) C (e_Tr (by omega)) h9 dX5_connect_57 ?_
          refine x_ishl (pc := 58) C dX5_connect_58 ?_
          refine x_ior (pc := 59) C dX5_connect_59 ?_
          refine x_nmI (fun v10 ev10 => ?_)
          have hR := nmE hR ev10
          have hok := hok v10 ev10
          refine x_istore_n (pc := 60) (i := 3) (ls2 := [(3, .int v10), (6, .int v4), (0, .ref (ad p)), (1, .int a1), (2, .int a2), (4, .int a4), (5, .int a5)]) C dX5_connect_60 rfl (by decide) rfl ?_
          refine x_iinc (pc := 61) (i := 5) (v := (a5 + 1)) (ls2 := [(5, .int (a5 + 1)), (3, .int v10), (6, .int v4), (0, .ref (ad p)), (1, .int a1), (2, .int a2), (4, .int a4)]) C 6 dX5_connect_61 rfl rfl (by decide) rfl ?_
          refine x_goto (pc := 64) (tgt := 15) C dX5_connect_64 (by decide) ?_
          refine x_sub [3, 4, 5, 1, 6, 0] (ls2 := [(0, .ref (ad p)), (1, .int a1), (2, .int a2), (3, .int v10), (4, .int a4), (5, .int (a5 + 1))]) rfl ?_
          exact ih B a1 a2 v10 a4 (a5 + 1) R0 hR hok k
set_option maxHeartbeats 4000000 in
set_option maxRecDepth 100000 in
theorem t_X5_connect_L5 {p0 : Program} {l : Launch} {e : Env} {s : State} {m : MethodId} {args : Array Value} {below : List Frame} {meth : Method} {c : Code} {A : Nat → Prop} {G : GT} {ad : Nat → Nat} {Q : State → Prop} (C : CX p0 l s m args meth c A G ad cX5_connect RX5 7 (some .boolean)) {p : Nat} (hp : p < 176 ∧ p % 16 = 6)   (n : Nat) (B : StB) (a1 : Int32) (a2 : Int32) (a3 : Int32) (a4 : Int32) (M : StM) (O : StO) : ∀ (R0 : Int32) (hR : R0 = f_X5_connect_L5 n p B a1 a2 a3 a4) (hok : ok_X5_connect_L5 n p B a1 a2 a3 a4) (k : X p0 l e (rmd 1 0 0) s m args below meth c A G ad 7 0 0 Q B M O [(2, .int a2), (3, .int R0)] 73 []), X p0 l e (rmd 1 0 0) s m args below meth c A G ad 7 0 0 Q B M O [(0, .ref (ad p)), (1, .int a1), (2, .int a2), (3, .int a3), (4, .int a4)] 5 [] := by
  induction n generalizing B a1 a2 a3 a4 with
  | zero => intro R0 hR hok k; exact False.elim hok
  | succ n ih =>
    intro R0 hR hok k
    have hR : R0 = (if 8 ≤ a4 then a3 else (nm (f_X5_connect_L15 fu p B a1 a2 a3 a4 0) (fun (z11 : Int32) => (f_X5_connect_L5 n p B a1 a2 z11 (a4 + 1))))) := hR
    have hok : ((8 ≤ a4 → True) ∧ (¬ 8 ≤ a4 → ((ok_X5_connect_L15 fu p B a1 a2 a3 a4 0) ∧ ∀ z11 : Int32, z11 = f_X5_connect_L15 fu p B a1 a2 a3 a4 0 → (ok_X5_connect_L5 n p B a1 a2 z11 (a4 + 1))))) := hok
    refine x_iload (pc := 5) (i := 4) C 4 dX5_connect_5 rfl ?_
    refine x_bipush (pc := 7) (v := 8) C dX5_connect_7 (by decide) ?_
    refine x_icmp_ge (pc := 9) (tgt := 73) C dX5_connect_9 (by decide) (fun c1 => ?_) (fun c1 => ?_)
    · have hR := hR.trans (if_pos c1)
      refine x_sub [2, 3] (ls2 := [(2, .int a2), (3, .int a3)]) rfl ?_
      subst hR
      exact k
    · have hR := hR.trans (if_neg c1)
      have hok := hok.2 c1
      refine x_iconst (pc := 12) (v := 0) C dX5_connect_12 (by decide) ?_
      refine x_istore (pc := 13) (i := 5) (ls2 := [(5, .int 0), (0, .ref (ad p)), (1, .int a1), (2, .int a2), (3, .int a3), (4, .int a4)]) C dX5_connect_13 (by decide) rfl ?_
      refine x_sub [1, 2, 3, 4, 5, 0] (ls2 := [(0, .ref (ad p)), (1, .int a1), (2, .int a2), (3, .int a3), (4, .int a4), (5, .int 0)]) rfl ?_
      obtain ⟨z11, ez11⟩ : ∃ z : Int32, z = f_X5_connect_L15 fu p B a1 a2 a3 a4 0 := ⟨_, rfl⟩
      refine t_X5_connect_L15 C hp fu B a1 a2 a3 a4 0 M O z11 ez11 hok.1 ?_
      have hR := nmE hR ez11
      have hok := hok.2 z11 ez11
      refine x_iinc (pc := 67) (i := 4) (v := (a4 + 1)) (ls2 := [(4, .int (a4 + 1)), (0, .ref (ad p)), (1, .int a1), (2, .int a2), (3, .int z11)]) C 4 dX5_connect_67 rfl rfl (by decide) rfl ?_
      refine x_goto (pc := 70) (tgt := 5) C dX5_connect_70 (by decide) ?_
      refine x_sub [1, 2, 3, 4, 0] (ls2 := [(0, .ref (ad p)), (1, .int a1), (2, .int a2), (3, .int z11), (4, .int (a4 + 1))]) rfl ?_
      exact ih B a1 a2 z11 (a4 + 1) R0 hR hok k
set_option maxHeartbeats 4000000 in
set_option maxRecDepth 100000 in
theorem c_X5_connect {l : Launch} {A : Nat → Prop} {G : GT} {ad : Nat → Nat} (gl : Gl l A G ad) (p : Nat) (hp : p < 176 ∧ p % 16 = 6) (B : StB) (M : StM) (O : StO) (x0 : Int32) (x1 : Int32) (hok : ok_X5_connect p B x0 x1) : Met l yX5_connect (wof yX5_connect cX5_connect 7 (some .boolean)) (rmd 1 0 0) (va_Pc [.ref (ad p), .int x0, .int x1] (PW G A ad B M O)) (QI G A ad (f_X5_connect p B x0 x1) B M O) 0 0 A := by
  refine x_body (own := RX5) (by decide +kernel) rfl gl (Nat.le_of_ble_eq_true rfl) (ls := [(0, .ref (ad p)), (1, .int x0), (2, .int x1)]) rfl ?_
  intro p0 e s m args below meth c C
  have hR : (f_X5_connect p B x0 x1) = (nm (f_X5_connect_L5 fu p B x0 x1 0 0) (fun (z12 : Int32) => (if ((z12 >>> (x1 &&& 31)) &&& 1) = 1 then 1 else 0))) := rfl
  have hok : (ok_X5_connect_L5 fu p B x0 x1 0 0) := hok
  refine x_iconst (pc := 0) (v := 0) C dX5_connect_0 (by decide) ?_
  refine x_istore_n (pc := 1) (i := 3) (ls2 := [(3, .int 0), (0, .ref (ad p)), (1, .int x0), (2, .int x1)]) C dX5_connect_1 rfl (by decide) rfl ?_
  refine x_iconst (pc := 2) (v := 0) C dX5_connect_2 (by decide) ?_
  refine x_istore (pc := 3) (i := 4) (ls2 := [(4, .int 0), (3, .int 0), (0, .ref (ad p)), (1, .int x0), (2, .int x1)]) C dX5_connect_3 (by decide) rfl ?_
  refine x_sub [2, 3, 4, 1, 0] (ls2 := [(0, .ref (ad p)), (1, .int x0), (2, .int x1), (3, .int 0), (4, .int 0)]) rfl ?_
  obtain ⟨z12, ez12⟩ : ∃ z : Int32, z = f_X5_connect_L5 fu p B x0 x1 0 0 := ⟨_, rfl⟩
  refine t_X5_connect_L5 C hp fu B x0 x1 0 0 M O z12 ez12 hok ?_
  have hR := nmE hR ez12
  refine x_iload_n (pc := 73) (i := 3) C 1 dX5_connect_73 rfl rfl ?_
  refine x_iload_n (pc := 74) (i := 2) C 0 dX5_connect_74 rfl rfl ?_
  refine x_ishr (pc := 75) C dX5_connect_75 ?_
  refine x_iconst (pc := 76) (v := 1) C dX5_connect_76 (by decide) ?_
  refine x_iand (pc := 77) C dX5_connect_77 ?_
  refine x_iconst (pc := 78) (v := 1) C dX5_connect_78 (by decide) ?_
  refine x_icmp_ne (pc := 79) (tgt := 86) C dX5_connect_79 (by decide) (fun c13 => ?_) (fun c13 => ?_)
  · have hR := hR.trans (if_neg c13)
    refine x_iconst (pc := 86) (v := 0) C dX5_connect_86 (by decide) ?_
    exact x_zret (pc := 87) C rfl (by decide) hR dX5_connect_87
  · have hR := hR.trans (if_pos c13)
    refine x_iconst (pc := 82) (v := 1) C dX5_connect_82 (by decide) ?_
    refine x_goto (pc := 83) (tgt := 87) C dX5_connect_83 (by decide) ?_
    exact x_zret (pc := 87) C rfl (by decide) hR dX5_connect_87
set_option maxHeartbeats 4000000 in
set_option maxRecDepth 100000 in
theorem t_X5_copyFrom_L18 {p0 : Program} {l : Launch} {e : Env} {s : State} {m : MethodId} {args : Array Value} {below : List Frame} {meth : Method} {c : Code} {A : Nat → Prop} {G : GT} {ad : Nat → Nat} {Q : State → Prop} (C : CX p0 l s m args meth c A G ad cX5_copyFrom RX5 3 none) {p : Nat} (hp : p < 176 ∧ p % 16 = 6) {q0 : Nat} (hq0 : q0 < 176 ∧ q0 % 16 = 6)   (n : Nat) (B : StB) (a2 : Int32) (M : StM) (O : StO) : ∀ (R0 : StB) (hR : R0 = f_X5_copyFrom_L18 n p q0 B a2) (hok : ok_X5_copyFrom_L18 n p q0 B a2) (k : X p0 l e (rmd 2 0 0) s m args below meth c A G ad 3 0 0 Q R0 M O [] 39 []), X p0 l e (rmd 2 0 0) s m args below meth c A G ad 3 0 0 Q B M O [(0, .ref (ad p)), (1, .ref (ad q0)), (2, .int a2)] 18 [] := by
  induction n generalizing B a2 with
  | zero => intro R0 hR hok k; exact False.elim hok
  | succ n ih =>
    intro R0 hR hok k
    have hR : R0 = (if (bi B p 0) ≤ a2 then B else (nm (f_X5_copySlot p q0 B a2 a2) (fun (B5 : StB) => (f_X5_copyFrom_L18 n p q0 B5 (a2 + 1))))) := hR
    have hok : (((bi B p 0) ≤ a2 → True) ∧ (¬ (bi B p 0) ≤ a2 → ((ok_X5_copySlot p q0 B a2 a2) ∧ (∀ B5 : StB, B5 = (f_X5_copySlot p q0 B a2 a2) → (ok_X5_copyFrom_L18 n p q0 B5 (a2 + 1)))))) := hok
    refine x_iload_n (pc := 18) (i := 2) C 2 dX5_copyFrom_18 rfl rfl ?_
    refine x_aload_n (pc := 19) (i := 0) C 0 dX5_copyFrom_19 rfl rfl ?_
    refine x_get (pc := 20) (q := p) (i := 0) C (e_T (by omega)) rfl ttX5 (by decide) wd_1_85 rfl dX5_copyFrom_20 ?_
    refine x_icmp_ge (pc := 23) (tgt := 39) C dX5_copyFrom_23 (by decide) (fun c3 => ?_) (fun c3 => ?_)
    · have hR := hR.trans (if_pos c3)
      refine x_sub [] (ls2 := []) rfl ?_
      subst hR
      exact k
    · have hR := hR.trans (if_neg c3)
      have hok := hok.2 c3
      refine x_aload_n (pc := 26) (i := 0) C 0 dX5_copyFrom_26 rfl rfl ?_
      refine x_aload_n (pc := 27) (i := 1) C 1 dX5_copyFrom_27 rfl rfl ?_
      refine x_iload_n (pc := 28) (i := 2) C 2 dX5_copyFrom_28 rfl rfl ?_
      refine x_iload_n (pc := 29) (i := 2) C 2 dX5_copyFrom_29 rfl rfl ?_
      have h4 := hok.1
      have hok := hok.2
      refine x_cVV (pc := 30) (as := [.ref (ad q0), .int a2, .int a2]) (q := p) C (c_X5_copySlot C.2.2.2.2.2.2.2.1 p (by omega) q0 (by omega) B M O a2 a2 h4) (fs := _) (e_T (by omega)) rfl cv_X5_copySlot cd_X5_copySlot wd_3_40 ⟨Nat.le_of_ble_eq_true rfl, Nat.le_of_ble_eq_true rfl⟩ ⟨Nat.le_of_ble_eq_true rfl, Nat.le_of_ble_eq_true rfl⟩ rfl rfl (Nat.le_of_ble_eq_true rfl) dX5_copyFrom_30 ?_
      refine x_nmB (fun B5 eB5 => ?_)
      have hR := nmE hR eB5
      have hok := hok B5 eB5
      refine x_iinc (pc := 33) (i := 2) (v := (a2 + 1)) (ls2 := [(2, .int (a2 + 1)), (0, .ref (ad p)), (1, .ref (ad q0))]) C 2 dX5_copyFrom_33 rfl rfl (by decide) rfl ?_
      refine x_goto (pc := 36) (tgt := 18) C dX5_copyFrom_36 (by decide) ?_
      refine x_sub [1, 2, 0] (ls2 := [(0, .ref (ad p)), (1, .ref (ad q0)), (2, .int (a2 + 1))]) rfl ?_
      exact ih B5 (a2 + 1) R0 hR hok k
set_option maxHeartbeats 4000000 in
set_option maxRecDepth 100000 in
theorem c_X5_copyFrom {l : Launch} {A : Nat → Prop} {G : GT} {ad : Nat → Nat} (gl : Gl l A G ad) (p : Nat) (hp : p < 176 ∧ p % 16 = 6) (q0 : Nat) (hq0 : q0 < 176 ∧ q0 % 16 = 6) (B : StB) (M : StM) (O : StO)  (hok : ok_X5_copyFrom p q0 B) : Met l yX5_copyFrom (wof yX5_copyFrom cX5_copyFrom 3 none) (rmd 2 0 0) (va_Pc [.ref (ad p), .ref (ad q0)] (PW G A ad B M O)) (QV G A ad (f_X5_copyFrom p q0 B) M O) 0 0 A := by
  refine x_body (own := RX5) (by decide +kernel) rfl gl (Nat.le_of_ble_eq_true rfl) (ls := [(0, .ref (ad p)), (1, .ref (ad q0))]) rfl ?_
  intro p0 e s m args below meth c C
  have hR : (f_X5_copyFrom p q0 B) = (nm (sbi B p 0 (bi B q0 0)) (fun (B1 : StB) => (nm (sbi B1 p 1 (bi B1 q0 1)) (fun (B2 : StB) => (nm (f_X5_copyFrom_L18 fu p q0 B2 0) (fun (z6 : StB) => z6)))))) := rfl
  have hok : (∀ B1 : StB, B1 = (sbi B p 0 (bi B q0 0)) → (∀ B2 : StB, B2 = (sbi B1 p 1 (bi B1 q0 1)) → (ok_X5_copyFrom_L18 fu p q0 B2 0))) := hok
  refine x_aload_n (pc := 0) (i := 0) C 0 dX5_copyFrom_0 rfl rfl ?_
  refine x_aload_n (pc := 1) (i := 1) C 1 dX5_copyFrom_1 rfl rfl ?_
  refine x_get (pc := 2) (q := q0) (i := 0) C (e_T (by omega)) rfl ttX5 (by decide) wd_1_85 rfl dX5_copyFrom_2 ?_
  refine x_put (pc := 5) (B2 := (sbi B p 0 (bi B q0 0))) (M2 := M) (O2 := O) (q := p) (i := 0) C tyX5 tyX5_ok nmX5 (e_T (by omega)) rfl ttX5 (by decide) wd_1_85 rfl rfl rfl (Nat.le_of_ble_eq_true rfl) dX5_copyFrom_5 (put_T_0 (by omega)) (o_sbi p 0 (bi B q0 0)) ?_
  refine x_nmB (fun B1 eB1 => ?_)
  have hR := nmE hR eB1
  have hok := hok B1 eB1
  refine x_aload_n (pc := 8) (i := 0) C 0 dX5_copyFrom_8 rfl rfl ?_
  refine x_aload_n (pc := 9) (i := 1) C 1 dX5_copyFrom_9 rfl rfl ?_
  refine x_get (pc := 10) (q := q0) (i := 1) C (e_T (by omega)) rfl ttX5 (by decide) wd_1_88 rfl dX5_copyFrom_10 ?_
  refine x_put (pc := 13) (B2 := (sbi B1 p 1 (bi B1 q0 1))) (M2 := M) (O2 := O) (q := p) (i := 1) C tyX5 tyX5_ok nmX5 (e_T (by omega)) rfl ttX5 (by decide) wd_1_88 rfl rfl rfl (Nat.le_of_ble_eq_true rfl) dX5_copyFrom_13 (put_T_1 (by omega)) (o_sbi p 1 (bi B1 q0 1)) ?_
  refine x_nmB (fun B2 eB2 => ?_)
  have hR := nmE hR eB2
  have hok := hok B2 eB2
  refine x_iconst (pc := 16) (v := 0) C dX5_copyFrom_16 (by decide) ?_
  refine x_istore_n (pc := 17) (i := 2) (ls2 := [(2, .int 0), (0, .ref (ad p)), (1, .ref (ad q0))]) C dX5_copyFrom_17 rfl (by decide) rfl ?_
  refine x_sub [1, 2, 0] (ls2 := [(0, .ref (ad p)), (1, .ref (ad q0)), (2, .int 0)]) rfl ?_
  obtain ⟨z6, ez6⟩ : ∃ z : StB, z = f_X5_copyFrom_L18 fu p q0 B2 0 := ⟨_, rfl⟩
  refine t_X5_copyFrom_L18 C hp hq0 fu B2 0 M O z6 ez6 hok ?_
  have hR := nmE hR ez6
  exact x_vretB (pc := 39) C rfl hR dX5_copyFrom_39
set_option maxHeartbeats 4000000 in
set_option maxRecDepth 100000 in
theorem t_X5_remove_L7 {p0 : Program} {l : Launch} {e : Env} {s : State} {m : MethodId} {args : Array Value} {below : List Frame} {meth : Method} {c : Code} {A : Nat → Prop} {G : GT} {ad : Nat → Nat} {Q : State → Prop} (C : CX p0 l s m args meth c A G ad cX5_remove RX5 5 (some .int)) {p : Nat} (hp : p < 176 ∧ p % 16 = 6)   (n : Nat) (B : StB) (a1 : Int32) (a2 : Int32) (a3 : Int32) (a4 : Int32) (M : StM) (O : StO) : ∀ (R0 : Int32 × Int32 × StB) (hR : R0 = f_X5_remove_L7 n p B a1 a2 a3 a4) (hok : ok_X5_remove_L7 n p B a1 a2 a3 a4) (k : X p0 l e (rmd 2 0 0) s m args below meth c A G ad 5 0 0 Q R0.2.2 M O [(0, .ref (ad p)), (2, .int R0.1), (3, .int R0.2.1)] 55 []), X p0 l e (rmd 2 0 0) s m args below meth c A G ad 5 0 0 Q B M O [(0, .ref (ad p)), (1, .int a1), (2, .int a2), (3, .int a3), (4, .int a4)] 7 [] := by
  induction n generalizing B a1 a2 a3 a4 with
  | zero => intro R0 hR hok k; exact False.elim hok
  | succ n ih =>
    intro R0 hR hok k
    have hR : R0 = (if (bi B p 0) ≤ a4 then (a2, a3, B) else (if (ba B (p + 1) (ix a4)) = a1 then (nm (ba B (p + 4) (ix a4)) (fun (v7 : Int32) => (f_X5_remove_L7 n p B a1 v7 a3 (a4 + 1)))) else (nm (f_X5_copySlot p p B a4 a3) (fun (B5 : StB) => (f_X5_remove_L7 n p B5 a1 a2 (a3 + 1) (a4 + 1)))))) := hR
    have hok : (((bi B p 0) ≤ a4 → True) ∧ (¬ (bi B p 0) ≤ a4 → (vp_in a4 10 ∧ (((ba B (p + 1) (ix a4)) = a1 → (vp_in a4 10 ∧ (∀ v7 : Int32, v7 = (ba B (p + 4) (ix a4)) → (ok_X5_remove_L7 n p B a1 v7 a3 (a4 + 1))))) ∧ (¬ (ba B (p + 1) (ix a4)) = a1 → ((ok_X5_copySlot p p B a4 a3) ∧ (∀ B5 : StB, B5 = (f_X5_copySlot p p B a4 a3) → (ok_X5_remove_L7 n p B5 a1 a2 (a3 + 1) (a4 + 1))))))))) := hok
    refine x_iload (pc := 7) (i := 4) C 4 dX5_remove_7 rfl ?_
    refine x_aload_n (pc := 9) (i := 0) C 0 dX5_remove_9 rfl rfl ?_
    refine x_get (pc := 10) (q := p) (i := 0) C (e_T (by omega)) rfl ttX5 (by decide) wd_1_85 rfl dX5_remove_10 ?_
    refine x_icmp_ge (pc := 13) (tgt := 55) C dX5_remove_13 (by decide) (fun c1 => ?_) (fun c1 => ?_)
    · have hR := hR.trans (if_pos c1)
      refine x_sub [0, 2, 3] (ls2 := [(0, .ref (ad p)), (2, .int a2), (3, .int a3)]) rfl ?_
      subst hR
      exact k
    · have hR := hR.trans (if_neg c1)
      have hok := hok.2 c1
      refine x_aload_n (pc := 16) (i := 0) C 0 dX5_remove_16 rfl rfl ?_
      refine x_get (pc := 17) (q := p) (i := 2) C (e_T (by omega)) rfl ttX5 (by decide) wd_1_89 rfl dX5_remove_17 ?_
      refine x_iload (pc := 20) (i := 4) C 4 dX5_remove_20 rfl ?_
      have h2 := hok.1
      have hok := hok.2
      refine x_iald (pc := 22) (q := p + 1) C (e_Ti (by omega)) h2 dX5_remove_22 ?_
      refine x_iload_n (pc := 23) (i := 1) C 1 dX5_remove_23 rfl rfl ?_
      refine x_icmp_ne (pc := 24) (tgt := 38) C dX5_remove_24 (by decide) (fun c3 => ?_) (fun c3 => ?_)
      · have hR := hR.trans (if_neg c3)
        have hok := hok.2 c3
        refine x_aload_n (pc := 38) (i := 0) C 0 dX5_remove_38 rfl rfl ?_
        refine x_aload_n (pc := 39) (i := 0) C 0 dX5_remove_39 rfl rfl ?_
        refine x_iload (pc := 40) (i := 4) C 4 dX5_remove_40 rfl ?_
        refine x_iload_n (pc := 42) (i := 3) C 3 dX5_remove_42 rfl rfl ?_
        have h4 := hok.1
        have hok := hok.2
        refine x_cVV (pc := 43) (as := [.ref (ad p), .int a4, .int a3]) (q := p) C (c_X5_copySlot C.2.2.2.2.2.2.2.1 p (by omega) p (by omega) B M O a4 a3 h4) (fs := _) (e_T (by omega)) rfl cv_X5_copySlot cd_X5_copySlot wd_3_40 ⟨Nat.le_of_ble_eq_true rfl, Nat.le_of_ble_eq_true rfl⟩ ⟨Nat.le_of_ble_eq_true rfl, Nat.le_of_ble_eq_true rfl⟩ rfl rfl (Nat.le_of_ble_eq_true rfl) dX5_remove_43 ?_
        refine x_nmB (fun B5 eB5 => ?_)
        have hR := nmE hR eB5
        have hok := hok B5 eB5
        refine x_iinc (pc := 46) (i := 3) (v := (a3 + 1)) (ls2 := [(3, .int (a3 + 1)), (0, .ref (ad p)), (1, .int a1), (2, .int a2), (4, .int a4)]) C 3 dX5_remove_46 rfl rfl (by decide) rfl ?_
        refine x_iinc (pc := 49) (i := 4) (v := (a4 + 1)) (ls2 := [(4, .int (a4 + 1)), (3, .int (a3 + 1)), (0, .ref (ad p)), (1, .int a1), (2, .int a2)]) C 4 dX5_remove_49 rfl rfl (by decide) rfl ?_
        refine x_goto (pc := 52) (tgt := 7) C dX5_remove_52 (by decide) ?_
        refine x_sub [2, 3, 4, 1, 0] (ls2 := [(0, .ref (ad p)), (1, .int a1), (2, .int a2), (3, .int (a3 + 1)), (4, .int (a4 + 1))]) rfl ?_
        exact ih B5 a1 a2 (a3 + 1) (a4 + 1) R0 hR hok k
      · have hR := hR.trans (if_pos c3)
        have hok := hok.1 c3
        refine x_aload_n (pc := 27) (i := 0) C 0 dX5_remove_27 rfl rfl ?_
        refine x_get (pc := 28) (q := p) (i := 5) C (e_T (by omega)) rfl ttX5 (by decide) wd_1_97 rfl dX5_remove_28 ?_
        refine x_iload (pc := 31) (i := 4) C 4 dX5_remove_31 rfl ?_
        have h6 := hok.1
        have hok := hok.2
        refine x_iald (pc := 33) (q := p + 4) C (e_Ta (by omega)) h6 dX5_remove_33 ?_
        refine x_nmI (fun v7 ev7 => ?_)
        have hR := nmE hR ev7
        have hok := hok v7 ev7
        refine x_istore_n (pc := 34) (i := 2) (ls2 := [(2, .int v7), (0, .ref (ad p)), (1, .int a1), (3, .int a3), (4, .int a4)]) C dX5_remove_34 rfl (by decide) rfl ?_
        refine x_goto (pc := 35) (tgt := 49) C dX5_remove_35 (by decide) ?_
        refine x_iinc (pc := 49) (i := 4) (v := (a4 + 1)) (ls2 := [(4, .int (a4 + 1)), (2, .int v7), (0, .ref (ad p)), (1, .int a1), (3, .int a3)]) C 4 dX5_remove_49 rfl rfl (by decide) rfl ?_
        refine x_goto (pc := 52) (tgt := 7) C dX5_remove_52 (by decide) ?_
        refine x_sub [2, 3, 1, 4, 0] (ls2 := [(0, .ref (ad p)), (1, .int a1), (2, .int v7), (3, .int a3), (4, .int (a4 + 1))]) rfl ?_
        exact ih B a1 v7 a3 (a4 + 1) R0 hR hok k
set_option maxHeartbeats 4000000 in
set_option maxRecDepth 100000 in
theorem c_X5_remove {l : Launch} {A : Nat → Prop} {G : GT} {ad : Nat → Nat} (gl : Gl l A G ad) (p : Nat) (hp : p < 176 ∧ p % 16 = 6) (B : StB) (M : StM) (O : StO) (x0 : Int32) (hok : ok_X5_remove p B x0) : Met l yX5_remove (wof yX5_remove cX5_remove 5 (some .int)) (rmd 2 0 0) (va_Pc [.ref (ad p), .int x0] (PW G A ad B M O)) (QI G A ad (f_X5_remove p B x0).1 (f_X5_remove p B x0).2 M O) 0 0 A := by
  refine x_body (own := RX5) (by decide +kernel) rfl gl (Nat.le_of_ble_eq_true rfl) (ls := [(0, .ref (ad p)), (1, .int x0)]) rfl ?_
  intro p0 e s m args below meth c C
  have hR : (f_X5_remove p B x0) = (nm (f_X5_remove_L7 fu p B x0 0 0 0) (fun (z8 : Int32 × Int32 × StB) => (nm (sbi z8.2.2 p 0 z8.2.1) (fun (B9 : StB) => (z8.1, B9))))) := rfl
  have hok : (ok_X5_remove_L7 fu p B x0 0 0 0) := hok
  refine x_iconst (pc := 0) (v := 0) C dX5_remove_0 (by decide) ?_
  refine x_istore_n (pc := 1) (i := 2) (ls2 := [(2, .int 0), (0, .ref (ad p)), (1, .int x0)]) C dX5_remove_1 rfl (by decide) rfl ?_
  refine x_iconst (pc := 2) (v := 0) C dX5_remove_2 (by decide) ?_
  refine x_istore_n (pc := 3) (i := 3) (ls2 := [(3, .int 0), (2, .int 0), (0, .ref (ad p)), (1, .int x0)]) C dX5_remove_3 rfl (by decide) rfl ?_
  refine x_iconst (pc := 4) (v := 0) C dX5_remove_4 (by decide) ?_
  refine x_istore (pc := 5) (i := 4) (ls2 := [(4, .int 0), (3, .int 0), (2, .int 0), (0, .ref (ad p)), (1, .int x0)]) C dX5_remove_5 (by decide) rfl ?_
  refine x_sub [3, 4, 2, 1, 0] (ls2 := [(0, .ref (ad p)), (1, .int x0), (2, .int 0), (3, .int 0), (4, .int 0)]) rfl ?_
  obtain ⟨z8, ez8⟩ : ∃ z : Int32 × Int32 × StB, z = f_X5_remove_L7 fu p B x0 0 0 0 := ⟨_, rfl⟩
  refine t_X5_remove_L7 C hp fu B x0 0 0 0 M O z8 ez8 hok ?_
  have hR := nmE hR ez8
  refine x_aload_n (pc := 55) (i := 0) C 0 dX5_remove_55 rfl rfl ?_
  refine x_iload_n (pc := 56) (i := 3) C 2 dX5_remove_56 rfl rfl ?_
  refine x_put (pc := 57) (B2 := (sbi z8.2.2 p 0 z8.2.1)) (M2 := M) (O2 := O) (q := p) (i := 0) C tyX5 tyX5_ok nmX5 (e_T (by omega)) rfl ttX5 (by decide) wd_1_85 rfl rfl rfl (Nat.le_of_ble_eq_true rfl) dX5_remove_57 (put_T_0 (by omega)) (o_sbi p 0 z8.2.1) ?_
  refine x_nmB (fun B9 eB9 => ?_)
  have hR := nmE hR eB9
  refine x_iload_n (pc := 60) (i := 2) C 1 dX5_remove_60 rfl rfl ?_
  exact x_iretB (pc := 61) C rfl hR dX5_remove_61
set_option maxHeartbeats 4000000 in
set_option maxRecDepth 100000 in
theorem t_X5_idAt_L4 {p0 : Program} {l : Launch} {e : Env} {s : State} {m : MethodId} {args : Array Value} {below : List Frame} {meth : Method} {c : Code} {A : Nat → Prop} {G : GT} {ad : Nat → Nat} {Q : State → Prop} (C : CX p0 l s m args meth c A G ad cX5_idAt RX5 4 (some .int)) {p : Nat} (hp : p < 176 ∧ p % 16 = 6)   (n : Nat) (B : StB) (a1 : Int32) (a2 : Int32) (a3 : Int32) (M : StM) (O : StO) : ∀ (R0 : Int32) (hR : R0 = f_X5_idAt_L4 n p B a1 a2 a3) (hok : ok_X5_idAt_L4 n p B a1 a2 a3) (k : X p0 l e (rmd 2 0 0) s m args below meth c A G ad 4 0 0 Q B M O [(2, .int R0)] 34 []), X p0 l e (rmd 2 0 0) s m args below meth c A G ad 4 0 0 Q B M O [(0, .ref (ad p)), (1, .int a1), (2, .int a2), (3, .int a3)] 4 [] := by
  induction n generalizing B a1 a2 a3 with
  | zero => intro R0 hR hok k; exact False.elim hok
  | succ n ih =>
    intro R0 hR hok k
    have hR : R0 = (if (bi B p 0) ≤ a3 then a2 else (nm (f_X5_positionOf p B a3) (fun (r3 : Int32) => (if r3 = a1 then (nm (ba B (p + 1) (ix a3)) (fun (v6 : Int32) => (f_X5_idAt_L4 n p B a1 v6 (a3 + 1)))) else (f_X5_idAt_L4 n p B a1 a2 (a3 + 1)))))) := hR
    have hok : (((bi B p 0) ≤ a3 → True) ∧ (¬ (bi B p 0) ≤ a3 → ((ok_X5_positionOf p B a3) ∧ (∀ r3 : Int32, r3 = (f_X5_positionOf p B a3) → ((r3 = a1 → (vp_in a3 10 ∧ (∀ v6 : Int32, v6 = (ba B (p + 1) (ix a3)) → (ok_X5_idAt_L4 n p B a1 v6 (a3 + 1))))) ∧ (¬ r3 = a1 → (ok_X5_idAt_L4 n p B a1 a2 (a3 + 1)))))))) := hok
    refine x_iload_n (pc := 4) (i := 3) C 3 dX5_idAt_4 rfl rfl ?_
    refine x_aload_n (pc := 5) (i := 0) C 0 dX5_idAt_5 rfl rfl ?_
    refine x_get (pc := 6) (q := p) (i := 0) C (e_T (by omega)) rfl ttX5 (by decide) wd_1_85 rfl dX5_idAt_6 ?_
    refine x_icmp_ge (pc := 9) (tgt := 34) C dX5_idAt_9 (by decide) (fun c1 => ?_) (fun c1 => ?_)
    · have hR := hR.trans (if_pos c1)
      refine x_sub [2] (ls2 := [(2, .int a2)]) rfl ?_
      subst hR
      exact k
    · have hR := hR.trans (if_neg c1)
      have hok := hok.2 c1
      refine x_aload_n (pc := 12) (i := 0) C 0 dX5_idAt_12 rfl rfl ?_
      refine x_iload_n (pc := 13) (i := 3) C 3 dX5_idAt_13 rfl rfl ?_
      have h2 := hok.1
      have hok := hok.2
      refine x_cIV (pc := 14) (as := [.int a3]) (q := p) C (c_X5_positionOf C.2.2.2.2.2.2.2.1 p (by omega) B M O a3 h2) (fs := _) (e_T (by omega)) rfl cv_X5_positionOf cd_X5_positionOf wd_4_131 ⟨Nat.le_of_ble_eq_true rfl, Nat.le_of_ble_eq_true rfl⟩ ⟨Nat.le_of_ble_eq_true rfl, Nat.le_of_ble_eq_true rfl⟩ rfl rfl (Nat.le_of_ble_eq_true rfl) dX5_idAt_14 ?_
      refine x_nmI (fun r3 er3 => ?_)
      have hR := nmE hR er3
      have hok := hok r3 er3
      refine x_iload_n (pc := 17) (i := 1) C 1 dX5_idAt_17 rfl rfl ?_
      refine x_icmp_ne (pc := 18) (tgt := 28) C dX5_idAt_18 (by decide) (fun c4 => ?_) (fun c4 => ?_)
      · have hR := hR.trans (if_neg c4)
        have hok := hok.2 c4
        refine x_iinc (pc := 28) (i := 3) (v := (a3 + 1)) (ls2 := [(3, .int (a3 + 1)), (0, .ref (ad p)), (1, .int a1), (2, .int a2)]) C 3 dX5_idAt_28 rfl rfl (by decide) rfl ?_
        refine x_goto (pc := 31) (tgt := 4) C dX5_idAt_31 (by decide) ?_
        refine x_sub [1, 2, 3, 0] (ls2 := [(0, .ref (ad p)), (1, .int a1), (2, .int a2), (3, .int (a3 + 1))]) rfl ?_
        exact ih B a1 a2 (a3 + 1) R0 hR hok k
      · have hR := hR.trans (if_pos c4)
        have hok := hok.1 c4
        refine x_aload_n (pc := 21) (i := 0) C 0 dX5_idAt_21 rfl rfl ?_
        refine x_get (pc := 22) (q := p) (i := 2) C (e_T (by omega)) rfl ttX5 (by decide) wd_1_89 rfl dX5_idAt_22 ?_
        refine x_iload_n (pc := 25) (i := 3) C 3 dX5_idAt_25 rfl rfl ?_
        have h5 := hok.1
        have hok := hok.2
        refine x_iald (pc := 26) (q := p + 1) C (e_Ti (by omega)) h5 dX5_idAt_26 ?_
        refine x_nmI (fun v6 ev6 => ?_)
        have hR := nmE hR ev6
        have hok := hok v6 ev6
        refine x_istore_n (pc := 27) (i := 2) (ls2 := [(2, .int v6), (0, .ref (ad p)), (1, .int a1), (3, .int a3)]) C dX5_idAt_27 rfl (by decide) rfl ?_
        refine x_iinc (pc := 28) (i := 3) (v := (a3 + 1)) (ls2 := [(3, .int (a3 + 1)), (2, .int v6), (0, .ref (ad p)), (1, .int a1)]) C 3 dX5_idAt_28 rfl rfl (by decide) rfl ?_
        refine x_goto (pc := 31) (tgt := 4) C dX5_idAt_31 (by decide) ?_
        refine x_sub [2, 3, 1, 0] (ls2 := [(0, .ref (ad p)), (1, .int a1), (2, .int v6), (3, .int (a3 + 1))]) rfl ?_
        exact ih B a1 v6 (a3 + 1) R0 hR hok k
set_option maxHeartbeats 4000000 in
set_option maxRecDepth 100000 in
theorem c_X5_idAt {l : Launch} {A : Nat → Prop} {G : GT} {ad : Nat → Nat} (gl : Gl l A G ad) (p : Nat) (hp : p < 176 ∧ p % 16 = 6) (B : StB) (M : StM) (O : StO) (x0 : Int32) (hok : ok_X5_idAt p B x0) : Met l yX5_idAt (wof yX5_idAt cX5_idAt 4 (some .int)) (rmd 2 0 0) (va_Pc [.ref (ad p), .int x0] (PW G A ad B M O)) (QI G A ad (f_X5_idAt p B x0) B M O) 0 0 A := by
  refine x_body (own := RX5) (by decide +kernel) rfl gl (Nat.le_of_ble_eq_true rfl) (ls := [(0, .ref (ad p)), (1, .int x0)]) rfl ?_
  intro p0 e s m args below meth c C
  have hR : (f_X5_idAt p B x0) = (nm (f_X5_idAt_L4 fu p B x0 (-1) 0) (fun (z7 : Int32) => z7)) := rfl
  have hok : (ok_X5_idAt_L4 fu p B x0 (-1) 0) := hok
  refine x_iconst (pc := 0) (v := (-1)) C dX5_idAt_0 (by decide) ?_
  refine x_istore_n (pc := 1) (i := 2) (ls2 := [(2, .int (-1)), (0, .ref (ad p)), (1, .int x0)]) C dX5_idAt_1 rfl (by decide) rfl ?_
  refine x_iconst (pc := 2) (v := 0) C dX5_idAt_2 (by decide) ?_
  refine x_istore_n (pc := 3) (i := 3) (ls2 := [(3, .int 0), (2, .int (-1)), (0, .ref (ad p)), (1, .int x0)]) C dX5_idAt_3 rfl (by decide) rfl ?_
  refine x_sub [2, 3, 1, 0] (ls2 := [(0, .ref (ad p)), (1, .int x0), (2, .int (-1)), (3, .int 0)]) rfl ?_
  obtain ⟨z7, ez7⟩ : ∃ z : Int32, z = f_X5_idAt_L4 fu p B x0 (-1) 0 := ⟨_, rfl⟩
  refine t_X5_idAt_L4 C hp fu B x0 (-1) 0 M O z7 ez7 hok ?_
  have hR := nmE hR ez7
  refine x_iload_n (pc := 34) (i := 2) C 0 dX5_idAt_34 rfl rfl ?_
  exact x_iret (pc := 35) C rfl hR dX5_idAt_35
