set_option maxHeartbeats 4000000 in
set_option maxRecDepth 100000 in
theorem c_J5_length_8abf5 {l : Launch} {A : Nat → Prop} {G : GT} {ad : Nat → Nat} (gl : Gl l A G ad)  (B : StB) (M : StM) (O : StO)  : Met l yJ5_length_8abf5 (wof yJ5_length_8abf5 cJ5_length_8abf5 1 (some .int)) (rmd 1 0 0) (va_Pc [.ref (ad 191)] (PW G A ad B M O)) (QI G A ad (f_J5_length_8abf5 B) B M O) 0 0 A := by
  refine x_bodyF (own := RJ5) (by decide +kernel) rfl gl (Nat.le_of_ble_eq_true rfl) (ls := [(0, .ref (ad 191))]) rfl ?_
  intro p0 e s m args below meth c C
  have hR : (f_J5_length_8abf5 B) = (bi B 191 3) := rfl
  refine x_aload_n (pc := 0) (i := 0) C 0 dJ5_length_8abf5_0 rfl rfl ?_
  refine x_get (pc := 1) (q := 191) (i := 3) C e_B rfl ttJ4 (by decide) wd_2_17 rfl dJ5_length_8abf5_1 ?_
  exact x_iret (pc := 4) C rfl hR dJ5_length_8abf5_4
set_option maxHeartbeats 4000000 in
set_option maxRecDepth 100000 in
theorem c_J5_isLatin1_aae02 {l : Launch} {A : Nat → Prop} {G : GT} {ad : Nat → Nat} (gl : Gl l A G ad)  (B : StB) (M : StM) (O : StO)  : Met l yJ5_isLatin1_aae02 (wof yJ5_isLatin1_aae02 cJ5_isLatin1_aae02 1 (some .boolean)) (rmd 1 0 0) (va_Pc [.ref (ad 191)] (PW G A ad B M O)) (QI G A ad (f_J5_isLatin1_aae02 B) B M O) 0 0 A := by
  refine x_bodyF (own := RJ5) (by decide +kernel) rfl gl (Nat.le_of_ble_eq_true rfl) (ls := [(0, .ref (ad 191))]) rfl ?_
  intro p0 e s m args below meth c C
  have hR : (f_J5_isLatin1_aae02 B) = 1 := rfl
  refine x_getsC (pc := 0) C wd_2_4 dJ5_isLatin1_aae02_0 ?_
  refine x_if_eq (pc := 3) (tgt := 17) C dJ5_isLatin1_aae02_3 (by decide) (fun hf => absurd hf (by decide)) (fun _ => ?_)
  refine x_aload_n (pc := 6) (i := 0) C 0 dJ5_isLatin1_aae02_6 rfl rfl ?_
  refine x_get (pc := 7) (q := 191) (i := 1) C e_B rfl ttJ4 (by decide) wd_2_14 rfl dJ5_isLatin1_aae02_7 ?_
  refine x_if_ne (pc := 10) (tgt := 17) C dJ5_isLatin1_aae02_10 (by decide) (fun hf => absurd hf (by decide)) (fun _ => ?_)
  refine x_iconst (pc := 13) (v := 1) C dJ5_isLatin1_aae02_13 (by decide) ?_
  refine x_goto (pc := 14) (tgt := 18) C dJ5_isLatin1_aae02_14 (by decide) ?_
  exact x_zret (pc := 18) C rfl (by decide) hR dJ5_isLatin1_aae02_18
set_option maxHeartbeats 4000000 in
set_option maxRecDepth 100000 in
theorem c_J5_charAt_5068e {l : Launch} {A : Nat → Prop} {G : GT} {ad : Nat → Nat} (gl : Gl l A G ad)  (B : StB) (M : StM) (O : StO) (x0 : Int32) (hok : ok_J5_charAt_5068e B x0) : Met l yJ5_charAt_5068e (wof yJ5_charAt_5068e cJ5_charAt_5068e 5 (some .char)) (rmd 3 0 0) (va_Pc [.ref (ad 191), .int x0] (PW G A ad B M O)) (QI G A ad (f_J5_charAt_5068e B x0) B M O) 0 0 A := by
  refine x_bodyF (own := RJ5) (by decide +kernel) rfl gl (Nat.le_of_ble_eq_true rfl) (ls := [(0, .ref (ad 191)), (1, .int x0)]) rfl ?_
  intro p0 e s m args below meth c C
  have hR : (f_J5_charAt_5068e B x0) = (nm (mn (bi B 191 3) ((Int32.ofNat (bz B)) >>> (0 &&& 31))) (fun (v1 : Int32) => (Int32.toUInt32 ((ba B 192 (ix x0)) &&& 255) % 65536).toInt32)) := rfl
  have hok : (∀ v1 : Int32, v1 = (mn (bi B 191 3) ((Int32.ofNat (bz B)) >>> (0 &&& 31))) → ((ok_J0_checkIndex_df160 x0 v1) ∧ (vp_in x0 (bz B) ∧ (narrow .char (.int ((Int32.toUInt32 ((ba B 192 (ix x0)) &&& 255) % 65536).toInt32)) = .int ((Int32.toUInt32 ((ba B 192 (ix x0)) &&& 255) % 65536).toInt32))))) := hok
  refine x_aload_n (pc := 0) (i := 0) C 0 dJ5_charAt_5068e_0 rfl rfl ?_
  refine x_get (pc := 1) (q := 191) (i := 1) C e_B rfl ttJ4 (by decide) wd_2_14 rfl dJ5_charAt_5068e_1 ?_
  refine x_istore_n (pc := 4) (i := 2) (ls2 := [(2, .int 0), (0, .ref (ad 191)), (1, .int x0)]) C dJ5_charAt_5068e_4 rfl (by decide) rfl ?_
  refine x_aload_n (pc := 5) (i := 0) C 1 dJ5_charAt_5068e_5 rfl rfl ?_
  refine x_get (pc := 6) (q := 191) (i := 0) C e_B rfl ttJ4 (by decide) wd_2_13 rfl dJ5_charAt_5068e_6 ?_
  refine x_astore_n (pc := 9) (i := 3) (ls2 := [(3, .ref (ad 192)), (2, .int 0), (0, .ref (ad 191)), (1, .int x0)]) C dJ5_charAt_5068e_9 rfl (by decide) rfl ?_
  refine x_aload_n (pc := 10) (i := 0) C 2 dJ5_charAt_5068e_10 rfl rfl ?_
  refine x_get (pc := 11) (q := 191) (i := 3) C e_B rfl ttJ4 (by decide) wd_2_17 rfl dJ5_charAt_5068e_11 ?_
  refine x_aload_n (pc := 14) (i := 3) C 0 dJ5_charAt_5068e_14 rfl rfl ?_
  refine x_alen (pc := 15) (q := 192) (t0 := 0) C e_Bb rfl dJ5_charAt_5068e_15 ?_
  refine x_iload_n (pc := 16) (i := 2) C 1 dJ5_charAt_5068e_16 rfl rfl ?_
  refine x_ishr (pc := 17) C dJ5_charAt_5068e_17 ?_
  refine x_mmin (pc := 18) C wd_6_54 wd_3_49 wd_1_21 wd_3_50 ⟨Nat.le_of_ble_eq_true rfl, Nat.le_of_ble_eq_true rfl⟩ ⟨Nat.le_of_ble_eq_true rfl, Nat.le_of_ble_eq_true rfl⟩ dJ5_charAt_5068e_18 ?_
  refine x_nmI (fun v1 ev1 => ?_)
  have hR := nmE hR ev1
  have hok := hok v1 ev1
  refine x_istore (pc := 21) (i := 4) (ls2 := [(4, .int v1), (3, .ref (ad 192)), (2, .int 0), (0, .ref (ad 191)), (1, .int x0)]) C dJ5_charAt_5068e_21 (by decide) rfl ?_
  refine x_iload_n (pc := 23) (i := 1) C 4 dJ5_charAt_5068e_23 rfl rfl ?_
  refine x_iload (pc := 24) (i := 4) C 0 dJ5_charAt_5068e_24 rfl ?_
  have h2 := hok.1
  have hok := hok.2
  refine x_cVS (pc := 26) (as := [.int x0, .int v1]) C (c_J0_checkIndex_df160 C.2.2.2.2.2.2.2.1  B M O x0 v1 h2) wd_4_61 cd_J0_checkIndex_df160 wd_6_55 ⟨Nat.le_of_ble_eq_true rfl, Nat.le_of_ble_eq_true rfl⟩ ⟨Nat.le_of_ble_eq_true rfl, Nat.le_of_ble_eq_true rfl⟩ rfl rfl (Nat.le_of_ble_eq_true rfl) dJ5_charAt_5068e_26 ?_
  refine x_iload_n (pc := 29) (i := 2) C 2 dJ5_charAt_5068e_29 rfl rfl ?_
  refine x_if_ne (pc := 30) (tgt := 42) C dJ5_charAt_5068e_30 (by decide) (fun hf => absurd hf (by decide)) (fun _ => ?_)
  refine x_aload_n (pc := 33) (i := 3) C 1 dJ5_charAt_5068e_33 rfl rfl ?_
  refine x_iload_n (pc := 34) (i := 1) C 4 dJ5_charAt_5068e_34 rfl rfl ?_
  have h4 := hok.1
  have hok := hok.2
  refine x_bald (pc := 35) (q := 192) C e_Bb h4 dJ5_charAt_5068e_35 ?_
  refine x_sipush (pc := 36) (v := 255) C dJ5_charAt_5068e_36 (by decide) ?_
  refine x_iand (pc := 39) C dJ5_charAt_5068e_39 ?_
  refine x_i2c (pc := 40) C dJ5_charAt_5068e_40 ?_
  have h5 := hok
  exact x_zret (pc := 41) C rfl h5 hR dJ5_charAt_5068e_41
set_option maxHeartbeats 4000000 in
set_option maxRecDepth 100000 in
theorem c_J5_ensureCapacityInternal_d00df {l : Launch} {A : Nat → Prop} {G : GT} {ad : Nat → Nat} (gl : Gl l A G ad)  (B : StB) (M : StM) (O : StO) (x0 : Int32) (hok : ok_J5_ensureCapacityInternal_d00df B x0) : Met l yJ5_ensureCapacityInternal_d00df (wof yJ5_ensureCapacityInternal_d00df cJ5_ensureCapacityInternal_d00df 3 none) (rmd 1 0 0) (va_Pc [.ref (ad 191), .int x0] (PW G A ad B M O)) (QV G A ad (f_J5_ensureCapacityInternal_d00df B x0) M O) 0 0 A := by
  refine x_bodyF (own := RJ5) (by decide +kernel) rfl gl (Nat.le_of_ble_eq_true rfl) (ls := [(0, .ref (ad 191)), (1, .int x0)]) rfl ?_
  intro p0 e s m args below meth c C
  have hR : (f_J5_ensureCapacityInternal_d00df B x0) = (nm ((Int32.ofNat (bz B)) >>> (0 &&& 31)) (fun (v1 : Int32) => B)) := rfl
  have hok : (∀ v1 : Int32, v1 = ((Int32.ofNat (bz B)) >>> (0 &&& 31)) → ((x0 - v1) ≤ 0)) := hok
  refine x_aload_n (pc := 0) (i := 0) C 0 dJ5_ensureCapacityInternal_d00df_0 rfl rfl ?_
  refine x_get (pc := 1) (q := 191) (i := 0) C e_B rfl ttJ4 (by decide) wd_2_13 rfl dJ5_ensureCapacityInternal_d00df_1 ?_
  refine x_alen (pc := 4) (q := 192) (t0 := 0) C e_Bb rfl dJ5_ensureCapacityInternal_d00df_4 ?_
  refine x_aload_n (pc := 5) (i := 0) C 0 dJ5_ensureCapacityInternal_d00df_5 rfl rfl ?_
  refine x_get (pc := 6) (q := 191) (i := 1) C e_B rfl ttJ4 (by decide) wd_2_14 rfl dJ5_ensureCapacityInternal_d00df_6 ?_
  refine x_ishr (pc := 9) C dJ5_ensureCapacityInternal_d00df_9 ?_
  refine x_nmI (fun v1 ev1 => ?_)
  have hR := nmE hR ev1
  have hok := hok v1 ev1
  refine x_istore_n (pc := 10) (i := 2) (ls2 := [(2, .int v1), (0, .ref (ad 191)), (1, .int x0)]) C dJ5_ensureCapacityInternal_d00df_10 rfl (by decide) rfl ?_
  refine x_iload_n (pc := 11) (i := 1) C 2 dJ5_ensureCapacityInternal_d00df_11 rfl rfl ?_
  refine x_iload_n (pc := 12) (i := 2) C 0 dJ5_ensureCapacityInternal_d00df_12 rfl rfl ?_
  refine x_isub (pc := 13) C dJ5_ensureCapacityInternal_d00df_13 ?_
  have c2 := hok
  refine x_if_le (pc := 14) (tgt := 38) C dJ5_ensureCapacityInternal_d00df_14 (by decide) (fun _ => ?_) (fun z => absurd c2 z)
  exact x_vretB (pc := 38) C rfl hR dJ5_ensureCapacityInternal_d00df_38
set_option maxHeartbeats 4000000 in
set_option maxRecDepth 100000 in
theorem c_J1_canEncode_fc78d {l : Launch} {A : Nat → Prop} {G : GT} {ad : Nat → Nat} (gl : Gl l A G ad)  (B : StB) (M : StM) (O : StO) (x0 : Int32) : Met l yJ1_canEncode_fc78d (wof yJ1_canEncode_fc78d cJ1_canEncode_fc78d 1 (some .boolean)) (rmd 1 0 0) (va_Pc [.int x0] (PW G A ad B M O)) (QI G A ad (f_J1_canEncode_fc78d x0) B M O) 0 0 A := by
  refine x_bodyF (own := RJ1) (by decide +kernel) rfl gl (Nat.le_of_ble_eq_true rfl) (ls := [(0, .int x0)]) rfl ?_
  intro p0 e s m args below meth c C
  have hR : (f_J1_canEncode_fc78d x0) = (if 255 < x0 then 0 else 1) := rfl
  refine x_iload_n (pc := 0) (i := 0) C 0 dJ1_canEncode_fc78d_0 rfl rfl ?_
  refine x_sipush (pc := 1) (v := 255) C dJ1_canEncode_fc78d_1 (by decide) ?_
  refine x_icmp_gt (pc := 4) (tgt := 11) C dJ1_canEncode_fc78d_4 (by decide) (fun c1 => ?_) (fun c1 => ?_)
  · have hR := hR.trans (if_pos c1)
    refine x_iconst (pc := 11) (v := 0) C dJ1_canEncode_fc78d_11 (by decide) ?_
    exact x_zret (pc := 12) C rfl (by decide) hR dJ1_canEncode_fc78d_12
  · have hR := hR.trans (if_neg c1)
    refine x_iconst (pc := 7) (v := 1) C dJ1_canEncode_fc78d_7 (by decide) ?_
    refine x_goto (pc := 8) (tgt := 12) C dJ1_canEncode_fc78d_8 (by decide) ?_
    exact x_zret (pc := 12) C rfl (by decide) hR dJ1_canEncode_fc78d_12
set_option maxHeartbeats 4000000 in
set_option maxRecDepth 100000 in
theorem t_J6_stringSize_0f7a4_L16 {p0 : Program} {l : Launch} {e : Env} {s : State} {m : MethodId} {args : Array Value} {below : List Frame} {meth : Method} {c : Code} {A : Nat → Prop} {G : GT} {ad : Nat → Nat} (C : CX p0 l s m args meth c A G ad cJ6_stringSize_0f7a4 RJ6 4 (some .int))    (n : Nat)  (a0 : Int32) (a1 : Int32) (a2 : Int32) (a3 : Int32) (B : StB) (M : StM) (O : StO) : ∀ (R0 : Int32) (hR : R0 = f_J6_stringSize_0f7a4_L16 n a0 a1 a2 a3) (hok : ok_J6_stringSize_0f7a4_L16 n a0 a1 a2 a3), X p0 l e (rmd 1 0 0) s m args below meth c A G ad 4 0 0 (MQ below (QI G A ad R0 B M O) args s 0 0 A) B M O [(0, .int a0), (1, .int a1), (2, .int a2), (3, .int a3)] 16 [] := by
  induction n generalizing a0 a1 a2 a3 with
  | zero => intro R0 hR hok; exact False.elim hok
  | succ n ih =>
    intro R0 hR hok
    have hR : R0 = (if 10 ≤ a3 then (10 + a1) else (if a0 ≤ a2 then (nm (10 * a2) (fun (v4 : Int32) => (f_J6_stringSize_0f7a4_L16 n a0 a1 v4 (a3 + 1)))) else (a3 + a1))) := hR
    have hok : ((10 ≤ a3 → True) ∧ (¬ 10 ≤ a3 → ((a0 ≤ a2 → (∀ v4 : Int32, v4 = (10 * a2) → (ok_J6_stringSize_0f7a4_L16 n a0 a1 v4 (a3 + 1)))) ∧ (¬ a0 ≤ a2 → True)))) := hok
    refine x_iload_n (pc := 16) (i := 3) C 3 dJ6_stringSize_0f7a4_16 rfl rfl ?_
    refine x_bipush (pc := 17) (v := 10) C dJ6_stringSize_0f7a4_17 (by decide) ?_
    refine x_icmp_ge (pc := 19) (tgt := 42) C dJ6_stringSize_0f7a4_19 (by decide) (fun c2 => ?_) (fun c2 => ?_)
    · have hR := hR.trans (if_pos c2)
      refine x_bipush (pc := 42) (v := 10) C dJ6_stringSize_0f7a4_42 (by decide) ?_
      refine x_iload_n (pc := 44) (i := 1) C 1 dJ6_stringSize_0f7a4_44 rfl rfl ?_
      refine x_iadd (pc := 45) C dJ6_stringSize_0f7a4_45 ?_
      exact x_iret (pc := 46) C rfl hR dJ6_stringSize_0f7a4_46
    · have hR := hR.trans (if_neg c2)
      have hok := hok.2 c2
      refine x_iload_n (pc := 22) (i := 0) C 0 dJ6_stringSize_0f7a4_22 rfl rfl ?_
      refine x_iload_n (pc := 23) (i := 2) C 2 dJ6_stringSize_0f7a4_23 rfl rfl ?_
      refine x_icmp_le (pc := 24) (tgt := 31) C dJ6_stringSize_0f7a4_24 (by decide) (fun c3 => ?_) (fun c3 => ?_)
      · have hR := hR.trans (if_pos c3)
        have hok := hok.1 c3
        refine x_bipush (pc := 31) (v := 10) C dJ6_stringSize_0f7a4_31 (by decide) ?_
        refine x_iload_n (pc := 33) (i := 2) C 2 dJ6_stringSize_0f7a4_33 rfl rfl ?_
        refine x_imul (pc := 34) C dJ6_stringSize_0f7a4_34 ?_
        refine x_nmI (fun v4 ev4 => ?_)
        have hR := nmE hR ev4
        have hok := hok v4 ev4
        refine x_istore_n (pc := 35) (i := 2) (ls2 := [(2, .int v4), (0, .int a0), (1, .int a1), (3, .int a3)]) C dJ6_stringSize_0f7a4_35 rfl (by decide) rfl ?_
        refine x_iinc (pc := 36) (i := 3) (v := (a3 + 1)) (ls2 := [(3, .int (a3 + 1)), (2, .int v4), (0, .int a0), (1, .int a1)]) C 3 dJ6_stringSize_0f7a4_36 rfl rfl (by decide) rfl ?_
        refine x_goto (pc := 39) (tgt := 16) C dJ6_stringSize_0f7a4_39 (by decide) ?_
        refine x_sub [2, 3, 1, 0] (ls2 := [(0, .int a0), (1, .int a1), (2, .int v4), (3, .int (a3 + 1))]) rfl ?_
        exact ih a0 a1 v4 (a3 + 1) R0 hR hok
      · have hR := hR.trans (if_neg c3)
        refine x_iload_n (pc := 27) (i := 3) C 3 dJ6_stringSize_0f7a4_27 rfl rfl ?_
        refine x_iload_n (pc := 28) (i := 1) C 1 dJ6_stringSize_0f7a4_28 rfl rfl ?_
        refine x_iadd (pc := 29) C dJ6_stringSize_0f7a4_29 ?_
        exact x_iret (pc := 30) C rfl hR dJ6_stringSize_0f7a4_30
set_option maxHeartbeats 4000000 in
set_option maxRecDepth 100000 in
theorem t_J6_stringSize_0f7a4_J11 {p0 : Program} {l : Launch} {e : Env} {s : State} {m : MethodId} {args : Array Value} {below : List Frame} {meth : Method} {c : Code} {A : Nat → Prop} {G : GT} {ad : Nat → Nat} (C : CX p0 l s m args meth c A G ad cJ6_stringSize_0f7a4 RJ6 4 (some .int))   (a0 : Int32) (a1 : Int32) (B : StB) (M : StM) (O : StO)  (R0 : Int32) (hR : R0 = f_J6_stringSize_0f7a4_J11 a0 a1) (hok : ok_J6_stringSize_0f7a4_J11 a0 a1) : X p0 l e (rmd 1 0 0) s m args below meth c A G ad 4 0 0 (MQ below (QI G A ad R0 B M O) args s 0 0 A) B M O [(0, .int a0), (1, .int a1)] 11 [] := by
  have hR : R0 = (f_J6_stringSize_0f7a4_L16 fu a0 a1 (-10) 1) := hR
  have hok : (ok_J6_stringSize_0f7a4_L16 fu a0 a1 (-10) 1) := hok
  refine x_bipush (pc := 11) (v := (-10)) C dJ6_stringSize_0f7a4_11 (by decide) ?_
  refine x_istore_n (pc := 13) (i := 2) (ls2 := [(2, .int (-10)), (0, .int a0), (1, .int a1)]) C dJ6_stringSize_0f7a4_13 rfl (by decide) rfl ?_
  refine x_iconst (pc := 14) (v := 1) C dJ6_stringSize_0f7a4_14 (by decide) ?_
  refine x_istore_n (pc := 15) (i := 3) (ls2 := [(3, .int 1), (2, .int (-10)), (0, .int a0), (1, .int a1)]) C dJ6_stringSize_0f7a4_15 rfl (by decide) rfl ?_
  refine x_sub [2, 3, 1, 0] (ls2 := [(0, .int a0), (1, .int a1), (2, .int (-10)), (3, .int 1)]) rfl ?_
  exact t_J6_stringSize_0f7a4_L16 C fu a0 a1 (-10) 1 B M O _ hR hok
set_option maxHeartbeats 4000000 in
set_option maxRecDepth 100000 in
theorem c_J6_stringSize_0f7a4 {l : Launch} {A : Nat → Prop} {G : GT} {ad : Nat → Nat} (gl : Gl l A G ad)  (B : StB) (M : StM) (O : StO) (x0 : Int32) (hok : ok_J6_stringSize_0f7a4 x0) : Met l yJ6_stringSize_0f7a4 (wof yJ6_stringSize_0f7a4 cJ6_stringSize_0f7a4 4 (some .int)) (rmd 1 0 0) (va_Pc [.int x0] (PW G A ad B M O)) (QI G A ad (f_J6_stringSize_0f7a4 x0) B M O) 0 0 A := by
  refine x_bodyF (own := RJ6) (by decide +kernel) rfl gl (Nat.le_of_ble_eq_true rfl) (ls := [(0, .int x0)]) rfl ?_
  intro p0 e s m args below meth c C
  have hR : (f_J6_stringSize_0f7a4 x0) = (if x0 < 0 then (f_J6_stringSize_0f7a4_J11 x0 1) else (nm (-x0) (fun (v5 : Int32) => (f_J6_stringSize_0f7a4_J11 v5 0)))) := rfl
  have hok : ((x0 < 0 → (ok_J6_stringSize_0f7a4_J11 x0 1)) ∧ (¬ x0 < 0 → (∀ v5 : Int32, v5 = (-x0) → (ok_J6_stringSize_0f7a4_J11 v5 0)))) := hok
  refine x_iconst (pc := 0) (v := 1) C dJ6_stringSize_0f7a4_0 (by decide) ?_
  refine x_istore_n (pc := 1) (i := 1) (ls2 := [(1, .int 1), (0, .int x0)]) C dJ6_stringSize_0f7a4_1 rfl (by decide) rfl ?_
  refine x_iload_n (pc := 2) (i := 0) C 1 dJ6_stringSize_0f7a4_2 rfl rfl ?_
  refine x_if_lt (pc := 3) (tgt := 11) C dJ6_stringSize_0f7a4_3 (by decide) (fun c1 => ?_) (fun c1 => ?_)
  · have hR := hR.trans (if_pos c1)
    have hok := hok.1 c1
    refine x_sub [1, 0] (ls2 := [(0, .int x0), (1, .int 1)]) rfl ?_
    exact t_J6_stringSize_0f7a4_J11 C x0 1 B M O _ hR hok
  · have hR := hR.trans (if_neg c1)
    have hok := hok.2 c1
    refine x_iconst (pc := 6) (v := 0) C dJ6_stringSize_0f7a4_6 (by decide) ?_
    refine x_istore_n (pc := 7) (i := 1) (ls2 := [(1, .int 0), (0, .int x0)]) C dJ6_stringSize_0f7a4_7 rfl (by decide) rfl ?_
    refine x_iload_n (pc := 8) (i := 0) C 1 dJ6_stringSize_0f7a4_8 rfl rfl ?_
    refine x_ineg (pc := 9) C dJ6_stringSize_0f7a4_9 ?_
    refine x_nmI (fun v5 ev5 => ?_)
    have hR := nmE hR ev5
    have hok := hok v5 ev5
    refine x_istore_n (pc := 10) (i := 0) (ls2 := [(0, .int v5), (1, .int 0)]) C dJ6_stringSize_0f7a4_10 rfl (by decide) rfl ?_
    refine x_sub [0, 1] (ls2 := [(0, .int v5), (1, .int 0)]) rfl ?_
    exact t_J6_stringSize_0f7a4_J11 C v5 0 B M O _ hR hok
set_option maxHeartbeats 4000000 in
set_option maxRecDepth 100000 in
theorem t_J6_getChars_ba4f3_L22 {p0 : Program} {l : Launch} {e : Env} {s : State} {m : MethodId} {args : Array Value} {below : List Frame} {meth : Method} {c : Code} {A : Nat → Prop} {G : GT} {ad : Nat → Nat} {Q : State → Prop} (C : CX p0 l s m args meth c A G ad cJ6_getChars_ba4f3 RJ6 7 (some .int))    (n : Nat) (B : StB) (a0 : Int32) (a5 : Int32) (a6 : Int32) (M : StM) (O : StO) : ∀ (R0 : Int32 × Int32 × StB) (hR : R0 = f_J6_getChars_ba4f3_L22 n B a0 a5 a6) (hok : ok_J6_getChars_ba4f3_L22 n B a0 a5 a6) (k : X p0 l e (rmd 1 0 0) s m args below meth c A G ad 7 0 0 Q R0.2.2 M O [(0, .int R0.1), (2, .ref (ad 192)), (5, .int R0.2.1), (6, .int a6)] 72 []), X p0 l e (rmd 1 0 0) s m args below meth c A G ad 7 0 0 Q B M O [(0, .int a0), (2, .ref (ad 192)), (5, .int a5), (6, .int a6)] 22 [] := by
  induction n generalizing B a0 a5 a6 with
  | zero => intro R0 hR hok k; exact False.elim hok
  | succ n ih =>
    intro R0 hR hok k
    have hR : R0 = (if (-100) < a0 then (a0, a5, B) else (nm (a0 / 100) (fun (v4 : Int32) => (nm ((v4 * 100) - a0) (fun (v5 : Int32) => (nm (sba B 192 (ix (a5 + (-1))) (vp_nar .byte (dgO.getD (ix v5) 0))) (fun (B8 : StB) => (nm (sba B8 192 (ix ((a5 + (-1)) + (-1))) (vp_nar .byte (dgT.getD (ix v5) 0))) (fun (B11 : StB) => (f_J6_getChars_ba4f3_L22 n B11 v4 ((a5 + (-1)) + (-1)) a6)))))))))) := hR
    have hok : (((-100) < a0 → True) ∧ (¬ (-100) < a0 → (∀ v4 : Int32, v4 = (a0 / 100) → (∀ v5 : Int32, v5 = ((v4 * 100) - a0) → (vp_in v5 100 ∧ (vp_in (a5 + (-1)) (bz B) ∧ (∀ B8 : StB, B8 = (sba B 192 (ix (a5 + (-1))) (vp_nar .byte (dgO.getD (ix v5) 0))) → (vp_in v5 100 ∧ (vp_in ((a5 + (-1)) + (-1)) (bz B8) ∧ (∀ B11 : StB, B11 = (sba B8 192 (ix ((a5 + (-1)) + (-1))) (vp_nar .byte (dgT.getD (ix v5) 0))) → (ok_J6_getChars_ba4f3_L22 n B11 v4 ((a5 + (-1)) + (-1)) a6))))))))))) := hok
    refine x_iload_n (pc := 22) (i := 0) C 0 dJ6_getChars_ba4f3_22 rfl rfl ?_
    refine x_bipush (pc := 23) (v := (-100)) C dJ6_getChars_ba4f3_23 (by decide) ?_
    refine x_icmp_gt (pc := 25) (tgt := 72) C dJ6_getChars_ba4f3_25 (by decide) (fun c3 => ?_) (fun c3 => ?_)
    · have hR := hR.trans (if_pos c3)
      refine x_sub [0, 1, 2, 3] (ls2 := [(0, .int a0), (2, .ref (ad 192)), (5, .int a5), (6, .int a6)]) rfl ?_
      subst hR
      exact k
    · have hR := hR.trans (if_neg c3)
      have hok := hok.2 c3
      refine x_iload_n (pc := 28) (i := 0) C 0 dJ6_getChars_ba4f3_28 rfl rfl ?_
      refine x_bipush (pc := 29) (v := 100) C dJ6_getChars_ba4f3_29 (by decide) ?_
      refine x_idiv (pc := 31) C dJ6_getChars_ba4f3_31 (by decide) ?_
      refine x_nmI (fun v4 ev4 => ?_)
      have hR := nmE hR ev4
      have hok := hok v4 ev4
      refine x_istore_n (pc := 32) (i := 3) (ls2 := [(3, .int v4), (0, .int a0), (2, .ref (ad 192)), (5, .int a5), (6, .int a6)]) C dJ6_getChars_ba4f3_32 rfl (by decide) rfl ?_
      refine x_iload_n (pc := 33) (i := 3) C 0 dJ6_getChars_ba4f3_33 rfl rfl ?_
      refine x_bipush (pc := 34) (v := 100) C dJ6_getChars_ba4f3_34 (by decide) ?_
      refine x_imul (pc := 36) C dJ6_getChars_ba4f3_36 ?_
      refine x_iload_n (pc := 37) (i := 0) C 1 dJ6_getChars_ba4f3_37 rfl rfl ?_
      refine x_isub (pc := 38) C dJ6_getChars_ba4f3_38 ?_
      refine x_nmI (fun v5 ev5 => ?_)
      have hR := nmE hR ev5
      have hok := hok v5 ev5
      refine x_istore (pc := 39) (i := 4) (ls2 := [(4, .int v5), (3, .int v4), (0, .int a0), (2, .ref (ad 192)), (5, .int a5), (6, .int a6)]) C dJ6_getChars_ba4f3_39 (by decide) rfl ?_
      refine x_iload_n (pc := 41) (i := 3) C 1 dJ6_getChars_ba4f3_41 rfl rfl ?_
      refine x_istore_n (pc := 42) (i := 0) (ls2 := [(0, .int v4), (4, .int v5), (3, .int v4), (2, .ref (ad 192)), (5, .int a5), (6, .int a6)]) C dJ6_getChars_ba4f3_42 rfl (by decide) rfl ?_
      refine x_aload_n (pc := 43) (i := 2) C 3 dJ6_getChars_ba4f3_43 rfl rfl ?_
      refine x_iinc (pc := 44) (i := 5) (v := (a5 + (-1))) (ls2 := [(5, .int (a5 + (-1))), (0, .int v4), (4, .int v5), (3, .int v4), (2, .ref (ad 192)), (6, .int a6)]) C 4 dJ6_getChars_ba4f3_44 rfl rfl (by decide) rfl ?_
      refine x_iload (pc := 47) (i := 5) C 0 dJ6_getChars_ba4f3_47 rfl ?_
      refine x_getsDO (pc := 49) C wd_5_144 dJ6_getChars_ba4f3_49 ?_
      refine x_iload (pc := 52) (i := 4) C 2 dJ6_getChars_ba4f3_52 rfl ?_
      have h6 := hok.1
      have hok := hok.2
      refine x_baldDO (pc := 54) C h6 dJ6_getChars_ba4f3_54 ?_
      have h7 := hok.1
      have hok := hok.2
      refine x_bastB (pc := 55) (q := 192) C e_Bb e_Bb.2 h7 dJ6_getChars_ba4f3_55 ?_
      refine x_nmB (fun B8 eB8 => ?_)
      have hR := nmE hR eB8
      have hok := hok B8 eB8
      refine x_aload_n (pc := 56) (i := 2) C 4 dJ6_getChars_ba4f3_56 rfl rfl ?_
      refine x_iinc (pc := 57) (i := 5) (v := ((a5 + (-1)) + (-1))) (ls2 := [(5, .int ((a5 + (-1)) + (-1))), (0, .int v4), (4, .int v5), (3, .int v4), (2, .ref (ad 192)), (6, .int a6)]) C 0 dJ6_getChars_ba4f3_57 rfl rfl (by decide) rfl ?_
      refine x_iload (pc := 60) (i := 5) C 0 dJ6_getChars_ba4f3_60 rfl ?_
      refine x_getsDT (pc := 62) C wd_5_146 dJ6_getChars_ba4f3_62 ?_
      refine x_iload (pc := 65) (i := 4) C 2 dJ6_getChars_ba4f3_65 rfl ?_
      have h9 := hok.1
      have hok := hok.2
      refine x_baldDT (pc := 67) C h9 dJ6_getChars_ba4f3_67 ?_
      have h10 := hok.1
      have hok := hok.2
      refine x_bastB (pc := 68) (q := 192) C e_Bb e_Bb.2 h10 dJ6_getChars_ba4f3_68 ?_
      refine x_nmB (fun B11 eB11 => ?_)
      have hR := nmE hR eB11
      have hok := hok B11 eB11
      refine x_goto (pc := 69) (tgt := 22) C dJ6_getChars_ba4f3_69 (by decide) ?_
      refine x_sub [1, 4, 0, 5] (ls2 := [(0, .int v4), (2, .ref (ad 192)), (5, .int ((a5 + (-1)) + (-1))), (6, .int a6)]) rfl ?_
      exact ih B11 v4 ((a5 + (-1)) + (-1)) a6 R0 hR hok k
set_option maxHeartbeats 4000000 in
set_option maxRecDepth 100000 in
theorem t_J6_getChars_ba4f3_J104 {p0 : Program} {l : Launch} {e : Env} {s : State} {m : MethodId} {args : Array Value} {below : List Frame} {meth : Method} {c : Code} {A : Nat → Prop} {G : GT} {ad : Nat → Nat} (C : CX p0 l s m args meth c A G ad cJ6_getChars_ba4f3 RJ6 7 (some .int))  (B : StB) (a5 : Int32) (a6 : Int32) (M : StM) (O : StO)  (R0 : Int32 × StB) (hR : R0 = f_J6_getChars_ba4f3_J104 B a5 a6) (hok : ok_J6_getChars_ba4f3_J104 B a5 a6) : X p0 l e (rmd 1 0 0) s m args below meth c A G ad 7 0 0 (MQ below (QI G A ad R0.1 R0.2 M O) args s 0 0 A) B M O [(2, .ref (ad 192)), (5, .int a5), (6, .int a6)] 104 [] := by
  have hR : R0 = (if a6 = 0 then (a5, B) else (nm (sba B 192 (ix (a5 + (-1))) (vp_nar .byte 45)) (fun (B19 : StB) => ((a5 + (-1)), B19)))) := hR
  have hok : ((a6 = 0 → True) ∧ (¬ a6 = 0 → (vp_in (a5 + (-1)) (bz B)))) := hok
  refine x_iload (pc := 104) (i := 6) C 2 dJ6_getChars_ba4f3_104 rfl ?_
  refine x_if_eq (pc := 106) (tgt := 118) C dJ6_getChars_ba4f3_106 (by decide) (fun c17 => ?_) (fun c17 => ?_)
  · have hR := hR.trans (if_pos c17)
    refine x_iload (pc := 118) (i := 5) C 1 dJ6_getChars_ba4f3_118 rfl ?_
    exact x_iretB (pc := 120) C rfl hR dJ6_getChars_ba4f3_120
  · have hR := hR.trans (if_neg c17)
    have hok := hok.2 c17
    refine x_aload_n (pc := 109) (i := 2) C 0 dJ6_getChars_ba4f3_109 rfl rfl ?_
    refine x_iinc (pc := 110) (i := 5) (v := (a5 + (-1))) (ls2 := [(5, .int (a5 + (-1))), (2, .ref (ad 192)), (6, .int a6)]) C 1 dJ6_getChars_ba4f3_110 rfl rfl (by decide) rfl ?_
    refine x_iload (pc := 113) (i := 5) C 0 dJ6_getChars_ba4f3_113 rfl ?_
    refine x_bipush (pc := 115) (v := 45) C dJ6_getChars_ba4f3_115 (by decide) ?_
    have h18 := hok
    refine x_bastB (pc := 117) (q := 192) C e_Bb e_Bb.2 h18 dJ6_getChars_ba4f3_117 ?_
    refine x_nmB (fun B19 eB19 => ?_)
    have hR := nmE hR eB19
    refine x_iload (pc := 118) (i := 5) C 0 dJ6_getChars_ba4f3_118 rfl ?_
    exact x_iretB (pc := 120) C rfl hR dJ6_getChars_ba4f3_120
set_option maxHeartbeats 4000000 in
set_option maxRecDepth 100000 in
theorem t_J6_getChars_ba4f3_J12 {p0 : Program} {l : Launch} {e : Env} {s : State} {m : MethodId} {args : Array Value} {below : List Frame} {meth : Method} {c : Code} {A : Nat → Prop} {G : GT} {ad : Nat → Nat} (C : CX p0 l s m args meth c A G ad cJ6_getChars_ba4f3 RJ6 7 (some .int))  (B : StB) (a0 : Int32) (a5 : Int32) (s0 : Int32) (M : StM) (O : StO)  (R0 : Int32 × StB) (hR : R0 = f_J6_getChars_ba4f3_J12 B a0 a5 s0) (hok : ok_J6_getChars_ba4f3_J12 B a0 a5 s0) : X p0 l e (rmd 1 0 0) s m args below meth c A G ad 7 0 0 (MQ below (QI G A ad R0.1 R0.2 M O) args s 0 0 A) B M O [(0, .int a0), (2, .ref (ad 192)), (5, .int a5)] 12 [.int s0] := by
  have hR : R0 = (if s0 = 0 then (nm (-a0) (fun (v23 : Int32) => (nm (f_J6_getChars_ba4f3_L22 fu B v23 a5 s0) (fun (z24 : Int32 × Int32 × StB) => (nm (sba z24.2.2 192 (ix (z24.2.1 + (-1))) (vp_nar .byte (dgO.getD (ix (-z24.1)) 0))) (fun (B27 : StB) => (if (-9) ≤ z24.1 then (f_J6_getChars_ba4f3_J104 B27 (z24.2.1 + (-1)) s0) else (nm (sba B27 192 (ix ((z24.2.1 + (-1)) + (-1))) (vp_nar .byte (dgT.getD (ix (-z24.1)) 0))) (fun (B31 : StB) => (f_J6_getChars_ba4f3_J104 B31 ((z24.2.1 + (-1)) + (-1)) s0)))))))))) else (nm (f_J6_getChars_ba4f3_L22 fu B a0 a5 s0) (fun (z12 : Int32 × Int32 × StB) => (nm (sba z12.2.2 192 (ix (z12.2.1 + (-1))) (vp_nar .byte (dgO.getD (ix (-z12.1)) 0))) (fun (B15 : StB) => (if (-9) ≤ z12.1 then (f_J6_getChars_ba4f3_J104 B15 (z12.2.1 + (-1)) s0) else (nm (sba B15 192 (ix ((z12.2.1 + (-1)) + (-1))) (vp_nar .byte (dgT.getD (ix (-z12.1)) 0))) (fun (B22 : StB) => (f_J6_getChars_ba4f3_J104 B22 ((z12.2.1 + (-1)) + (-1)) s0))))))))) := hR
  have hok : ((s0 = 0 → (∀ v23 : Int32, v23 = (-a0) → ((ok_J6_getChars_ba4f3_L22 fu B v23 a5 s0) ∧ ∀ z24 : Int32 × Int32 × StB, z24 = f_J6_getChars_ba4f3_L22 fu B v23 a5 s0 → (vp_in (-z24.1) 100 ∧ (vp_in (z24.2.1 + (-1)) (bz z24.2.2) ∧ (∀ B27 : StB, B27 = (sba z24.2.2 192 (ix (z24.2.1 + (-1))) (vp_nar .byte (dgO.getD (ix (-z24.1)) 0))) → (((-9) ≤ z24.1 → (ok_J6_getChars_ba4f3_J104 B27 (z24.2.1 + (-1)) s0)) ∧ (¬ (-9) ≤ z24.1 → (vp_in (-z24.1) 100 ∧ (vp_in ((z24.2.1 + (-1)) + (-1)) (bz B27) ∧ (∀ B31 : StB, B31 = (sba B27 192 (ix ((z24.2.1 + (-1)) + (-1))) (vp_nar .byte (dgT.getD (ix (-z24.1)) 0))) → (ok_J6_getChars_ba4f3_J104 B31 ((z24.2.1 + (-1)) + (-1)) s0)))))))))))) ∧ (¬ s0 = 0 → ((ok_J6_getChars_ba4f3_L22 fu B a0 a5 s0) ∧ ∀ z12 : Int32 × Int32 × StB, z12 = f_J6_getChars_ba4f3_L22 fu B a0 a5 s0 → (vp_in (-z12.1) 100 ∧ (vp_in (z12.2.1 + (-1)) (bz z12.2.2) ∧ (∀ B15 : StB, B15 = (sba z12.2.2 192 (ix (z12.2.1 + (-1))) (vp_nar .byte (dgO.getD (ix (-z12.1)) 0))) → (((-9) ≤ z12.1 → (ok_J6_getChars_ba4f3_J104 B15 (z12.2.1 + (-1)) s0)) ∧ (¬ (-9) ≤ z12.1 → (vp_in (-z12.1) 100 ∧ (vp_in ((z12.2.1 + (-1)) + (-1)) (bz B15) ∧ (∀ B22 : StB, B22 = (sba B15 192 (ix ((z12.2.1 + (-1)) + (-1))) (vp_nar .byte (dgT.getD (ix (-z12.1)) 0))) → (ok_J6_getChars_ba4f3_J104 B22 ((z12.2.1 + (-1)) + (-1)) s0)))))))))))) := hok
  refine x_istore (pc := 12) (i := 6) (ls2 := [(6, .int s0), (0, .int a0), (2, .ref (ad 192)), (5, .int a5)]) C dJ6_getChars_ba4f3_12 (by decide) rfl ?_
  refine x_iload (pc := 14) (i := 6) C 0 dJ6_getChars_ba4f3_14 rfl ?_
  refine x_if_ne (pc := 16) (tgt := 22) C dJ6_getChars_ba4f3_16 (by decide) (fun c2 => ?_) (fun c2 => ?_)
  · have hR := hR.trans (if_neg c2)
    have hok := hok.2 c2
    refine x_sub [1, 2, 3, 0] (ls2 := [(0, .int a0), (2, .ref (ad 192)), (5, .int a5), (6, .int s0)]) rfl ?_
    obtain ⟨z12, ez12⟩ : ∃ z : Int32 × Int32 × StB, z = f_J6_getChars_ba4f3_L22 fu B a0 a5 s0 := ⟨_, rfl⟩
    refine t_J6_getChars_ba4f3_L22 C fu B a0 a5 s0 M O z12 ez12 hok.1 ?_
    have hR := nmE hR ez12
    have hok := hok.2 z12 ez12
    refine x_aload_n (pc := 72) (i := 2) C 1 dJ6_getChars_ba4f3_72 rfl rfl ?_
    refine x_iinc (pc := 73) (i := 5) (v := (z12.2.1 + (-1))) (ls2 := [(5, .int (z12.2.1 + (-1))), (0, .int z12.1), (2, .ref (ad 192)), (6, .int s0)]) C 2 dJ6_getChars_ba4f3_73 rfl rfl (by decide) rfl ?_
    refine x_iload (pc := 76) (i := 5) C 0 dJ6_getChars_ba4f3_76 rfl ?_
    refine x_getsDO (pc := 78) C wd_5_144 dJ6_getChars_ba4f3_78 ?_
    refine x_iload_n (pc := 81) (i := 0) C 1 dJ6_getChars_ba4f3_81 rfl rfl ?_
    refine x_ineg (pc := 82) C dJ6_getChars_ba4f3_82 ?_
    have h13 := hok.1
    have hok := hok.2
    refine x_baldDO (pc := 83) C h13 dJ6_getChars_ba4f3_83 ?_
    have h14 := hok.1
    have hok := hok.2
    refine x_bastB (pc := 84) (q := 192) C e_Bb e_Bb.2 h14 dJ6_getChars_ba4f3_84 ?_
    refine x_nmB (fun B15 eB15 => ?_)
    have hR := nmE hR eB15
    have hok := hok B15 eB15
    refine x_iload_n (pc := 85) (i := 0) C 1 dJ6_getChars_ba4f3_85 rfl rfl ?_
    refine x_bipush (pc := 86) (v := (-9)) C dJ6_getChars_ba4f3_86 (by decide) ?_
    refine x_icmp_ge (pc := 88) (tgt := 104) C dJ6_getChars_ba4f3_88 (by decide) (fun c16 => ?_) (fun c16 => ?_)
    · have hR := hR.trans (if_pos c16)
      have hok := hok.1 c16
      refine x_sub [2, 0, 3] (ls2 := [(2, .ref (ad 192)), (5, .int (z12.2.1 + (-1))), (6, .int s0)]) rfl ?_
      exact t_J6_getChars_ba4f3_J104 C B15 (z12.2.1 + (-1)) s0 M O _ hR hok
    · have hR := hR.trans (if_neg c16)
      have hok := hok.2 c16
      refine x_aload_n (pc := 91) (i := 2) C 2 dJ6_getChars_ba4f3_91 rfl rfl ?_
      refine x_iinc (pc := 92) (i := 5) (v := ((z12.2.1 + (-1)) + (-1))) (ls2 := [(5, .int ((z12.2.1 + (-1)) + (-1))), (0, .int z12.1), (2, .ref (ad 192)), (6, .int s0)]) C 0 dJ6_getChars_ba4f3_92 rfl rfl (by decide) rfl ?_
      refine x_iload (pc := 95) (i := 5) C 0 dJ6_getChars_ba4f3_95 rfl ?_
      refine x_getsDT (pc := 97) C wd_5_146 dJ6_getChars_ba4f3_97 ?_
      refine x_iload_n (pc := 100) (i := 0) C 1 dJ6_getChars_ba4f3_100 rfl rfl ?_
      refine x_ineg (pc := 101) C dJ6_getChars_ba4f3_101 ?_
      have h20 := hok.1
      have hok := hok.2
      refine x_baldDT (pc := 102) C h20 dJ6_getChars_ba4f3_102 ?_
      have h21 := hok.1
      have hok := hok.2
      refine x_bastB (pc := 103) (q := 192) C e_Bb e_Bb.2 h21 dJ6_getChars_ba4f3_103 ?_
      refine x_nmB (fun B22 eB22 => ?_)
      have hR := nmE hR eB22
      have hok := hok B22 eB22
      refine x_sub [2, 0, 3] (ls2 := [(2, .ref (ad 192)), (5, .int ((z12.2.1 + (-1)) + (-1))), (6, .int s0)]) rfl ?_
      exact t_J6_getChars_ba4f3_J104 C B22 ((z12.2.1 + (-1)) + (-1)) s0 M O _ hR hok
  · have hR := hR.trans (if_pos c2)
    have hok := hok.1 c2
    refine x_iload_n (pc := 19) (i := 0) C 1 dJ6_getChars_ba4f3_19 rfl rfl ?_
    refine x_ineg (pc := 20) C dJ6_getChars_ba4f3_20 ?_
    refine x_nmI (fun v23 ev23 => ?_)
    have hR := nmE hR ev23
    have hok := hok v23 ev23
    refine x_istore_n (pc := 21) (i := 0) (ls2 := [(0, .int v23), (6, .int s0), (2, .ref (ad 192)), (5, .int a5)]) C dJ6_getChars_ba4f3_21 rfl (by decide) rfl ?_
    refine x_sub [0, 2, 3, 1] (ls2 := [(0, .int v23), (2, .ref (ad 192)), (5, .int a5), (6, .int s0)]) rfl ?_
    obtain ⟨z24, ez24⟩ : ∃ z : Int32 × Int32 × StB, z = f_J6_getChars_ba4f3_L22 fu B v23 a5 s0 := ⟨_, rfl⟩
    refine t_J6_getChars_ba4f3_L22 C fu B v23 a5 s0 M O z24 ez24 hok.1 ?_
    have hR := nmE hR ez24
    have hok := hok.2 z24 ez24
    refine x_aload_n (pc := 72) (i := 2) C 1 dJ6_getChars_ba4f3_72 rfl rfl ?_
    refine x_iinc (pc := 73) (i := 5) (v := (z24.2.1 + (-1))) (ls2 := [(5, .int (z24.2.1 + (-1))), (0, .int z24.1), (2, .ref (ad 192)), (6, .int s0)]) C 2 dJ6_getChars_ba4f3_73 rfl rfl (by decide) rfl ?_
    refine x_iload (pc := 76) (i := 5) C 0 dJ6_getChars_ba4f3_76 rfl ?_
    refine x_getsDO (pc := 78) C wd_5_144 dJ6_getChars_ba4f3_78 ?_
    refine x_iload_n (pc := 81) (i := 0) C 1 dJ6_getChars_ba4f3_81 rfl rfl ?_
    refine x_ineg (pc := 82) C dJ6_getChars_ba4f3_82 ?_
    have h25 := hok.1
    have hok := hok.2
    refine x_baldDO (pc := 83) C h25 dJ6_getChars_ba4f3_83 ?_
    have h26 := hok.1
    have hok := hok.2
    refine x_bastB (pc := 84) (q := 192) C e_Bb e_Bb.2 h26 dJ6_getChars_ba4f3_84 ?_
    refine x_nmB (fun B27 eB27 => ?_)
    have hR := nmE hR eB27
    have hok := hok B27 eB27
    refine x_iload_n (pc := 85) (i := 0) C 1 dJ6_getChars_ba4f3_85 rfl rfl ?_
    refine x_bipush (pc := 86) (v := (-9)) C dJ6_getChars_ba4f3_86 (by decide) ?_
    refine x_icmp_ge (pc := 88) (tgt := 104) C dJ6_getChars_ba4f3_88 (by decide) (fun c28 => ?_) (fun c28 => ?_)
    · have hR := hR.trans (if_pos c28)
      have hok := hok.1 c28
      refine x_sub [2, 0, 3] (ls2 := [(2, .ref (ad 192)), (5, .int (z24.2.1 + (-1))), (6, .int s0)]) rfl ?_
      exact t_J6_getChars_ba4f3_J104 C B27 (z24.2.1 + (-1)) s0 M O _ hR hok
    · have hR := hR.trans (if_neg c28)
      have hok := hok.2 c28
      refine x_aload_n (pc := 91) (i := 2) C 2 dJ6_getChars_ba4f3_91 rfl rfl ?_
      refine x_iinc (pc := 92) (i := 5) (v := ((z24.2.1 + (-1)) + (-1))) (ls2 := [(5, .int ((z24.2.1 + (-1)) + (-1))), (0, .int z24.1), (2, .ref (ad 192)), (6, .int s0)]) C 0 dJ6_getChars_ba4f3_92 rfl rfl (by decide) rfl ?_
      refine x_iload (pc := 95) (i := 5) C 0 dJ6_getChars_ba4f3_95 rfl ?_
      refine x_getsDT (pc := 97) C wd_5_146 dJ6_getChars_ba4f3_97 ?_
      refine x_iload_n (pc := 100) (i := 0) C 1 dJ6_getChars_ba4f3_100 rfl rfl ?_
      refine x_ineg (pc := 101) C dJ6_getChars_ba4f3_101 ?_
      have h29 := hok.1
      have hok := hok.2
      refine x_baldDT (pc := 102) C h29 dJ6_getChars_ba4f3_102 ?_
      have h30 := hok.1
      have hok := hok.2
      refine x_bastB (pc := 103) (q := 192) C e_Bb e_Bb.2 h30 dJ6_getChars_ba4f3_103 ?_
      refine x_nmB (fun B31 eB31 => ?_)
      have hR := nmE hR eB31
      have hok := hok B31 eB31
      refine x_sub [2, 0, 3] (ls2 := [(2, .ref (ad 192)), (5, .int ((z24.2.1 + (-1)) + (-1))), (6, .int s0)]) rfl ?_
      exact t_J6_getChars_ba4f3_J104 C B31 ((z24.2.1 + (-1)) + (-1)) s0 M O _ hR hok
set_option maxHeartbeats 4000000 in
set_option maxRecDepth 100000 in
theorem c_J6_getChars_ba4f3 {l : Launch} {A : Nat → Prop} {G : GT} {ad : Nat → Nat} (gl : Gl l A G ad)  (B : StB) (M : StM) (O : StO) (x0 : Int32) (x1 : Int32) (hok : ok_J6_getChars_ba4f3 B x0 x1) : Met l yJ6_getChars_ba4f3 (wof yJ6_getChars_ba4f3 cJ6_getChars_ba4f3 7 (some .int)) (rmd 1 0 0) (va_Pc [.int x0, .int x1, .ref (ad 192)] (PW G A ad B M O)) (QI G A ad (f_J6_getChars_ba4f3 B x0 x1).1 (f_J6_getChars_ba4f3 B x0 x1).2 M O) 0 0 A := by
  refine x_bodyF (own := RJ6) (by decide +kernel) rfl gl (Nat.le_of_ble_eq_true rfl) (ls := [(0, .int x0), (1, .int x1), (2, .ref (ad 192))]) rfl ?_
  intro p0 e s m args below meth c C
  have hR : (f_J6_getChars_ba4f3 B x0 x1) = (if 0 ≤ x0 then (f_J6_getChars_ba4f3_J12 B x0 x1 0) else (f_J6_getChars_ba4f3_J12 B x0 x1 1)) := rfl
  have hok : ((0 ≤ x0 → (ok_J6_getChars_ba4f3_J12 B x0 x1 0)) ∧ (¬ 0 ≤ x0 → (ok_J6_getChars_ba4f3_J12 B x0 x1 1))) := hok
  refine x_iload_n (pc := 0) (i := 1) C 1 dJ6_getChars_ba4f3_0 rfl rfl ?_
  refine x_istore (pc := 1) (i := 5) (ls2 := [(5, .int x1), (0, .int x0), (1, .int x1), (2, .ref (ad 192))]) C dJ6_getChars_ba4f3_1 (by decide) rfl ?_
  refine x_iload_n (pc := 3) (i := 0) C 1 dJ6_getChars_ba4f3_3 rfl rfl ?_
  refine x_if_ge (pc := 4) (tgt := 11) C dJ6_getChars_ba4f3_4 (by decide) (fun c1 => ?_) (fun c1 => ?_)
  · have hR := hR.trans (if_pos c1)
    have hok := hok.1 c1
    refine x_iconst (pc := 11) (v := 0) C dJ6_getChars_ba4f3_11 (by decide) ?_
    refine x_sub [1, 3, 0] (ls2 := [(0, .int x0), (2, .ref (ad 192)), (5, .int x1)]) rfl ?_
    exact t_J6_getChars_ba4f3_J12 C B x0 x1 0 M O _ hR hok
  · have hR := hR.trans (if_neg c1)
    have hok := hok.2 c1
    refine x_iconst (pc := 7) (v := 1) C dJ6_getChars_ba4f3_7 (by decide) ?_
    refine x_goto (pc := 8) (tgt := 12) C dJ6_getChars_ba4f3_8 (by decide) ?_
    refine x_sub [1, 3, 0] (ls2 := [(0, .int x0), (2, .ref (ad 192)), (5, .int x1)]) rfl ?_
    exact t_J6_getChars_ba4f3_J12 C B x0 x1 1 M O _ hR hok
set_option maxHeartbeats 4000000 in
set_option maxRecDepth 100000 in
theorem c_J5_isLatin1_aae02_D {l : Launch} {A : Nat → Prop} {G : GT} {ad : Nat → Nat} (gl : Gl l A G ad) (hG : G.2.2.2.2 2 = 2 ∧ G.2.2.2.2 3 = 2) (B : StB) (M : StM) (O : StO)  : Met l yJ5_isLatin1_aae02 (wof yJ5_isLatin1_aae02 cJ5_isLatin1_aae02 1 (some .boolean)) (rmd 1 0 0) (va_Pc [.ref (ad 193)] (PW G A ad B M O)) (QI G A ad (f_J5_isLatin1_aae02_D B) B M O) 0 0 A := by
  refine x_bodyF (own := RJ5) (by decide +kernel) rfl gl (Nat.le_of_ble_eq_true rfl) (ls := [(0, .ref (ad 193))]) rfl ?_
  intro p0 e s m args below meth c C
  have hR : (f_J5_isLatin1_aae02_D B) = 1 := rfl
  refine x_getsC (pc := 0) C wd_2_4 dJ5_isLatin1_aae02_0 ?_
  refine x_if_eq (pc := 3) (tgt := 17) C dJ5_isLatin1_aae02_3 (by decide) (fun hf => absurd hf (by decide)) (fun _ => ?_)
  refine x_aload_n (pc := 6) (i := 0) C 0 dJ5_isLatin1_aae02_6 rfl rfl ?_
  refine x_get (pc := 7) (q := 193) (i := 1) C (e_D hG) rfl ttJ4 (by decide) wd_2_14 rfl dJ5_isLatin1_aae02_7 ?_
  refine x_if_ne (pc := 10) (tgt := 17) C dJ5_isLatin1_aae02_10 (by decide) (fun hf => absurd hf (by decide)) (fun _ => ?_)
  refine x_iconst (pc := 13) (v := 1) C dJ5_isLatin1_aae02_13 (by decide) ?_
  refine x_goto (pc := 14) (tgt := 18) C dJ5_isLatin1_aae02_14 (by decide) ?_
  exact x_zret (pc := 18) C rfl (by decide) hR dJ5_isLatin1_aae02_18
set_option maxHeartbeats 4000000 in
set_option maxRecDepth 100000 in
theorem c_J5_length_8abf5_D {l : Launch} {A : Nat → Prop} {G : GT} {ad : Nat → Nat} (gl : Gl l A G ad) (hG : G.2.2.2.2 2 = 2 ∧ G.2.2.2.2 3 = 2) (B : StB) (M : StM) (O : StO)  : Met l yJ5_length_8abf5 (wof yJ5_length_8abf5 cJ5_length_8abf5 1 (some .int)) (rmd 1 0 0) (va_Pc [.ref (ad 193)] (PW G A ad B M O)) (QI G A ad (f_J5_length_8abf5_D B) B M O) 0 0 A := by
  refine x_bodyF (own := RJ5) (by decide +kernel) rfl gl (Nat.le_of_ble_eq_true rfl) (ls := [(0, .ref (ad 193))]) rfl ?_
  intro p0 e s m args below meth c C
  have hR : (f_J5_length_8abf5_D B) = (bi B 193 3) := rfl
  refine x_aload_n (pc := 0) (i := 0) C 0 dJ5_length_8abf5_0 rfl rfl ?_
  refine x_get (pc := 1) (q := 193) (i := 3) C (e_D hG) rfl ttJ4 (by decide) wd_2_17 rfl dJ5_length_8abf5_1 ?_
  exact x_iret (pc := 4) C rfl hR dJ5_length_8abf5_4
set_option maxHeartbeats 4000000 in
set_option maxRecDepth 100000 in
theorem c_J5_ensureCapacityInternal_d00df_D {l : Launch} {A : Nat → Prop} {G : GT} {ad : Nat → Nat} (gl : Gl l A G ad) (hG : G.2.2.2.2 2 = 2 ∧ G.2.2.2.2 3 = 2) (B : StB) (M : StM) (O : StO) (x0 : Int32) (hok : ok_J5_ensureCapacityInternal_d00df_D B x0) : Met l yJ5_ensureCapacityInternal_d00df (wof yJ5_ensureCapacityInternal_d00df cJ5_ensureCapacityInternal_d00df 3 none) (rmd 1 0 0) (va_Pc [.ref (ad 193), .int x0] (PW G A ad B M O)) (QV G A ad (f_J5_ensureCapacityInternal_d00df_D B x0) M O) 0 0 A := by
  refine x_bodyF (own := RJ5) (by decide +kernel) rfl gl (Nat.le_of_ble_eq_true rfl) (ls := [(0, .ref (ad 193)), (1, .int x0)]) rfl ?_
  intro p0 e s m args below meth c C
  have hR : (f_J5_ensureCapacityInternal_d00df_D B x0) = (nm ((Int32.ofNat (ix (bi B 194 9))) >>> (0 &&& 31)) (fun (v1 : Int32) => B)) := rfl
  have hok : (∀ v1 : Int32, v1 = ((Int32.ofNat (ix (bi B 194 9))) >>> (0 &&& 31)) → ((x0 - v1) ≤ 0)) := hok
  refine x_aload_n (pc := 0) (i := 0) C 0 dJ5_ensureCapacityInternal_d00df_0 rfl rfl ?_
  refine x_get (pc := 1) (q := 193) (i := 0) C (e_D hG) rfl ttJ4 (by decide) wd_2_13 rfl dJ5_ensureCapacityInternal_d00df_1 ?_
  refine x_alen (pc := 4) (q := 194) (t0 := 0) C (e_Db hG) rfl dJ5_ensureCapacityInternal_d00df_4 ?_
  refine x_aload_n (pc := 5) (i := 0) C 0 dJ5_ensureCapacityInternal_d00df_5 rfl rfl ?_
  refine x_get (pc := 6) (q := 193) (i := 1) C (e_D hG) rfl ttJ4 (by decide) wd_2_14 rfl dJ5_ensureCapacityInternal_d00df_6 ?_
  refine x_ishr (pc := 9) C dJ5_ensureCapacityInternal_d00df_9 ?_
  refine x_nmI (fun v1 ev1 => ?_)
  have hR := nmE hR ev1
  have hok := hok v1 ev1
  refine x_istore_n (pc := 10) (i := 2) (ls2 := [(2, .int v1), (0, .ref (ad 193)), (1, .int x0)]) C dJ5_ensureCapacityInternal_d00df_10 rfl (by decide) rfl ?_
  refine x_iload_n (pc := 11) (i := 1) C 2 dJ5_ensureCapacityInternal_d00df_11 rfl rfl ?_
  refine x_iload_n (pc := 12) (i := 2) C 0 dJ5_ensureCapacityInternal_d00df_12 rfl rfl ?_
  refine x_isub (pc := 13) C dJ5_ensureCapacityInternal_d00df_13 ?_
  have c2 := hok
  refine x_if_le (pc := 14) (tgt := 38) C dJ5_ensureCapacityInternal_d00df_14 (by decide) (fun _ => ?_) (fun z => absurd c2 z)
  exact x_vretB (pc := 38) C rfl hR dJ5_ensureCapacityInternal_d00df_38
set_option maxHeartbeats 4000000 in
set_option maxRecDepth 100000 in
theorem t_J6_getChars_ba4f3_D_L22 {p0 : Program} {l : Launch} {e : Env} {s : State} {m : MethodId} {args : Array Value} {below : List Frame} {meth : Method} {c : Code} {A : Nat → Prop} {G : GT} {ad : Nat → Nat} {Q : State → Prop} (C : CX p0 l s m args meth c A G ad cJ6_getChars_ba4f3 RJ6 7 (some .int)) (hG : G.2.2.2.2 2 = 2 ∧ G.2.2.2.2 3 = 2)   (n : Nat) (B : StB) (a0 : Int32) (a5 : Int32) (a6 : Int32) (M : StM) (O : StO) : ∀ (R0 : Int32 × Int32 × StB) (hR : R0 = f_J6_getChars_ba4f3_D_L22 n B a0 a5 a6) (hok : ok_J6_getChars_ba4f3_D_L22 n B a0 a5 a6) (k : X p0 l e (rmd 1 0 0) s m args below meth c A G ad 7 0 0 Q R0.2.2 M O [(0, .int R0.1), (2, .ref (ad 194)), (5, .int R0.2.1), (6, .int a6)] 72 []), X p0 l e (rmd 1 0 0) s m args below meth c A G ad 7 0 0 Q B M O [(0, .int a0), (2, .ref (ad 194)), (5, .int a5), (6, .int a6)] 22 [] := by
  induction n generalizing B a0 a5 a6 with
  | zero => intro R0 hR hok k; exact False.elim hok
  | succ n ih =>
    intro R0 hR hok k
    have hR : R0 = (if (-100) < a0 then (a0, a5, B) else (nm (a0 / 100) (fun (v4 : Int32) => (nm ((v4 * 100) - a0) (fun (v5 : Int32) => (nm (sba B 194 (ix (a5 + (-1))) (vp_nar .byte (dgO.getD (ix v5) 0))) (fun (B8 : StB) => (nm (sba B8 194 (ix ((a5 + (-1)) + (-1))) (vp_nar .byte (dgT.getD (ix v5) 0))) (fun (B11 : StB) => (f_J6_getChars_ba4f3_D_L22 n B11 v4 ((a5 + (-1)) + (-1)) a6)))))))))) := hR
    have hok : (((-100) < a0 → True) ∧ (¬ (-100) < a0 → (∀ v4 : Int32, v4 = (a0 / 100) → (∀ v5 : Int32, v5 = ((v4 * 100) - a0) → (vp_in v5 100 ∧ (vp_in (a5 + (-1)) (ix (bi B 194 9)) ∧ (∀ B8 : StB, B8 = (sba B 194 (ix (a5 + (-1))) (vp_nar .byte (dgO.getD (ix v5) 0))) → (vp_in v5 100 ∧ (vp_in ((a5 + (-1)) + (-1)) (ix (bi B8 194 9)) ∧ (∀ B11 : StB, B11 = (sba B8 194 (ix ((a5 + (-1)) + (-1))) (vp_nar .byte (dgT.getD (ix v5) 0))) → (ok_J6_getChars_ba4f3_D_L22 n B11 v4 ((a5 + (-1)) + (-1)) a6))))))))))) := hok
    refine x_iload_n (pc := 22) (i := 0) C 0 dJ6_getChars_ba4f3_22 rfl rfl ?_
    refine x_bipush (pc := 23) (v := (-100)) C dJ6_getChars_ba4f3_23 (by decide) ?_
    refine x_icmp_gt (pc := 25) (tgt := 72) C dJ6_getChars_ba4f3_25 (by decide) (fun c3 => ?_) (fun c3 => ?_)
    · have hR := hR.trans (if_pos c3)
      refine x_sub [0, 1, 2, 3] (ls2 := [(0, .int a0), (2, .ref (ad 194)), (5, .int a5), (6, .int a6)]) rfl ?_
      subst hR
      exact k
    · have hR := hR.trans (if_neg c3)
      have hok := hok.2 c3
      refine x_iload_n (pc := 28) (i := 0) C 0 dJ6_getChars_ba4f3_28 rfl rfl ?_
      refine x_bipush (pc := 29) (v := 100) C dJ6_getChars_ba4f3_29 (by decide) ?_
      refine x_idiv (pc := 31) C dJ6_getChars_ba4f3_31 (by decide) ?_
      refine x_nmI (fun v4 ev4 => ?_)
      have hR := nmE hR ev4
      have hok := hok v4 ev4
      refine x_istore_n (pc := 32) (i := 3) (ls2 := [(3, .int v4), (0, .int a0), (2, .ref (ad 194)), (5, .int a5), (6, .int a6)]) C dJ6_getChars_ba4f3_32 rfl (by decide) rfl ?_
      refine x_iload_n (pc := 33) (i := 3) C 0 dJ6_getChars_ba4f3_33 rfl rfl ?_
      refine x_bipush (pc := 34) (v := 100) C dJ6_getChars_ba4f3_34 (by decide) ?_
      refine x_imul (pc := 36) C dJ6_getChars_ba4f3_36 ?_
      refine x_iload_n (pc := 37) (i := 0) C 1 dJ6_getChars_ba4f3_37 rfl rfl ?_
      refine x_isub (pc := 38) C dJ6_getChars_ba4f3_38 ?_
      refine x_nmI (fun v5 ev5 => ?_)
      have hR := nmE hR ev5
      have hok := hok v5 ev5
      refine x_istore (pc := 39) (i := 4) (ls2 := [(4, .int v5), (3, .int v4), (0, .int a0), (2, .ref (ad 194)), (5, .int a5), (6, .int a6)]) C dJ6_getChars_ba4f3_39 (by decide) rfl ?_
      refine x_iload_n (pc := 41) (i := 3) C 1 dJ6_getChars_ba4f3_41 rfl rfl ?_
      refine x_istore_n (pc := 42) (i := 0) (ls2 := [(0, .int v4), (4, .int v5), (3, .int v4), (2, .ref (ad 194)), (5, .int a5), (6, .int a6)]) C dJ6_getChars_ba4f3_42 rfl (by decide) rfl ?_
      refine x_aload_n (pc := 43) (i := 2) C 3 dJ6_getChars_ba4f3_43 rfl rfl ?_
      refine x_iinc (pc := 44) (i := 5) (v := (a5 + (-1))) (ls2 := [(5, .int (a5 + (-1))), (0, .int v4), (4, .int v5), (3, .int v4), (2, .ref (ad 194)), (6, .int a6)]) C 4 dJ6_getChars_ba4f3_44 rfl rfl (by decide) rfl ?_
      refine x_iload (pc := 47) (i := 5) C 0 dJ6_getChars_ba4f3_47 rfl ?_
      refine x_getsDO (pc := 49) C wd_5_144 dJ6_getChars_ba4f3_49 ?_
      refine x_iload (pc := 52) (i := 4) C 2 dJ6_getChars_ba4f3_52 rfl ?_
      have h6 := hok.1
      have hok := hok.2
      refine x_baldDO (pc := 54) C h6 dJ6_getChars_ba4f3_54 ?_
      have h7 := hok.1
      have hok := hok.2
      refine x_bastB (pc := 55) (q := 194) C (e_Db hG) (e_Db hG).2 h7 dJ6_getChars_ba4f3_55 ?_
      refine x_nmB (fun B8 eB8 => ?_)
      have hR := nmE hR eB8
      have hok := hok B8 eB8
      refine x_aload_n (pc := 56) (i := 2) C 4 dJ6_getChars_ba4f3_56 rfl rfl ?_
      refine x_iinc (pc := 57) (i := 5) (v := ((a5 + (-1)) + (-1))) (ls2 := [(5, .int ((a5 + (-1)) + (-1))), (0, .int v4), (4, .int v5), (3, .int v4), (2, .ref (ad 194)), (6, .int a6)]) C 0 dJ6_getChars_ba4f3_57 rfl rfl (by decide) rfl ?_
      refine x_iload (pc := 60) (i := 5) C 0 dJ6_getChars_ba4f3_60 rfl ?_
      refine x_getsDT (pc := 62) C wd_5_146 dJ6_getChars_ba4f3_62 ?_
      refine x_iload (pc := 65) (i := 4) C 2 dJ6_getChars_ba4f3_65 rfl ?_
      have h9 := hok.1
      have hok := hok.2
      refine x_baldDT (pc := 67) C h9 dJ6_getChars_ba4f3_67 ?_
      have h10 := hok.1
      have hok := hok.2
      refine x_bastB (pc := 68) (q := 194) C (e_Db hG) (e_Db hG).2 h10 dJ6_getChars_ba4f3_68 ?_
      refine x_nmB (fun B11 eB11 => ?_)
      have hR := nmE hR eB11
      have hok := hok B11 eB11
      refine x_goto (pc := 69) (tgt := 22) C dJ6_getChars_ba4f3_69 (by decide) ?_
      refine x_sub [1, 4, 0, 5] (ls2 := [(0, .int v4), (2, .ref (ad 194)), (5, .int ((a5 + (-1)) + (-1))), (6, .int a6)]) rfl ?_
      exact ih B11 v4 ((a5 + (-1)) + (-1)) a6 R0 hR hok k
set_option maxHeartbeats 4000000 in
set_option maxRecDepth 100000 in
theorem t_J6_getChars_ba4f3_D_J104 {p0 : Program} {l : Launch} {e : Env} {s : State} {m : MethodId} {args : Array Value} {below : List Frame} {meth : Method} {c : Code} {A : Nat → Prop} {G : GT} {ad : Nat → Nat} (C : CX p0 l s m args meth c A G ad cJ6_getChars_ba4f3 RJ6 7 (some .int)) (hG : G.2.2.2.2 2 = 2 ∧ G.2.2.2.2 3 = 2) (B : StB) (a5 : Int32) (a6 : Int32) (M : StM) (O : StO)  (R0 : Int32 × StB) (hR : R0 = f_J6_getChars_ba4f3_D_J104 B a5 a6) (hok : ok_J6_getChars_ba4f3_D_J104 B a5 a6) : X p0 l e (rmd 1 0 0) s m args below meth c A G ad 7 0 0 (MQ below (QI G A ad R0.1 R0.2 M O) args s 0 0 A) B M O [(2, .ref (ad 194)), (5, .int a5), (6, .int a6)] 104 [] := by
  have hR : R0 = (if a6 = 0 then (a5, B) else (nm (sba B 194 (ix (a5 + (-1))) (vp_nar .byte 45)) (fun (B19 : StB) => ((a5 + (-1)), B19)))) := hR
  have hok : ((a6 = 0 → True) ∧ (¬ a6 = 0 → (vp_in (a5 + (-1)) (ix (bi B 194 9))))) := hok
  refine x_iload (pc := 104) (i := 6) C 2 dJ6_getChars_ba4f3_104 rfl ?_
  refine x_if_eq (pc := 106) (tgt := 118) C dJ6_getChars_ba4f3_106 (by decide) (fun c17 => ?_) (fun c17 => ?_)
  · have hR := hR.trans (if_pos c17)
    refine x_iload (pc := 118) (i := 5) C 1 dJ6_getChars_ba4f3_118 rfl ?_
    exact x_iretB (pc := 120) C rfl hR dJ6_getChars_ba4f3_120
  · have hR := hR.trans (if_neg c17)
    have hok := hok.2 c17
    refine x_aload_n (pc := 109) (i := 2) C 0 dJ6_getChars_ba4f3_109 rfl rfl ?_
    refine x_iinc (pc := 110) (i := 5) (v := (a5 + (-1))) (ls2 := [(5, .int (a5 + (-1))), (2, .ref (ad 194)), (6, .int a6)]) C 1 dJ6_getChars_ba4f3_110 rfl rfl (by decide) rfl ?_
    refine x_iload (pc := 113) (i := 5) C 0 dJ6_getChars_ba4f3_113 rfl ?_
    refine x_bipush (pc := 115) (v := 45) C dJ6_getChars_ba4f3_115 (by decide) ?_
    have h18 := hok
    refine x_bastB (pc := 117) (q := 194) C (e_Db hG) (e_Db hG).2 h18 dJ6_getChars_ba4f3_117 ?_
    refine x_nmB (fun B19 eB19 => ?_)
    have hR := nmE hR eB19
    refine x_iload (pc := 118) (i := 5) C 0 dJ6_getChars_ba4f3_118 rfl ?_
    exact x_iretB (pc := 120) C rfl hR dJ6_getChars_ba4f3_120
set_option maxHeartbeats 4000000 in
set_option maxRecDepth 100000 in
theorem t_J6_getChars_ba4f3_D_J12 {p0 : Program} {l : Launch} {e : Env} {s : State} {m : MethodId} {args : Array Value} {below : List Frame} {meth : Method} {c : Code} {A : Nat → Prop} {G : GT} {ad : Nat → Nat} (C : CX p0 l s m args meth c A G ad cJ6_getChars_ba4f3 RJ6 7 (some .int)) (hG : G.2.2.2.2 2 = 2 ∧ G.2.2.2.2 3 = 2) (B : StB) (a0 : Int32) (a5 : Int32) (s0 : Int32) (M : StM) (O : StO)  (R0 : Int32 × StB) (hR : R0 = f_J6_getChars_ba4f3_D_J12 B a0 a5 s0) (hok : ok_J6_getChars_ba4f3_D_J12 B a0 a5 s0) : X p0 l e (rmd 1 0 0) s m args below meth c A G ad 7 0 0 (MQ below (QI G A ad R0.1 R0.2 M O) args s 0 0 A) B M O [(0, .int a0), (2, .ref (ad 194)), (5, .int a5)] 12 [.int s0] := by
  have hR : R0 = (if s0 = 0 then (nm (-a0) (fun (v23 : Int32) => (nm (f_J6_getChars_ba4f3_D_L22 fu B v23 a5 s0) (fun (z24 : Int32 × Int32 × StB) => (nm (sba z24.2.2 194 (ix (z24.2.1 + (-1))) (vp_nar .byte (dgO.getD (ix (-z24.1)) 0))) (fun (B27 : StB) => (if (-9) ≤ z24.1 then (f_J6_getChars_ba4f3_D_J104 B27 (z24.2.1 + (-1)) s0) else (nm (sba B27 194 (ix ((z24.2.1 + (-1)) + (-1))) (vp_nar .byte (dgT.getD (ix (-z24.1)) 0))) (fun (B31 : StB) => (f_J6_getChars_ba4f3_D_J104 B31 ((z24.2.1 + (-1)) + (-1)) s0)))))))))) else (nm (f_J6_getChars_ba4f3_D_L22 fu B a0 a5 s0) (fun (z12 : Int32 × Int32 × StB) => (nm (sba z12.2.2 194 (ix (z12.2.1 + (-1))) (vp_nar .byte (dgO.getD (ix (-z12.1)) 0))) (fun (B15 : StB) => (if (-9) ≤ z12.1 then (f_J6_getChars_ba4f3_D_J104 B15 (z12.2.1 + (-1)) s0) else (nm (sba B15 194 (ix ((z12.2.1 + (-1)) + (-1))) (vp_nar .byte (dgT.getD (ix (-z12.1)) 0))) (fun (B22 : StB) => (f_J6_getChars_ba4f3_D_J104 B22 ((z12.2.1 + (-1)) + (-1)) s0))))))))) := hR
  have hok : ((s0 = 0 → (∀ v23 : Int32, v23 = (-a0) → ((ok_J6_getChars_ba4f3_D_L22 fu B v23 a5 s0) ∧ ∀ z24 : Int32 × Int32 × StB, z24 = f_J6_getChars_ba4f3_D_L22 fu B v23 a5 s0 → (vp_in (-z24.1) 100 ∧ (vp_in (z24.2.1 + (-1)) (ix (bi z24.2.2 194 9)) ∧ (∀ B27 : StB, B27 = (sba z24.2.2 194 (ix (z24.2.1 + (-1))) (vp_nar .byte (dgO.getD (ix (-z24.1)) 0))) → (((-9) ≤ z24.1 → (ok_J6_getChars_ba4f3_D_J104 B27 (z24.2.1 + (-1)) s0)) ∧ (¬ (-9) ≤ z24.1 → (vp_in (-z24.1) 100 ∧ (vp_in ((z24.2.1 + (-1)) + (-1)) (ix (bi B27 194 9)) ∧ (∀ B31 : StB, B31 = (sba B27 194 (ix ((z24.2.1 + (-1)) + (-1))) (vp_nar .byte (dgT.getD (ix (-z24.1)) 0))) → (ok_J6_getChars_ba4f3_D_J104 B31 ((z24.2.1 + (-1)) + (-1)) s0)))))))))))) ∧ (¬ s0 = 0 → ((ok_J6_getChars_ba4f3_D_L22 fu B a0 a5 s0) ∧ ∀ z12 : Int32 × Int32 × StB, z12 = f_J6_getChars_ba4f3_D_L22 fu B a0 a5 s0 → (vp_in (-z12.1) 100 ∧ (vp_in (z12.2.1 + (-1)) (ix (bi z12.2.2 194 9)) ∧ (∀ B15 : StB, B15 = (sba z12.2.2 194 (ix (z12.2.1 + (-1))) (vp_nar .byte (dgO.getD (ix (-z12.1)) 0))) → (((-9) ≤ z12.1 → (ok_J6_getChars_ba4f3_D_J104 B15 (z12.2.1 + (-1)) s0)) ∧ (¬ (-9) ≤ z12.1 → (vp_in (-z12.1) 100 ∧ (vp_in ((z12.2.1 + (-1)) + (-1)) (ix (bi B15 194 9)) ∧ (∀ B22 : StB, B22 = (sba B15 194 (ix ((z12.2.1 + (-1)) + (-1))) (vp_nar .byte (dgT.getD (ix (-z12.1)) 0))) → (ok_J6_getChars_ba4f3_D_J104 B22 ((z12.2.1 + (-1)) + (-1)) s0)))))))))))) := hok
  refine x_istore (pc := 12) (i := 6) (ls2 := [(6, .int s0), (0, .int a0), (2, .ref (ad 194)), (5, .int a5)]) C dJ6_getChars_ba4f3_12 (by decide) rfl ?_
  refine x_iload (pc := 14) (i := 6) C 0 dJ6_getChars_ba4f3_14 rfl ?_
  refine x_if_ne (pc := 16) (tgt := 22) C dJ6_getChars_ba4f3_16 (by decide) (fun c2 => ?_) (fun c2 => ?_)
  · have hR := hR.trans (if_neg c2)
    have hok := hok.2 c2
    refine x_sub [1, 2, 3, 0] (ls2 := [(0, .int a0), (2, .ref (ad 194)), (5, .int a5), (6, .int s0)]) rfl ?_
    obtain ⟨z12, ez12⟩ : ∃ z : Int32 × Int32 × StB, z = f_J6_getChars_ba4f3_D_L22 fu B a0 a5 s0 := ⟨_, rfl⟩
    refine t_J6_getChars_ba4f3_D_L22 C hG fu B a0 a5 s0 M O z12 ez12 hok.1 ?_
    have hR := nmE hR ez12
    have hok := hok.2 z12 ez12
    refine x_aload_n (pc := 72) (i := 2) C 1 dJ6_getChars_ba4f3_72 rfl rfl ?_
    refine x_iinc (pc := 73) (i := 5) (v := (z12.2.1 + (-1))) (ls2 := [(5, .int (z12.2.1 + (-1))), (0, .int z12.1), (2, .ref (ad 194)), (6, .int s0)]) C 2 dJ6_getChars_ba4f3_73 rfl rfl (by decide) rfl ?_
    refine x_iload (pc := 76) (i := 5) C 0 dJ6_getChars_ba4f3_76 rfl ?_
    refine x_getsDO (pc := 78) C wd_5_144 dJ6_getChars_ba4f3_78 ?_
    refine x_iload_n (pc := 81) (i := 0) C 1 dJ6_getChars_ba4f3_81 rfl rfl ?_
    refine x_ineg (pc := 82) C dJ6_getChars_ba4f3_82 ?_
    have h13 := hok.1
    have hok := hok.2
    refine x_baldDO (pc := 83) C h13 dJ6_getChars_ba4f3_83 ?_
    have h14 := hok.1
    have hok := hok.2
    refine x_bastB (pc := 84) (q := 194) C (e_Db hG) (e_Db hG).2 h14 dJ6_getChars_ba4f3_84 ?_
    refine x_nmB (fun B15 eB15 => ?_)
    have hR := nmE hR eB15
    have hok := hok B15 eB15
    refine x_iload_n (pc := 85) (i := 0) C 1 dJ6_getChars_ba4f3_85 rfl rfl ?_
    refine x_bipush (pc := 86) (v := (-9)) C dJ6_getChars_ba4f3_86 (by decide) ?_
    refine x_icmp_ge (pc := 88) (tgt := 104) C dJ6_getChars_ba4f3_88 (by decide) (fun c16 => ?_) (fun c16 => ?_)
    · have hR := hR.trans (if_pos c16)
      have hok := hok.1 c16
      refine x_sub [2, 0, 3] (ls2 := [(2, .ref (ad 194)), (5, .int (z12.2.1 + (-1))), (6, .int s0)]) rfl ?_
      exact t_J6_getChars_ba4f3_D_J104 C hG B15 (z12.2.1 + (-1)) s0 M O _ hR hok
    · have hR := hR.trans (if_neg c16)
      have hok := hok.2 c16
      refine x_aload_n (pc := 91) (i := 2) C 2 dJ6_getChars_ba4f3_91 rfl rfl ?_
      refine x_iinc (pc := 92) (i := 5) (v := ((z12.2.1 + (-1)) + (-1))) (ls2 := [(5, .int ((z12.2.1 + (-1)) + (-1))), (0, .int z12.1), (2, .ref (ad 194)), (6, .int s0)]) C 0 dJ6_getChars_ba4f3_92 rfl rfl (by decide) rfl ?_
      refine x_iload (pc := 95) (i := 5) C 0 dJ6_getChars_ba4f3_95 rfl ?_
      refine x_getsDT (pc := 97) C wd_5_146 dJ6_getChars_ba4f3_97 ?_
      refine x_iload_n (pc := 100) (i := 0) C 1 dJ6_getChars_ba4f3_100 rfl rfl ?_
      refine x_ineg (pc := 101) C dJ6_getChars_ba4f3_101 ?_
      have h20 := hok.1
      have hok := hok.2
      refine x_baldDT (pc := 102) C h20 dJ6_getChars_ba4f3_102 ?_
      have h21 := hok.1
      have hok := hok.2
      refine x_bastB (pc := 103) (q := 194) C (e_Db hG) (e_Db hG).2 h21 dJ6_getChars_ba4f3_103 ?_
      refine x_nmB (fun B22 eB22 => ?_)
      have hR := nmE hR eB22
      have hok := hok B22 eB22
      refine x_sub [2, 0, 3] (ls2 := [(2, .ref (ad 194)), (5, .int ((z12.2.1 + (-1)) + (-1))), (6, .int s0)]) rfl ?_
      exact t_J6_getChars_ba4f3_D_J104 C hG B22 ((z12.2.1 + (-1)) + (-1)) s0 M O _ hR hok
  · have hR := hR.trans (if_pos c2)
    have hok := hok.1 c2
    refine x_iload_n (pc := 19) (i := 0) C 1 dJ6_getChars_ba4f3_19 rfl rfl ?_
    refine x_ineg (pc := 20) C dJ6_getChars_ba4f3_20 ?_
    refine x_nmI (fun v23 ev23 => ?_)
    have hR := nmE hR ev23
    have hok := hok v23 ev23
    refine x_istore_n (pc := 21) (i := 0) (ls2 := [(0, .int v23), (6, .int s0), (2, .ref (ad 194)), (5, .int a5)]) C dJ6_getChars_ba4f3_21 rfl (by decide) rfl ?_
    refine x_sub [0, 2, 3, 1] (ls2 := [(0, .int v23), (2, .ref (ad 194)), (5, .int a5), (6, .int s0)]) rfl ?_
    obtain ⟨z24, ez24⟩ : ∃ z : Int32 × Int32 × StB, z = f_J6_getChars_ba4f3_D_L22 fu B v23 a5 s0 := ⟨_, rfl⟩
    refine t_J6_getChars_ba4f3_D_L22 C hG fu B v23 a5 s0 M O z24 ez24 hok.1 ?_
    have hR := nmE hR ez24
    have hok := hok.2 z24 ez24
    refine x_aload_n (pc := 72) (i := 2) C 1 dJ6_getChars_ba4f3_72 rfl rfl ?_
    refine x_iinc (pc := 73) (i := 5) (v := (z24.2.1 + (-1))) (ls2 := [(5, .int (z24.2.1 + (-1))), (0, .int z24.1), (2, .ref (ad 194)), (6, .int s0)]) C 2 dJ6_getChars_ba4f3_73 rfl rfl (by decide) rfl ?_
    refine x_iload (pc := 76) (i := 5) C 0 dJ6_getChars_ba4f3_76 rfl ?_
    refine x_getsDO (pc := 78) C wd_5_144 dJ6_getChars_ba4f3_78 ?_
    refine x_iload_n (pc := 81) (i := 0) C 1 dJ6_getChars_ba4f3_81 rfl rfl ?_
    refine x_ineg (pc := 82) C dJ6_getChars_ba4f3_82 ?_
    have h25 := hok.1
    have hok := hok.2
    refine x_baldDO (pc := 83) C h25 dJ6_getChars_ba4f3_83 ?_
    have h26 := hok.1
    have hok := hok.2
    refine x_bastB (pc := 84) (q := 194) C (e_Db hG) (e_Db hG).2 h26 dJ6_getChars_ba4f3_84 ?_
    refine x_nmB (fun B27 eB27 => ?_)
    have hR := nmE hR eB27
    have hok := hok B27 eB27
    refine x_iload_n (pc := 85) (i := 0) C 1 dJ6_getChars_ba4f3_85 rfl rfl ?_
    refine x_bipush (pc := 86) (v := (-9)) C dJ6_getChars_ba4f3_86 (by decide) ?_
    refine x_icmp_ge (pc := 88) (tgt := 104) C dJ6_getChars_ba4f3_88 (by decide) (fun c28 => ?_) (fun c28 => ?_)
    · have hR := hR.trans (if_pos c28)
      have hok := hok.1 c28
      refine x_sub [2, 0, 3] (ls2 := [(2, .ref (ad 194)), (5, .int (z24.2.1 + (-1))), (6, .int s0)]) rfl ?_
      exact t_J6_getChars_ba4f3_D_J104 C hG B27 (z24.2.1 + (-1)) s0 M O _ hR hok
    · have hR := hR.trans (if_neg c28)
      have hok := hok.2 c28
      refine x_aload_n (pc := 91) (i := 2) C 2 dJ6_getChars_ba4f3_91 rfl rfl ?_
      refine x_iinc (pc := 92) (i := 5) (v := ((z24.2.1 + (-1)) + (-1))) (ls2 := [(5, .int ((z24.2.1 + (-1)) + (-1))), (0, .int z24.1), (2, .ref (ad 194)), (6, .int s0)]) C 0 dJ6_getChars_ba4f3_92 rfl rfl (by decide) rfl ?_
      refine x_iload (pc := 95) (i := 5) C 0 dJ6_getChars_ba4f3_95 rfl ?_
      refine x_getsDT (pc := 97) C wd_5_146 dJ6_getChars_ba4f3_97 ?_
      refine x_iload_n (pc := 100) (i := 0) C 1 dJ6_getChars_ba4f3_100 rfl rfl ?_
      refine x_ineg (pc := 101) C dJ6_getChars_ba4f3_101 ?_
      have h29 := hok.1
      have hok := hok.2
      refine x_baldDT (pc := 102) C h29 dJ6_getChars_ba4f3_102 ?_
      have h30 := hok.1
      have hok := hok.2
      refine x_bastB (pc := 103) (q := 194) C (e_Db hG) (e_Db hG).2 h30 dJ6_getChars_ba4f3_103 ?_
      refine x_nmB (fun B31 eB31 => ?_)
      have hR := nmE hR eB31
      have hok := hok B31 eB31
      refine x_sub [2, 0, 3] (ls2 := [(2, .ref (ad 194)), (5, .int ((z24.2.1 + (-1)) + (-1))), (6, .int s0)]) rfl ?_
      exact t_J6_getChars_ba4f3_D_J104 C hG B31 ((z24.2.1 + (-1)) + (-1)) s0 M O _ hR hok
set_option maxHeartbeats 4000000 in
set_option maxRecDepth 100000 in
theorem c_J6_getChars_ba4f3_D {l : Launch} {A : Nat → Prop} {G : GT} {ad : Nat → Nat} (gl : Gl l A G ad) (hG : G.2.2.2.2 2 = 2 ∧ G.2.2.2.2 3 = 2) (B : StB) (M : StM) (O : StO) (x0 : Int32) (x1 : Int32) (hok : ok_J6_getChars_ba4f3_D B x0 x1) : Met l yJ6_getChars_ba4f3 (wof yJ6_getChars_ba4f3 cJ6_getChars_ba4f3 7 (some .int)) (rmd 1 0 0) (va_Pc [.int x0, .int x1, .ref (ad 194)] (PW G A ad B M O)) (QI G A ad (f_J6_getChars_ba4f3_D B x0 x1).1 (f_J6_getChars_ba4f3_D B x0 x1).2 M O) 0 0 A := by
  refine x_bodyF (own := RJ6) (by decide +kernel) rfl gl (Nat.le_of_ble_eq_true rfl) (ls := [(0, .int x0), (1, .int x1), (2, .ref (ad 194))]) rfl ?_
  intro p0 e s m args below meth c C
  have hR : (f_J6_getChars_ba4f3_D B x0 x1) = (if 0 ≤ x0 then (f_J6_getChars_ba4f3_D_J12 B x0 x1 0) else (f_J6_getChars_ba4f3_D_J12 B x0 x1 1)) := rfl
  have hok : ((0 ≤ x0 → (ok_J6_getChars_ba4f3_D_J12 B x0 x1 0)) ∧ (¬ 0 ≤ x0 → (ok_J6_getChars_ba4f3_D_J12 B x0 x1 1))) := hok
  refine x_iload_n (pc := 0) (i := 1) C 1 dJ6_getChars_ba4f3_0 rfl rfl ?_
  refine x_istore (pc := 1) (i := 5) (ls2 := [(5, .int x1), (0, .int x0), (1, .int x1), (2, .ref (ad 194))]) C dJ6_getChars_ba4f3_1 (by decide) rfl ?_
  refine x_iload_n (pc := 3) (i := 0) C 1 dJ6_getChars_ba4f3_3 rfl rfl ?_
  refine x_if_ge (pc := 4) (tgt := 11) C dJ6_getChars_ba4f3_4 (by decide) (fun c1 => ?_) (fun c1 => ?_)
  · have hR := hR.trans (if_pos c1)
    have hok := hok.1 c1
    refine x_iconst (pc := 11) (v := 0) C dJ6_getChars_ba4f3_11 (by decide) ?_
    refine x_sub [1, 3, 0] (ls2 := [(0, .int x0), (2, .ref (ad 194)), (5, .int x1)]) rfl ?_
    exact t_J6_getChars_ba4f3_D_J12 C hG B x0 x1 0 M O _ hR hok
  · have hR := hR.trans (if_neg c1)
    have hok := hok.2 c1
    refine x_iconst (pc := 7) (v := 1) C dJ6_getChars_ba4f3_7 (by decide) ?_
    refine x_goto (pc := 8) (tgt := 12) C dJ6_getChars_ba4f3_8 (by decide) ?_
    refine x_sub [1, 3, 0] (ls2 := [(0, .int x0), (2, .ref (ad 194)), (5, .int x1)]) rfl ?_
    exact t_J6_getChars_ba4f3_D_J12 C hG B x0 x1 1 M O _ hR hok
set_option maxHeartbeats 4000000 in
set_option maxRecDepth 100000 in
theorem c_J0_coder_7d493_W {l : Launch} {A : Nat → Prop} {G : GT} {ad : Nat → Nat} (gl : Gl l A G ad) (hG : G.2.2.2.2 2 = 3 ∧ G.2.2.2.2 3 = 2) (B : StB) (M : StM) (O : StO)  : Met l yJ0_coder_7d493 (wof yJ0_coder_7d493 cJ0_coder_7d493 1 (some .byte)) (rmd 1 0 0) (va_Pc [.ref (ad 193)] (PW G A ad B M O)) (QI G A ad (f_J0_coder_7d493_W B) B M O) 0 0 A := by
  refine x_bodyF (own := RJ0) (by decide +kernel) rfl gl (Nat.le_of_ble_eq_true rfl) (ls := [(0, .ref (ad 193))]) rfl ?_
  intro p0 e s m args below meth c C
  have hR : (f_J0_coder_7d493_W B) = 0 := rfl
  refine x_getsC (pc := 0) C wd_3_213 dJ0_coder_7d493_0 ?_
  refine x_if_eq (pc := 3) (tgt := 13) C dJ0_coder_7d493_3 (by decide) (fun hf => absurd hf (by decide)) (fun _ => ?_)
  refine x_aload_n (pc := 6) (i := 0) C 0 dJ0_coder_7d493_6 rfl rfl ?_
  refine x_get (pc := 7) (q := 193) (i := 1) C (e_W hG) rfl ttJ0 (by decide) wd_5_213 rfl dJ0_coder_7d493_7 ?_
  refine x_goto (pc := 10) (tgt := 14) C dJ0_coder_7d493_10 (by decide) ?_
  exact x_zret (pc := 14) C rfl (by decide) hR dJ0_coder_7d493_14
set_option maxHeartbeats 4000000 in
set_option maxRecDepth 100000 in
theorem c_J0_isLatin1_aae02_W {l : Launch} {A : Nat → Prop} {G : GT} {ad : Nat → Nat} (gl : Gl l A G ad) (hG : G.2.2.2.2 2 = 3 ∧ G.2.2.2.2 3 = 2) (B : StB) (M : StM) (O : StO)  : Met l yJ0_isLatin1_aae02 (wof yJ0_isLatin1_aae02 cJ0_isLatin1_aae02 1 (some .boolean)) (rmd 1 0 0) (va_Pc [.ref (ad 193)] (PW G A ad B M O)) (QI G A ad (f_J0_isLatin1_aae02_W B) B M O) 0 0 A := by
  refine x_bodyF (own := RJ0) (by decide +kernel) rfl gl (Nat.le_of_ble_eq_true rfl) (ls := [(0, .ref (ad 193))]) rfl ?_
  intro p0 e s m args below meth c C
  have hR : (f_J0_isLatin1_aae02_W B) = 1 := rfl
  refine x_getsC (pc := 0) C wd_3_213 dJ0_isLatin1_aae02_0 ?_
  refine x_if_eq (pc := 3) (tgt := 17) C dJ0_isLatin1_aae02_3 (by decide) (fun hf => absurd hf (by decide)) (fun _ => ?_)
  refine x_aload_n (pc := 6) (i := 0) C 0 dJ0_isLatin1_aae02_6 rfl rfl ?_
  refine x_get (pc := 7) (q := 193) (i := 1) C (e_W hG) rfl ttJ0 (by decide) wd_5_213 rfl dJ0_isLatin1_aae02_7 ?_
  refine x_if_ne (pc := 10) (tgt := 17) C dJ0_isLatin1_aae02_10 (by decide) (fun hf => absurd hf (by decide)) (fun _ => ?_)
  refine x_iconst (pc := 13) (v := 1) C dJ0_isLatin1_aae02_13 (by decide) ?_
  refine x_goto (pc := 14) (tgt := 18) C dJ0_isLatin1_aae02_14 (by decide) ?_
  exact x_zret (pc := 18) C rfl (by decide) hR dJ0_isLatin1_aae02_18
set_option maxHeartbeats 4000000 in
set_option maxRecDepth 100000 in
theorem c_J1_charAt_3b067_W {l : Launch} {A : Nat → Prop} {G : GT} {ad : Nat → Nat} (gl : Gl l A G ad) (hG : G.2.2.2.2 2 = 3 ∧ G.2.2.2.2 3 = 2) (B : StB) (M : StM) (O : StO) (x1 : Int32) (hok : ok_J1_charAt_3b067_W B x1) : Met l yJ1_charAt_3b067 (wof yJ1_charAt_3b067 cJ1_charAt_3b067 2 (some .char)) (rmd 3 0 0) (va_Pc [.ref (ad 194), .int x1] (PW G A ad B M O)) (QI G A ad (f_J1_charAt_3b067_W B x1) B M O) 0 0 A := by
  refine x_bodyF (own := RJ1) (by decide +kernel) rfl gl (Nat.le_of_ble_eq_true rfl) (ls := [(0, .ref (ad 194)), (1, .int x1)]) rfl ?_
  intro p0 e s m args below meth c C
  have hR : (f_J1_charAt_3b067_W B x1) = (Int32.toUInt32 ((ba B 194 (ix x1)) &&& 255) % 65536).toInt32 := rfl
  have hok : ((ok_J0_checkIndex_df160 x1 (Int32.ofNat (ix (bi B 194 9)))) ∧ (vp_in x1 (ix (bi B 194 9)) ∧ (narrow .char (.int ((Int32.toUInt32 ((ba B 194 (ix x1)) &&& 255) % 65536).toInt32)) = .int ((Int32.toUInt32 ((ba B 194 (ix x1)) &&& 255) % 65536).toInt32)))) := hok
  refine x_iload_n (pc := 0) (i := 1) C 1 dJ1_charAt_3b067_0 rfl rfl ?_
  refine x_aload_n (pc := 1) (i := 0) C 0 dJ1_charAt_3b067_1 rfl rfl ?_
  refine x_alen (pc := 2) (q := 194) (t0 := 0) C (e_Wv hG) rfl dJ1_charAt_3b067_2 ?_
  have h1 := hok.1
  have hok := hok.2
  refine x_cVS (pc := 3) (as := [.int x1, .int (Int32.ofNat (ix (bi B 194 9)))]) C (c_J0_checkIndex_df160 C.2.2.2.2.2.2.2.1  B M O x1 (Int32.ofNat (ix (bi B 194 9))) h1) wd_4_61 cd_J0_checkIndex_df160 wd_4_60 ⟨Nat.le_of_ble_eq_true rfl, Nat.le_of_ble_eq_true rfl⟩ ⟨Nat.le_of_ble_eq_true rfl, Nat.le_of_ble_eq_true rfl⟩ rfl rfl (Nat.le_of_ble_eq_true rfl) dJ1_charAt_3b067_3 ?_
  refine x_aload_n (pc := 6) (i := 0) C 0 dJ1_charAt_3b067_6 rfl rfl ?_
  refine x_iload_n (pc := 7) (i := 1) C 1 dJ1_charAt_3b067_7 rfl rfl ?_
  have h2 := hok.1
  have hok := hok.2
  refine x_bald (pc := 8) (q := 194) C (e_Wv hG) h2 dJ1_charAt_3b067_8 ?_
  refine x_sipush (pc := 9) (v := 255) C dJ1_charAt_3b067_9 (by decide) ?_
  refine x_iand (pc := 12) C dJ1_charAt_3b067_12 ?_
  refine x_i2c (pc := 13) C dJ1_charAt_3b067_13 ?_
  have h3 := hok
  exact x_zret (pc := 14) C rfl h3 hR dJ1_charAt_3b067_14
set_option maxHeartbeats 4000000 in
set_option maxRecDepth 100000 in
theorem c_J4_length_8abf5 {l : Launch} {A : Nat → Prop} {G : GT} {ad : Nat → Nat} (gl : Gl l A G ad)  (B : StB) (M : StM) (O : StO)  : Met l yJ4_length_8abf5 (wof yJ4_length_8abf5 cJ4_length_8abf5 1 (some .int)) (rmd 2 0 0) (va_Pc [.ref (ad 191)] (PW G A ad B M O)) (QI G A ad (f_J4_length_8abf5 B) B M O) 0 0 A := by
  refine x_bodyF (own := RJ4) (by decide +kernel) rfl gl (Nat.le_of_ble_eq_true rfl) (ls := [(0, .ref (ad 191))]) rfl ?_
  intro p0 e s m args below meth c C
  have hR : (f_J4_length_8abf5 B) = (nm (f_J5_length_8abf5 B) (fun (r1 : Int32) => r1)) := rfl
  refine x_aload_n (pc := 0) (i := 0) C 0 dJ4_length_8abf5_0 rfl rfl ?_
  refine x_cISU (pc := 1) (as := []) (q := 191) C (c_J5_length_8abf5 C.2.2.2.2.2.2.2.1  B M O ) (fs := _) e_B rfl cu_J5_length_8abf5 cd_J5_length_8abf5 wd_5_179 ⟨Nat.le_of_ble_eq_true rfl, Nat.le_of_ble_eq_true rfl⟩ ⟨Nat.le_of_ble_eq_true rfl, Nat.le_of_ble_eq_true rfl⟩ rfl rfl (Nat.le_of_ble_eq_true rfl) dJ4_length_8abf5_1 ?_
  refine x_nmI (fun r1 er1 => ?_)
  have hR := nmE hR er1
  exact x_iret (pc := 4) C rfl hR dJ4_length_8abf5_4
set_option maxHeartbeats 4000000 in
set_option maxRecDepth 100000 in
theorem c_J4_charAt_5068e {l : Launch} {A : Nat → Prop} {G : GT} {ad : Nat → Nat} (gl : Gl l A G ad)  (B : StB) (M : StM) (O : StO) (x0 : Int32) (hok : ok_J4_charAt_5068e B x0) : Met l yJ4_charAt_5068e (wof yJ4_charAt_5068e cJ4_charAt_5068e 2 (some .char)) (rmd 4 0 0) (va_Pc [.ref (ad 191), .int x0] (PW G A ad B M O)) (QI G A ad (f_J4_charAt_5068e B x0) B M O) 0 0 A := by
  refine x_bodyF (own := RJ4) (by decide +kernel) rfl gl (Nat.le_of_ble_eq_true rfl) (ls := [(0, .ref (ad 191)), (1, .int x0)]) rfl ?_
  intro p0 e s m args below meth c C
  have hR : (f_J4_charAt_5068e B x0) = (nm (f_J5_charAt_5068e B x0) (fun (r2 : Int32) => r2)) := rfl
  have hok : ((ok_J5_charAt_5068e B x0) ∧ (∀ r2 : Int32, r2 = (f_J5_charAt_5068e B x0) → (narrow .char (.int r2) = .int r2))) := hok
  refine x_aload_n (pc := 0) (i := 0) C 0 dJ4_charAt_5068e_0 rfl rfl ?_
  refine x_iload_n (pc := 1) (i := 1) C 1 dJ4_charAt_5068e_1 rfl rfl ?_
  have h1 := hok.1
  have hok := hok.2
  refine x_cISU (pc := 2) (as := [.int x0]) (q := 191) C (c_J5_charAt_5068e C.2.2.2.2.2.2.2.1  B M O x0 h1) (fs := _) e_B rfl cu_J5_charAt_5068e cd_J5_charAt_5068e wd_6_51 ⟨Nat.le_of_ble_eq_true rfl, Nat.le_of_ble_eq_true rfl⟩ ⟨Nat.le_of_ble_eq_true rfl, Nat.le_of_ble_eq_true rfl⟩ rfl rfl (Nat.le_of_ble_eq_true rfl) dJ4_charAt_5068e_2 ?_
  refine x_nmI (fun r2 er2 => ?_)
  have hR := nmE hR er2
  have hok := hok r2 er2
  have h3 := hok
  exact x_zret (pc := 5) C rfl h3 hR dJ4_charAt_5068e_5
set_option maxHeartbeats 4000000 in
set_option maxRecDepth 100000 in
theorem c_J5_setLength_d00df {l : Launch} {A : Nat → Prop} {G : GT} {ad : Nat → Nat} (gl : Gl l A G ad)  (B : StB) (M : StM) (O : StO) (x0 : Int32) (hok : ok_J5_setLength_d00df B x0) : Met l yJ5_setLength_d00df (wof yJ5_setLength_d00df cJ5_setLength_d00df 2 none) (rmd 2 0 0) (va_Pc [.ref (ad 191), .int x0] (PW G A ad B M O)) (QV G A ad (f_J5_setLength_d00df B x0) M O) 0 0 A := by
  refine x_bodyF (own := RJ5) (by decide +kernel) rfl gl (Nat.le_of_ble_eq_true rfl) (ls := [(0, .ref (ad 191)), (1, .int x0)]) rfl ?_
  intro p0 e s m args below meth c C
  have hR : (f_J5_setLength_d00df B x0) = (nm (f_J5_ensureCapacityInternal_d00df B x0) (fun (B3 : StB) => (if (bi B3 191 3) ≤ x0 then (nm (sbi B3 191 3 x0) (fun (B6 : StB) => B6)) else (nm (sbi B3 191 2 1) (fun (B7 : StB) => (nm (sbi B7 191 3 x0) (fun (B8 : StB) => B8))))))) := rfl
  have hok : ((0 ≤ x0) ∧ ((ok_J5_ensureCapacityInternal_d00df B x0) ∧ (∀ B3 : StB, B3 = (f_J5_ensureCapacityInternal_d00df B x0) → (x0 ≤ (bi B3 191 3))))) := hok
  refine x_iload_n (pc := 0) (i := 1) C 1 dJ5_setLength_d00df_0 rfl rfl ?_
  have c1 := hok.1
  have hok := hok.2
  refine x_if_ge (pc := 1) (tgt := 13) C dJ5_setLength_d00df_1 (by decide) (fun _ => ?_) (fun z => absurd c1 z)
  refine x_aload_n (pc := 13) (i := 0) C 0 dJ5_setLength_d00df_13 rfl rfl ?_
  refine x_iload_n (pc := 14) (i := 1) C 1 dJ5_setLength_d00df_14 rfl rfl ?_
  have h2 := hok.1
  have hok := hok.2
  refine x_cVVU (pc := 15) (as := [.int x0]) (q := 191) C (c_J5_ensureCapacityInternal_d00df C.2.2.2.2.2.2.2.1  B M O x0 h2) (fs := _) e_B rfl (sel_ens C) wd_5_56 cd_J5_ensureCapacityInternal_d00df wd_5_54 ⟨Nat.le_of_ble_eq_true rfl, Nat.le_of_ble_eq_true rfl⟩ ⟨Nat.le_of_ble_eq_true rfl, Nat.le_of_ble_eq_true rfl⟩ rfl rfl (Nat.le_of_ble_eq_true rfl) dJ5_setLength_d00df_15 ?_
  refine x_nmB (fun B3 eB3 => ?_)
  have hR := nmE hR eB3
  have hok := hok B3 eB3
  refine x_aload_n (pc := 18) (i := 0) C 0 dJ5_setLength_d00df_18 rfl rfl ?_
  refine x_get (pc := 19) (q := 191) (i := 3) C e_B rfl ttJ4 (by decide) wd_2_17 rfl dJ5_setLength_d00df_19 ?_
  refine x_iload_n (pc := 22) (i := 1) C 1 dJ5_setLength_d00df_22 rfl rfl ?_
  have c4 := hok
  refine x_icmp_ge (pc := 23) (tgt := 63) C dJ5_setLength_d00df_23 (by decide) (fun _ => ?_) (fun z => absurd c4 z)
  refine x_aload_n (pc := 63) (i := 0) C 0 dJ5_setLength_d00df_63 rfl rfl ?_
  refine x_get (pc := 64) (q := 191) (i := 3) C e_B rfl ttJ4 (by decide) wd_2_17 rfl dJ5_setLength_d00df_64 ?_
  refine x_iload_n (pc := 67) (i := 1) C 1 dJ5_setLength_d00df_67 rfl rfl ?_
  refine x_icmp_le (pc := 68) (tgt := 76) C dJ5_setLength_d00df_68 (by decide) (fun c5 => ?_) (fun c5 => ?_)
  · have hR := hR.trans (if_pos c5)
    refine x_aload_n (pc := 76) (i := 0) C 0 dJ5_setLength_d00df_76 rfl rfl ?_
    refine x_iload_n (pc := 77) (i := 1) C 1 dJ5_setLength_d00df_77 rfl rfl ?_
    refine x_put (pc := 78) (B2 := (sbi B3 191 3 x0)) (M2 := M) (O2 := O) (q := 191) (i := 3) C tyJ4 tyJ4_ok nmJ4 e_B rfl ttJ4 (by decide) wd_2_17 rfl rfl rfl (Nat.le_of_ble_eq_true rfl) dJ5_setLength_d00df_78 (put_B_3 ) (o_sbi 191 3 x0) ?_
    refine x_nmB (fun B6 eB6 => ?_)
    have hR := nmE hR eB6
    exact x_vretB (pc := 81) C rfl hR dJ5_setLength_d00df_81
  · have hR := hR.trans (if_neg c5)
    refine x_aload_n (pc := 71) (i := 0) C 0 dJ5_setLength_d00df_71 rfl rfl ?_
    refine x_iconst (pc := 72) (v := 1) C dJ5_setLength_d00df_72 (by decide) ?_
    refine x_put (pc := 73) (B2 := (sbi B3 191 2 1)) (M2 := M) (O2 := O) (q := 191) (i := 2) C tyJ4 tyJ4_ok nmJ4 e_B rfl ttJ4 (by decide) wd_2_15 rfl (by decide) (by decide) (Nat.le_of_ble_eq_true rfl) dJ5_setLength_d00df_73 (put_B_2 ) (o_sbi 191 2 1) ?_
    refine x_nmB (fun B7 eB7 => ?_)
    have hR := nmE hR eB7
    refine x_aload_n (pc := 76) (i := 0) C 0 dJ5_setLength_d00df_76 rfl rfl ?_
    refine x_iload_n (pc := 77) (i := 1) C 1 dJ5_setLength_d00df_77 rfl rfl ?_
    refine x_put (pc := 78) (B2 := (sbi B7 191 3 x0)) (M2 := M) (O2 := O) (q := 191) (i := 3) C tyJ4 tyJ4_ok nmJ4 e_B rfl ttJ4 (by decide) wd_2_17 rfl rfl rfl (Nat.le_of_ble_eq_true rfl) dJ5_setLength_d00df_78 (put_B_3 ) (o_sbi 191 3 x0) ?_
    refine x_nmB (fun B8 eB8 => ?_)
    have hR := nmE hR eB8
    exact x_vretB (pc := 81) C rfl hR dJ5_setLength_d00df_81
set_option maxHeartbeats 4000000 in
set_option maxRecDepth 100000 in
theorem c_J5_append_3fe6f {l : Launch} {A : Nat → Prop} {G : GT} {ad : Nat → Nat} (gl : Gl l A G ad)  (B : StB) (M : StM) (O : StO) (x0 : Int32) (hok : ok_J5_append_3fe6f B x0) : Met l yJ5_append_3fe6f (wof yJ5_append_3fe6f cJ5_append_3fe6f 2 (some (.object "java/lang/AbstractStringBuilder"))) (rmd 2 0 0) (va_Pc [.ref (ad 191), .int x0] (PW G A ad B M O)) (QR G A ad (ad 191) (f_J5_append_3fe6f B x0) M O) 0 0 A := by
  refine x_bodyF (own := RJ5) (by decide +kernel) rfl gl (Nat.le_of_ble_eq_true rfl) (ls := [(0, .ref (ad 191)), (1, .int x0)]) rfl ?_
  intro p0 e s m args below meth c C
  have hR : (f_J5_append_3fe6f B x0) = (nm (f_J5_ensureCapacityInternal_d00df B ((bi B 191 3) + 1)) (fun (B2 : StB) => (nm (f_J5_isLatin1_aae02 B2) (fun (r3 : Int32) => (nm (f_J1_canEncode_fc78d x0) (fun (r5 : Int32) => (nm (sbi B2 191 3 ((bi B2 191 3) + 1)) (fun (B7 : StB) => (nm (sba B7 192 (ix (bi B2 191 3)) (vp_nar .byte ((Int32.toInt8 x0).toInt32))) (fun (B9 : StB) => B9)))))))))) := rfl
  have hok : ((ok_J5_ensureCapacityInternal_d00df B ((bi B 191 3) + 1)) ∧ (∀ B2 : StB, B2 = (f_J5_ensureCapacityInternal_d00df B ((bi B 191 3) + 1)) → (∀ r3 : Int32, r3 = (f_J5_isLatin1_aae02 B2) → ((¬ r3 = 0) ∧ (∀ r5 : Int32, r5 = (f_J1_canEncode_fc78d x0) → ((¬ r5 = 0) ∧ (∀ B7 : StB, B7 = (sbi B2 191 3 ((bi B2 191 3) + 1)) → (vp_in (bi B2 191 3) (bz B7))))))))) := hok
  refine x_aload_n (pc := 0) (i := 0) C 0 dJ5_append_3fe6f_0 rfl rfl ?_
  refine x_aload_n (pc := 1) (i := 0) C 0 dJ5_append_3fe6f_1 rfl rfl ?_
  refine x_get (pc := 2) (q := 191) (i := 3) C e_B rfl ttJ4 (by decide) wd_2_17 rfl dJ5_append_3fe6f_2 ?_
  refine x_iconst (pc := 5) (v := 1) C dJ5_append_3fe6f_5 (by decide) ?_
  refine x_iadd (pc := 6) C dJ5_append_3fe6f_6 ?_
  have h1 := hok.1
  have hok := hok.2
  refine x_cVVU (pc := 7) (as := [.int ((bi B 191 3) + 1)]) (q := 191) C (c_J5_ensureCapacityInternal_d00df C.2.2.2.2.2.2.2.1  B M O ((bi B 191 3) + 1) h1) (fs := _) e_B rfl (sel_ens C) wd_5_56 cd_J5_ensureCapacityInternal_d00df wd_5_54 ⟨Nat.le_of_ble_eq_true rfl, Nat.le_of_ble_eq_true rfl⟩ ⟨Nat.le_of_ble_eq_true rfl, Nat.le_of_ble_eq_true rfl⟩ rfl rfl (Nat.le_of_ble_eq_true rfl) dJ5_append_3fe6f_7 ?_
  refine x_nmB (fun B2 eB2 => ?_)
  have hR := nmE hR eB2
  have hok := hok B2 eB2
  refine x_aload_n (pc := 10) (i := 0) C 0 dJ5_append_3fe6f_10 rfl rfl ?_
  refine x_cIVU (pc := 11) (as := []) (q := 191) C (c_J5_isLatin1_aae02 C.2.2.2.2.2.2.2.1  B2 M O ) (fs := _) e_B rfl (sel_isL C) wd_5_86 cd_J5_isLatin1_aae02 wd_5_85 ⟨Nat.le_of_ble_eq_true rfl, Nat.le_of_ble_eq_true rfl⟩ ⟨Nat.le_of_ble_eq_true rfl, Nat.le_of_ble_eq_true rfl⟩ rfl rfl (Nat.le_of_ble_eq_true rfl) dJ5_append_3fe6f_11 ?_
  refine x_nmI (fun r3 er3 => ?_)
  have hR := nmE hR er3
  have hok := hok r3 er3
  have c4 := hok.1
  have hok := hok.2
  refine x_if_eq (pc := 14) (tgt := 45) C dJ5_append_3fe6f_14 (by decide) (fun z => absurd z c4) (fun _ => ?_)
  refine x_iload_n (pc := 17) (i := 1) C 1 dJ5_append_3fe6f_17 rfl rfl ?_
  refine x_cIS (pc := 18) (as := [.int x0]) C (c_J1_canEncode_fc78d C.2.2.2.2.2.2.2.1  B2 M O x0) wd_6_23 cd_J1_canEncode_fc78d wd_6_22 ⟨Nat.le_of_ble_eq_true rfl, Nat.le_of_ble_eq_true rfl⟩ ⟨Nat.le_of_ble_eq_true rfl, Nat.le_of_ble_eq_true rfl⟩ rfl rfl (Nat.le_of_ble_eq_true rfl) dJ5_append_3fe6f_18 ?_
  refine x_nmI (fun r5 er5 => ?_)
  have hR := nmE hR er5
  have hok := hok r5 er5
  have c6 := hok.1
  have hok := hok.2
  refine x_if_eq (pc := 21) (tgt := 45) C dJ5_append_3fe6f_21 (by decide) (fun z => absurd z c6) (fun _ => ?_)
  refine x_aload_n (pc := 24) (i := 0) C 0 dJ5_append_3fe6f_24 rfl rfl ?_
  refine x_get (pc := 25) (q := 191) (i := 0) C e_B rfl ttJ4 (by decide) wd_2_13 rfl dJ5_append_3fe6f_25 ?_
  refine x_aload_n (pc := 28) (i := 0) C 0 dJ5_append_3fe6f_28 rfl rfl ?_
  refine x_dup (pc := 29) C dJ5_append_3fe6f_29 rfl ?_
  refine x_get (pc := 30) (q := 191) (i := 3) C e_B rfl ttJ4 (by decide) wd_2_17 rfl dJ5_append_3fe6f_30 ?_
  refine x_dup_x1 (pc := 33) C dJ5_append_3fe6f_33 rfl rfl ?_
  refine x_iconst (pc := 34) (v := 1) C dJ5_append_3fe6f_34 (by decide) ?_
  refine x_iadd (pc := 35) C dJ5_append_3fe6f_35 ?_
  refine x_put (pc := 36) (B2 := (sbi B2 191 3 ((bi B2 191 3) + 1))) (M2 := M) (O2 := O) (q := 191) (i := 3) C tyJ4 tyJ4_ok nmJ4 e_B rfl ttJ4 (by decide) wd_2_17 rfl rfl rfl (Nat.le_of_ble_eq_true rfl) dJ5_append_3fe6f_36 (put_B_3 ) (o_sbi 191 3 ((bi B2 191 3) + 1)) ?_
  refine x_nmB (fun B7 eB7 => ?_)
  have hR := nmE hR eB7
  have hok := hok B7 eB7
  refine x_iload_n (pc := 39) (i := 1) C 1 dJ5_append_3fe6f_39 rfl rfl ?_
  refine x_i2b (pc := 40) C dJ5_append_3fe6f_40 ?_
  have h8 := hok
  refine x_bastB (pc := 41) (q := 192) C e_Bb e_Bb.2 h8 dJ5_append_3fe6f_41 ?_
  refine x_nmB (fun B9 eB9 => ?_)
  have hR := nmE hR eB9
  refine x_goto (pc := 42) (tgt := 75) C dJ5_append_3fe6f_42 (by decide) ?_
  refine x_aload_n (pc := 75) (i := 0) C 0 dJ5_append_3fe6f_75 rfl rfl ?_
  exact x_rretB (pc := 76) C rfl hR dJ5_append_3fe6f_76
set_option maxHeartbeats 4000000 in
set_option maxRecDepth 100000 in
theorem t_J5_append_c97b9_J48 {p0 : Program} {l : Launch} {e : Env} {s : State} {m : MethodId} {args : Array Value} {below : List Frame} {meth : Method} {c : Code} {A : Nat → Prop} {G : GT} {ad : Nat → Nat} (C : CX p0 l s m args meth c A G ad cJ5_append_c97b9 RJ5 4 (some (.object "java/lang/AbstractStringBuilder")))  (B : StB) (a3 : Int32) (M : StM) (O : StO)  (R0 : StB) (hR : R0 = f_J5_append_c97b9_J48 B a3) : X p0 l e (rmd 2 0 0) s m args below meth c A G ad 4 0 0 (MQ below (QR G A ad (ad 191) R0 M O) args s 0 0 A) B M O [(0, .ref (ad 191)), (3, .int a3)] 48 [] := by
  have hR : R0 = (nm (sbi B 191 3 a3) (fun (B11 : StB) => B11)) := hR
  refine x_aload_n (pc := 48) (i := 0) C 0 dJ5_append_c97b9_48 rfl rfl ?_
  refine x_iload_n (pc := 49) (i := 3) C 1 dJ5_append_c97b9_49 rfl rfl ?_
  refine x_put (pc := 50) (B2 := (sbi B 191 3 a3)) (M2 := M) (O2 := O) (q := 191) (i := 3) C tyJ4 tyJ4_ok nmJ4 e_B rfl ttJ4 (by decide) wd_2_17 rfl rfl rfl (Nat.le_of_ble_eq_true rfl) dJ5_append_c97b9_50 (put_B_3 ) (o_sbi 191 3 a3) ?_
  refine x_nmB (fun B11 eB11 => ?_)
  have hR := nmE hR eB11
  refine x_aload_n (pc := 53) (i := 0) C 0 dJ5_append_c97b9_53 rfl rfl ?_
  exact x_rretB (pc := 54) C rfl hR dJ5_append_c97b9_54
set_option maxHeartbeats 4000000 in
set_option maxRecDepth 100000 in
theorem c_J5_append_c97b9 {l : Launch} {A : Nat → Prop} {G : GT} {ad : Nat → Nat} (gl : Gl l A G ad)  (B : StB) (M : StM) (O : StO) (x0 : Int32) (hok : ok_J5_append_c97b9 B x0) : Met l yJ5_append_c97b9 (wof yJ5_append_c97b9 cJ5_append_c97b9 4 (some (.object "java/lang/AbstractStringBuilder"))) (rmd 2 0 0) (va_Pc [.ref (ad 191), .int x0] (PW G A ad B M O)) (QR G A ad (ad 191) (f_J5_append_c97b9 B x0) M O) 0 0 A := by
  refine x_bodyF (own := RJ5) (by decide +kernel) rfl gl (Nat.le_of_ble_eq_true rfl) (ls := [(0, .ref (ad 191)), (1, .int x0)]) rfl ?_
  intro p0 e s m args below meth c C
  have hR : (f_J5_append_c97b9 B x0) = (nm (bi B 191 3) (fun (v1 : Int32) => (nm (f_J6_stringSize_0f7a4 x0) (fun (r3 : Int32) => (nm (v1 + r3) (fun (v4 : Int32) => (nm (f_J5_ensureCapacityInternal_d00df B v4) (fun (B6 : StB) => (nm (f_J5_isLatin1_aae02 B6) (fun (r7 : Int32) => (nm (f_J6_getChars_ba4f3 B6 x0 v4) (fun (z10 : Int32 × StB) => (f_J5_append_c97b9_J48 z10.2 v4))))))))))))) := rfl
  have hok : (∀ v1 : Int32, v1 = (bi B 191 3) → ((ok_J6_stringSize_0f7a4 x0) ∧ (∀ r3 : Int32, r3 = (f_J6_stringSize_0f7a4 x0) → (∀ v4 : Int32, v4 = (v1 + r3) → ((ok_J5_ensureCapacityInternal_d00df B v4) ∧ (∀ B6 : StB, B6 = (f_J5_ensureCapacityInternal_d00df B v4) → (∀ r7 : Int32, r7 = (f_J5_isLatin1_aae02 B6) → ((¬ r7 = 0) ∧ ((ok_J6_getChars_ba4f3 B6 x0 v4)))))))))) := hok
  refine x_aload_n (pc := 0) (i := 0) C 0 dJ5_append_c97b9_0 rfl rfl ?_
  refine x_get (pc := 1) (q := 191) (i := 3) C e_B rfl ttJ4 (by decide) wd_2_17 rfl dJ5_append_c97b9_1 ?_
  refine x_nmI (fun v1 ev1 => ?_)
  have hR := nmE hR ev1
  have hok := hok v1 ev1
  refine x_istore_n (pc := 4) (i := 2) (ls2 := [(2, .int v1), (0, .ref (ad 191)), (1, .int x0)]) C dJ5_append_c97b9_4 rfl (by decide) rfl ?_
  refine x_iload_n (pc := 5) (i := 2) C 0 dJ5_append_c97b9_5 rfl rfl ?_
  refine x_iload_n (pc := 6) (i := 1) C 2 dJ5_append_c97b9_6 rfl rfl ?_
  have h2 := hok.1
  have hok := hok.2
  refine x_cIS (pc := 7) (as := [.int x0]) C (c_J6_stringSize_0f7a4 C.2.2.2.2.2.2.2.1  B M O x0 h2) wd_5_139 cd_J6_stringSize_0f7a4 wd_5_138 ⟨Nat.le_of_ble_eq_true rfl, Nat.le_of_ble_eq_true rfl⟩ ⟨Nat.le_of_ble_eq_true rfl, Nat.le_of_ble_eq_true rfl⟩ rfl rfl (Nat.le_of_ble_eq_true rfl) dJ5_append_c97b9_7 ?_
  refine x_nmI (fun r3 er3 => ?_)
  have hR := nmE hR er3
  have hok := hok r3 er3
  refine x_iadd (pc := 10) C dJ5_append_c97b9_10 ?_
  refine x_nmI (fun v4 ev4 => ?_)
  have hR := nmE hR ev4
  have hok := hok v4 ev4
  refine x_istore_n (pc := 11) (i := 3) (ls2 := [(3, .int v4), (2, .int v1), (0, .ref (ad 191)), (1, .int x0)]) C dJ5_append_c97b9_11 rfl (by decide) rfl ?_
  refine x_aload_n (pc := 12) (i := 0) C 2 dJ5_append_c97b9_12 rfl rfl ?_
  refine x_iload_n (pc := 13) (i := 3) C 0 dJ5_append_c97b9_13 rfl rfl ?_
  have h5 := hok.1
  have hok := hok.2
  refine x_cVVU (pc := 14) (as := [.int v4]) (q := 191) C (c_J5_ensureCapacityInternal_d00df C.2.2.2.2.2.2.2.1  B M O v4 h5) (fs := _) e_B rfl (sel_ens C) wd_5_56 cd_J5_ensureCapacityInternal_d00df wd_5_54 ⟨Nat.le_of_ble_eq_true rfl, Nat.le_of_ble_eq_true rfl⟩ ⟨Nat.le_of_ble_eq_true rfl, Nat.le_of_ble_eq_true rfl⟩ rfl rfl (Nat.le_of_ble_eq_true rfl) dJ5_append_c97b9_14 ?_
  refine x_nmB (fun B6 eB6 => ?_)
  have hR := nmE hR eB6
  have hok := hok B6 eB6
  refine x_aload_n (pc := 17) (i := 0) C 2 dJ5_append_c97b9_17 rfl rfl ?_
  refine x_cIVU (pc := 18) (as := []) (q := 191) C (c_J5_isLatin1_aae02 C.2.2.2.2.2.2.2.1  B6 M O ) (fs := _) e_B rfl (sel_isL C) wd_5_86 cd_J5_isLatin1_aae02 wd_5_85 ⟨Nat.le_of_ble_eq_true rfl, Nat.le_of_ble_eq_true rfl⟩ ⟨Nat.le_of_ble_eq_true rfl, Nat.le_of_ble_eq_true rfl⟩ rfl rfl (Nat.le_of_ble_eq_true rfl) dJ5_append_c97b9_18 ?_
  refine x_nmI (fun r7 er7 => ?_)
  have hR := nmE hR er7
  have hok := hok r7 er7
  have c8 := hok.1
  have hok := hok.2
  refine x_if_eq (pc := 21) (tgt := 37) C dJ5_append_c97b9_21 (by decide) (fun z => absurd z c8) (fun _ => ?_)
  refine x_iload_n (pc := 24) (i := 1) C 3 dJ5_append_c97b9_24 rfl rfl ?_
  refine x_iload_n (pc := 25) (i := 3) C 0 dJ5_append_c97b9_25 rfl rfl ?_
  refine x_aload_n (pc := 26) (i := 0) C 2 dJ5_append_c97b9_26 rfl rfl ?_
  refine x_get (pc := 27) (q := 191) (i := 0) C e_B rfl ttJ4 (by decide) wd_2_13 rfl dJ5_append_c97b9_27 ?_
  have h9 := hok
  refine x_cIS (pc := 30) (as := [.int x0, .int v4, .ref (ad 192)]) C (c_J6_getChars_ba4f3 C.2.2.2.2.2.2.2.1  B6 M O x0 v4 h9) wd_5_142 cd_J6_getChars_ba4f3 wd_5_141 ⟨Nat.le_of_ble_eq_true rfl, Nat.le_of_ble_eq_true rfl⟩ ⟨Nat.le_of_ble_eq_true rfl, Nat.le_of_ble_eq_true rfl⟩ rfl rfl (Nat.le_of_ble_eq_true rfl) dJ5_append_c97b9_30 ?_
  refine x_nmIB (fun z10 ez10 => ?_)
  have hR := nmE hR ez10
  refine x_pop (pc := 33) C dJ5_append_c97b9_33 rfl ?_
  refine x_goto (pc := 34) (tgt := 48) C dJ5_append_c97b9_34 (by decide) ?_
  refine x_sub [2, 0] (ls2 := [(0, .ref (ad 191)), (3, .int v4)]) rfl ?_
  exact t_J5_append_c97b9_J48 C z10.2 v4 M O _ hR
set_option maxHeartbeats 4000000 in
set_option maxRecDepth 100000 in
theorem t_J5_append_c97b9_D_J48 {p0 : Program} {l : Launch} {e : Env} {s : State} {m : MethodId} {args : Array Value} {below : List Frame} {meth : Method} {c : Code} {A : Nat → Prop} {G : GT} {ad : Nat → Nat} (C : CX p0 l s m args meth c A G ad cJ5_append_c97b9 RJ5 4 (some (.object "java/lang/AbstractStringBuilder"))) (hG : G.2.2.2.2 2 = 2 ∧ G.2.2.2.2 3 = 2) (B : StB) (a3 : Int32) (M : StM) (O : StO)  (R0 : StB) (hR : R0 = f_J5_append_c97b9_D_J48 B a3) : X p0 l e (rmd 2 0 0) s m args below meth c A G ad 4 0 0 (MQ below (QR G A ad (ad 193) R0 M O) args s 0 0 A) B M O [(0, .ref (ad 193)), (3, .int a3)] 48 [] := by
  have hR : R0 = (nm (sbi B 193 3 a3) (fun (B11 : StB) => B11)) := hR
  refine x_aload_n (pc := 48) (i := 0) C 0 dJ5_append_c97b9_48 rfl rfl ?_
  refine x_iload_n (pc := 49) (i := 3) C 1 dJ5_append_c97b9_49 rfl rfl ?_
  refine x_put (pc := 50) (B2 := (sbi B 193 3 a3)) (M2 := M) (O2 := O) (q := 193) (i := 3) C tyJ4 tyJ4_ok nmJ4 (e_D hG) rfl ttJ4 (by decide) wd_2_17 rfl rfl rfl (Nat.le_of_ble_eq_true rfl) dJ5_append_c97b9_50 (put_D_3 hG) (o_sbi 193 3 a3) ?_
  refine x_nmB (fun B11 eB11 => ?_)
  have hR := nmE hR eB11
  refine x_aload_n (pc := 53) (i := 0) C 0 dJ5_append_c97b9_53 rfl rfl ?_
  exact x_rretB (pc := 54) C rfl hR dJ5_append_c97b9_54
set_option maxHeartbeats 4000000 in
set_option maxRecDepth 100000 in
theorem c_J5_append_c97b9_D {l : Launch} {A : Nat → Prop} {G : GT} {ad : Nat → Nat} (gl : Gl l A G ad) (hG : G.2.2.2.2 2 = 2 ∧ G.2.2.2.2 3 = 2) (B : StB) (M : StM) (O : StO) (x0 : Int32) (hok : ok_J5_append_c97b9_D B x0) : Met l yJ5_append_c97b9 (wof yJ5_append_c97b9 cJ5_append_c97b9 4 (some (.object "java/lang/AbstractStringBuilder"))) (rmd 2 0 0) (va_Pc [.ref (ad 193), .int x0] (PW G A ad B M O)) (QR G A ad (ad 193) (f_J5_append_c97b9_D B x0) M O) 0 0 A := by
  refine x_bodyF (own := RJ5) (by decide +kernel) rfl gl (Nat.le_of_ble_eq_true rfl) (ls := [(0, .ref (ad 193)), (1, .int x0)]) rfl ?_
  intro p0 e s m args below meth c C
  have hR : (f_J5_append_c97b9_D B x0) = (nm (bi B 193 3) (fun (v1 : Int32) => (nm (f_J6_stringSize_0f7a4 x0) (fun (r3 : Int32) => (nm (v1 + r3) (fun (v4 : Int32) => (nm (f_J5_ensureCapacityInternal_d00df_D B v4) (fun (B6 : StB) => (nm (f_J5_isLatin1_aae02_D B6) (fun (r7 : Int32) => (nm (f_J6_getChars_ba4f3_D B6 x0 v4) (fun (z10 : Int32 × StB) => (f_J5_append_c97b9_D_J48 z10.2 v4))))))))))))) := rfl
  have hok : (∀ v1 : Int32, v1 = (bi B 193 3) → ((ok_J6_stringSize_0f7a4 x0) ∧ (∀ r3 : Int32, r3 = (f_J6_stringSize_0f7a4 x0) → (∀ v4 : Int32, v4 = (v1 + r3) → ((ok_J5_ensureCapacityInternal_d00df_D B v4) ∧ (∀ B6 : StB, B6 = (f_J5_ensureCapacityInternal_d00df_D B v4) → (∀ r7 : Int32, r7 = (f_J5_isLatin1_aae02_D B6) → ((¬ r7 = 0) ∧ ((ok_J6_getChars_ba4f3_D B6 x0 v4)))))))))) := hok
  refine x_aload_n (pc := 0) (i := 0) C 0 dJ5_append_c97b9_0 rfl rfl ?_
  refine x_get (pc := 1) (q := 193) (i := 3) C (e_D hG) rfl ttJ4 (by decide) wd_2_17 rfl dJ5_append_c97b9_1 ?_
  refine x_nmI (fun v1 ev1 => ?_)
  have hR := nmE hR ev1
  have hok := hok v1 ev1
  refine x_istore_n (pc := 4) (i := 2) (ls2 := [(2, .int v1), (0, .ref (ad 193)), (1, .int x0)]) C dJ5_append_c97b9_4 rfl (by decide) rfl ?_
  refine x_iload_n (pc := 5) (i := 2) C 0 dJ5_append_c97b9_5 rfl rfl ?_
  refine x_iload_n (pc := 6) (i := 1) C 2 dJ5_append_c97b9_6 rfl rfl ?_
  have h2 := hok.1
  have hok := hok.2
  refine x_cIS (pc := 7) (as := [.int x0]) C (c_J6_stringSize_0f7a4 C.2.2.2.2.2.2.2.1  B M O x0 h2) wd_5_139 cd_J6_stringSize_0f7a4 wd_5_138 ⟨Nat.le_of_ble_eq_true rfl, Nat.le_of_ble_eq_true rfl⟩ ⟨Nat.le_of_ble_eq_true rfl, Nat.le_of_ble_eq_true rfl⟩ rfl rfl (Nat.le_of_ble_eq_true rfl) dJ5_append_c97b9_7 ?_
  refine x_nmI (fun r3 er3 => ?_)
  have hR := nmE hR er3
  have hok := hok r3 er3
  refine x_iadd (pc := 10) C dJ5_append_c97b9_10 ?_
  refine x_nmI (fun v4 ev4 => ?_)
  have hR := nmE hR ev4
  have hok := hok v4 ev4
  refine x_istore_n (pc := 11) (i := 3) (ls2 := [(3, .int v4), (2, .int v1), (0, .ref (ad 193)), (1, .int x0)]) C dJ5_append_c97b9_11 rfl (by decide) rfl ?_
  refine x_aload_n (pc := 12) (i := 0) C 2 dJ5_append_c97b9_12 rfl rfl ?_
  refine x_iload_n (pc := 13) (i := 3) C 0 dJ5_append_c97b9_13 rfl rfl ?_
  have h5 := hok.1
  have hok := hok.2
  refine x_cVVU (pc := 14) (as := [.int v4]) (q := 193) C (c_J5_ensureCapacityInternal_d00df_D C.2.2.2.2.2.2.2.1 hG B M O v4 h5) (fs := _) (e_D hG) rfl (sel_ens C) wd_5_56 cd_J5_ensureCapacityInternal_d00df wd_5_54 ⟨Nat.le_of_ble_eq_true rfl, Nat.le_of_ble_eq_true rfl⟩ ⟨Nat.le_of_ble_eq_true rfl, Nat.le_of_ble_eq_true rfl⟩ rfl rfl (Nat.le_of_ble_eq_true rfl) dJ5_append_c97b9_14 ?_
  refine x_nmB (fun B6 eB6 => ?_)
  have hR := nmE hR eB6
  have hok := hok B6 eB6
  refine x_aload_n (pc := 17) (i := 0) C 2 dJ5_append_c97b9_17 rfl rfl ?_
  refine x_cIVU (pc := 18) (as := []) (q := 193) C (c_J5_isLatin1_aae02_D C.2.2.2.2.2.2.2.1 hG B6 M O ) (fs := _) (e_D hG) rfl (sel_isL C) wd_5_86 cd_J5_isLatin1_aae02 wd_5_85 ⟨Nat.le_of_ble_eq_true rfl, Nat.le_of_ble_eq_true rfl⟩ ⟨Nat.le_of_ble_eq_true rfl, Nat.le_of_ble_eq_true rfl⟩ rfl rfl (Nat.le_of_ble_eq_true rfl) dJ5_append_c97b9_18 ?_
  refine x_nmI (fun r7 er7 => ?_)
  have hR := nmE hR er7
  have hok := hok r7 er7
  have c8 := hok.1
  have hok := hok.2
  refine x_if_eq (pc := 21) (tgt := 37) C dJ5_append_c97b9_21 (by decide) (fun z => absurd z c8) (fun _ => ?_)
  refine x_iload_n (pc := 24) (i := 1) C 3 dJ5_append_c97b9_24 rfl rfl ?_
  refine x_iload_n (pc := 25) (i := 3) C 0 dJ5_append_c97b9_25 rfl rfl ?_
  refine x_aload_n (pc := 26) (i := 0) C 2 dJ5_append_c97b9_26 rfl rfl ?_
  refine x_get (pc := 27) (q := 193) (i := 0) C (e_D hG) rfl ttJ4 (by decide) wd_2_13 rfl dJ5_append_c97b9_27 ?_
  have h9 := hok
  refine x_cIS (pc := 30) (as := [.int x0, .int v4, .ref (ad 194)]) C (c_J6_getChars_ba4f3_D C.2.2.2.2.2.2.2.1 hG B6 M O x0 v4 h9) wd_5_142 cd_J6_getChars_ba4f3 wd_5_141 ⟨Nat.le_of_ble_eq_true rfl, Nat.le_of_ble_eq_true rfl⟩ ⟨Nat.le_of_ble_eq_true rfl, Nat.le_of_ble_eq_true rfl⟩ rfl rfl (Nat.le_of_ble_eq_true rfl) dJ5_append_c97b9_30 ?_
  refine x_nmIB (fun z10 ez10 => ?_)
  have hR := nmE hR ez10
  refine x_pop (pc := 33) C dJ5_append_c97b9_33 rfl ?_
  refine x_goto (pc := 34) (tgt := 48) C dJ5_append_c97b9_34 (by decide) ?_
  refine x_sub [2, 0] (ls2 := [(0, .ref (ad 193)), (3, .int v4)]) rfl ?_
  exact t_J5_append_c97b9_D_J48 C hG z10.2 v4 M O _ hR
set_option maxHeartbeats 4000000 in
set_option maxRecDepth 100000 in
theorem c_J0_getBytes_840e7 {l : Launch} {A : Nat → Prop} {G : GT} {ad : Nat → Nat} (gl : Gl l A G ad) (hG : G.2.2.2.2 2 = 2 ∧ G.2.2.2.2 3 = 2) (i : Nat) (hi : i < 9) (B : StB) (M : StM) (O : StO) (x1 : Int32) (x2 : Int32) (hok : ok_J0_getBytes_840e7 i B x1 x2) : Met l yJ0_getBytes_840e7 (wof yJ0_getBytes_840e7 cJ0_getBytes_840e7 4 none) (rmd 2 0 0) (va_Pc [.ref (G.2.2.1 i), .ref (ad 194), .int x1, .int x2] (PW G A ad B M O)) (QV G A ad (f_J0_getBytes_840e7 i B x1 x2) M O) 0 0 A := by
  refine x_bodyF (own := RJ0) (by decide +kernel) rfl gl (Nat.le_of_ble_eq_true rfl) (ls := [(0, .ref (G.2.2.1 i)), (1, .ref (ad 194)), (2, .int x1), (3, .int x2)]) rfl ?_
  intro p0 e s m args below meth c C
  have hR : (f_J0_getBytes_840e7 i B x1 x2) = (nm (f_J0_coder_7d493 i) (fun (r1 : Int32) => (nm (cpk B i (x1 <<< (x2 &&& 31))) (fun (B5 : StB) => B5)))) := rfl
  have hok : (∀ r1 : Int32, r1 = (f_J0_coder_7d493 i) → ((r1 = x2) ∧ (¬ (x1 <<< (x2 &&& 31)) < 0 ∧ (ix (x1 <<< (x2 &&& 31)) + kLen.getD i 0 ≤ ix (bi B 194 9))))) := hok
  refine x_aload_n (pc := 0) (i := 0) C 0 dJ0_getBytes_840e7_0 rfl rfl ?_
  refine x_cIVK (pc := 1) (as := []) C (c_J0_coder_7d493 C.2.2.2.2.2.2.2.1 i hi B M O ) hi rfl cv_J0_coder_7d493 cd_J0_coder_7d493 wd_3_218 ⟨Nat.le_of_ble_eq_true rfl, Nat.le_of_ble_eq_true rfl⟩ ⟨Nat.le_of_ble_eq_true rfl, Nat.le_of_ble_eq_true rfl⟩ rfl rfl (Nat.le_of_ble_eq_true rfl) dJ0_getBytes_840e7_1 ?_
  refine x_nmI (fun r1 er1 => ?_)
  have hR := nmE hR er1
  have hok := hok r1 er1
  refine x_iload_n (pc := 4) (i := 3) C 3 dJ0_getBytes_840e7_4 rfl rfl ?_
  have c2 := hok.1
  have hok := hok.2
  refine x_icmp_ne (pc := 5) (tgt := 28) C dJ0_getBytes_840e7_5 (by decide) (fun z => absurd c2 z) (fun _ => ?_)
  refine x_aload_n (pc := 8) (i := 0) C 0 dJ0_getBytes_840e7_8 rfl rfl ?_
  refine x_getKv (pc := 9) (i := i) C hi wd_5_212 dJ0_getBytes_840e7_9 ?_
  refine x_iconst (pc := 12) (v := 0) C dJ0_getBytes_840e7_12 (by decide) ?_
  refine x_aload_n (pc := 13) (i := 1) C 1 dJ0_getBytes_840e7_13 rfl rfl ?_
  refine x_iload_n (pc := 14) (i := 2) C 2 dJ0_getBytes_840e7_14 rfl rfl ?_
  refine x_iload_n (pc := 15) (i := 3) C 3 dJ0_getBytes_840e7_15 rfl rfl ?_
  refine x_ishl (pc := 16) C dJ0_getBytes_840e7_16 ?_
  refine x_aload_n (pc := 17) (i := 0) C 0 dJ0_getBytes_840e7_17 rfl rfl ?_
  refine x_getKv (pc := 18) (i := i) C hi wd_5_212 dJ0_getBytes_840e7_18 ?_
  refine x_alenK (pc := 21) (i := i) C hi dJ0_getBytes_840e7_21 ?_
  have h3 := hok.1
  have hok := hok.2
  have h4 := hok
  refine x_acopyK (pc := 22) C hG (i := i) (dp := (x1 <<< (x2 &&& 31))) hi h3 h4 wd_5_129 wd_5_84 wd_5_83 wd_1_28 (Nat.le_of_ble_eq_true rfl) (Nat.le_of_ble_eq_true rfl) dJ0_getBytes_840e7_22 ?_
  refine x_nmB (fun B5 eB5 => ?_)
  have hR := nmE hR eB5
  refine x_goto (pc := 25) (tgt := 43) C dJ0_getBytes_840e7_25 (by decide) ?_
  exact x_vretB (pc := 43) C rfl hR dJ0_getBytes_840e7_43
set_option maxHeartbeats 4000000 in
set_option maxRecDepth 100000 in
theorem c_J5_inflateIfNeededFor_a7421 {l : Launch} {A : Nat → Prop} {G : GT} {ad : Nat → Nat} (gl : Gl l A G ad) (hG : G.2.2.2.2 2 = 2 ∧ G.2.2.2.2 3 = 2) (i : Nat) (hi : i < 9) (B : StB) (M : StM) (O : StO)  (hok : ok_J5_inflateIfNeededFor_a7421 i B) : Met l yJ5_inflateIfNeededFor_a7421 (wof yJ5_inflateIfNeededFor_a7421 cJ5_inflateIfNeededFor_a7421 2 none) (rmd 2 0 0) (va_Pc [.ref (ad 193), .ref (G.2.2.1 i)] (PW G A ad B M O)) (QV G A ad B M O) 0 0 A := by
  refine x_bodyF (own := RJ5) (by decide +kernel) rfl gl (Nat.le_of_ble_eq_true rfl) (ls := [(0, .ref (ad 193)), (1, .ref (G.2.2.1 i))]) rfl ?_
  intro p0 e s m args below meth c C
  have hR : (f_J5_inflateIfNeededFor_a7421 i B) = (nm (f_J0_coder_7d493 i) (fun (r2 : Int32) => ())) := rfl
  have hok : (∀ r2 : Int32, r2 = (f_J0_coder_7d493 i) → (0 = r2)) := hok
  refine x_getsC (pc := 0) C wd_2_4 dJ5_inflateIfNeededFor_a7421_0 ?_
  refine x_if_eq (pc := 3) (tgt := 21) C dJ5_inflateIfNeededFor_a7421_3 (by decide) (fun hf => absurd hf (by decide)) (fun _ => ?_)
  refine x_aload_n (pc := 6) (i := 0) C 0 dJ5_inflateIfNeededFor_a7421_6 rfl rfl ?_
  refine x_get (pc := 7) (q := 193) (i := 1) C (e_D hG) rfl ttJ4 (by decide) wd_2_14 rfl dJ5_inflateIfNeededFor_a7421_7 ?_
  refine x_aload_n (pc := 10) (i := 1) C 1 dJ5_inflateIfNeededFor_a7421_10 rfl rfl ?_
  refine x_cIVK (pc := 11) (as := []) C (c_J0_coder_7d493 C.2.2.2.2.2.2.2.1 i hi B M O ) hi rfl cv_J0_coder_7d493 cd_J0_coder_7d493 wd_5_105 ⟨Nat.le_of_ble_eq_true rfl, Nat.le_of_ble_eq_true rfl⟩ ⟨Nat.le_of_ble_eq_true rfl, Nat.le_of_ble_eq_true rfl⟩ rfl rfl (Nat.le_of_ble_eq_true rfl) dJ5_inflateIfNeededFor_a7421_11 ?_
  refine x_nmI (fun r2 er2 => ?_)
  have hR := nmE hR er2
  have hok := hok r2 er2
  have c3 := hok
  refine x_icmp_eq (pc := 14) (tgt := 21) C dJ5_inflateIfNeededFor_a7421_14 (by decide) (fun _ => ?_) (fun z => absurd c3 z)
  exact x_vret (pc := 21) C rfl dJ5_inflateIfNeededFor_a7421_21
set_option maxHeartbeats 4000000 in
set_option maxRecDepth 100000 in
theorem c_J0_length_8abf5_W {l : Launch} {A : Nat → Prop} {G : GT} {ad : Nat → Nat} (gl : Gl l A G ad) (hG : G.2.2.2.2 2 = 3 ∧ G.2.2.2.2 3 = 2) (B : StB) (M : StM) (O : StO)  : Met l yJ0_length_8abf5 (wof yJ0_length_8abf5 cJ0_length_8abf5 1 (some .int)) (rmd 2 0 0) (va_Pc [.ref (ad 193)] (PW G A ad B M O)) (QI G A ad (f_J0_length_8abf5_W B) B M O) 0 0 A := by
  refine x_bodyF (own := RJ0) (by decide +kernel) rfl gl (Nat.le_of_ble_eq_true rfl) (ls := [(0, .ref (ad 193))]) rfl ?_
  intro p0 e s m args below meth c C
  have hR : (f_J0_length_8abf5_W B) = (nm (f_J0_coder_7d493_W B) (fun (r1 : Int32) => ((Int32.ofNat (ix (bi B 194 9))) >>> (r1 &&& 31)))) := rfl
  refine x_aload_n (pc := 0) (i := 0) C 0 dJ0_length_8abf5_0 rfl rfl ?_
  refine x_get (pc := 1) (q := 193) (i := 0) C (e_W hG) rfl ttJ0 (by decide) wd_5_212 rfl dJ0_length_8abf5_1 ?_
  refine x_alen (pc := 4) (q := 194) (t0 := 0) C (e_Wv hG) rfl dJ0_length_8abf5_4 ?_
  refine x_aload_n (pc := 5) (i := 0) C 0 dJ0_length_8abf5_5 rfl rfl ?_
  refine x_cIV (pc := 6) (as := []) (q := 193) C (c_J0_coder_7d493_W C.2.2.2.2.2.2.2.1 hG B M O ) (fs := _) (e_W hG) rfl cv_J0_coder_7d493 cd_J0_coder_7d493 wd_3_218 ⟨Nat.le_of_ble_eq_true rfl, Nat.le_of_ble_eq_true rfl⟩ ⟨Nat.le_of_ble_eq_true rfl, Nat.le_of_ble_eq_true rfl⟩ rfl rfl (Nat.le_of_ble_eq_true rfl) dJ0_length_8abf5_6 ?_
  refine x_nmI (fun r1 er1 => ?_)
  have hR := nmE hR er1
  refine x_ishr (pc := 9) C dJ0_length_8abf5_9 ?_
  exact x_iret (pc := 10) C rfl hR dJ0_length_8abf5_10
set_option maxHeartbeats 4000000 in
set_option maxRecDepth 100000 in
theorem c_J0_charAt_5068e_W {l : Launch} {A : Nat → Prop} {G : GT} {ad : Nat → Nat} (gl : Gl l A G ad) (hG : G.2.2.2.2 2 = 3 ∧ G.2.2.2.2 3 = 2) (B : StB) (M : StM) (O : StO) (x0 : Int32) (hok : ok_J0_charAt_5068e_W B x0) : Met l yJ0_charAt_5068e (wof yJ0_charAt_5068e cJ0_charAt_5068e 2 (some .char)) (rmd 4 0 0) (va_Pc [.ref (ad 193), .int x0] (PW G A ad B M O)) (QI G A ad (f_J0_charAt_5068e_W B x0) B M O) 0 0 A := by
  refine x_bodyF (own := RJ0) (by decide +kernel) rfl gl (Nat.le_of_ble_eq_true rfl) (ls := [(0, .ref (ad 193)), (1, .int x0)]) rfl ?_
  intro p0 e s m args below meth c C
  have hR : (f_J0_charAt_5068e_W B x0) = (nm (f_J0_isLatin1_aae02_W B) (fun (r1 : Int32) => (nm (f_J1_charAt_3b067_W B x0) (fun (r4 : Int32) => r4)))) := rfl
  have hok : (∀ r1 : Int32, r1 = (f_J0_isLatin1_aae02_W B) → ((¬ r1 = 0) ∧ ((ok_J1_charAt_3b067_W B x0) ∧ (∀ r4 : Int32, r4 = (f_J1_charAt_3b067_W B x0) → (narrow .char (.int r4) = .int r4))))) := hok
  refine x_aload_n (pc := 0) (i := 0) C 0 dJ0_charAt_5068e_0 rfl rfl ?_
  refine x_cIV (pc := 1) (as := []) (q := 193) C (c_J0_isLatin1_aae02_W C.2.2.2.2.2.2.2.1 hG B M O ) (fs := _) (e_W hG) rfl cv_J0_isLatin1_aae02 cd_J0_isLatin1_aae02 wd_3_209 ⟨Nat.le_of_ble_eq_true rfl, Nat.le_of_ble_eq_true rfl⟩ ⟨Nat.le_of_ble_eq_true rfl, Nat.le_of_ble_eq_true rfl⟩ rfl rfl (Nat.le_of_ble_eq_true rfl) dJ0_charAt_5068e_1 ?_
  refine x_nmI (fun r1 er1 => ?_)
  have hR := nmE hR er1
  have hok := hok r1 er1
  have c2 := hok.1
  have hok := hok.2
  refine x_if_eq (pc := 4) (tgt := 16) C dJ0_charAt_5068e_4 (by decide) (fun z => absurd z c2) (fun _ => ?_)
  refine x_aload_n (pc := 7) (i := 0) C 0 dJ0_charAt_5068e_7 rfl rfl ?_
  refine x_get (pc := 8) (q := 193) (i := 0) C (e_W hG) rfl ttJ0 (by decide) wd_5_212 rfl dJ0_charAt_5068e_8 ?_
  refine x_iload_n (pc := 11) (i := 1) C 1 dJ0_charAt_5068e_11 rfl rfl ?_
  have h3 := hok.1
  have hok := hok.2
  refine x_cIS (pc := 12) (as := [.ref (ad 194), .int x0]) C (c_J1_charAt_3b067_W C.2.2.2.2.2.2.2.1 hG B M O x0 h3) wd_4_58 cd_J1_charAt_3b067 wd_4_57 ⟨Nat.le_of_ble_eq_true rfl, Nat.le_of_ble_eq_true rfl⟩ ⟨Nat.le_of_ble_eq_true rfl, Nat.le_of_ble_eq_true rfl⟩ rfl rfl (Nat.le_of_ble_eq_true rfl) dJ0_charAt_5068e_12 ?_
  refine x_nmI (fun r4 er4 => ?_)
  have hR := nmE hR er4
  have hok := hok r4 er4
  have h5 := hok
  exact x_zret (pc := 15) C rfl h5 hR dJ0_charAt_5068e_15
set_option maxHeartbeats 4000000 in
set_option maxRecDepth 100000 in
theorem c_J4_setLength_d00df {l : Launch} {A : Nat → Prop} {G : GT} {ad : Nat → Nat} (gl : Gl l A G ad)  (B : StB) (M : StM) (O : StO) (x0 : Int32) (hok : ok_J4_setLength_d00df B x0) : Met l yJ4_setLength_d00df (wof yJ4_setLength_d00df cJ4_setLength_d00df 2 none) (rmd 3 0 0) (va_Pc [.ref (ad 191), .int x0] (PW G A ad B M O)) (QV G A ad (f_J4_setLength_d00df B x0) M O) 0 0 A := by
  refine x_bodyF (own := RJ4) (by decide +kernel) rfl gl (Nat.le_of_ble_eq_true rfl) (ls := [(0, .ref (ad 191)), (1, .int x0)]) rfl ?_
  intro p0 e s m args below meth c C
  have hR : (f_J4_setLength_d00df B x0) = (nm (f_J5_setLength_d00df B x0) (fun (B2 : StB) => B2)) := rfl
  have hok : ((ok_J5_setLength_d00df B x0)) := hok
  refine x_aload_n (pc := 0) (i := 0) C 0 dJ4_setLength_d00df_0 rfl rfl ?_
  refine x_iload_n (pc := 1) (i := 1) C 1 dJ4_setLength_d00df_1 rfl rfl ?_
  have h1 := hok
  refine x_cVSU (pc := 2) (as := [.int x0]) (q := 191) C (c_J5_setLength_d00df C.2.2.2.2.2.2.2.1  B M O x0 h1) (fs := _) e_B rfl cu_J5_setLength_d00df cd_J5_setLength_d00df wd_5_32 ⟨Nat.le_of_ble_eq_true rfl, Nat.le_of_ble_eq_true rfl⟩ ⟨Nat.le_of_ble_eq_true rfl, Nat.le_of_ble_eq_true rfl⟩ rfl rfl (Nat.le_of_ble_eq_true rfl) dJ4_setLength_d00df_2 ?_
  refine x_nmB (fun B2 eB2 => ?_)
  have hR := nmE hR eB2
  exact x_vretB (pc := 5) C rfl hR dJ4_setLength_d00df_5
set_option maxHeartbeats 4000000 in
set_option maxRecDepth 100000 in
theorem c_J4_append_cf468 {l : Launch} {A : Nat → Prop} {G : GT} {ad : Nat → Nat} (gl : Gl l A G ad)  (B : StB) (M : StM) (O : StO) (x0 : Int32) (hok : ok_J4_append_cf468 B x0) : Met l yJ4_append_cf468 (wof yJ4_append_cf468 cJ4_append_cf468 2 (some (.object "java/lang/StringBuilder"))) (rmd 3 0 0) (va_Pc [.ref (ad 191), .int x0] (PW G A ad B M O)) (QR G A ad (ad 191) (f_J4_append_cf468 B x0) M O) 0 0 A := by
  refine x_bodyF (own := RJ4) (by decide +kernel) rfl gl (Nat.le_of_ble_eq_true rfl) (ls := [(0, .ref (ad 191)), (1, .int x0)]) rfl ?_
  intro p0 e s m args below meth c C
  have hR : (f_J4_append_cf468 B x0) = (nm (f_J5_append_3fe6f B x0) (fun (B2 : StB) => B2)) := rfl
  have hok : ((ok_J5_append_3fe6f B x0)) := hok
  refine x_aload_n (pc := 0) (i := 0) C 0 dJ4_append_cf468_0 rfl rfl ?_
  refine x_iload_n (pc := 1) (i := 1) C 1 dJ4_append_cf468_1 rfl rfl ?_
  have h1 := hok
  refine x_cRSU (pc := 2) (as := [.int x0]) (q := 191) C (c_J5_append_3fe6f C.2.2.2.2.2.2.2.1  B M O x0 h1) (fs := _) e_B rfl cu_J5_append_3fe6f cd_J5_append_3fe6f wd_6_19 ⟨Nat.le_of_ble_eq_true rfl, Nat.le_of_ble_eq_true rfl⟩ ⟨Nat.le_of_ble_eq_true rfl, Nat.le_of_ble_eq_true rfl⟩ rfl rfl (Nat.le_of_ble_eq_true rfl) dJ4_append_cf468_2 ?_
  refine x_nmB (fun B2 eB2 => ?_)
  have hR := nmE hR eB2
  refine x_pop (pc := 5) C dJ4_append_cf468_5 rfl ?_
  refine x_aload_n (pc := 6) (i := 0) C 0 dJ4_append_cf468_6 rfl rfl ?_
  exact x_rretB (pc := 7) C rfl hR dJ4_append_cf468_7
set_option maxHeartbeats 4000000 in
set_option maxRecDepth 100000 in
theorem c_J4_append_bf812 {l : Launch} {A : Nat → Prop} {G : GT} {ad : Nat → Nat} (gl : Gl l A G ad)  (B : StB) (M : StM) (O : StO) (x0 : Int32) (hok : ok_J4_append_bf812 B x0) : Met l yJ4_append_bf812 (wof yJ4_append_bf812 cJ4_append_bf812 2 (some (.object "java/lang/StringBuilder"))) (rmd 3 0 0) (va_Pc [.ref (ad 191), .int x0] (PW G A ad B M O)) (QR G A ad (ad 191) (f_J4_append_bf812 B x0) M O) 0 0 A := by
  refine x_bodyF (own := RJ4) (by decide +kernel) rfl gl (Nat.le_of_ble_eq_true rfl) (ls := [(0, .ref (ad 191)), (1, .int x0)]) rfl ?_
  intro p0 e s m args below meth c C
  have hR : (f_J4_append_bf812 B x0) = (nm (f_J5_append_c97b9 B x0) (fun (B2 : StB) => B2)) := rfl
  have hok : ((ok_J5_append_c97b9 B x0)) := hok
  refine x_aload_n (pc := 0) (i := 0) C 0 dJ4_append_bf812_0 rfl rfl ?_
  refine x_iload_n (pc := 1) (i := 1) C 1 dJ4_append_bf812_1 rfl rfl ?_
  have h1 := hok
  refine x_cRSU (pc := 2) (as := [.int x0]) (q := 191) C (c_J5_append_c97b9 C.2.2.2.2.2.2.2.1  B M O x0 h1) (fs := _) e_B rfl cu_J5_append_c97b9 cd_J5_append_c97b9 wd_5_135 ⟨Nat.le_of_ble_eq_true rfl, Nat.le_of_ble_eq_true rfl⟩ ⟨Nat.le_of_ble_eq_true rfl, Nat.le_of_ble_eq_true rfl⟩ rfl rfl (Nat.le_of_ble_eq_true rfl) dJ4_append_bf812_2 ?_
  refine x_nmB (fun B2 eB2 => ?_)
  have hR := nmE hR eB2
  refine x_pop (pc := 5) C dJ4_append_bf812_5 rfl ?_
  refine x_aload_n (pc := 6) (i := 0) C 0 dJ4_append_bf812_6 rfl rfl ?_
  exact x_rretB (pc := 7) C rfl hR dJ4_append_bf812_7
set_option maxHeartbeats 4000000 in
set_option maxRecDepth 100000 in
theorem c_J4_append_bf812_D {l : Launch} {A : Nat → Prop} {G : GT} {ad : Nat → Nat} (gl : Gl l A G ad) (hG : G.2.2.2.2 2 = 2 ∧ G.2.2.2.2 3 = 2) (B : StB) (M : StM) (O : StO) (x0 : Int32) (hok : ok_J4_append_bf812_D B x0) : Met l yJ4_append_bf812 (wof yJ4_append_bf812 cJ4_append_bf812 2 (some (.object "java/lang/StringBuilder"))) (rmd 3 0 0) (va_Pc [.ref (ad 193), .int x0] (PW G A ad B M O)) (QR G A ad (ad 193) (f_J4_append_bf812_D B x0) M O) 0 0 A := by
  refine x_bodyF (own := RJ4) (by decide +kernel) rfl gl (Nat.le_of_ble_eq_true rfl) (ls := [(0, .ref (ad 193)), (1, .int x0)]) rfl ?_
  intro p0 e s m args below meth c C
  have hR : (f_J4_append_bf812_D B x0) = (nm (f_J5_append_c97b9_D B x0) (fun (B2 : StB) => B2)) := rfl
  have hok : ((ok_J5_append_c97b9_D B x0)) := hok
  refine x_aload_n (pc := 0) (i := 0) C 0 dJ4_append_bf812_0 rfl rfl ?_
  refine x_iload_n (pc := 1) (i := 1) C 1 dJ4_append_bf812_1 rfl rfl ?_
  have h1 := hok
  refine x_cRSU (pc := 2) (as := [.int x0]) (q := 193) C (c_J5_append_c97b9_D C.2.2.2.2.2.2.2.1 hG B M O x0 h1) (fs := _) (e_D hG) rfl cu_J5_append_c97b9 cd_J5_append_c97b9 wd_5_135 ⟨Nat.le_of_ble_eq_true rfl, Nat.le_of_ble_eq_true rfl⟩ ⟨Nat.le_of_ble_eq_true rfl, Nat.le_of_ble_eq_true rfl⟩ rfl rfl (Nat.le_of_ble_eq_true rfl) dJ4_append_bf812_2 ?_
  refine x_nmB (fun B2 eB2 => ?_)
  have hR := nmE hR eB2
  refine x_pop (pc := 5) C dJ4_append_bf812_5 rfl ?_
  refine x_aload_n (pc := 6) (i := 0) C 0 dJ4_append_bf812_6 rfl rfl ?_
  exact x_rretB (pc := 7) C rfl hR dJ4_append_bf812_7
set_option maxHeartbeats 4000000 in
set_option maxRecDepth 100000 in
theorem c_J5_putStringAt_47b60 {l : Launch} {A : Nat → Prop} {G : GT} {ad : Nat → Nat} (gl : Gl l A G ad) (hG : G.2.2.2.2 2 = 2 ∧ G.2.2.2.2 3 = 2) (i : Nat) (hi : i < 9) (B : StB) (M : StM) (O : StO) (x0 : Int32) (hok : ok_J5_putStringAt_47b60 i B x0) : Met l yJ5_putStringAt_47b60 (wof yJ5_putStringAt_47b60 cJ5_putStringAt_47b60 3 none) (rmd 3 0 0) (va_Pc [.ref (ad 193), .int x0, .ref (G.2.2.1 i)] (PW G A ad B M O)) (QV G A ad (f_J5_putStringAt_47b60 i B x0) M O) 0 0 A := by
  refine x_bodyF (own := RJ5) (by decide +kernel) rfl gl (Nat.le_of_ble_eq_true rfl) (ls := [(0, .ref (ad 193)), (1, .int x0), (2, .ref (G.2.2.1 i))]) rfl ?_
  intro p0 e s m args below meth c C
  have hR : (f_J5_putStringAt_47b60 i B x0) = (nm (f_J0_getBytes_840e7 i B x0 0) (fun (B3 : StB) => B3)) := rfl
  have hok : ((ok_J5_inflateIfNeededFor_a7421 i B) ∧ ((ok_J0_getBytes_840e7 i B x0 0))) := hok
  refine x_aload_n (pc := 0) (i := 0) C 0 dJ5_putStringAt_47b60_0 rfl rfl ?_
  refine x_aload_n (pc := 1) (i := 2) C 2 dJ5_putStringAt_47b60_1 rfl rfl ?_
  have h1 := hok.1
  have hok := hok.2
  refine x_cVVU (pc := 2) (as := [.ref (G.2.2.1 i)]) (q := 193) C (c_J5_inflateIfNeededFor_a7421 C.2.2.2.2.2.2.2.1 hG i hi B M O  h1) (fs := _) (e_D hG) rfl (sel_inf C) wd_5_103 cd_J5_inflateIfNeededFor_a7421 wd_5_101 ⟨Nat.le_of_ble_eq_true rfl, Nat.le_of_ble_eq_true rfl⟩ ⟨Nat.le_of_ble_eq_true rfl, Nat.le_of_ble_eq_true rfl⟩ rfl rfl (Nat.le_of_ble_eq_true rfl) dJ5_putStringAt_47b60_2 ?_
  refine x_aload_n (pc := 5) (i := 2) C 2 dJ5_putStringAt_47b60_5 rfl rfl ?_
  refine x_aload_n (pc := 6) (i := 0) C 0 dJ5_putStringAt_47b60_6 rfl rfl ?_
  refine x_get (pc := 7) (q := 193) (i := 0) C (e_D hG) rfl ttJ4 (by decide) wd_2_13 rfl dJ5_putStringAt_47b60_7 ?_
  refine x_iload_n (pc := 10) (i := 1) C 1 dJ5_putStringAt_47b60_10 rfl rfl ?_
  refine x_aload_n (pc := 11) (i := 0) C 0 dJ5_putStringAt_47b60_11 rfl rfl ?_
  refine x_get (pc := 12) (q := 193) (i := 1) C (e_D hG) rfl ttJ4 (by decide) wd_2_14 rfl dJ5_putStringAt_47b60_12 ?_
  have h2 := hok
  refine x_cVVK (pc := 15) (as := [.ref (ad 194), .int x0, .int 0]) C (c_J0_getBytes_840e7 C.2.2.2.2.2.2.2.1 hG i hi B M O x0 0 h2) hi rfl cv_J0_getBytes_840e7 cd_J0_getBytes_840e7 wd_5_125 ⟨Nat.le_of_ble_eq_true rfl, Nat.le_of_ble_eq_true rfl⟩ ⟨Nat.le_of_ble_eq_true rfl, Nat.le_of_ble_eq_true rfl⟩ rfl rfl (Nat.le_of_ble_eq_true rfl) dJ5_putStringAt_47b60_15 ?_
  refine x_nmB (fun B3 eB3 => ?_)
  have hR := nmE hR eB3
  exact x_vretB (pc := 18) C rfl hR dJ5_putStringAt_47b60_18
set_option maxHeartbeats 4000000 in
set_option maxRecDepth 100000 in
theorem c_J5_append_cf1ce {l : Launch} {A : Nat → Prop} {G : GT} {ad : Nat → Nat} (gl : Gl l A G ad) (hG : G.2.2.2.2 2 = 2 ∧ G.2.2.2.2 3 = 2) (i : Nat) (hi : i < 9) (B : StB) (M : StM) (O : StO)  (hok : ok_J5_append_cf1ce i B) : Met l yJ5_append_cf1ce (wof yJ5_append_cf1ce cJ5_append_cf1ce 3 (some (.object "java/lang/AbstractStringBuilder"))) (rmd 4 0 0) (va_Pc [.ref (ad 193), .ref (G.2.2.1 i)] (PW G A ad B M O)) (QR G A ad (ad 193) (f_J5_append_cf1ce i B) M O) 0 0 A := by
  refine x_bodyF (own := RJ5) (by decide +kernel) rfl gl (Nat.le_of_ble_eq_true rfl) (ls := [(0, .ref (ad 193)), (1, .ref (G.2.2.1 i))]) rfl ?_
  intro p0 e s m args below meth c C
  have hR : (f_J5_append_cf1ce i B) = (nm (f_J0_length_8abf5 i) (fun (r1 : Int32) => (nm (f_J5_ensureCapacityInternal_d00df_D B ((bi B 193 3) + r1)) (fun (B3 : StB) => (nm (f_J5_putStringAt_47b60 i B3 (bi B3 193 3)) (fun (B5 : StB) => (nm (sbi B5 193 3 ((bi B5 193 3) + r1)) (fun (B6 : StB) => B6)))))))) := rfl
  have hok : (∀ r1 : Int32, r1 = (f_J0_length_8abf5 i) → ((ok_J5_ensureCapacityInternal_d00df_D B ((bi B 193 3) + r1)) ∧ (∀ B3 : StB, B3 = (f_J5_ensureCapacityInternal_d00df_D B ((bi B 193 3) + r1)) → ((ok_J5_putStringAt_47b60 i B3 (bi B3 193 3)))))) := hok
  refine x_aload_n (pc := 0) (i := 1) C 1 dJ5_append_cf1ce_0 rfl rfl ?_
  refine x_ifnn (pc := 1) (tgt := 9) C dJ5_append_cf1ce_1 (by decide) ?_
  refine x_aload_n (pc := 9) (i := 1) C 1 dJ5_append_cf1ce_9 rfl rfl ?_
  refine x_cIVK (pc := 10) (as := []) C (c_J0_length_8abf5 C.2.2.2.2.2.2.2.1 i hi B M O ) hi rfl cv_J0_length_8abf5 cd_J0_length_8abf5 wd_5_96 ⟨Nat.le_of_ble_eq_true rfl, Nat.le_of_ble_eq_true rfl⟩ ⟨Nat.le_of_ble_eq_true rfl, Nat.le_of_ble_eq_true rfl⟩ rfl rfl (Nat.le_of_ble_eq_true rfl) dJ5_append_cf1ce_10 ?_
  refine x_nmI (fun r1 er1 => ?_)
  have hR := nmE hR er1
  have hok := hok r1 er1
  refine x_istore_n (pc := 13) (i := 2) (ls2 := [(2, .int r1), (0, .ref (ad 193)), (1, .ref (G.2.2.1 i))]) C dJ5_append_cf1ce_13 rfl (by decide) rfl ?_
  refine x_aload_n (pc := 14) (i := 0) C 1 dJ5_append_cf1ce_14 rfl rfl ?_
  refine x_aload_n (pc := 15) (i := 0) C 1 dJ5_append_cf1ce_15 rfl rfl ?_
  refine x_get (pc := 16) (q := 193) (i := 3) C (e_D hG) rfl ttJ4 (by decide) wd_2_17 rfl dJ5_append_cf1ce_16 ?_
  refine x_iload_n (pc := 19) (i := 2) C 0 dJ5_append_cf1ce_19 rfl rfl ?_
  refine x_iadd (pc := 20) C dJ5_append_cf1ce_20 ?_
  have h2 := hok.1
  have hok := hok.2
  refine x_cVVU (pc := 21) (as := [.int ((bi B 193 3) + r1)]) (q := 193) C (c_J5_ensureCapacityInternal_d00df_D C.2.2.2.2.2.2.2.1 hG B M O ((bi B 193 3) + r1) h2) (fs := _) (e_D hG) rfl (sel_ens C) wd_5_56 cd_J5_ensureCapacityInternal_d00df wd_5_54 ⟨Nat.le_of_ble_eq_true rfl, Nat.le_of_ble_eq_true rfl⟩ ⟨Nat.le_of_ble_eq_true rfl, Nat.le_of_ble_eq_true rfl⟩ rfl rfl (Nat.le_of_ble_eq_true rfl) dJ5_append_cf1ce_21 ?_
  refine x_nmB (fun B3 eB3 => ?_)
  have hR := nmE hR eB3
  have hok := hok B3 eB3
  refine x_aload_n (pc := 24) (i := 0) C 1 dJ5_append_cf1ce_24 rfl rfl ?_
  refine x_aload_n (pc := 25) (i := 0) C 1 dJ5_append_cf1ce_25 rfl rfl ?_
  refine x_get (pc := 26) (q := 193) (i := 3) C (e_D hG) rfl ttJ4 (by decide) wd_2_17 rfl dJ5_append_cf1ce_26 ?_
  refine x_aload_n (pc := 29) (i := 1) C 2 dJ5_append_cf1ce_29 rfl rfl ?_
  have h4 := hok
  refine x_cVVU (pc := 30) (as := [.int (bi B3 193 3), .ref (G.2.2.1 i)]) (q := 193) C (c_J5_putStringAt_47b60 C.2.2.2.2.2.2.2.1 hG i hi B3 M O (bi B3 193 3) h4) (fs := _) (e_D hG) rfl (sel_put C) wd_5_99 cd_J5_putStringAt_47b60 wd_5_97 ⟨Nat.le_of_ble_eq_true rfl, Nat.le_of_ble_eq_true rfl⟩ ⟨Nat.le_of_ble_eq_true rfl, Nat.le_of_ble_eq_true rfl⟩ rfl rfl (Nat.le_of_ble_eq_true rfl) dJ5_append_cf1ce_30 ?_
  refine x_nmB (fun B5 eB5 => ?_)
  have hR := nmE hR eB5
  refine x_aload_n (pc := 33) (i := 0) C 1 dJ5_append_cf1ce_33 rfl rfl ?_
  refine x_dup (pc := 34) C dJ5_append_cf1ce_34 rfl ?_
  refine x_get (pc := 35) (q := 193) (i := 3) C (e_D hG) rfl ttJ4 (by decide) wd_2_17 rfl dJ5_append_cf1ce_35 ?_
  refine x_iload_n (pc := 38) (i := 2) C 0 dJ5_append_cf1ce_38 rfl rfl ?_
  refine x_iadd (pc := 39) C dJ5_append_cf1ce_39 ?_
  refine x_put (pc := 40) (B2 := (sbi B5 193 3 ((bi B5 193 3) + r1))) (M2 := M) (O2 := O) (q := 193) (i := 3) C tyJ4 tyJ4_ok nmJ4 (e_D hG) rfl ttJ4 (by decide) wd_2_17 rfl rfl rfl (Nat.le_of_ble_eq_true rfl) dJ5_append_cf1ce_40 (put_D_3 hG) (o_sbi 193 3 ((bi B5 193 3) + r1)) ?_
  refine x_nmB (fun B6 eB6 => ?_)
  have hR := nmE hR eB6
  refine x_aload_n (pc := 43) (i := 0) C 1 dJ5_append_cf1ce_43 rfl rfl ?_
  exact x_rretB (pc := 44) C rfl hR dJ5_append_cf1ce_44
set_option maxHeartbeats 4000000 in
set_option maxRecDepth 100000 in
theorem c_J4_append_15ec4 {l : Launch} {A : Nat → Prop} {G : GT} {ad : Nat → Nat} (gl : Gl l A G ad) (hG : G.2.2.2.2 2 = 2 ∧ G.2.2.2.2 3 = 2) (i : Nat) (hi : i < 9) (B : StB) (M : StM) (O : StO)  (hok : ok_J4_append_15ec4 i B) : Met l yJ4_append_15ec4 (wof yJ4_append_15ec4 cJ4_append_15ec4 2 (some (.object "java/lang/StringBuilder"))) (rmd 5 0 0) (va_Pc [.ref (ad 193), .ref (G.2.2.1 i)] (PW G A ad B M O)) (QR G A ad (ad 193) (f_J4_append_15ec4 i B) M O) 0 0 A := by
  refine x_bodyF (own := RJ4) (by decide +kernel) rfl gl (Nat.le_of_ble_eq_true rfl) (ls := [(0, .ref (ad 193)), (1, .ref (G.2.2.1 i))]) rfl ?_
  intro p0 e s m args below meth c C
  have hR : (f_J4_append_15ec4 i B) = (nm (f_J5_append_cf1ce i B) (fun (B2 : StB) => B2)) := rfl
  have hok : ((ok_J5_append_cf1ce i B)) := hok
  refine x_aload_n (pc := 0) (i := 0) C 0 dJ4_append_15ec4_0 rfl rfl ?_
  refine x_aload_n (pc := 1) (i := 1) C 1 dJ4_append_15ec4_1 rfl rfl ?_
  have h1 := hok
  refine x_cRSU (pc := 2) (as := [.ref (G.2.2.1 i)]) (q := 193) C (c_J5_append_cf1ce C.2.2.2.2.2.2.2.1 hG i hi B M O  h1) (fs := _) (e_D hG) rfl cu_J5_append_cf1ce cd_J5_append_cf1ce wd_5_47 ⟨Nat.le_of_ble_eq_true rfl, Nat.le_of_ble_eq_true rfl⟩ ⟨Nat.le_of_ble_eq_true rfl, Nat.le_of_ble_eq_true rfl⟩ rfl rfl (Nat.le_of_ble_eq_true rfl) dJ4_append_15ec4_2 ?_
  refine x_nmB (fun B2 eB2 => ?_)
  have hR := nmE hR eB2
  refine x_pop (pc := 5) C dJ4_append_15ec4_5 rfl ?_
  refine x_aload_n (pc := 6) (i := 0) C 0 dJ4_append_15ec4_6 rfl rfl ?_
  exact x_rretB (pc := 7) C rfl hR dJ4_append_15ec4_7
