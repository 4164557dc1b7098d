set_option maxHeartbeats 4000000 in
set_option maxRecDepth 100000 in
theorem c_J3_checkIndex_8e157 {l : Launch} {A : Nat → Prop} {G : GT} {ad : Nat → Nat} (gl : Gl l A ad) (B : StB) (M : StM) (O : StO) (x0 x1 : Int32) (w0 : Value) (hw : w0 = .null ∨ ∃ t, w0 = .ref t) (h0 : ¬ x0 < 0) (h1 : x0 < x1) : Met l yJ3_checkIndex_8e157 (wof yJ3_checkIndex_8e157 cJ3_checkIndex_8e157 3 (some .int)) (rmd 1 0 0) (va_Pc [.int x0, .int x1, w0] (PW G A ad B M O)) (QI G A ad x0 B M O) 0 0 A := by
  have key : ∀ v : Value, v.category = 1 → Met l yJ3_checkIndex_8e157 (wof yJ3_checkIndex_8e157 cJ3_checkIndex_8e157 3 (some .int)) (rmd 1 0 0) (va_Pc [.int x0, .int x1, v] (PW G A ad B M O)) (QI G A ad x0 B M O) 0 0 A := by
    intro v hv
    refine x_bodyF (own := RJ3) (by decide +kernel) rfl gl (by simp [lg_sl, hv, show ∀ x : Int32, (Value.int x).category = 1 from fun _ => rfl]) (ls := [(0, .int x0), (1, .int x1), (2, v)]) rfl ?_
    intro p0 e s m args below meth c C
    refine x_iload_n (pc := 0) (i := 0) C 0 dJ3_checkIndex_8e157_0 rfl rfl ?_
    refine x_if_lt (pc := 1) (tgt := 9) C dJ3_checkIndex_8e157_1 (by decide) (fun z => absurd z h0) (fun _ => ?_)
    refine x_iload_n (pc := 4) (i := 0) C 0 dJ3_checkIndex_8e157_4 rfl rfl ?_
    refine x_iload_n (pc := 5) (i := 1) C 1 dJ3_checkIndex_8e157_5 rfl rfl ?_
    refine x_icmp_lt (pc := 6) (tgt := 16) C dJ3_checkIndex_8e157_6 (by decide) (fun _ => ?_) (fun z => absurd h1 z)
    refine x_iload_n (pc := 16) (i := 0) C 0 dJ3_checkIndex_8e157_16 rfl rfl ?_
    exact x_iret (pc := 17) C rfl rfl dJ3_checkIndex_8e157_17
  rcases hw with rfl | ⟨t, rfl⟩
  · exact key _ rfl
  · exact key _ rfl
set_option maxHeartbeats 4000000 in
set_option maxRecDepth 100000 in
theorem c_J0_checkIndex_df160 {l : Launch} {A : Nat → Prop} {G : GT} {ad : Nat → Nat} (gl : Gl l A ad) (B : StB) (M : StM) (O : StO) (x0 x1 : Int32) (hok : ok_J0_checkIndex_df160 x0 x1) : Met l yJ0_checkIndex_df160 (wof yJ0_checkIndex_df160 cJ0_checkIndex_df160 2 none) (rmd 2 0 0) (va_Pc [.int x0, .int x1] (PW G A ad B M O)) (QV G A ad B M O) 0 0 A := by
  refine x_bodyF (own := RJ0) (by decide +kernel) rfl gl (Nat.le_of_ble_eq_true rfl) (ls := [(0, .int x0), (1, .int x1)]) rfl ?_
  intro p0 e s m args below meth c C
  refine x_iload_n (pc := 0) (i := 0) C 0 dJ0_checkIndex_df160_0 rfl rfl ?_
  refine x_iload_n (pc := 1) (i := 1) C 1 dJ0_checkIndex_df160_1 rfl rfl ?_
  refine x_getsQ (pc := 2) C wd_5_67 dJ0_checkIndex_df160_2 (fun v hv => ?_)
  refine x_cIS (pc := 5) (as := [.int x0, .int x1, v]) C (c_J3_checkIndex_8e157 C.2.2.2.2.2.2.2.1 B M O x0 x1 v hv hok.1 hok.2) wd_6_25 cd_J3_checkIndex_8e157 wd_6_24 ⟨Nat.le_of_ble_eq_true rfl, Nat.le_of_ble_eq_true rfl⟩ ⟨Nat.le_of_ble_eq_true rfl, Nat.le_of_ble_eq_true rfl⟩ rfl rfl (Nat.le_of_ble_eq_true rfl) dJ0_checkIndex_df160_5 ?_
  refine x_pop (pc := 8) C dJ0_checkIndex_df160_8 rfl ?_
  exact x_vret (pc := 9) C rfl dJ0_checkIndex_df160_9

set_option maxHeartbeats 4000000 in
set_option maxRecDepth 100000 in
theorem c_J0_coder_7d493 {l : Launch} {A : Nat → Prop} {G : GT} {ad : Nat → Nat} (gl : Gl l A ad) (i : Nat) (hi : i < 10) (B : StB) (M : StM) (O : StO)  : Met l yJ0_coder_7d493 (wof yJ0_coder_7d493 cJ0_coder_7d493 1 (some .byte)) (rmd 1 0 0) (va_Pc [.ref (G.2.2.1 i)] (PW G A ad B M O)) (QI G A ad (f_J0_coder_7d493 i) B M O) 0 0 A := by
  refine x_bodyF (own := RJ0) (by decide +kernel) rfl gl (Nat.le_of_ble_eq_true rfl) (ls := [(0, .ref (G.2.2.1 i))]) rfl ?_
  intro p0 e s m args below meth c C
  have hR : (f_J0_coder_7d493 i) = 0 := rfl
  refine x_getsC (pc := 0) C wd_5_89 dJ0_coder_7d493_0 ?_
  refine x_if_eq (pc := 3) (tgt := 13) C dJ0_coder_7d493_3 (by decide) (fun hf => absurd hf (by decide)) (fun _ => ?_)
  refine x_aload_n (pc := 6) (i := 0) C 0 dJ0_coder_7d493_6 rfl rfl ?_
  refine x_getKc (pc := 7) (i := i) C hi wd_5_209 dJ0_coder_7d493_7 ?_
  refine x_goto (pc := 10) (tgt := 14) C dJ0_coder_7d493_10 (by decide) ?_
  exact x_zret (pc := 14) C rfl (by decide) hR dJ0_coder_7d493_14
set_option maxHeartbeats 4000000 in
set_option maxRecDepth 100000 in
theorem c_J0_isLatin1_aae02 {l : Launch} {A : Nat → Prop} {G : GT} {ad : Nat → Nat} (gl : Gl l A ad) (i : Nat) (hi : i < 10) (B : StB) (M : StM) (O : StO)  : Met l yJ0_isLatin1_aae02 (wof yJ0_isLatin1_aae02 cJ0_isLatin1_aae02 1 (some .boolean)) (rmd 1 0 0) (va_Pc [.ref (G.2.2.1 i)] (PW G A ad B M O)) (QI G A ad (f_J0_isLatin1_aae02 i) B M O) 0 0 A := by
  refine x_bodyF (own := RJ0) (by decide +kernel) rfl gl (Nat.le_of_ble_eq_true rfl) (ls := [(0, .ref (G.2.2.1 i))]) rfl ?_
  intro p0 e s m args below meth c C
  have hR : (f_J0_isLatin1_aae02 i) = 1 := rfl
  refine x_getsC (pc := 0) C wd_5_89 dJ0_isLatin1_aae02_0 ?_
  refine x_if_eq (pc := 3) (tgt := 17) C dJ0_isLatin1_aae02_3 (by decide) (fun hf => absurd hf (by decide)) (fun _ => ?_)
  refine x_aload_n (pc := 6) (i := 0) C 0 dJ0_isLatin1_aae02_6 rfl rfl ?_
  refine x_getKc (pc := 7) (i := i) C hi wd_5_209 dJ0_isLatin1_aae02_7 ?_
  refine x_if_ne (pc := 10) (tgt := 17) C dJ0_isLatin1_aae02_10 (by decide) (fun hf => absurd hf (by decide)) (fun _ => ?_)
  refine x_iconst (pc := 13) (v := 1) C dJ0_isLatin1_aae02_13 (by decide) ?_
  refine x_goto (pc := 14) (tgt := 18) C dJ0_isLatin1_aae02_14 (by decide) ?_
  exact x_zret (pc := 18) C rfl (by decide) hR dJ0_isLatin1_aae02_18
set_option maxHeartbeats 4000000 in
set_option maxRecDepth 100000 in
theorem c_J0_isEmpty_aae02 {l : Launch} {A : Nat → Prop} {G : GT} {ad : Nat → Nat} (gl : Gl l A ad) (i : Nat) (hi : i < 10) (B : StB) (M : StM) (O : StO)  : Met l yJ0_isEmpty_aae02 (wof yJ0_isEmpty_aae02 cJ0_isEmpty_aae02 1 (some .boolean)) (rmd 1 0 0) (va_Pc [.ref (G.2.2.1 i)] (PW G A ad B M O)) (QI G A ad (f_J0_isEmpty_aae02 i) B M O) 0 0 A := by
  refine x_bodyF (own := RJ0) (by decide +kernel) rfl gl (Nat.le_of_ble_eq_true rfl) (ls := [(0, .ref (G.2.2.1 i))]) rfl ?_
  intro p0 e s m args below meth c C
  have hR : (f_J0_isEmpty_aae02 i) = (if (Int32.ofNat (kLen.getD i 0)) = 0 then 1 else 0) := rfl
  refine x_aload_n (pc := 0) (i := 0) C 0 dJ0_isEmpty_aae02_0 rfl rfl ?_
  refine x_getKv (pc := 1) (i := i) C hi wd_5_208 dJ0_isEmpty_aae02_1 ?_
  refine x_alenK (pc := 4) (i := i) C hi dJ0_isEmpty_aae02_4 ?_
  refine x_if_ne (pc := 5) (tgt := 12) C dJ0_isEmpty_aae02_5 (by decide) (fun c1 => ?_) (fun c1 => ?_)
  · have hR := hR.trans (if_neg c1)
    refine x_iconst (pc := 12) (v := 0) C dJ0_isEmpty_aae02_12 (by decide) ?_
    exact x_zret (pc := 13) C rfl (by decide) hR dJ0_isEmpty_aae02_13
  · have hR := hR.trans (if_pos c1)
    refine x_iconst (pc := 8) (v := 1) C dJ0_isEmpty_aae02_8 (by decide) ?_
    refine x_goto (pc := 9) (tgt := 13) C dJ0_isEmpty_aae02_9 (by decide) ?_
    exact x_zret (pc := 13) C rfl (by decide) hR dJ0_isEmpty_aae02_13
set_option maxHeartbeats 4000000 in
set_option maxRecDepth 100000 in
theorem c_J1_charAt_3b067 {l : Launch} {A : Nat → Prop} {G : GT} {ad : Nat → Nat} (gl : Gl l A ad) (i : Nat) (hi : i < 10) (B : StB) (M : StM) (O : StO) (x1 : Int32) (hok : ok_J1_charAt_3b067 i x1) : Met l yJ1_charAt_3b067 (wof yJ1_charAt_3b067 cJ1_charAt_3b067 2 (some .char)) (rmd 3 0 0) (va_Pc [.ref (G.2.2.2.1 i), .int x1] (PW G A ad B M O)) (QI G A ad (f_J1_charAt_3b067 i x1) B M O) 0 0 A := by
  refine x_bodyF (own := RJ1) (by decide +kernel) rfl gl (Nat.le_of_ble_eq_true rfl) (ls := [(0, .ref (G.2.2.2.1 i)), (1, .int x1)]) rfl ?_
  intro p0 e s m args below meth c C
  have hR : (f_J1_charAt_3b067 i x1) = (Int32.toUInt32 (((kByt.getD i []).getD (ix x1) 0) &&& 255) % 65536).toInt32 := rfl
  have hok : ((ok_J0_checkIndex_df160 x1 (Int32.ofNat (kLen.getD i 0))) ∧ (vp_in x1 (kLen.getD i 0) ∧ (narrow .char (.int ((Int32.toUInt32 (((kByt.getD i []).getD (ix x1) 0) &&& 255) % 65536).toInt32)) = .int ((Int32.toUInt32 (((kByt.getD i []).getD (ix x1) 0) &&& 255) % 65536).toInt32)))) := hok
  refine x_iload_n (pc := 0) (i := 1) C 1 dJ1_charAt_3b067_0 rfl rfl ?_
  refine x_aload_n (pc := 1) (i := 0) C 0 dJ1_charAt_3b067_1 rfl rfl ?_
  refine x_alenK (pc := 2) (i := i) C hi dJ1_charAt_3b067_2 ?_
  have h1 := hok.1
  have hok := hok.2
  refine x_cVS (pc := 3) (as := [.int x1, .int (Int32.ofNat (kLen.getD i 0))]) C (c_J0_checkIndex_df160 C.2.2.2.2.2.2.2.1  B M O x1 (Int32.ofNat (kLen.getD i 0)) h1) wd_6_22 cd_J0_checkIndex_df160 wd_6_21 ⟨Nat.le_of_ble_eq_true rfl, Nat.le_of_ble_eq_true rfl⟩ ⟨Nat.le_of_ble_eq_true rfl, Nat.le_of_ble_eq_true rfl⟩ rfl rfl (Nat.le_of_ble_eq_true rfl) dJ1_charAt_3b067_3 ?_
  refine x_aload_n (pc := 6) (i := 0) C 0 dJ1_charAt_3b067_6 rfl rfl ?_
  refine x_iload_n (pc := 7) (i := 1) C 1 dJ1_charAt_3b067_7 rfl rfl ?_
  have h2 := hok.1
  have hok := hok.2
  refine x_baldK (pc := 8) (i := i) C hi h2 dJ1_charAt_3b067_8 ?_
  refine x_sipush (pc := 9) (v := 255) C dJ1_charAt_3b067_9 (by decide) ?_
  refine x_iand (pc := 12) C dJ1_charAt_3b067_12 ?_
  refine x_i2c (pc := 13) C dJ1_charAt_3b067_13 ?_
  have h3 := hok
  exact x_zret (pc := 14) C rfl h3 hR dJ1_charAt_3b067_14
set_option maxHeartbeats 4000000 in
set_option maxRecDepth 100000 in
theorem c_J1_canEncode_9a6ad {l : Launch} {A : Nat → Prop} {G : GT} {ad : Nat → Nat} (gl : Gl l A ad)  (B : StB) (M : StM) (O : StO) (x0 : Int32) : Met l yJ1_canEncode_9a6ad (wof yJ1_canEncode_9a6ad cJ1_canEncode_9a6ad 1 (some .boolean)) (rmd 1 0 0) (va_Pc [.int x0] (PW G A ad B M O)) (QI G A ad (f_J1_canEncode_9a6ad x0) B M O) 0 0 A := by
  refine x_bodyF (own := RJ1) (by decide +kernel) rfl gl (Nat.le_of_ble_eq_true rfl) (ls := [(0, .int x0)]) rfl ?_
  intro p0 e s m args below meth c C
  have hR : (f_J1_canEncode_9a6ad x0) = (if x0 < 0 then 0 else (if 255 < x0 then 0 else 1)) := rfl
  refine x_iload_n (pc := 0) (i := 0) C 0 dJ1_canEncode_9a6ad_0 rfl rfl ?_
  refine x_if_lt (pc := 1) (tgt := 15) C dJ1_canEncode_9a6ad_1 (by decide) (fun c1 => ?_) (fun c1 => ?_)
  · have hR := hR.trans (if_pos c1)
    refine x_iconst (pc := 15) (v := 0) C dJ1_canEncode_9a6ad_15 (by decide) ?_
    exact x_zret (pc := 16) C rfl (by decide) hR dJ1_canEncode_9a6ad_16
  · have hR := hR.trans (if_neg c1)
    refine x_iload_n (pc := 4) (i := 0) C 0 dJ1_canEncode_9a6ad_4 rfl rfl ?_
    refine x_sipush (pc := 5) (v := 255) C dJ1_canEncode_9a6ad_5 (by decide) ?_
    refine x_icmp_gt (pc := 8) (tgt := 15) C dJ1_canEncode_9a6ad_8 (by decide) (fun c2 => ?_) (fun c2 => ?_)
    · have hR := hR.trans (if_pos c2)
      refine x_iconst (pc := 15) (v := 0) C dJ1_canEncode_9a6ad_15 (by decide) ?_
      exact x_zret (pc := 16) C rfl (by decide) hR dJ1_canEncode_9a6ad_16
    · have hR := hR.trans (if_neg c2)
      refine x_iconst (pc := 11) (v := 1) C dJ1_canEncode_9a6ad_11 (by decide) ?_
      refine x_goto (pc := 12) (tgt := 16) C dJ1_canEncode_9a6ad_12 (by decide) ?_
      exact x_zret (pc := 16) C rfl (by decide) hR dJ1_canEncode_9a6ad_16
set_option maxHeartbeats 4000000 in
set_option maxRecDepth 100000 in
theorem t_J1_indexOfChar_4cfef_L7 {p0 : Program} {l : Launch} {e : Env} {s : State} {m : MethodId} {args : Array Value} {below : List Frame} {meth : Method} {c : Code} {A : Nat → Prop} {G : GT} {ad : Nat → Nat} (C : CX p0 l s m args meth c A G ad cJ1_indexOfChar_4cfef RJ1 6 (some .int)) {i : Nat} (hi : i < 10)   (n : Nat)  (a3 : Int32) (a4 : Int32) (a5 : Int32) (B : StB) (M : StM) (O : StO) : ∀ (R0 : Int32) (hR : R0 = f_J1_indexOfChar_4cfef_L7 n i a3 a4 a5) (hok : ok_J1_indexOfChar_4cfef_L7 n i a3 a4 a5), X p0 l e (rmd 1 0 0) s m args below meth c A G ad 6 0 0 (MQ below (QI G A ad R0 B M O) args s 0 0 A) B M O [(0, .ref (G.2.2.2.1 i)), (3, .int a3), (4, .int a4), (5, .int a5)] 7 [] := by
  induction n generalizing a3 a4 a5 with
  | zero => intro R0 hR hok; exact False.elim hok
  | succ n ih =>
    intro R0 hR hok
    have hR : R0 = (if a3 ≤ a5 then (-1) else (if ((kByt.getD i []).getD (ix a5) 0) = a4 then a5 else (f_J1_indexOfChar_4cfef_L7 n i a3 a4 (a5 + 1)))) := hR
    have hok : ((a3 ≤ a5 → True) ∧ (¬ a3 ≤ a5 → (vp_in a5 (kLen.getD i 0) ∧ ((((kByt.getD i []).getD (ix a5) 0) = a4 → True) ∧ (¬ ((kByt.getD i []).getD (ix a5) 0) = a4 → (ok_J1_indexOfChar_4cfef_L7 n i a3 a4 (a5 + 1))))))) := hok
    refine x_iload (pc := 7) (i := 5) C 3 dJ1_indexOfChar_4cfef_7 rfl ?_
    refine x_iload_n (pc := 9) (i := 3) C 1 dJ1_indexOfChar_4cfef_9 rfl rfl ?_
    refine x_icmp_ge (pc := 10) (tgt := 31) C dJ1_indexOfChar_4cfef_10 (by decide) (fun c2 => ?_) (fun c2 => ?_)
    · have hR := hR.trans (if_pos c2)
      refine x_iconst (pc := 31) (v := (-1)) C dJ1_indexOfChar_4cfef_31 (by decide) ?_
      exact x_iret (pc := 32) C rfl hR dJ1_indexOfChar_4cfef_32
    · have hR := hR.trans (if_neg c2)
      have hok := hok.2 c2
      refine x_aload_n (pc := 13) (i := 0) C 0 dJ1_indexOfChar_4cfef_13 rfl rfl ?_
      refine x_iload (pc := 14) (i := 5) C 3 dJ1_indexOfChar_4cfef_14 rfl ?_
      have h3 := hok.1
      have hok := hok.2
      refine x_baldK (pc := 16) (i := i) C hi h3 dJ1_indexOfChar_4cfef_16 ?_
      refine x_iload (pc := 17) (i := 4) C 2 dJ1_indexOfChar_4cfef_17 rfl ?_
      refine x_icmp_ne (pc := 19) (tgt := 25) C dJ1_indexOfChar_4cfef_19 (by decide) (fun c4 => ?_) (fun c4 => ?_)
      · have hR := hR.trans (if_neg c4)
        have hok := hok.2 c4
        refine x_iinc (pc := 25) (i := 5) (v := (a5 + 1)) (ls2 := [(5, .int (a5 + 1)), (0, .ref (G.2.2.2.1 i)), (3, .int a3), (4, .int a4)]) C 3 dJ1_indexOfChar_4cfef_25 rfl rfl (by decide) rfl ?_
        refine x_goto (pc := 28) (tgt := 7) C dJ1_indexOfChar_4cfef_28 (by decide) ?_
        refine x_sub [1, 2, 3, 0] (ls2 := [(0, .ref (G.2.2.2.1 i)), (3, .int a3), (4, .int a4), (5, .int (a5 + 1))]) rfl ?_
        exact ih a3 a4 (a5 + 1) R0 hR hok
      · have hR := hR.trans (if_pos c4)
        refine x_iload (pc := 22) (i := 5) C 3 dJ1_indexOfChar_4cfef_22 rfl ?_
        exact x_iret (pc := 24) C rfl hR dJ1_indexOfChar_4cfef_24
set_option maxHeartbeats 4000000 in
set_option maxRecDepth 100000 in
theorem c_J1_indexOfChar_4cfef {l : Launch} {A : Nat → Prop} {G : GT} {ad : Nat → Nat} (gl : Gl l A ad) (i : Nat) (hi : i < 10) (B : StB) (M : StM) (O : StO) (x1 : Int32) (x2 : Int32) (x3 : Int32) (hok : ok_J1_indexOfChar_4cfef i x1 x2 x3) : Met l yJ1_indexOfChar_4cfef (wof yJ1_indexOfChar_4cfef cJ1_indexOfChar_4cfef 6 (some .int)) (rmd 1 0 0) (va_Pc [.ref (G.2.2.2.1 i), .int x1, .int x2, .int x3] (PW G A ad B M O)) (QI G A ad (f_J1_indexOfChar_4cfef i x1 x2 x3) B M O) 0 0 A := by
  refine x_bodyF (own := RJ1) (by decide +kernel) rfl gl (Nat.le_of_ble_eq_true rfl) (ls := [(0, .ref (G.2.2.2.1 i)), (1, .int x1), (2, .int x2), (3, .int x3)]) rfl ?_
  intro p0 e s m args below meth c C
  have hR : (f_J1_indexOfChar_4cfef i x1 x2 x3) = (nm ((Int32.toInt8 x1).toInt32) (fun (v1 : Int32) => (f_J1_indexOfChar_4cfef_L7 fu i x3 v1 x2))) := rfl
  have hok : (∀ v1 : Int32, v1 = (Int32.toInt8 x1).toInt32 → (ok_J1_indexOfChar_4cfef_L7 fu i x3 v1 x2)) := hok
  refine x_iload_n (pc := 0) (i := 1) C 1 dJ1_indexOfChar_4cfef_0 rfl rfl ?_
  refine x_i2b (pc := 1) C dJ1_indexOfChar_4cfef_1 ?_
  refine x_nmI (fun v1 ev1 => ?_)
  have hR := nmE hR ev1
  have hok := hok v1 ev1
  refine x_istore (pc := 2) (i := 4) (ls2 := [(4, .int v1), (0, .ref (G.2.2.2.1 i)), (1, .int x1), (2, .int x2), (3, .int x3)]) C dJ1_indexOfChar_4cfef_2 (by decide) rfl ?_
  refine x_iload_n (pc := 4) (i := 2) C 3 dJ1_indexOfChar_4cfef_4 rfl rfl ?_
  refine x_istore (pc := 5) (i := 5) (ls2 := [(5, .int x2), (4, .int v1), (0, .ref (G.2.2.2.1 i)), (1, .int x1), (2, .int x2), (3, .int x3)]) C dJ1_indexOfChar_4cfef_5 (by decide) rfl ?_
  refine x_sub [2, 5, 1, 0] (ls2 := [(0, .ref (G.2.2.2.1 i)), (3, .int x3), (4, .int v1), (5, .int x2)]) rfl ?_
  exact t_J1_indexOfChar_4cfef_L7 C hi fu x3 v1 x2 B M O _ hR hok
set_option maxHeartbeats 4000000 in
set_option maxRecDepth 100000 in
theorem c_J0_length_8abf5 {l : Launch} {A : Nat → Prop} {G : GT} {ad : Nat → Nat} (gl : Gl l A ad) (i : Nat) (hi : i < 10) (B : StB) (M : StM) (O : StO)  : Met l yJ0_length_8abf5 (wof yJ0_length_8abf5 cJ0_length_8abf5 1 (some .int)) (rmd 2 0 0) (va_Pc [.ref (G.2.2.1 i)] (PW G A ad B M O)) (QI G A ad (f_J0_length_8abf5 i) B M O) 0 0 A := by
  refine x_bodyF (own := RJ0) (by decide +kernel) rfl gl (Nat.le_of_ble_eq_true rfl) (ls := [(0, .ref (G.2.2.1 i))]) rfl ?_
  intro p0 e s m args below meth c C
  have hR : (f_J0_length_8abf5 i) = (nm (f_J0_coder_7d493 i) (fun (r1 : Int32) => ((Int32.ofNat (kLen.getD i 0)) >>> (r1 &&& 31)))) := rfl
  refine x_aload_n (pc := 0) (i := 0) C 0 dJ0_length_8abf5_0 rfl rfl ?_
  refine x_getKv (pc := 1) (i := i) C hi wd_5_208 dJ0_length_8abf5_1 ?_
  refine x_alenK (pc := 4) (i := i) C hi dJ0_length_8abf5_4 ?_
  refine x_aload_n (pc := 5) (i := 0) C 0 dJ0_length_8abf5_5 rfl rfl ?_
  refine x_cIVK (pc := 6) (as := []) C (c_J0_coder_7d493 C.2.2.2.2.2.2.2.1 i hi B M O ) hi rfl cv_J0_coder_7d493 cd_J0_coder_7d493 wd_5_85 ⟨Nat.le_of_ble_eq_true rfl, Nat.le_of_ble_eq_true rfl⟩ ⟨Nat.le_of_ble_eq_true rfl, Nat.le_of_ble_eq_true rfl⟩ rfl rfl (Nat.le_of_ble_eq_true rfl) dJ0_length_8abf5_6 ?_
  refine x_nmI (fun r1 er1 => ?_)
  have hR := nmE hR er1
  refine x_ishr (pc := 9) C dJ0_length_8abf5_9 ?_
  exact x_iret (pc := 10) C rfl hR dJ0_length_8abf5_10
set_option maxHeartbeats 4000000 in
set_option maxRecDepth 100000 in
theorem c_J0_charAt_5068e {l : Launch} {A : Nat → Prop} {G : GT} {ad : Nat → Nat} (gl : Gl l A ad) (i : Nat) (hi : i < 10) (B : StB) (M : StM) (O : StO) (x0 : Int32) (hok : ok_J0_charAt_5068e i x0) : Met l yJ0_charAt_5068e (wof yJ0_charAt_5068e cJ0_charAt_5068e 2 (some .char)) (rmd 4 0 0) (va_Pc [.ref (G.2.2.1 i), .int x0] (PW G A ad B M O)) (QI G A ad (f_J0_charAt_5068e i x0) B M O) 0 0 A := by
  refine x_bodyF (own := RJ0) (by decide +kernel) rfl gl (Nat.le_of_ble_eq_true rfl) (ls := [(0, .ref (G.2.2.1 i)), (1, .int x0)]) rfl ?_
  intro p0 e s m args below meth c C
  have hR : (f_J0_charAt_5068e i x0) = (nm (f_J0_isLatin1_aae02 i) (fun (r1 : Int32) => (nm (f_J1_charAt_3b067 i x0) (fun (r4 : Int32) => r4)))) := rfl
  have hok : (∀ r1 : Int32, r1 = (f_J0_isLatin1_aae02 i) → ((¬ r1 = 0) ∧ ((ok_J1_charAt_3b067 i x0) ∧ (∀ r4 : Int32, r4 = (f_J1_charAt_3b067 i x0) → (narrow .char (.int r4) = .int r4))))) := hok
  refine x_aload_n (pc := 0) (i := 0) C 0 dJ0_charAt_5068e_0 rfl rfl ?_
  refine x_cIVK (pc := 1) (as := []) C (c_J0_isLatin1_aae02 C.2.2.2.2.2.2.2.1 i hi B M O ) hi rfl cv_J0_isLatin1_aae02 cd_J0_isLatin1_aae02 wd_6_14 ⟨Nat.le_of_ble_eq_true rfl, Nat.le_of_ble_eq_true rfl⟩ ⟨Nat.le_of_ble_eq_true rfl, Nat.le_of_ble_eq_true rfl⟩ rfl rfl (Nat.le_of_ble_eq_true rfl) dJ0_charAt_5068e_1 ?_
  refine x_nmI (fun r1 er1 => ?_)
  have hR := nmE hR er1
  have hok := hok r1 er1
  have c2 := hok.1
  have hok := hok.2
  refine x_if_eq (pc := 4) (tgt := 16) C dJ0_charAt_5068e_4 (by decide) (fun z => absurd z c2) (fun _ => ?_)
  refine x_aload_n (pc := 7) (i := 0) C 0 dJ0_charAt_5068e_7 rfl rfl ?_
  refine x_getKv (pc := 8) (i := i) C hi wd_5_208 dJ0_charAt_5068e_8 ?_
  refine x_iload_n (pc := 11) (i := 1) C 1 dJ0_charAt_5068e_11 rfl rfl ?_
  have h3 := hok.1
  have hok := hok.2
  refine x_cIS (pc := 12) (as := [.ref (G.2.2.2.1 i), .int x0]) C (c_J1_charAt_3b067 C.2.2.2.2.2.2.2.1 i hi B M O x0 h3) wd_6_19 cd_J1_charAt_3b067 wd_6_18 ⟨Nat.le_of_ble_eq_true rfl, Nat.le_of_ble_eq_true rfl⟩ ⟨Nat.le_of_ble_eq_true rfl, Nat.le_of_ble_eq_true rfl⟩ rfl rfl (Nat.le_of_ble_eq_true rfl) dJ0_charAt_5068e_12 ?_
  refine x_nmI (fun r4 er4 => ?_)
  have hR := nmE hR er4
  have hok := hok r4 er4
  have h5 := hok
  exact x_zret (pc := 15) C rfl h5 hR dJ0_charAt_5068e_15
set_option maxHeartbeats 4000000 in
set_option maxRecDepth 100000 in
theorem c_J1_indexOf_4cfef {l : Launch} {A : Nat → Prop} {G : GT} {ad : Nat → Nat} (gl : Gl l A ad) (i : Nat) (hi : i < 10) (B : StB) (M : StM) (O : StO) (x1 : Int32) (x2 : Int32) (x3 : Int32) (hok : ok_J1_indexOf_4cfef i x1 x2 x3) : Met l yJ1_indexOf_4cfef (wof yJ1_indexOf_4cfef cJ1_indexOf_4cfef 4 (some .int)) (rmd 2 0 0) (va_Pc [.ref (G.2.2.2.1 i), .int x1, .int x2, .int x3] (PW G A ad B M O)) (QI G A ad (f_J1_indexOf_4cfef i x1 x2 x3) B M O) 0 0 A := by
  refine x_bodyF (own := RJ1) (by decide +kernel) rfl gl (Nat.le_of_ble_eq_true rfl) (ls := [(0, .ref (G.2.2.2.1 i)), (1, .int x1), (2, .int x2), (3, .int x3)]) rfl ?_
  intro p0 e s m args below meth c C
  have hR : (f_J1_indexOf_4cfef i x1 x2 x3) = (nm (f_J1_canEncode_9a6ad x1) (fun (r1 : Int32) => (if r1 = 0 then (-1) else (nm (mx x2 0) (fun (v3 : Int32) => (nm (mn x3 (Int32.ofNat (kLen.getD i 0))) (fun (v4 : Int32) => (if v3 < v4 then (nm (f_J1_indexOfChar_4cfef i x1 v3 v4) (fun (r7 : Int32) => r7)) else (-1))))))))) := rfl
  have hok : (∀ r1 : Int32, r1 = (f_J1_canEncode_9a6ad x1) → ((r1 = 0 → True) ∧ (¬ r1 = 0 → (∀ v3 : Int32, v3 = (mx x2 0) → (∀ v4 : Int32, v4 = (mn x3 (Int32.ofNat (kLen.getD i 0))) → ((v3 < v4 → ((ok_J1_indexOfChar_4cfef i x1 v3 v4))) ∧ (¬ v3 < v4 → True))))))) := hok
  refine x_iload_n (pc := 0) (i := 1) C 1 dJ1_indexOf_4cfef_0 rfl rfl ?_
  refine x_cIS (pc := 1) (as := [.int x1]) C (c_J1_canEncode_9a6ad C.2.2.2.2.2.2.2.1  B M O x1) wd_6_106 cd_J1_canEncode_9a6ad wd_6_105 ⟨Nat.le_of_ble_eq_true rfl, Nat.le_of_ble_eq_true rfl⟩ ⟨Nat.le_of_ble_eq_true rfl, Nat.le_of_ble_eq_true rfl⟩ rfl rfl (Nat.le_of_ble_eq_true rfl) dJ1_indexOf_4cfef_1 ?_
  refine x_nmI (fun r1 er1 => ?_)
  have hR := nmE hR er1
  have hok := hok r1 er1
  refine x_if_ne (pc := 4) (tgt := 9) C dJ1_indexOf_4cfef_4 (by decide) (fun c2 => ?_) (fun c2 => ?_)
  · have hR := hR.trans (if_neg c2)
    have hok := hok.2 c2
    refine x_iload_n (pc := 9) (i := 2) C 2 dJ1_indexOf_4cfef_9 rfl rfl ?_
    refine x_iconst (pc := 10) (v := 0) C dJ1_indexOf_4cfef_10 (by decide) ?_
    refine x_mmax (pc := 11) C wd_6_108 wd_3_211 wd_1_21 wd_3_212 ⟨Nat.le_of_ble_eq_true rfl, Nat.le_of_ble_eq_true rfl⟩ ⟨Nat.le_of_ble_eq_true rfl, Nat.le_of_ble_eq_true rfl⟩ dJ1_indexOf_4cfef_11 ?_
    refine x_nmI (fun v3 ev3 => ?_)
    have hR := nmE hR ev3
    have hok := hok v3 ev3
    refine x_istore_n (pc := 14) (i := 2) (ls2 := [(2, .int v3), (0, .ref (G.2.2.2.1 i)), (1, .int x1), (3, .int x3)]) C dJ1_indexOf_4cfef_14 rfl (by decide) rfl ?_
    refine x_iload_n (pc := 15) (i := 3) C 3 dJ1_indexOf_4cfef_15 rfl rfl ?_
    refine x_aload_n (pc := 16) (i := 0) C 1 dJ1_indexOf_4cfef_16 rfl rfl ?_
    refine x_alenK (pc := 17) (i := i) C hi dJ1_indexOf_4cfef_17 ?_
    refine x_mmin (pc := 18) C wd_6_109 wd_3_52 wd_1_21 wd_3_53 ⟨Nat.le_of_ble_eq_true rfl, Nat.le_of_ble_eq_true rfl⟩ ⟨Nat.le_of_ble_eq_true rfl, Nat.le_of_ble_eq_true rfl⟩ dJ1_indexOf_4cfef_18 ?_
    refine x_nmI (fun v4 ev4 => ?_)
    have hR := nmE hR ev4
    have hok := hok v4 ev4
    refine x_istore_n (pc := 21) (i := 3) (ls2 := [(3, .int v4), (2, .int v3), (0, .ref (G.2.2.2.1 i)), (1, .int x1)]) C dJ1_indexOf_4cfef_21 rfl (by decide) rfl ?_
    refine x_iload_n (pc := 22) (i := 2) C 1 dJ1_indexOf_4cfef_22 rfl rfl ?_
    refine x_iload_n (pc := 23) (i := 3) C 0 dJ1_indexOf_4cfef_23 rfl rfl ?_
    refine x_icmp_lt (pc := 24) (tgt := 29) C dJ1_indexOf_4cfef_24 (by decide) (fun c5 => ?_) (fun c5 => ?_)
    · have hR := hR.trans (if_pos c5)
      have hok := hok.1 c5
      refine x_aload_n (pc := 29) (i := 0) C 2 dJ1_indexOf_4cfef_29 rfl rfl ?_
      refine x_iload_n (pc := 30) (i := 1) C 3 dJ1_indexOf_4cfef_30 rfl rfl ?_
      refine x_iload_n (pc := 31) (i := 2) C 1 dJ1_indexOf_4cfef_31 rfl rfl ?_
      refine x_iload_n (pc := 32) (i := 3) C 0 dJ1_indexOf_4cfef_32 rfl rfl ?_
      have h6 := hok
      refine x_cIS (pc := 33) (as := [.ref (G.2.2.2.1 i), .int x1, .int v3, .int v4]) C (c_J1_indexOfChar_4cfef C.2.2.2.2.2.2.2.1 i hi B M O x1 v3 v4 h6) wd_6_111 cd_J1_indexOfChar_4cfef wd_6_110 ⟨Nat.le_of_ble_eq_true rfl, Nat.le_of_ble_eq_true rfl⟩ ⟨Nat.le_of_ble_eq_true rfl, Nat.le_of_ble_eq_true rfl⟩ rfl rfl (Nat.le_of_ble_eq_true rfl) dJ1_indexOf_4cfef_33 ?_
      refine x_nmI (fun r7 er7 => ?_)
      have hR := nmE hR er7
      exact x_iret (pc := 36) C rfl hR dJ1_indexOf_4cfef_36
    · have hR := hR.trans (if_neg c5)
      refine x_iconst (pc := 27) (v := (-1)) C dJ1_indexOf_4cfef_27 (by decide) ?_
      exact x_iret (pc := 28) C rfl hR dJ1_indexOf_4cfef_28
  · have hR := hR.trans (if_pos c2)
    refine x_iconst (pc := 7) (v := (-1)) C dJ1_indexOf_4cfef_7 (by decide) ?_
    exact x_iret (pc := 8) C rfl hR dJ1_indexOf_4cfef_8
set_option maxHeartbeats 4000000 in
set_option maxRecDepth 100000 in
theorem c_J0_indexOf_7cf53 {l : Launch} {A : Nat → Prop} {G : GT} {ad : Nat → Nat} (gl : Gl l A ad) (i : Nat) (hi : i < 10) (B : StB) (M : StM) (O : StO) (x0 : Int32) (x1 : Int32) (hok : ok_J0_indexOf_7cf53 i x0 x1) : Met l yJ0_indexOf_7cf53 (wof yJ0_indexOf_7cf53 cJ0_indexOf_7cf53 3 (some .int)) (rmd 3 0 0) (va_Pc [.ref (G.2.2.1 i), .int x0, .int x1] (PW G A ad B M O)) (QI G A ad (f_J0_indexOf_7cf53 i x0 x1) B M O) 0 0 A := by
  refine x_bodyF (own := RJ0) (by decide +kernel) rfl gl (Nat.le_of_ble_eq_true rfl) (ls := [(0, .ref (G.2.2.1 i)), (1, .int x0), (2, .int x1)]) rfl ?_
  intro p0 e s m args below meth c C
  have hR : (f_J0_indexOf_7cf53 i x0 x1) = (nm (f_J0_isLatin1_aae02 i) (fun (r1 : Int32) => (nm (f_J0_length_8abf5 i) (fun (r3 : Int32) => (nm (f_J1_indexOf_4cfef i x0 x1 r3) (fun (r5 : Int32) => r5)))))) := rfl
  have hok : (∀ r1 : Int32, r1 = (f_J0_isLatin1_aae02 i) → ((¬ r1 = 0) ∧ (∀ r3 : Int32, r3 = (f_J0_length_8abf5 i) → ((ok_J1_indexOf_4cfef i x0 x1 r3))))) := hok
  refine x_aload_n (pc := 0) (i := 0) C 0 dJ0_indexOf_7cf53_0 rfl rfl ?_
  refine x_cIVK (pc := 1) (as := []) C (c_J0_isLatin1_aae02 C.2.2.2.2.2.2.2.1 i hi B M O ) hi rfl cv_J0_isLatin1_aae02 cd_J0_isLatin1_aae02 wd_6_14 ⟨Nat.le_of_ble_eq_true rfl, Nat.le_of_ble_eq_true rfl⟩ ⟨Nat.le_of_ble_eq_true rfl, Nat.le_of_ble_eq_true rfl⟩ rfl rfl (Nat.le_of_ble_eq_true rfl) dJ0_indexOf_7cf53_1 ?_
  refine x_nmI (fun r1 er1 => ?_)
  have hR := nmE hR er1
  have hok := hok r1 er1
  have c2 := hok.1
  have hok := hok.2
  refine x_if_eq (pc := 4) (tgt := 23) C dJ0_indexOf_7cf53_4 (by decide) (fun z => absurd z c2) (fun _ => ?_)
  refine x_aload_n (pc := 7) (i := 0) C 0 dJ0_indexOf_7cf53_7 rfl rfl ?_
  refine x_getKv (pc := 8) (i := i) C hi wd_5_208 dJ0_indexOf_7cf53_8 ?_
  refine x_iload_n (pc := 11) (i := 1) C 1 dJ0_indexOf_7cf53_11 rfl rfl ?_
  refine x_iload_n (pc := 12) (i := 2) C 2 dJ0_indexOf_7cf53_12 rfl rfl ?_
  refine x_aload_n (pc := 13) (i := 0) C 0 dJ0_indexOf_7cf53_13 rfl rfl ?_
  refine x_cIVK (pc := 14) (as := []) C (c_J0_length_8abf5 C.2.2.2.2.2.2.2.1 i hi B M O ) hi rfl cv_J0_length_8abf5 cd_J0_length_8abf5 wd_6_101 ⟨Nat.le_of_ble_eq_true rfl, Nat.le_of_ble_eq_true rfl⟩ ⟨Nat.le_of_ble_eq_true rfl, Nat.le_of_ble_eq_true rfl⟩ rfl rfl (Nat.le_of_ble_eq_true rfl) dJ0_indexOf_7cf53_14 ?_
  refine x_nmI (fun r3 er3 => ?_)
  have hR := nmE hR er3
  have hok := hok r3 er3
  have h4 := hok
  refine x_cIS (pc := 17) (as := [.ref (G.2.2.2.1 i), .int x0, .int x1, .int r3]) C (c_J1_indexOf_4cfef C.2.2.2.2.2.2.2.1 i hi B M O x0 x1 r3 h4) wd_6_103 cd_J1_indexOf_4cfef wd_6_102 ⟨Nat.le_of_ble_eq_true rfl, Nat.le_of_ble_eq_true rfl⟩ ⟨Nat.le_of_ble_eq_true rfl, Nat.le_of_ble_eq_true rfl⟩ rfl rfl (Nat.le_of_ble_eq_true rfl) dJ0_indexOf_7cf53_17 ?_
  refine x_nmI (fun r5 er5 => ?_)
  have hR := nmE hR er5
  refine x_goto (pc := 20) (tgt := 36) C dJ0_indexOf_7cf53_20 (by decide) ?_
  exact x_iret (pc := 36) C rfl hR dJ0_indexOf_7cf53_36
set_option maxHeartbeats 4000000 in
set_option maxRecDepth 100000 in
theorem c_J0_indexOf_0f7a4 {l : Launch} {A : Nat → Prop} {G : GT} {ad : Nat → Nat} (gl : Gl l A ad) (i : Nat) (hi : i < 10) (B : StB) (M : StM) (O : StO) (x0 : Int32) (hok : ok_J0_indexOf_0f7a4 i x0) : Met l yJ0_indexOf_0f7a4 (wof yJ0_indexOf_0f7a4 cJ0_indexOf_0f7a4 2 (some .int)) (rmd 4 0 0) (va_Pc [.ref (G.2.2.1 i), .int x0] (PW G A ad B M O)) (QI G A ad (f_J0_indexOf_0f7a4 i x0) B M O) 0 0 A := by
  refine x_bodyF (own := RJ0) (by decide +kernel) rfl gl (Nat.le_of_ble_eq_true rfl) (ls := [(0, .ref (G.2.2.1 i)), (1, .int x0)]) rfl ?_
  intro p0 e s m args below meth c C
  have hR : (f_J0_indexOf_0f7a4 i x0) = (nm (f_J0_indexOf_7cf53 i x0 0) (fun (r2 : Int32) => r2)) := rfl
  have hok : ((ok_J0_indexOf_7cf53 i x0 0)) := hok
  refine x_aload_n (pc := 0) (i := 0) C 0 dJ0_indexOf_0f7a4_0 rfl rfl ?_
  refine x_iload_n (pc := 1) (i := 1) C 1 dJ0_indexOf_0f7a4_1 rfl rfl ?_
  refine x_iconst (pc := 2) (v := 0) C dJ0_indexOf_0f7a4_2 (by decide) ?_
  have h1 := hok
  refine x_cIVK (pc := 3) (as := [.int x0, .int 0]) C (c_J0_indexOf_7cf53 C.2.2.2.2.2.2.2.1 i hi B M O x0 0 h1) hi rfl cv_J0_indexOf_7cf53 cd_J0_indexOf_7cf53 wd_6_97 ⟨Nat.le_of_ble_eq_true rfl, Nat.le_of_ble_eq_true rfl⟩ ⟨Nat.le_of_ble_eq_true rfl, Nat.le_of_ble_eq_true rfl⟩ rfl rfl (Nat.le_of_ble_eq_true rfl) dJ0_indexOf_0f7a4_3 ?_
  refine x_nmI (fun r2 er2 => ?_)
  have hR := nmE hR er2
  exact x_iret (pc := 6) C rfl hR dJ0_indexOf_0f7a4_6
