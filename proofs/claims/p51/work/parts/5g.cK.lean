set_option maxHeartbeats 4000000 in
set_option maxRecDepth 100000 in
theorem c_J3_checkIndex_8e157 {l : Launch} {A : Nat → Prop} {G : GT} {ad : Nat → Nat} (gl : Gl l A G ad) (B : StB) (M : StM) (O : StO) (x0 x1 : Int32) (w0 : Value) (hw : w0 = .null ∨ ∃ t, w0 = .ref t) (h0 : ¬ x0 < 0) (h1 : x0 < x1) : Met l yJ3_checkIndex_8e157 (wof yJ3_checkIndex_8e157 cJ3_checkIndex_8e157 3 (some .int)) (rmd 1 0 0) (va_Pc [.int x0, .int x1, w0] (PW G A ad B M O)) (QI G A ad x0 B M O) 0 0 A := by
  have key : ∀ v : Value, v.category = 1 → Met l yJ3_checkIndex_8e157 (wof yJ3_checkIndex_8e157 cJ3_checkIndex_8e157 3 (some .int)) (rmd 1 0 0) (va_Pc [.int x0, .int x1, v] (PW G A ad B M O)) (QI G A ad x0 B M O) 0 0 A := by
    intro v hv
    refine x_bodyF (own := RJ3) (by decide +kernel) rfl gl (by simp [lg_sl, hv, show ∀ x : Int32, (Value.int x).category = 1 from fun _ => rfl]) (ls := [(0, .int x0), (1, .int x1), (2, v)]) rfl ?_
    intro p0 e s m args below meth c C
    refine x_iload_n (pc := 0) (i := 0) C 0 dJ3_checkIndex_8e157_0 rfl rfl ?_
    refine x_if_lt (pc := 1) (tgt := 9) C dJ3_checkIndex_8e157_1 (by decide) (fun z => absurd z h0) (fun _ => ?_)
    refine x_iload_n (pc := 4) (i := 0) C 0 dJ3_checkIndex_8e157_4 rfl rfl ?_
    refine x_iload_n (pc := 5) (i := 1) C 1 dJ3_checkIndex_8e157_5 rfl rfl ?_
    refine x_icmp_lt (pc := 6) (tgt := 16) C dJ3_checkIndex_8e157_6 (by decide) (fun _ => ?_) (fun z => absurd h1 z)
    refine x_iload_n (pc := 16) (i := 0) C 0 dJ3_checkIndex_8e157_16 rfl rfl ?_
    exact x_iret (pc := 17) C rfl rfl dJ3_checkIndex_8e157_17
  rcases hw with rfl | ⟨t, rfl⟩
  · exact key _ rfl
  · exact key _ rfl
set_option maxHeartbeats 4000000 in
set_option maxRecDepth 100000 in
theorem c_J0_checkIndex_df160 {l : Launch} {A : Nat → Prop} {G : GT} {ad : Nat → Nat} (gl : Gl l A G ad) (B : StB) (M : StM) (O : StO) (x0 x1 : Int32) (hok : ok_J0_checkIndex_df160 x0 x1) : Met l yJ0_checkIndex_df160 (wof yJ0_checkIndex_df160 cJ0_checkIndex_df160 2 none) (rmd 2 0 0) (va_Pc [.int x0, .int x1] (PW G A ad B M O)) (QV G A ad B M O) 0 0 A := by
  refine x_bodyF (own := RJ0) (by decide +kernel) rfl gl (Nat.le_of_ble_eq_true rfl) (ls := [(0, .int x0), (1, .int x1)]) rfl ?_
  intro p0 e s m args below meth c C
  refine x_iload_n (pc := 0) (i := 0) C 0 dJ0_checkIndex_df160_0 rfl rfl ?_
  refine x_iload_n (pc := 1) (i := 1) C 1 dJ0_checkIndex_df160_1 rfl rfl ?_
  refine x_getsQ (pc := 2) C wd_4_11 dJ0_checkIndex_df160_2 (fun v hv => ?_)
  refine x_cIS (pc := 5) (as := [.int x0, .int x1, v]) C (c_J3_checkIndex_8e157 C.2.2.2.2.2.2.2.1 B M O x0 x1 v hv hok.1 hok.2) wd_4_64 cd_J3_checkIndex_8e157 wd_4_63 ⟨Nat.le_of_ble_eq_true rfl, Nat.le_of_ble_eq_true rfl⟩ ⟨Nat.le_of_ble_eq_true rfl, Nat.le_of_ble_eq_true rfl⟩ rfl rfl (Nat.le_of_ble_eq_true rfl) dJ0_checkIndex_df160_5 ?_
  refine x_pop (pc := 8) C dJ0_checkIndex_df160_8 rfl ?_
  exact x_vret (pc := 9) C rfl dJ0_checkIndex_df160_9

set_option maxHeartbeats 4000000 in
set_option maxRecDepth 100000 in
theorem c_J0_coder_7d493 {l : Launch} {A : Nat → Prop} {G : GT} {ad : Nat → Nat} (gl : Gl l A G ad) (i : Nat) (hi : i < 9) (B : StB) (M : StM) (O : StO)  : Met l yJ0_coder_7d493 (wof yJ0_coder_7d493 cJ0_coder_7d493 1 (some .byte)) (rmd 1 0 0) (va_Pc [.ref (G.2.2.1 i)] (PW G A ad B M O)) (QI G A ad (f_J0_coder_7d493 i) B M O) 0 0 A := by
  refine x_bodyF (own := RJ0) (by decide +kernel) rfl gl (Nat.le_of_ble_eq_true rfl) (ls := [(0, .ref (G.2.2.1 i))]) rfl ?_
  intro p0 e s m args below meth c C
  have hR : (f_J0_coder_7d493 i) = 0 := rfl
  refine x_getsC (pc := 0) C wd_3_213 dJ0_coder_7d493_0 ?_
  refine x_if_eq (pc := 3) (tgt := 13) C dJ0_coder_7d493_3 (by decide) (fun hf => absurd hf (by decide)) (fun _ => ?_)
  refine x_aload_n (pc := 6) (i := 0) C 0 dJ0_coder_7d493_6 rfl rfl ?_
  refine x_getKc (pc := 7) (i := i) C hi wd_5_213 dJ0_coder_7d493_7 ?_
  refine x_goto (pc := 10) (tgt := 14) C dJ0_coder_7d493_10 (by decide) ?_
  exact x_zret (pc := 14) C rfl (by decide) hR dJ0_coder_7d493_14
set_option maxHeartbeats 4000000 in
set_option maxRecDepth 100000 in
theorem c_J0_isLatin1_aae02 {l : Launch} {A : Nat → Prop} {G : GT} {ad : Nat → Nat} (gl : Gl l A G ad) (i : Nat) (hi : i < 9) (B : StB) (M : StM) (O : StO)  : Met l yJ0_isLatin1_aae02 (wof yJ0_isLatin1_aae02 cJ0_isLatin1_aae02 1 (some .boolean)) (rmd 1 0 0) (va_Pc [.ref (G.2.2.1 i)] (PW G A ad B M O)) (QI G A ad (f_J0_isLatin1_aae02 i) B M O) 0 0 A := by
  refine x_bodyF (own := RJ0) (by decide +kernel) rfl gl (Nat.le_of_ble_eq_true rfl) (ls := [(0, .ref (G.2.2.1 i))]) rfl ?_
  intro p0 e s m args below meth c C
  have hR : (f_J0_isLatin1_aae02 i) = 1 := rfl
  refine x_getsC (pc := 0) C wd_3_213 dJ0_isLatin1_aae02_0 ?_
  refine x_if_eq (pc := 3) (tgt := 17) C dJ0_isLatin1_aae02_3 (by decide) (fun hf => absurd hf (by decide)) (fun _ => ?_)
  refine x_aload_n (pc := 6) (i := 0) C 0 dJ0_isLatin1_aae02_6 rfl rfl ?_
  refine x_getKc (pc := 7) (i := i) C hi wd_5_213 dJ0_isLatin1_aae02_7 ?_
  refine x_if_ne (pc := 10) (tgt := 17) C dJ0_isLatin1_aae02_10 (by decide) (fun hf => absurd hf (by decide)) (fun _ => ?_)
  refine x_iconst (pc := 13) (v := 1) C dJ0_isLatin1_aae02_13 (by decide) ?_
  refine x_goto (pc := 14) (tgt := 18) C dJ0_isLatin1_aae02_14 (by decide) ?_
  exact x_zret (pc := 18) C rfl (by decide) hR dJ0_isLatin1_aae02_18
set_option maxHeartbeats 4000000 in
set_option maxRecDepth 100000 in
theorem c_J1_charAt_3b067 {l : Launch} {A : Nat → Prop} {G : GT} {ad : Nat → Nat} (gl : Gl l A G ad) (i : Nat) (hi : i < 9) (B : StB) (M : StM) (O : StO) (x1 : Int32) (hok : ok_J1_charAt_3b067 i x1) : Met l yJ1_charAt_3b067 (wof yJ1_charAt_3b067 cJ1_charAt_3b067 2 (some .char)) (rmd 3 0 0) (va_Pc [.ref (G.2.2.2.1 i), .int x1] (PW G A ad B M O)) (QI G A ad (f_J1_charAt_3b067 i x1) B M O) 0 0 A := by
  refine x_bodyF (own := RJ1) (by decide +kernel) rfl gl (Nat.le_of_ble_eq_true rfl) (ls := [(0, .ref (G.2.2.2.1 i)), (1, .int x1)]) rfl ?_
  intro p0 e s m args below meth c C
  have hR : (f_J1_charAt_3b067 i x1) = (Int32.toUInt32 (((kByt.getD i []).getD (ix x1) 0) &&& 255) % 65536).toInt32 := rfl
  have hok : ((ok_J0_checkIndex_df160 x1 (Int32.ofNat (kLen.getD i 0))) ∧ (vp_in x1 (kLen.getD i 0) ∧ (narrow .char (.int ((Int32.toUInt32 (((kByt.getD i []).getD (ix x1) 0) &&& 255) % 65536).toInt32)) = .int ((Int32.toUInt32 (((kByt.getD i []).getD (ix x1) 0) &&& 255) % 65536).toInt32)))) := hok
  refine x_iload_n (pc := 0) (i := 1) C 1 dJ1_charAt_3b067_0 rfl rfl ?_
  refine x_aload_n (pc := 1) (i := 0) C 0 dJ1_charAt_3b067_1 rfl rfl ?_
  refine x_alenK (pc := 2) (i := i) C hi dJ1_charAt_3b067_2 ?_
  have h1 := hok.1
  have hok := hok.2
  refine x_cVS (pc := 3) (as := [.int x1, .int (Int32.ofNat (kLen.getD i 0))]) C (c_J0_checkIndex_df160 C.2.2.2.2.2.2.2.1  B M O x1 (Int32.ofNat (kLen.getD i 0)) h1) wd_4_61 cd_J0_checkIndex_df160 wd_4_60 ⟨Nat.le_of_ble_eq_true rfl, Nat.le_of_ble_eq_true rfl⟩ ⟨Nat.le_of_ble_eq_true rfl, Nat.le_of_ble_eq_true rfl⟩ rfl rfl (Nat.le_of_ble_eq_true rfl) dJ1_charAt_3b067_3 ?_
  refine x_aload_n (pc := 6) (i := 0) C 0 dJ1_charAt_3b067_6 rfl rfl ?_
  refine x_iload_n (pc := 7) (i := 1) C 1 dJ1_charAt_3b067_7 rfl rfl ?_
  have h2 := hok.1
  have hok := hok.2
  refine x_baldK (pc := 8) (i := i) C hi h2 dJ1_charAt_3b067_8 ?_
  refine x_sipush (pc := 9) (v := 255) C dJ1_charAt_3b067_9 (by decide) ?_
  refine x_iand (pc := 12) C dJ1_charAt_3b067_12 ?_
  refine x_i2c (pc := 13) C dJ1_charAt_3b067_13 ?_
  have h3 := hok
  exact x_zret (pc := 14) C rfl h3 hR dJ1_charAt_3b067_14
set_option maxHeartbeats 4000000 in
set_option maxRecDepth 100000 in
theorem c_J0_length_8abf5 {l : Launch} {A : Nat → Prop} {G : GT} {ad : Nat → Nat} (gl : Gl l A G ad) (i : Nat) (hi : i < 9) (B : StB) (M : StM) (O : StO)  : Met l yJ0_length_8abf5 (wof yJ0_length_8abf5 cJ0_length_8abf5 1 (some .int)) (rmd 2 0 0) (va_Pc [.ref (G.2.2.1 i)] (PW G A ad B M O)) (QI G A ad (f_J0_length_8abf5 i) B M O) 0 0 A := by
  refine x_bodyF (own := RJ0) (by decide +kernel) rfl gl (Nat.le_of_ble_eq_true rfl) (ls := [(0, .ref (G.2.2.1 i))]) rfl ?_
  intro p0 e s m args below meth c C
  have hR : (f_J0_length_8abf5 i) = (nm (f_J0_coder_7d493 i) (fun (r1 : Int32) => ((Int32.ofNat (kLen.getD i 0)) >>> (r1 &&& 31)))) := rfl
  refine x_aload_n (pc := 0) (i := 0) C 0 dJ0_length_8abf5_0 rfl rfl ?_
  refine x_getKv (pc := 1) (i := i) C hi wd_5_212 dJ0_length_8abf5_1 ?_
  refine x_alenK (pc := 4) (i := i) C hi dJ0_length_8abf5_4 ?_
  refine x_aload_n (pc := 5) (i := 0) C 0 dJ0_length_8abf5_5 rfl rfl ?_
  refine x_cIVK (pc := 6) (as := []) C (c_J0_coder_7d493 C.2.2.2.2.2.2.2.1 i hi B M O ) hi rfl cv_J0_coder_7d493 cd_J0_coder_7d493 wd_3_218 ⟨Nat.le_of_ble_eq_true rfl, Nat.le_of_ble_eq_true rfl⟩ ⟨Nat.le_of_ble_eq_true rfl, Nat.le_of_ble_eq_true rfl⟩ rfl rfl (Nat.le_of_ble_eq_true rfl) dJ0_length_8abf5_6 ?_
  refine x_nmI (fun r1 er1 => ?_)
  have hR := nmE hR er1
  refine x_ishr (pc := 9) C dJ0_length_8abf5_9 ?_
  exact x_iret (pc := 10) C rfl hR dJ0_length_8abf5_10
set_option maxHeartbeats 4000000 in
set_option maxRecDepth 100000 in
theorem c_J0_charAt_5068e {l : Launch} {A : Nat → Prop} {G : GT} {ad : Nat → Nat} (gl : Gl l A G ad) (i : Nat) (hi : i < 9) (B : StB) (M : StM) (O : StO) (x0 : Int32) (hok : ok_J0_charAt_5068e i x0) : Met l yJ0_charAt_5068e (wof yJ0_charAt_5068e cJ0_charAt_5068e 2 (some .char)) (rmd 4 0 0) (va_Pc [.ref (G.2.2.1 i), .int x0] (PW G A ad B M O)) (QI G A ad (f_J0_charAt_5068e i x0) B M O) 0 0 A := by
  refine x_bodyF (own := RJ0) (by decide +kernel) rfl gl (Nat.le_of_ble_eq_true rfl) (ls := [(0, .ref (G.2.2.1 i)), (1, .int x0)]) rfl ?_
  intro p0 e s m args below meth c C
  have hR : (f_J0_charAt_5068e i x0) = (nm (f_J0_isLatin1_aae02 i) (fun (r1 : Int32) => (nm (f_J1_charAt_3b067 i x0) (fun (r4 : Int32) => r4)))) := rfl
  have hok : (∀ r1 : Int32, r1 = (f_J0_isLatin1_aae02 i) → ((¬ r1 = 0) ∧ ((ok_J1_charAt_3b067 i x0) ∧ (∀ r4 : Int32, r4 = (f_J1_charAt_3b067 i x0) → (narrow .char (.int r4) = .int r4))))) := hok
  refine x_aload_n (pc := 0) (i := 0) C 0 dJ0_charAt_5068e_0 rfl rfl ?_
  refine x_cIVK (pc := 1) (as := []) C (c_J0_isLatin1_aae02 C.2.2.2.2.2.2.2.1 i hi B M O ) hi rfl cv_J0_isLatin1_aae02 cd_J0_isLatin1_aae02 wd_3_209 ⟨Nat.le_of_ble_eq_true rfl, Nat.le_of_ble_eq_true rfl⟩ ⟨Nat.le_of_ble_eq_true rfl, Nat.le_of_ble_eq_true rfl⟩ rfl rfl (Nat.le_of_ble_eq_true rfl) dJ0_charAt_5068e_1 ?_
  refine x_nmI (fun r1 er1 => ?_)
  have hR := nmE hR er1
  have hok := hok r1 er1
  have c2 := hok.1
  have hok := hok.2
  refine x_if_eq (pc := 4) (tgt := 16) C dJ0_charAt_5068e_4 (by decide) (fun z => absurd z c2) (fun _ => ?_)
  refine x_aload_n (pc := 7) (i := 0) C 0 dJ0_charAt_5068e_7 rfl rfl ?_
  refine x_getKv (pc := 8) (i := i) C hi wd_5_212 dJ0_charAt_5068e_8 ?_
  refine x_iload_n (pc := 11) (i := 1) C 1 dJ0_charAt_5068e_11 rfl rfl ?_
  have h3 := hok.1
  have hok := hok.2
  refine x_cIS (pc := 12) (as := [.ref (G.2.2.2.1 i), .int x0]) C (c_J1_charAt_3b067 C.2.2.2.2.2.2.2.1 i hi B M O x0 h3) wd_4_58 cd_J1_charAt_3b067 wd_4_57 ⟨Nat.le_of_ble_eq_true rfl, Nat.le_of_ble_eq_true rfl⟩ ⟨Nat.le_of_ble_eq_true rfl, Nat.le_of_ble_eq_true rfl⟩ rfl rfl (Nat.le_of_ble_eq_true rfl) dJ0_charAt_5068e_12 ?_
  refine x_nmI (fun r4 er4 => ?_)
  have hR := nmE hR er4
  have hok := hok r4 er4
  have h5 := hok
  exact x_zret (pc := 15) C rfl h5 hR dJ0_charAt_5068e_15
