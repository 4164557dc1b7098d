theorem ct_J5_length_8abf5 : Card yJ5_length_8abf5 cJ5_length_8abf5 1 (some .int) 0 := ⟨wd_5_180, wd_1_8, by decide, by decide, by decide +kernel⟩
theorem ct_J5_getValue_6d5f1 : Card yJ5_getValue_6d5f1 cJ5_getValue_6d5f1 1 (some (.array .byte)) 0 := ⟨wd_5_172, wd_1_8, by decide, by decide, by decide +kernel⟩
theorem ct_J5_isLatin1_aae02 : Card yJ5_isLatin1_aae02 cJ5_isLatin1_aae02 1 (some .boolean) 0 := ⟨wd_5_89, wd_1_8, by decide, by decide, by decide +kernel⟩
theorem ct_J0_init_81219 : Card yJ0_init_81219 cJ0_init_81219 2 none 1 := ⟨wd_5_163, wd_1_10, by decide, by decide, by decide +kernel⟩
theorem ct_J0_init_db425 : Card yJ0_init_db425 cJ0_init_db425 5 none 2 := ⟨wd_5_166, wd_1_10, by decide, by decide, by decide +kernel⟩
theorem ct_J4_toString_0e30d : Card yJ4_toString_0e30d cJ4_toString_0e30d 1 (some (.object "java/lang/String")) 0 := ⟨wd_5_159, wd_1_9, by decide, by decide, by decide +kernel⟩
theorem ct_J4_length_8abf5 : Card yJ4_length_8abf5 cJ4_length_8abf5 1 (some .int) 0 := ⟨wd_5_178, wd_1_9, by decide, by decide, by decide +kernel⟩
theorem ct_J7_checkLength_df160 : Card yJ7_checkLength_df160 cJ7_checkLength_df160 2 none 2 := ⟨wd_5_190, wd_1_27, by decide, by decide, by decide +kernel⟩
theorem ct_J7_copyOfRange_39247 : Card yJ7_copyOfRange_39247 cJ7_copyOfRange_39247 3 (some (.array .byte)) 3 := ⟨wd_5_184, wd_1_27, by decide, by decide, by decide +kernel⟩
theorem ct_J7_copyOfRangeByte_39247 : Card yJ7_copyOfRangeByte_39247 cJ7_copyOfRangeByte_39247 5 (some (.array .byte)) 3 := ⟨wd_5_187, wd_1_27, by decide, by decide, by decide +kernel⟩
set_option maxHeartbeats 4000000 in
set_option maxRecDepth 100000 in
theorem c_tGetV {l : Launch} {A : Nat → Prop} {G : GT} {w L : va_W} {b v j1 n : Nat} {z : Int32} (H1 : w[j1]? = some (b, .inr (1, [.ref v, .int 0, .int z, .int (Int32.ofNat n)]))) : Met l yJ5_getValue_6d5f1 (wof yJ5_getValue_6d5f1 cJ5_getValue_6d5f1 1 (some (.array .byte))) (rmd 1 0 0) (va_Pc [.ref b] (PO G A (w ++ L))) (QOR G A (fun u => u = (w ++ L, v))) 0 0 A := by
  refine yb (own := RJ5) (by decide +kernel) rfl (Nat.le_of_ble_eq_true rfl) (ls := [(0, .ref b)]) rfl ?_
  intro p e s m args below meth c C
  refine y_aload_n C 0 dJ5_getValue_6d5f1_0 rfl rfl ?_
  refine y_getW (ci := 1) (i := 0) C H1 rfl ttJ4 (by decide) wd_2_13 rfl dJ5_getValue_6d5f1_1 ?_
  exact y_aret C rfl (Or.inr ⟨_, rfl⟩) rfl dJ5_getValue_6d5f1_4
set_option maxHeartbeats 4000000 in
set_option maxRecDepth 100000 in
theorem c_tLen5 {l : Launch} {A : Nat → Prop} {G : GT} {w L : va_W} {b v j1 n : Nat} {z : Int32} (H1 : w[j1]? = some (b, .inr (1, [.ref v, .int 0, .int z, .int (Int32.ofNat n)]))) : Met l yJ5_length_8abf5 (wof yJ5_length_8abf5 cJ5_length_8abf5 1 (some .int)) (rmd 1 0 0) (va_Pc [.ref b] (PO G A (w ++ L))) (QOI G A (Int32.ofNat n) (w ++ L)) 0 0 A := by
  refine yb (own := RJ5) (by decide +kernel) rfl (Nat.le_of_ble_eq_true rfl) (ls := [(0, .ref b)]) rfl ?_
  intro p e s m args below meth c C
  refine y_aload_n C 0 dJ5_length_8abf5_0 rfl rfl ?_
  refine y_getW (ci := 1) (i := 3) C H1 rfl ttJ4 (by decide) wd_2_17 rfl dJ5_length_8abf5_1 ?_
  exact y_iret C rfl rfl rfl rfl dJ5_length_8abf5_4
set_option maxHeartbeats 4000000 in
set_option maxRecDepth 100000 in
theorem c_tLen4 {l : Launch} {A : Nat → Prop} {G : GT} {w L : va_W} {b v j1 n : Nat} {z : Int32} (H1 : w[j1]? = some (b, .inr (1, [.ref v, .int 0, .int z, .int (Int32.ofNat n)]))) : Met l yJ4_length_8abf5 (wof yJ4_length_8abf5 cJ4_length_8abf5 1 (some .int)) (rmd 2 0 0) (va_Pc [.ref b] (PO G A (w ++ L))) (QOI G A (Int32.ofNat n) (w ++ L)) 0 0 A := by
  refine yb (own := RJ4) (by decide +kernel) rfl (Nat.le_of_ble_eq_true rfl) (ls := [(0, .ref b)]) rfl ?_
  intro p e s m args below meth c C
  refine y_aload_n C 0 dJ4_length_8abf5_0 rfl rfl ?_
  refine y_cISU C (as := []) (c_tLen5 H1) H1 rfl cu_J5_length_8abf5 ct_J5_length_8abf5 wd_5_179 ⟨(Nat.le_of_ble_eq_true rfl), (Nat.le_of_ble_eq_true rfl)⟩ ⟨(Nat.le_of_ble_eq_true rfl), (Nat.le_of_ble_eq_true rfl)⟩ rfl rfl (Nat.le_of_ble_eq_true rfl) dJ4_length_8abf5_1 ?_
  exact y_iret C rfl rfl rfl rfl dJ4_length_8abf5_4
set_option maxHeartbeats 4000000 in
set_option maxRecDepth 100000 in
theorem c_tIsL {l : Launch} {A : Nat → Prop} {G : GT} {w L : va_W} {b v j1 n : Nat} {z : Int32} (H1 : w[j1]? = some (b, .inr (1, [.ref v, .int 0, .int z, .int (Int32.ofNat n)]))) : Met l yJ5_isLatin1_aae02 (wof yJ5_isLatin1_aae02 cJ5_isLatin1_aae02 1 (some .boolean)) (rmd 1 0 0) (va_Pc [.ref b] (PO G A (w ++ L))) (QOI G A 1 (w ++ L)) 0 0 A := by
  refine yb (own := RJ5) (by decide +kernel) rfl (Nat.le_of_ble_eq_true rfl) (ls := [(0, .ref b)]) rfl ?_
  intro p e s m args below meth c C
  refine y_getsC C wd_2_4 dJ5_isLatin1_aae02_0 ?_
  refine y_if_eq (tgt := 17) C dJ5_isLatin1_aae02_3 (by decide) (fun q => absurd q (by decide)) (fun _ => ?_)
  refine y_aload_n C 0 dJ5_isLatin1_aae02_6 rfl rfl ?_
  refine y_getW (ci := 1) (i := 1) C H1 rfl ttJ4 (by decide) wd_2_14 rfl dJ5_isLatin1_aae02_7 ?_
  refine y_if_ne (tgt := 17) C dJ5_isLatin1_aae02_10 (by decide) (fun q => absurd rfl q) (fun _ => ?_)
  refine y_iconst C (v := 1) dJ5_isLatin1_aae02_13 (by decide) ?_
  refine y_goto (tgt := 18) C dJ5_isLatin1_aae02_14 (by decide) ?_
  exact y_iret C rfl (by decide) rfl rfl dJ5_isLatin1_aae02_18
set_option maxHeartbeats 4000000 in
set_option maxRecDepth 100000 in
theorem c_tChk {l : Launch} {A : Nat → Prop} {G : GT} {w L : va_W} {n : Nat} (hn : n < 1000) : Met l yJ7_checkLength_df160 (wof yJ7_checkLength_df160 cJ7_checkLength_df160 2 none) (rmd 1 0 0) (va_Pc [.int 0, .int (Int32.ofNat n)] (PO G A (w ++ L))) (QO G A (fun u => u = w ++ L)) 0 0 A := by
  refine yb (own := RJ7) (by decide +kernel) rfl (Nat.le_of_ble_eq_true rfl) (ls := [(0, .int 0), (1, .int (Int32.ofNat n))]) rfl ?_
  intro p e s m args below meth c C
  refine y_iload_n C 1 dJ7_checkLength_df160_0 rfl rfl ?_
  refine y_iload_n C 0 dJ7_checkLength_df160_1 rfl rfl ?_
  refine y_icmp_ge (tgt := 37) C dJ7_checkLength_df160_2 (by decide) (fun _ => ?_) (fun q => absurd (by rw [Int32.le_iff_toInt_le, ofN_toInt (by omega)]; show (0 : Int) ≤ _; omega) q)
  exact y_ret C rfl rfl dJ7_checkLength_df160_37
set_option maxHeartbeats 4000000 in
set_option maxRecDepth 100000 in
theorem c_tCopyB {l : Launch} {A : Nat → Prop} {G : GT} {w L : va_W} {v j2 n Z : Nat} {f : Nat → Int32} (H2 : w[j2]? = some (v, .inl (G.2.1 0, Z, .inl f))) (hn : n < Z) (hZ : Z ≤ 100) (hf : ∀ i, i < n → fits .byte (.int (f i)) = true) : Met l yJ7_copyOfRangeByte_39247 (wof yJ7_copyOfRangeByte_39247 cJ7_copyOfRangeByte_39247 5 (some (.array .byte))) (rmd 2 1 100) (va_Pc [.ref v, .int 0, .int (Int32.ofNat n)] (PO G A (w ++ L))) (QOR G A (fun u => ∃ q, u = (w ++ (L ++ [(q, .inl (G.2.1 0, n, .inl (va_cpy f (fun _ => 0) 0 0 n)))]), q))) 1 100 A := by
  refine yb (own := RJ7) (by decide +kernel) rfl (Nat.le_of_ble_eq_true rfl) (ls := [(0, .ref v), (1, .int 0), (2, .int (Int32.ofNat n))]) rfl ?_
  intro p e s m args below meth c C
  have e0 : ∀ x : Int32, x - 0 = x := Int32.sub_zero
  have ec : (Int32.ofNat n).toNatClampNeg = n := ofN_cl (by omega)
  have ep : ¬ Int32.ofNat n < 0 := by rw [Int32.lt_iff_toInt_lt, ofN_toInt (by omega)]; show ¬ _ < (0 : Int); omega
  refine y_iload_n C 1 dJ7_copyOfRangeByte_39247_0 rfl rfl ?_
  refine y_iload_n C 2 dJ7_copyOfRangeByte_39247_1 rfl rfl ?_
  refine y_cVS C (as := [.int 0, .int (Int32.ofNat n)]) (c_tChk (by omega)) wd_5_189 ct_J7_checkLength_df160 wd_5_188 ⟨(Nat.le_of_ble_eq_true rfl), (Nat.le_of_ble_eq_true rfl)⟩ ⟨(Nat.le_of_ble_eq_true rfl), (Nat.le_of_ble_eq_true rfl)⟩ rfl rfl (Nat.le_of_ble_eq_true rfl) dJ7_copyOfRangeByte_39247_2 ?_
  refine y_iload_n C 2 dJ7_copyOfRangeByte_39247_5 rfl rfl ?_
  refine y_iload_n C 1 dJ7_copyOfRangeByte_39247_6 rfl rfl ?_
  refine y_isub C dJ7_copyOfRangeByte_39247_7 ?_
  rw [e0]
  refine y_istore_n C (ls2 := [(3, .int (Int32.ofNat n)), (0, .ref v), (1, .int 0), (2, .int (Int32.ofNat n))]) dJ7_copyOfRangeByte_39247_8 rfl (by decide) rfl ?_
  refine y_iload_n C 0 dJ7_copyOfRangeByte_39247_9 rfl rfl ?_
  refine y_newa C (atype := .byte) (ty := .byte) 0 rfl (fun _ h => h) rfl wd_2_27 (n := Int32.ofNat n) (N' := n) (a0 := (n, .inl (fun _ => 0))) (fun _ => rfl) ep ec (by show n * 1 ≤ _; omega) (Nat.le_of_ble_eq_true rfl) (by show 0 + n ≤ 100; omega) dJ7_copyOfRangeByte_39247_10 (fun q => ?_)
  refine y_astore C (ls2 := [(4, .ref q), (3, .int (Int32.ofNat n)), (0, .ref v), (1, .int 0), (2, .int (Int32.ofNat n))]) dJ7_copyOfRangeByte_39247_12 (by decide) rfl ?_
  refine y_aload_n C 2 dJ7_copyOfRangeByte_39247_14 rfl rfl ?_
  refine y_iload_n C 3 dJ7_copyOfRangeByte_39247_15 rfl rfl ?_
  refine y_aload C 0 dJ7_copyOfRangeByte_39247_16 rfl ?_
  refine y_iconst C (v := 0) dJ7_copyOfRangeByte_39247_18 (by decide) ?_
  refine y_aload_n C 2 dJ7_copyOfRangeByte_39247_19 rfl rfl ?_
  refine y_alenW (t0 := 0) C H2 rfl dJ7_copyOfRangeByte_39247_20 ?_
  refine y_iload_n C 3 dJ7_copyOfRangeByte_39247_21 rfl rfl ?_
  refine y_isub C dJ7_copyOfRangeByte_39247_22 ?_
  rw [e0]
  refine y_iload_n C 1 dJ7_copyOfRangeByte_39247_23 rfl rfl ?_
  refine y_mmin C wd_5_81 wd_3_49 wd_1_21 wd_3_50 ⟨(Nat.le_of_ble_eq_true rfl), (Nat.le_of_ble_eq_true rfl)⟩ ⟨by show 0 + 0 + 1 ≤ 1; omega, by show 0 + 0 + n ≤ 100; omega⟩ dJ7_copyOfRangeByte_39247_24 ?_
  rw [if_pos (show Int32.ofNat n < Int32.ofNat Z by rw [Int32.lt_iff_toInt_lt, ofN_toInt (by omega), ofN_toInt (by omega)]; omega)]
  refine y_acopy C (j0 := j2) (j1 := L.length) (g := fun _ => 0) H2 (by rw [List.getElem?_append_right (Nat.le_refl _), Nat.sub_self]; rfl) ep (by rw [ec]; omega) (by rw [ec]; exact Nat.le_refl _) (fun i hi => by rw [ec] at hi; exact hf i hi) wd_5_82 wd_5_84 wd_5_83 wd_1_28 (Nat.le_of_ble_eq_true rfl) (Nat.le_of_ble_eq_true rfl) dJ7_copyOfRangeByte_39247_27 ?_
  refine y_aload C 0 dJ7_copyOfRangeByte_39247_30 rfl ?_
  rw [ec]
  rw [show (L ++ [(q, (Sum.inl (G.2.1 0, n, Sum.inl (fun _ => (0 : Int32))) : va_E))]).set L.length (q, .inl (G.2.1 0, n, .inl (va_cpy f (fun _ => 0) 0 0 n))) = L ++ [(q, .inl (G.2.1 0, n, .inl (va_cpy f (fun _ => 0) 0 0 n)))] by rw [List.set_append_right _ _ (Nat.le_refl _), Nat.sub_self]; rfl]
  refine y_wid (k0 := 1) (n0 := 100) (by omega) (by omega) ?_
  exact y_aret C rfl (Or.inr ⟨_, rfl⟩) ⟨q, rfl⟩ dJ7_copyOfRangeByte_39247_32
set_option maxHeartbeats 4000000 in
set_option maxRecDepth 100000 in
theorem c_tCopy {l : Launch} {A : Nat → Prop} {G : GT} {w L : va_W} {v j2 n Z : Nat} {f : Nat → Int32} (H2 : w[j2]? = some (v, .inl (G.2.1 0, Z, .inl f))) (hn : n < Z) (hZ : Z ≤ 100) (hf : ∀ i, i < n → fits .byte (.int (f i)) = true) : Met l yJ7_copyOfRange_39247 (wof yJ7_copyOfRange_39247 cJ7_copyOfRange_39247 3 (some (.array .byte))) (rmd 3 1 100) (va_Pc [.ref v, .int 0, .int (Int32.ofNat n)] (PO G A (w ++ L))) (QOR G A (fun u => ∃ q, u = (w ++ (L ++ [(q, .inl (G.2.1 0, n, .inl (va_cpy f (fun _ => 0) 0 0 n)))]), q))) 1 100 A := by
  refine yb (own := RJ7) (by decide +kernel) rfl (Nat.le_of_ble_eq_true rfl) (ls := [(0, .ref v), (1, .int 0), (2, .int (Int32.ofNat n))]) rfl ?_
  intro p e s m args below meth c C
  refine y_iload_n C 1 dJ7_copyOfRange_39247_0 rfl rfl ?_
  refine y_if_ne (tgt := 10) C dJ7_copyOfRange_39247_1 (by decide) (fun q => absurd rfl q) (fun _ => ?_)
  refine y_iload_n C 2 dJ7_copyOfRange_39247_4 rfl rfl ?_
  refine y_aload_n C 0 dJ7_copyOfRange_39247_5 rfl rfl ?_
  refine y_alenW (t0 := 0) C H2 rfl dJ7_copyOfRange_39247_6 ?_
  refine y_icmp_eq (tgt := 17) C dJ7_copyOfRange_39247_7 (by decide) (fun q => absurd (congrArg Int32.toInt q) (by show ¬ (Int32.ofNat n).toInt = (Int32.ofNat Z).toInt; rw [ofN_toInt (by omega), ofN_toInt (by omega)]; omega)) (fun _ => ?_)
  refine y_aload_n C 0 dJ7_copyOfRange_39247_10 rfl rfl ?_
  refine y_iload_n C 1 dJ7_copyOfRange_39247_11 rfl rfl ?_
  refine y_iload_n C 2 dJ7_copyOfRange_39247_12 rfl rfl ?_
  refine y_cRS C (as := [.ref v, .int 0, .int (Int32.ofNat n)]) (c_tCopyB H2 hn hZ hf) wd_5_186 ct_J7_copyOfRangeByte_39247 wd_5_185 ⟨(Nat.le_of_ble_eq_true rfl), (Nat.le_of_ble_eq_true rfl)⟩ ⟨(Nat.le_of_ble_eq_true rfl), (Nat.le_of_ble_eq_true rfl)⟩ rfl rfl (Nat.le_of_ble_eq_true rfl) dJ7_copyOfRange_39247_13 (fun u hu => ?_)
  obtain ⟨q, rfl⟩ := hu
  refine ⟨_, rfl, ?_⟩
  exact y_aret C rfl (Or.inr ⟨_, rfl⟩) ⟨q, rfl⟩ dJ7_copyOfRange_39247_16
set_option maxHeartbeats 4000000 in
set_option maxRecDepth 100000 in
theorem k_tStr2 {l : Launch} {A : Nat → Prop} {G : GT} {w : va_W} {b v j1 j2 n Z q : Nat} {z : Int32} {f : Nat → Int32} {W0 : va_W} (hW : W0 = w ++ [(q, .inr (0, [.null, .int 0, .int 0, .int 0]))]) (H1 : w[j1]? = some (b, .inr (1, [.ref v, .int 0, .int z, .int (Int32.ofNat n)]))) (H2 : w[j2]? = some (v, .inl (G.2.1 0, Z, .inl f))) (hn : n < Z) (hZ : Z ≤ 100) (hf : ∀ i, i < n → fits .byte (.int (f i)) = true) : KM l yJ0_init_db425 cJ0_init_db425 5 5 1 100 G A [.ref b, .null] q W0 (fun u => ∃ q2, u = w ++ [(q, .inr (0, [.ref q2, .int 0, .int 0, .int 0])), (q2, .inl (G.2.1 0, n, .inl (va_cpy f (fun _ => 0) 0 0 n)))]) := by
  subst hW
  refine y_body (own := RJ0) (ls := [(0, .ref q), (1, .ref b), (2, .null)]) (by decide) rfl rfl (Nat.le_of_ble_eq_true rfl) rfl ?_
  intro p e s m args below meth c C hin
  refine y_aload_n C 0 dJ0_init_db425_0 rfl rfl ?_
  refine y_obj C wd_5_167 wd_1_38 wd_1_39 dJ0_init_db425_1 ⟨(Nat.le_of_ble_eq_true rfl), (Nat.le_of_ble_eq_true rfl)⟩ (Nat.le_of_ble_eq_true rfl) ?_
  refine y_aload_n C 1 dJ0_init_db425_4 rfl rfl ?_
  refine y_cRVU C (as := []) (ci := 1) (c_tGetV H1) H1 rfl wd_5_171 wd_5_169 ct_J5_getValue_6d5f1 wd_5_168 ⟨(Nat.le_of_ble_eq_true rfl), (Nat.le_of_ble_eq_true rfl)⟩ ⟨(Nat.le_of_ble_eq_true rfl), (Nat.le_of_ble_eq_true rfl)⟩ rfl rfl (Nat.le_of_ble_eq_true rfl) dJ0_init_db425_5 ?_
  refine y_astore_n C (ls2 := [(3, .ref v), (0, .ref q), (1, .ref b), (2, .null)]) dJ0_init_db425_8 rfl (by decide) rfl ?_
  refine y_aload_n C 2 dJ0_init_db425_9 rfl rfl ?_
  refine y_cIVO C (x := yJ5_length_8abf5) (owner := RJ5) (as := []) (ci := 1) (c_tLen4 H1) H1 rfl wd_5_180 (by decide +kernel) ⟨by decide, by decide, by decide +kernel⟩ ct_J4_length_8abf5 ⟨(Nat.le_of_ble_eq_true rfl), (Nat.le_of_ble_eq_true rfl)⟩ ⟨(Nat.le_of_ble_eq_true rfl), (Nat.le_of_ble_eq_true rfl)⟩ rfl rfl (Nat.le_of_ble_eq_true rfl) dJ0_init_db425_10 ?_
  refine y_istore C (ls2 := [(4, .int (Int32.ofNat n)), (3, .ref v), (0, .ref q), (1, .ref b), (2, .null)]) dJ0_init_db425_13 (by decide) rfl ?_
  refine y_aload_n C 3 dJ0_init_db425_15 rfl rfl ?_
  refine y_cIVU C (as := []) (ci := 1) (c_tIsL H1) H1 rfl wd_5_88 wd_5_86 ct_J5_isLatin1_aae02 wd_5_181 ⟨(Nat.le_of_ble_eq_true rfl), (Nat.le_of_ble_eq_true rfl)⟩ ⟨(Nat.le_of_ble_eq_true rfl), (Nat.le_of_ble_eq_true rfl)⟩ rfl rfl (Nat.le_of_ble_eq_true rfl) dJ0_init_db425_16 ?_
  refine y_if_eq (tgt := 41) C dJ0_init_db425_19 (by decide) (fun x => absurd x (by decide)) (fun _ => ?_)
  refine y_aload_n C 2 dJ0_init_db425_22 rfl rfl ?_
  refine y_iconst C (v := 0) dJ0_init_db425_23 (by decide) ?_
  refine y_putF C tyJ0 tyJ0_ok nmJ0 (j := 0) (ci := 0) (i := 1) rfl rfl ttJ0 (by decide) wd_5_213 rfl hin rfl (by decide) (by decide) (Nat.le_of_ble_eq_true rfl) dJ0_init_db425_24 ?_
  refine y_aload_n C 2 dJ0_init_db425_27 rfl rfl ?_
  refine y_aload_n C 1 dJ0_init_db425_28 rfl rfl ?_
  refine y_iconst C (v := 0) dJ0_init_db425_29 (by decide) ?_
  refine y_iload C 0 dJ0_init_db425_30 rfl ?_
  refine y_cRS C (as := [.ref v, .int 0, .int (Int32.ofNat n)]) (c_tCopy H2 hn hZ hf) wd_5_183 ct_J7_copyOfRange_39247 wd_5_182 ⟨(Nat.le_of_ble_eq_true rfl), (Nat.le_of_ble_eq_true rfl)⟩ ⟨(Nat.le_of_ble_eq_true rfl), (Nat.le_of_ble_eq_true rfl)⟩ rfl rfl (Nat.le_of_ble_eq_true rfl) dJ0_init_db425_32 (fun u hu => ?_)
  obtain ⟨q2, rfl⟩ := hu
  refine ⟨_, rfl, ?_⟩
  refine y_putF C tyJ0 tyJ0_ok nmJ0 (j := 0) (ci := 0) (i := 0) rfl rfl ttJ0 (by decide) wd_5_212 rfl hin rfl rfl rfl (Nat.le_of_ble_eq_true rfl) dJ0_init_db425_35 ?_
  refine y_goto (tgt := 97) C dJ0_init_db425_38 (by decide) ?_
  exact y_ret C rfl ⟨q2, rfl⟩ dJ0_init_db425_97
set_option maxHeartbeats 4000000 in
set_option maxRecDepth 100000 in
theorem k_tStr1 {l : Launch} {A : Nat → Prop} {G : GT} {w : va_W} {b v j1 j2 n Z q : Nat} {z : Int32} {f : Nat → Int32} {W0 : va_W} (hW : W0 = w ++ [(q, .inr (0, [.null, .int 0, .int 0, .int 0]))]) (H1 : w[j1]? = some (b, .inr (1, [.ref v, .int 0, .int z, .int (Int32.ofNat n)]))) (H2 : w[j2]? = some (v, .inl (G.2.1 0, Z, .inl f))) (hn : n < Z) (hZ : Z ≤ 100) (hf : ∀ i, i < n → fits .byte (.int (f i)) = true) : KM l yJ0_init_81219 cJ0_init_81219 2 6 1 100 G A [.ref b] q W0 (fun u => ∃ q2, u = w ++ [(q, .inr (0, [.ref q2, .int 0, .int 0, .int 0])), (q2, .inl (G.2.1 0, n, .inl (va_cpy f (fun _ => 0) 0 0 n)))]) := by
  subst hW
  refine y_body (own := RJ0) (ls := [(0, .ref q), (1, .ref b)]) (by decide) rfl rfl (Nat.le_of_ble_eq_true rfl) rfl ?_
  intro p e s m args below meth c C hin
  refine y_aload_n C 0 dJ0_init_81219_0 rfl rfl ?_
  refine y_aload_n C 1 dJ0_init_81219_1 rfl rfl ?_
  refine y_null C dJ0_init_81219_2 ?_
  refine y_call C (as := [.ref b, .null]) (k_tStr2 rfl H1 H2 hn hZ hf) ct_J0_init_db425 wd_5_165 rfl wd_5_164 ⟨(Nat.le_of_ble_eq_true rfl), (Nat.le_of_ble_eq_true rfl)⟩ ⟨(Nat.le_of_ble_eq_true rfl), (Nat.le_of_ble_eq_true rfl)⟩ rfl rfl (Nat.le_of_ble_eq_true rfl) dJ0_init_81219_3 (fun u hu => ?_)
  obtain ⟨q2, rfl⟩ := hu
  refine ⟨_, rfl, ?_⟩
  exact y_ret C rfl ⟨q2, rfl⟩ dJ0_init_81219_6
set_option maxHeartbeats 4000000 in
set_option maxRecDepth 100000 in
theorem c_tStr {l : Launch} {A : Nat → Prop} {G : GT} {w : va_W} {b v j1 j2 n Z : Nat} {z : Int32} {f : Nat → Int32} (H1 : w[j1]? = some (b, .inr (1, [.ref v, .int 0, .int z, .int (Int32.ofNat n)]))) (H2 : w[j2]? = some (v, .inl (G.2.1 0, Z, .inl f))) (hn : n < Z) (hZ : Z ≤ 100) (hf : ∀ i, i < n → fits .byte (.int (f i)) = true) : Met l yJ4_toString_0e30d (wof yJ4_toString_0e30d cJ4_toString_0e30d 1 (some (.object "java/lang/String"))) (rmd 7 2 104) (va_Pc [.ref b] (PO G A (w ++ []))) (QOR G A (fun u => ∃ q q2, u = (w ++ [(q, .inr (0, [.ref q2, .int 0, .int 0, .int 0])), (q2, .inl (G.2.1 0, n, .inl (va_cpy f (fun _ => 0) 0 0 n)))], q))) 2 104 A := by
  refine yb (own := RJ4) (by decide +kernel) rfl (Nat.le_of_ble_eq_true rfl) (ls := [(0, .ref b)]) rfl ?_
  intro p e s m args below meth c C
  refine y_new C (ci := 0) (fs := [.null, .int 0, .int 0, .int 0]) tyJ0 tyJ0_ok rfl ttJ0 wd_5_160 wd_2_154 wd_1_10 (by decide) (Nat.le_of_ble_eq_true rfl) (Nat.le_of_ble_eq_true rfl) dJ4_toString_0e30d_0 (fun q => ?_)
  refine y_dup C dJ4_toString_0e30d_3 rfl ?_
  refine y_aload_n C 0 dJ4_toString_0e30d_4 rfl rfl ?_
  refine y_call C (as := [.ref b]) (k_tStr1 rfl H1 H2 hn hZ hf) ct_J0_init_81219 wd_5_162 rfl wd_5_161 ⟨(Nat.le_of_ble_eq_true rfl), (Nat.le_of_ble_eq_true rfl)⟩ ⟨(Nat.le_of_ble_eq_true rfl), (Nat.le_of_ble_eq_true rfl)⟩ rfl rfl (Nat.le_of_ble_eq_true rfl) dJ4_toString_0e30d_5 (fun u hu => ?_)
  obtain ⟨q2, rfl⟩ := hu
  refine ⟨_, rfl, ?_⟩
  exact y_aret C rfl (Or.inl ⟨_, rfl⟩) ⟨q, q2, rfl⟩ dJ4_toString_0e30d_8
