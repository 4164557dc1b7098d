def ok_J0_checkIndex_df160 (x0 x1 : Int32) : Prop := ¬ x0 < 0 ∧ x0 < x1
def f_J0_coder_7d493 (i : Nat)   : Int32 := 0
def f_J0_isLatin1_aae02 (i : Nat)   : Int32 := 1
def f_J0_isEmpty_aae02 (i : Nat)   : Int32 := (if (Int32.ofNat (kLen.getD i 0)) = 0 then 1 else 0)
def f_J1_charAt_3b067 (i : Nat)  (x1 : Int32) : Int32 := (Int32.toUInt32 (((kByt.getD i []).getD (ix x1) 0) &&& 255) % 65536).toInt32
def ok_J1_charAt_3b067 (i : Nat)  (x1 : Int32) : Prop := ((ok_J0_checkIndex_df160 x1 (Int32.ofNat (kLen.getD i 0))) ∧ (vp_in x1 (kLen.getD i 0) ∧ (narrow .char (.int ((Int32.toUInt32 (((kByt.getD i []).getD (ix x1) 0) &&& 255) % 65536).toInt32)) = .int ((Int32.toUInt32 (((kByt.getD i []).getD (ix x1) 0) &&& 255) % 65536).toInt32))))
def f_J1_canEncode_9a6ad   (x0 : Int32) : Int32 := (if x0 < 0 then 0 else (if 255 < x0 then 0 else 1))
def f_J1_indexOfChar_4cfef_L7 : Nat → Nat → Int32 → Int32 → Int32 → Int32
  | 0, i, a3, a4, a5 => 0
  | n + 1, i, a3, a4, a5 => (if a3 ≤ a5 then (-1) else (if ((kByt.getD i []).getD (ix a5) 0) = a4 then a5 else (f_J1_indexOfChar_4cfef_L7 n i a3 a4 (a5 + 1))))
def ok_J1_indexOfChar_4cfef_L7 : Nat → Nat → Int32 → Int32 → Int32 → Prop
  | 0, _, _, _, _ => False
  | n + 1, i, a3, a4, a5 => ((a3 ≤ a5 → True) ∧ (¬ a3 ≤ a5 → (vp_in a5 (kLen.getD i 0) ∧ ((((kByt.getD i []).getD (ix a5) 0) = a4 → True) ∧ (¬ ((kByt.getD i []).getD (ix a5) 0) = a4 → (ok_J1_indexOfChar_4cfef_L7 n i a3 a4 (a5 + 1)))))))
def f_J1_indexOfChar_4cfef (i : Nat)  (x1 : Int32) (x2 : Int32) (x3 : Int32) : Int32 := (nm ((Int32.toInt8 x1).toInt32) (fun (v1 : Int32) => (f_J1_indexOfChar_4cfef_L7 fu i x3 v1 x2)))
def ok_J1_indexOfChar_4cfef (i : Nat)  (x1 : Int32) (x2 : Int32) (x3 : Int32) : Prop := (∀ v1 : Int32, v1 = (Int32.toInt8 x1).toInt32 → (ok_J1_indexOfChar_4cfef_L7 fu i x3 v1 x2))
def f_J0_length_8abf5 (i : Nat)   : Int32 := (nm (f_J0_coder_7d493 i) (fun (r1 : Int32) => ((Int32.ofNat (kLen.getD i 0)) >>> (r1 &&& 31))))
def f_J0_charAt_5068e (i : Nat)  (x0 : Int32) : Int32 := (nm (f_J0_isLatin1_aae02 i) (fun (r1 : Int32) => (nm (f_J1_charAt_3b067 i x0) (fun (r4 : Int32) => r4))))
def ok_J0_charAt_5068e (i : Nat)  (x0 : Int32) : Prop := (∀ r1 : Int32, r1 = (f_J0_isLatin1_aae02 i) → ((¬ r1 = 0) ∧ ((ok_J1_charAt_3b067 i x0) ∧ (∀ r4 : Int32, r4 = (f_J1_charAt_3b067 i x0) → (narrow .char (.int r4) = .int r4)))))
def f_J1_indexOf_4cfef (i : Nat)  (x1 : Int32) (x2 : Int32) (x3 : Int32) : Int32 := (nm (f_J1_canEncode_9a6ad x1) (fun (r1 : Int32) => (if r1 = 0 then (-1) else (nm (mx x2 0) (fun (v3 : Int32) => (nm (mn x3 (Int32.ofNat (kLen.getD i 0))) (fun (v4 : Int32) => (if v3 < v4 then (nm (f_J1_indexOfChar_4cfef i x1 v3 v4) (fun (r7 : Int32) => r7)) else (-1)))))))))
def ok_J1_indexOf_4cfef (i : Nat)  (x1 : Int32) (x2 : Int32) (x3 : Int32) : Prop := (∀ r1 : Int32, r1 = (f_J1_canEncode_9a6ad x1) → ((r1 = 0 → True) ∧ (¬ r1 = 0 → (∀ v3 : Int32, v3 = (mx x2 0) → (∀ v4 : Int32, v4 = (mn x3 (Int32.ofNat (kLen.getD i 0))) → ((v3 < v4 → ((ok_J1_indexOfChar_4cfef i x1 v3 v4))) ∧ (¬ v3 < v4 → True)))))))
def f_J0_indexOf_7cf53 (i : Nat)  (x0 : Int32) (x1 : Int32) : Int32 := (nm (f_J0_isLatin1_aae02 i) (fun (r1 : Int32) => (nm (f_J0_length_8abf5 i) (fun (r3 : Int32) => (nm (f_J1_indexOf_4cfef i x0 x1 r3) (fun (r5 : Int32) => r5))))))
def ok_J0_indexOf_7cf53 (i : Nat)  (x0 : Int32) (x1 : Int32) : Prop := (∀ r1 : Int32, r1 = (f_J0_isLatin1_aae02 i) → ((¬ r1 = 0) ∧ (∀ r3 : Int32, r3 = (f_J0_length_8abf5 i) → ((ok_J1_indexOf_4cfef i x0 x1 r3)))))
def f_J0_indexOf_0f7a4 (i : Nat)  (x0 : Int32) : Int32 := (nm (f_J0_indexOf_7cf53 i x0 0) (fun (r2 : Int32) => r2))
def ok_J0_indexOf_0f7a4 (i : Nat)  (x0 : Int32) : Prop := ((ok_J0_indexOf_7cf53 i x0 0))
