def ok_J0_checkIndex_df160 (x0 x1 : Int32) : Prop := ¬ x0 < 0 ∧ x0 < x1
def f_J0_coder_7d493 (i : Nat)   : Int32 := 0
def f_J0_isLatin1_aae02 (i : Nat)   : Int32 := 1
def f_J1_charAt_3b067 (i : Nat)  (x1 : Int32) : Int32 := (Int32.toUInt32 (((kByt.getD i []).getD (ix x1) 0) &&& 255) % 65536).toInt32
def ok_J1_charAt_3b067 (i : Nat)  (x1 : Int32) : Prop := ((ok_J0_checkIndex_df160 x1 (Int32.ofNat (kLen.getD i 0))) ∧ (vp_in x1 (kLen.getD i 0) ∧ (narrow .char (.int ((Int32.toUInt32 (((kByt.getD i []).getD (ix x1) 0) &&& 255) % 65536).toInt32)) = .int ((Int32.toUInt32 (((kByt.getD i []).getD (ix x1) 0) &&& 255) % 65536).toInt32))))
def f_J0_length_8abf5 (i : Nat)   : Int32 := (nm (f_J0_coder_7d493 i) (fun (r1 : Int32) => ((Int32.ofNat (kLen.getD i 0)) >>> (r1 &&& 31))))
def f_J0_charAt_5068e (i : Nat)  (x0 : Int32) : Int32 := (nm (f_J0_isLatin1_aae02 i) (fun (r1 : Int32) => (nm (f_J1_charAt_3b067 i x0) (fun (r4 : Int32) => r4))))
def ok_J0_charAt_5068e (i : Nat)  (x0 : Int32) : Prop := (∀ r1 : Int32, r1 = (f_J0_isLatin1_aae02 i) → ((¬ r1 = 0) ∧ ((ok_J1_charAt_3b067 i x0) ∧ (∀ r4 : Int32, r4 = (f_J1_charAt_3b067 i x0) → (narrow .char (.int r4) = .int r4)))))
