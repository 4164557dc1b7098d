def f_X4_append  (B : StB) (x0 : Int32) : Int32 × StB := (nm (sba B 180 (ix (bi B 179 1)) (vp_nar .char x0)) (fun (B2 : StB) => (nm (sbi B2 179 1 ((bi B2 179 1) + 1)) (fun (B3 : StB) => ((bi B3 179 1), B3)))))
def ok_X4_append  (B : StB) (x0 : Int32) : Prop := (vp_in (bi B 179 1) 60)
def f_X4_readSign  (B : StB) (x0 : Int32) : Int32 × StB := (if (bi B 179 1) ≤ (bi B 179 2) then (0, B) else (if (ba B 180 (ix (bi B 179 2))) = x0 then (nm (sbi B 179 2 ((bi B 179 2) + 1)) (fun (B4 : StB) => (1, B4))) else (0, B)))
def ok_X4_readSign  (B : StB) (x0 : Int32) : Prop := (((bi B 179 1) ≤ (bi B 179 2) → True) ∧ (¬ (bi B 179 1) ≤ (bi B 179 2) → (vp_in (bi B 179 2) 60)))
def f_X4_isDigitHere  (B : StB)  : Int32 := (if (bi B 179 1) ≤ (bi B 179 2) then 0 else (if (ba B 180 (ix (bi B 179 2))) < 48 then 0 else (if 57 < (ba B 180 (ix (bi B 179 2))) then 0 else 1)))
def ok_X4_isDigitHere  (B : StB)  : Prop := (((bi B 179 1) ≤ (bi B 179 2) → True) ∧ (¬ (bi B 179 1) ≤ (bi B 179 2) → (vp_in (bi B 179 2) 60 ∧ (((ba B 180 (ix (bi B 179 2))) < 48 → True) ∧ (¬ (ba B 180 (ix (bi B 179 2))) < 48 → (vp_in (bi B 179 2) 60))))))
def f_X4_readNumber_L4 : Nat → StB → Int32 → Int32 → Int32 → Int32 × StB
  | 0, B, a1, a2, a3 => (a2, B)
  | n + 1, B, a1, a2, a3 => (if a1 ≤ a3 then (a2, B) else (nm (f_X4_isDigitHere B) (fun (r3 : Int32) => (if r3 = 0 then (a2, B) else (nm (((mx a2 0) * 10) + ((ba B 180 (ix (bi B 179 2))) - 48)) (fun (v6 : Int32) => (nm (sbi B 179 2 ((bi B 179 2) + 1)) (fun (B7 : StB) => (f_X4_readNumber_L4 n B7 a1 v6 (a3 + 1))))))))))
def ok_X4_readNumber_L4 : Nat → StB → Int32 → Int32 → Int32 → Prop
  | 0, _, _, _, _ => False
  | n + 1, B, a1, a2, a3 => ((a1 ≤ a3 → True) ∧ (¬ a1 ≤ a3 → ((ok_X4_isDigitHere B) ∧ (∀ r3 : Int32, r3 = (f_X4_isDigitHere B) → ((r3 = 0 → True) ∧ (¬ r3 = 0 → (vp_in (bi B 179 2) 60 ∧ (∀ v6 : Int32, v6 = (((mx a2 0) * 10) + ((ba B 180 (ix (bi B 179 2))) - 48)) → (∀ B7 : StB, B7 = (sbi B 179 2 ((bi B 179 2) + 1)) → (ok_X4_readNumber_L4 n B7 a1 v6 (a3 + 1)))))))))))
def f_X4_readNumber  (B : StB) (x0 : Int32) : Int32 × StB := (nm (f_X4_readNumber_L4 fu B x0 (-1) 0) (fun (z8 : Int32 × StB) => (z8.1, z8.2)))
def ok_X4_readNumber  (B : StB) (x0 : Int32) : Prop := (ok_X4_readNumber_L4 fu B x0 (-1) 0)
