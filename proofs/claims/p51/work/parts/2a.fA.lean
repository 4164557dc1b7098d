def f_J9_floorMod_7cf53   (x0 : Int32) (x1 : Int32) : Int32 := (nm (x0 - x0 / x1 * x1) (fun (v2 : Int32) => (if 0 ≤ (x0 ^^^ x1) then v2 else (if v2 = 0 then v2 else (v2 + x1)))))
def ok_J9_floorMod_7cf53   (x0 : Int32) (x1 : Int32) : Prop := (¬ x1 = 0)
def f_X6_isIn   (x0 : Int32) (x1 : Int32) (x2 : Int32) : Int32 := (if x0 < x1 then 0 else (if x2 < x0 then 0 else 1))
def f_X0_copyFrom_L10 : Nat → Nat → Nat → StB → Int32 → StB
  | 0, p, q0, B, a2 => (B)
  | n + 1, p, q0, B, a2 => (if (bi B p 0) ≤ a2 then B else (nm (sba B (p + 1) (ix a2) (ba B (q0 + 1) (ix a2))) (fun (B5 : StB) => (nm (sba B5 (p + 2) (ix a2) (ba B5 (q0 + 2) (ix a2))) (fun (B8 : StB) => (nm (sba B8 (p + 3) (ix a2) (ba B8 (q0 + 3) (ix a2))) (fun (B11 : StB) => (nm (sba B11 (p + 4) (ix a2) (vp_nar .boolean (ba B11 (q0 + 4) (ix a2)))) (fun (B14 : StB) => (f_X0_copyFrom_L10 n p q0 B14 (a2 + 1)))))))))))
def ok_X0_copyFrom_L10 : Nat → Nat → Nat → StB → Int32 → Prop
  | 0, _, _, _, _ => False
  | n + 1, p, q0, B, a2 => (((bi B p 0) ≤ a2 → True) ∧ (¬ (bi B p 0) ≤ a2 → (vp_in a2 8 ∧ (vp_in a2 8 ∧ (∀ B5 : StB, B5 = (sba B (p + 1) (ix a2) (ba B (q0 + 1) (ix a2))) → (vp_in a2 8 ∧ (vp_in a2 8 ∧ (∀ B8 : StB, B8 = (sba B5 (p + 2) (ix a2) (ba B5 (q0 + 2) (ix a2))) → (vp_in a2 8 ∧ (vp_in a2 8 ∧ (∀ B11 : StB, B11 = (sba B8 (p + 3) (ix a2) (ba B8 (q0 + 3) (ix a2))) → (vp_in a2 8 ∧ (vp_in a2 8 ∧ (∀ B14 : StB, B14 = (sba B11 (p + 4) (ix a2) (vp_nar .boolean (ba B11 (q0 + 4) (ix a2)))) → (ok_X0_copyFrom_L10 n p q0 B14 (a2 + 1))))))))))))))))
def f_X0_copyFrom (p : Nat) (q0 : Nat) (B : StB)  : StB := (nm (sbi B p 0 (bi B q0 0)) (fun (B1 : StB) => (nm (f_X0_copyFrom_L10 fu p q0 B1 0) (fun (z15 : StB) => z15))))
def ok_X0_copyFrom (p : Nat) (q0 : Nat) (B : StB)  : Prop := (∀ B1 : StB, B1 = (sbi B p 0 (bi B q0 0)) → (ok_X0_copyFrom_L10 fu p q0 B1 0))
def f_X0_add (p : Nat) (B : StB) (x0 : Int32) : Int32 × StB := (nm (bi B p 0) (fun (v1 : Int32) => (nm (sba B (p + 1) (ix v1) x0) (fun (B3 : StB) => (nm (sba B3 (p + 2) (ix v1) 0) (fun (B5 : StB) => (nm (sba B5 (p + 3) (ix v1) 0) (fun (B7 : StB) => (nm (sba B7 (p + 4) (ix v1) (vp_nar .boolean 0)) (fun (B9 : StB) => (nm (sbi B9 p 0 ((bi B9 p 0) + 1)) (fun (B10 : StB) => (v1, B10)))))))))))))
def ok_X0_add (p : Nat) (B : StB) (x0 : Int32) : Prop := (∀ v1 : Int32, v1 = (bi B p 0) → (vp_in v1 8 ∧ (∀ B3 : StB, B3 = (sba B (p + 1) (ix v1) x0) → (vp_in v1 8 ∧ (∀ B5 : StB, B5 = (sba B3 (p + 2) (ix v1) 0) → (vp_in v1 8 ∧ (∀ B7 : StB, B7 = (sba B5 (p + 3) (ix v1) 0) → (vp_in v1 8))))))))
def f_X0_has (p : Nat) (B : StB) (x0 : Int32) : Int32 := (if x0 < 0 then 0 else (if (bi B p 0) ≤ x0 then 0 else 1))
def f_X0_available (p : Nat) (B : StB) (x0 : Int32) : Int32 := ((ba B (p + 2) (ix x0)) + (ba B (p + 3) (ix x0)))
def ok_X0_available (p : Nat) (B : StB) (x0 : Int32) : Prop := (vp_in x0 8 ∧ (vp_in x0 8))
def f_X0_changeLimit (p : Nat) (B : StB) (x0 : Int32) (x1 : Int32) : Int32 × StB := (nm (ba B (p + 3) (ix x0)) (fun (v2 : Int32) => (nm (sba B (p + 3) (ix x0) x1) (fun (B4 : StB) => (v2, B4)))))
def ok_X0_changeLimit (p : Nat) (B : StB) (x0 : Int32) (x1 : Int32) : Prop := (vp_in x0 8 ∧ (∀ v2 : Int32, v2 = (ba B (p + 3) (ix x0)) → (vp_in x0 8)))
def f_X0_fullCharge (p : Nat) (B : StB) (x0 : Int32) : Int32 := (if (ba B (p + 1) (ix x0)) = 2 then 5 else (mx 1 (((-(ba B (p + 2) (ix x0))) / 50) * 2)))
def ok_X0_fullCharge (p : Nat) (B : StB) (x0 : Int32) : Prop := (vp_in x0 8 ∧ (((ba B (p + 1) (ix x0)) = 2 → True) ∧ (¬ (ba B (p + 1) (ix x0)) = 2 → (vp_in x0 8))))
def f_X0_forgetTouches_L2 : Nat → Nat → StB → Int32 → StB
  | 0, p, B, a1 => (B)
  | n + 1, p, B, a1 => (if (bi B p 0) ≤ a1 then B else (nm (sba B (p + 4) (ix a1) (vp_nar .boolean 0)) (fun (B3 : StB) => (f_X0_forgetTouches_L2 n p B3 (a1 + 1)))))
def ok_X0_forgetTouches_L2 : Nat → Nat → StB → Int32 → Prop
  | 0, _, _, _ => False
  | n + 1, p, B, a1 => (((bi B p 0) ≤ a1 → True) ∧ (¬ (bi B p 0) ≤ a1 → (vp_in a1 8 ∧ (∀ B3 : StB, B3 = (sba B (p + 4) (ix a1) (vp_nar .boolean 0)) → (ok_X0_forgetTouches_L2 n p B3 (a1 + 1))))))
def f_X0_forgetTouches (p : Nat) (B : StB)  : StB := (nm (f_X0_forgetTouches_L2 fu p B 0) (fun (z4 : StB) => z4))
def ok_X0_forgetTouches (p : Nat) (B : StB)  : Prop := (ok_X0_forgetTouches_L2 fu p B 0)
def f_X0_rankOf_L4 : Nat → Nat → StB → Int32 → Int32 → Int32 → Int32
  | 0, p, B, a1, a2, a3 => (a2)
  | n + 1, p, B, a1, a2, a3 => (if (bi B p 0) ≤ a3 then a2 else (if (ba B (p + 2) (ix a3)) ≤ (ba B (p + 2) (ix a1)) then (if (ba B (p + 2) (ix a3)) = (ba B (p + 2) (ix a1)) then (if a1 ≤ a3 then (f_X0_rankOf_L4 n p B a1 a2 (a3 + 1)) else (f_X0_rankOf_L4 n p B a1 (a2 + 1) (a3 + 1))) else (f_X0_rankOf_L4 n p B a1 a2 (a3 + 1))) else (if (ba B (p + 2) (ix a3)) = (ba B (p + 2) (ix a1)) then (if a1 ≤ a3 then (f_X0_rankOf_L4 n p B a1 (a2 + 1) (a3 + 1)) else (f_X0_rankOf_L4 n p B a1 (a2 + 1) (a3 + 1))) else (f_X0_rankOf_L4 n p B a1 (a2 + 1) (a3 + 1)))))
def ok_X0_rankOf_L4 : Nat → Nat → StB → Int32 → Int32 → Int32 → Prop
  | 0, _, _, _, _, _ => False
  | n + 1, p, B, a1, a2, a3 => (((bi B p 0) ≤ a3 → True) ∧ (¬ (bi B p 0) ≤ a3 → (vp_in a3 8 ∧ (vp_in a1 8 ∧ (((ba B (p + 2) (ix a3)) ≤ (ba B (p + 2) (ix a1)) → (vp_in a3 8 ∧ (vp_in a1 8 ∧ (((ba B (p + 2) (ix a3)) = (ba B (p + 2) (ix a1)) → ((a1 ≤ a3 → (ok_X0_rankOf_L4 n p B a1 a2 (a3 + 1))) ∧ (¬ a1 ≤ a3 → (ok_X0_rankOf_L4 n p B a1 (a2 + 1) (a3 + 1))))) ∧ (¬ (ba B (p + 2) (ix a3)) = (ba B (p + 2) (ix a1)) → (ok_X0_rankOf_L4 n p B a1 a2 (a3 + 1))))))) ∧ (¬ (ba B (p + 2) (ix a3)) ≤ (ba B (p + 2) (ix a1)) → (vp_in a3 8 ∧ (vp_in a1 8 ∧ (((ba B (p + 2) (ix a3)) = (ba B (p + 2) (ix a1)) → ((a1 ≤ a3 → (ok_X0_rankOf_L4 n p B a1 (a2 + 1) (a3 + 1))) ∧ (¬ a1 ≤ a3 → (ok_X0_rankOf_L4 n p B a1 (a2 + 1) (a3 + 1))))) ∧ (¬ (ba B (p + 2) (ix a3)) = (ba B (p + 2) (ix a1)) → (ok_X0_rankOf_L4 n p B a1 (a2 + 1) (a3 + 1))))))))))))
def f_X0_rankOf (p : Nat) (B : StB) (x0 : Int32) : Int32 := (nm (f_X0_rankOf_L4 fu p B x0 0 0) (fun (z22 : Int32) => z22))
def ok_X0_rankOf (p : Nat) (B : StB) (x0 : Int32) : Prop := (ok_X0_rankOf_L4 fu p B x0 0 0)
def f_X0_sum_L4 : Nat → Nat → StB → Int64 → Int32 → Int64
  | 0, p, B, a1, a3 => (a1)
  | n + 1, p, B, a1, a3 => (if (bi B p 0) ≤ a3 then a1 else (nm (a1 + (Int32.toInt64 (ba B (p + 2) (ix a3)))) (fun (v3 : Int64) => (f_X0_sum_L4 n p B v3 (a3 + 1)))))
def ok_X0_sum_L4 : Nat → Nat → StB → Int64 → Int32 → Prop
  | 0, _, _, _, _ => False
  | n + 1, p, B, a1, a3 => (((bi B p 0) ≤ a3 → True) ∧ (¬ (bi B p 0) ≤ a3 → (vp_in a3 8 ∧ (∀ v3 : Int64, v3 = (a1 + (Int32.toInt64 (ba B (p + 2) (ix a3)))) → (ok_X0_sum_L4 n p B v3 (a3 + 1))))))
def f_X0_sum (p : Nat) (B : StB)  : Int64 := (nm (f_X0_sum_L4 fu p B 0 0) (fun (z4 : Int64) => z4))
def ok_X0_sum (p : Nat) (B : StB)  : Prop := (ok_X0_sum_L4 fu p B 0 0)
def f_X0_interest (p : Nat) (B : StB) (x0 : Int32) : Int32 := (nm (ba B (p + 2) (ix x0)) (fun (v2 : Int32) => (if 0 ≤ v2 then (nm ((mn v2 9999) / 100) (fun (v4 : Int32) => (if (ba B (p + 1) (ix x0)) = 0 then v4 else (if (ba B (p + 1) (ix x0)) = 1 then (mn (3 * v4) 30) else (if (ba B (p + 1) (ix x0)) = 2 then 0 else (if (ba B (p + 1) (ix x0)) = 3 then (if (ba B (p + 4) (ix x0)) = 0 then (5 * v4) else 0) else 0)))))) else (nm (f_X0_fullCharge p B x0) (fun (r10 : Int32) => (nm (f_X0_available p B x0) (fun (r12 : Int32) => (-(mn r10 r12)))))))))
def ok_X0_interest (p : Nat) (B : StB) (x0 : Int32) : Prop := (vp_in x0 8 ∧ (∀ v2 : Int32, v2 = (ba B (p + 2) (ix x0)) → ((0 ≤ v2 → (∀ v4 : Int32, v4 = ((mn v2 9999) / 100) → (vp_in x0 8 ∧ (((ba B (p + 1) (ix x0)) = 0 → True) ∧ (¬ (ba B (p + 1) (ix x0)) = 0 → (((ba B (p + 1) (ix x0)) = 1 → True) ∧ (¬ (ba B (p + 1) (ix x0)) = 1 → (((ba B (p + 1) (ix x0)) = 2 → True) ∧ (¬ (ba B (p + 1) (ix x0)) = 2 → (((ba B (p + 1) (ix x0)) = 3 → (vp_in x0 8)) ∧ (¬ (ba B (p + 1) (ix x0)) = 3 → True))))))))))) ∧ (¬ 0 ≤ v2 → ((ok_X0_fullCharge p B x0) ∧ (∀ r10 : Int32, r10 = (f_X0_fullCharge p B x0) → ((ok_X0_available p B x0))))))))
def f_X0_atRank_L4 : Nat → Nat → StB → Int32 → Int32 → Int32 → Int32
  | 0, p, B, a1, a2, a3 => (a2)
  | n + 1, p, B, a1, a2, a3 => (if (bi B p 0) ≤ a3 then a2 else (nm (f_X0_rankOf p B a3) (fun (r3 : Int32) => (if r3 = a1 then (f_X0_atRank_L4 n p B a1 a3 (a3 + 1)) else (f_X0_atRank_L4 n p B a1 a2 (a3 + 1))))))
def ok_X0_atRank_L4 : Nat → Nat → StB → Int32 → Int32 → Int32 → Prop
  | 0, _, _, _, _, _ => False
  | n + 1, p, B, a1, a2, a3 => (((bi B p 0) ≤ a3 → True) ∧ (¬ (bi B p 0) ≤ a3 → ((ok_X0_rankOf p B a3) ∧ (∀ r3 : Int32, r3 = (f_X0_rankOf p B a3) → ((r3 = a1 → (ok_X0_atRank_L4 n p B a1 a3 (a3 + 1))) ∧ (¬ r3 = a1 → (ok_X0_atRank_L4 n p B a1 a2 (a3 + 1))))))))
def f_X0_atRank (p : Nat) (B : StB) (x0 : Int32) : Int32 := (nm (f_X0_atRank_L4 fu p B x0 0 0) (fun (z5 : Int32) => z5))
def ok_X0_atRank (p : Nat) (B : StB) (x0 : Int32) : Prop := (ok_X0_atRank_L4 fu p B x0 0 0)
