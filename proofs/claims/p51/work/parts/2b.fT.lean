def f_X5_copySlot (p : Nat) (q0 : Nat) (B : StB) (x1 : Int32) (x2 : Int32) : StB := (nm (sba B (p + 1) (ix x2) (ba B (q0 + 1) (ix x1))) (fun (B3 : StB) => (nm (sba B3 (p + 2) (ix x2) (ba B3 (q0 + 2) (ix x1))) (fun (B6 : StB) => (nm (sba B6 (p + 3) (ix x2) (ba B6 (q0 + 3) (ix x1))) (fun (B9 : StB) => (nm (sba B9 (p + 4) (ix x2) (ba B9 (q0 + 4) (ix x1))) (fun (B12 : StB) => (nm (sba B12 (p + 5) (ix x2) (ba B12 (q0 + 5) (ix x1))) (fun (B15 : StB) => B15))))))))))
def ok_X5_copySlot (p : Nat) (q0 : Nat) (B : StB) (x1 : Int32) (x2 : Int32) : Prop := (vp_in x1 10 ∧ (vp_in x2 10 ∧ (∀ B3 : StB, B3 = (sba B (p + 1) (ix x2) (ba B (q0 + 1) (ix x1))) → (vp_in x1 10 ∧ (vp_in x2 10 ∧ (∀ B6 : StB, B6 = (sba B3 (p + 2) (ix x2) (ba B3 (q0 + 2) (ix x1))) → (vp_in x1 10 ∧ (vp_in x2 10 ∧ (∀ B9 : StB, B9 = (sba B6 (p + 3) (ix x2) (ba B6 (q0 + 3) (ix x1))) → (vp_in x1 10 ∧ (vp_in x2 10 ∧ (∀ B12 : StB, B12 = (sba B9 (p + 4) (ix x2) (ba B9 (q0 + 4) (ix x1))) → (vp_in x1 10 ∧ (vp_in x2 10))))))))))))))
def f_X5_add (p : Nat) (B : StB) (x0 : Int32) (x1 : Int32) (x2 : Int32) (x3 : Int32) : Int32 × StB := (nm (bi B p 1) (fun (v1 : Int32) => (nm (sba B (p + 1) (ix (bi B p 0)) v1) (fun (B3 : StB) => (nm (sba B3 (p + 2) (ix (bi B3 p 0)) x0) (fun (B5 : StB) => (nm (sba B5 (p + 3) (ix (bi B5 p 0)) x1) (fun (B7 : StB) => (nm (sba B7 (p + 4) (ix (bi B7 p 0)) x2) (fun (B9 : StB) => (nm (sba B9 (p + 5) (ix (bi B9 p 0)) x3) (fun (B11 : StB) => (nm (sbi B11 p 0 ((bi B11 p 0) + 1)) (fun (B12 : StB) => (nm (sbi B12 p 1 ((bi B12 p 1) + 1)) (fun (B13 : StB) => (v1, B13)))))))))))))))))
def ok_X5_add (p : Nat) (B : StB) (x0 : Int32) (x1 : Int32) (x2 : Int32) (x3 : Int32) : Prop := (∀ v1 : Int32, v1 = (bi B p 1) → (vp_in (bi B p 0) 10 ∧ (∀ B3 : StB, B3 = (sba B (p + 1) (ix (bi B p 0)) v1) → (vp_in (bi B3 p 0) 10 ∧ (∀ B5 : StB, B5 = (sba B3 (p + 2) (ix (bi B3 p 0)) x0) → (vp_in (bi B5 p 0) 10 ∧ (∀ B7 : StB, B7 = (sba B5 (p + 3) (ix (bi B5 p 0)) x1) → (vp_in (bi B7 p 0) 10 ∧ (∀ B9 : StB, B9 = (sba B7 (p + 4) (ix (bi B7 p 0)) x2) → (vp_in (bi B9 p 0) 10))))))))))
def f_X5_find_L2 : Nat → Nat → StB → Int32 → Int32 → Int32
  | 0, p, B, a1, a2 => 0
  | n + 1, p, B, a1, a2 => (if (bi B p 0) ≤ a2 then (-1) else (if (ba B (p + 1) (ix a2)) = a1 then a2 else (f_X5_find_L2 n p B a1 (a2 + 1))))
def ok_X5_find_L2 : Nat → Nat → StB → Int32 → Int32 → Prop
  | 0, _, _, _, _ => False
  | n + 1, p, B, a1, a2 => (((bi B p 0) ≤ a2 → True) ∧ (¬ (bi B p 0) ≤ a2 → (vp_in a2 10 ∧ (((ba B (p + 1) (ix a2)) = a1 → True) ∧ (¬ (ba B (p + 1) (ix a2)) = a1 → (ok_X5_find_L2 n p B a1 (a2 + 1)))))))
def f_X5_find (p : Nat) (B : StB) (x0 : Int32) : Int32 := (f_X5_find_L2 fu p B x0 0)
def ok_X5_find (p : Nat) (B : StB) (x0 : Int32) : Prop := (ok_X5_find_L2 fu p B x0 0)
def f_X5_positionOf_L4 : Nat → Nat → StB → Int32 → Int32 → Int32 → Int32
  | 0, p, B, a1, a2, a3 => (a2)
  | n + 1, p, B, a1, a2, a3 => (if (bi B p 0) ≤ a3 then a2 else (if (ba B (p + 5) (ix a1)) ≤ (ba B (p + 5) (ix a3)) then (if (ba B (p + 5) (ix a3)) = (ba B (p + 5) (ix a1)) then (if a1 ≤ a3 then (f_X5_positionOf_L4 n p B a1 a2 (a3 + 1)) else (f_X5_positionOf_L4 n p B a1 (a2 + 1) (a3 + 1))) else (f_X5_positionOf_L4 n p B a1 a2 (a3 + 1))) else (if (ba B (p + 5) (ix a3)) = (ba B (p + 5) (ix a1)) then (if a1 ≤ a3 then (f_X5_positionOf_L4 n p B a1 (a2 + 1) (a3 + 1)) else (f_X5_positionOf_L4 n p B a1 (a2 + 1) (a3 + 1))) else (f_X5_positionOf_L4 n p B a1 (a2 + 1) (a3 + 1)))))
def ok_X5_positionOf_L4 : Nat → Nat → StB → Int32 → Int32 → Int32 → Prop
  | 0, _, _, _, _, _ => False
  | n + 1, p, B, a1, a2, a3 => (((bi B p 0) ≤ a3 → True) ∧ (¬ (bi B p 0) ≤ a3 → (vp_in a3 10 ∧ (vp_in a1 10 ∧ (((ba B (p + 5) (ix a1)) ≤ (ba B (p + 5) (ix a3)) → (vp_in a3 10 ∧ (vp_in a1 10 ∧ (((ba B (p + 5) (ix a3)) = (ba B (p + 5) (ix a1)) → ((a1 ≤ a3 → (ok_X5_positionOf_L4 n p B a1 a2 (a3 + 1))) ∧ (¬ a1 ≤ a3 → (ok_X5_positionOf_L4 n p B a1 (a2 + 1) (a3 + 1))))) ∧ (¬ (ba B (p + 5) (ix a3)) = (ba B (p + 5) (ix a1)) → (ok_X5_positionOf_L4 n p B a1 a2 (a3 + 1))))))) ∧ (¬ (ba B (p + 5) (ix a1)) ≤ (ba B (p + 5) (ix a3)) → (vp_in a3 10 ∧ (vp_in a1 10 ∧ (((ba B (p + 5) (ix a3)) = (ba B (p + 5) (ix a1)) → ((a1 ≤ a3 → (ok_X5_positionOf_L4 n p B a1 (a2 + 1) (a3 + 1))) ∧ (¬ a1 ≤ a3 → (ok_X5_positionOf_L4 n p B a1 (a2 + 1) (a3 + 1))))) ∧ (¬ (ba B (p + 5) (ix a3)) = (ba B (p + 5) (ix a1)) → (ok_X5_positionOf_L4 n p B a1 (a2 + 1) (a3 + 1))))))))))))
def f_X5_positionOf (p : Nat) (B : StB) (x0 : Int32) : Int32 := (nm (f_X5_positionOf_L4 fu p B x0 0 0) (fun (z22 : Int32) => z22))
def ok_X5_positionOf (p : Nat) (B : StB) (x0 : Int32) : Prop := (ok_X5_positionOf_L4 fu p B x0 0 0)
def f_X5_net_L4 : Nat → Nat → StB → Int32 → Int32 → Int32 → Int32
  | 0, p, B, a1, a2, a3 => (a2)
  | n + 1, p, B, a1, a2, a3 => (if (bi B p 0) ≤ a3 then a2 else (if (ba B (p + 3) (ix a3)) = a1 then (nm (a2 + (ba B (p + 4) (ix a3))) (fun (v9 : Int32) => (if (ba B (p + 2) (ix a3)) = a1 then (nm (v9 - (ba B (p + 4) (ix a3))) (fun (v13 : Int32) => (f_X5_net_L4 n p B a1 v13 (a3 + 1)))) else (f_X5_net_L4 n p B a1 v9 (a3 + 1))))) else (if (ba B (p + 2) (ix a3)) = a1 then (nm (a2 - (ba B (p + 4) (ix a3))) (fun (v7 : Int32) => (f_X5_net_L4 n p B a1 v7 (a3 + 1)))) else (f_X5_net_L4 n p B a1 a2 (a3 + 1)))))
def ok_X5_net_L4 : Nat → Nat → StB → Int32 → Int32 → Int32 → Prop
  | 0, _, _, _, _, _ => False
  | n + 1, p, B, a1, a2, a3 => (((bi B p 0) ≤ a3 → True) ∧ (¬ (bi B p 0) ≤ a3 → (vp_in a3 10 ∧ (((ba B (p + 3) (ix a3)) = a1 → (vp_in a3 10 ∧ (∀ v9 : Int32, v9 = (a2 + (ba B (p + 4) (ix a3))) → (vp_in a3 10 ∧ (((ba B (p + 2) (ix a3)) = a1 → (vp_in a3 10 ∧ (∀ v13 : Int32, v13 = (v9 - (ba B (p + 4) (ix a3))) → (ok_X5_net_L4 n p B a1 v13 (a3 + 1))))) ∧ (¬ (ba B (p + 2) (ix a3)) = a1 → (ok_X5_net_L4 n p B a1 v9 (a3 + 1)))))))) ∧ (¬ (ba B (p + 3) (ix a3)) = a1 → (vp_in a3 10 ∧ (((ba B (p + 2) (ix a3)) = a1 → (vp_in a3 10 ∧ (∀ v7 : Int32, v7 = (a2 - (ba B (p + 4) (ix a3))) → (ok_X5_net_L4 n p B a1 v7 (a3 + 1))))) ∧ (¬ (ba B (p + 2) (ix a3)) = a1 → (ok_X5_net_L4 n p B a1 a2 (a3 + 1))))))))))
def f_X5_net (p : Nat) (B : StB) (x0 : Int32) : Int32 := (nm (f_X5_net_L4 fu p B x0 0 0) (fun (z14 : Int32) => z14))
def ok_X5_net (p : Nat) (B : StB) (x0 : Int32) : Prop := (ok_X5_net_L4 fu p B x0 0 0)
def f_X5_connect_L15 : Nat → Nat → StB → Int32 → Int32 → Int32 → Int32 → Int32 → Int32
  | 0, p, B, a1, a2, a3, a4, a5 => (a3)
  | n + 1, p, B, a1, a2, a3, a4, a5 => (if (bi B p 0) ≤ a5 then a3 else (nm (ba B (p + 2) (ix a5)) (fun (v4 : Int32) => (if v4 = a1 then (nm (a3 ||| (1 <<< ((ba B (p + 3) (ix a5)) &&& 31))) (fun (v7 : Int32) => (f_X5_connect_L15 n p B a1 a2 v7 a4 (a5 + 1)))) else (if ((a3 >>> (v4 &&& 31)) &&& 1) = 1 then (nm (a3 ||| (1 <<< ((ba B (p + 3) (ix a5)) &&& 31))) (fun (v10 : Int32) => (f_X5_connect_L15 n p B a1 a2 v10 a4 (a5 + 1)))) else (f_X5_connect_L15 n p B a1 a2 a3 a4 (a5 + 1)))))))
def ok_X5_connect_L15 : Nat → Nat → StB → Int32 → Int32 → Int32 → Int32 → Int32 → Prop
  | 0, _, _, _, _, _, _, _ => False
  | n + 1, p, B, a1, a2, a3, a4, a5 => (((bi B p 0) ≤ a5 → True) ∧ (¬ (bi B p 0) ≤ a5 → (vp_in a5 10 ∧ (∀ v4 : Int32, v4 = (ba B (p + 2) (ix a5)) → ((v4 = a1 → (vp_in a5 10 ∧ (∀ v7 : Int32, v7 = (a3 ||| (1 <<< ((ba B (p + 3) (ix a5)) &&& 31))) → (ok_X5_connect_L15 n p B a1 a2 v7 a4 (a5 + 1))))) ∧ (¬ v4 = a1 → ((((a3 >>> (v4 &&& 31)) &&& 1) = 1 → (vp_in a5 10 ∧ (∀ v10 : Int32, v10 = (a3 ||| (1 <<< ((ba B (p + 3) (ix a5)) &&& 31))) → (ok_X5_connect_L15 n p B a1 a2 v10 a4 (a5 + 1))))) ∧ (¬ ((a3 >>> (v4 &&& 31)) &&& 1) = 1 → (ok_X5_connect_L15 n p B a1 a2 a3 a4 (a5 + 1))))))))))
def f_X5_connect_L5 : Nat → Nat → StB → Int32 → Int32 → Int32 → Int32 → Int32
  | 0, p, B, a1, a2, a3, a4 => (a3)
  | n + 1, p, B, a1, a2, a3, a4 => (if 8 ≤ a4 then a3 else (nm (f_X5_connect_L15 fu p B a1 a2 a3 a4 0) (fun (z11 : Int32) => (f_X5_connect_L5 n p B a1 a2 z11 (a4 + 1)))))
def ok_X5_connect_L5 : Nat → Nat → StB → Int32 → Int32 → Int32 → Int32 → Prop
  | 0, _, _, _, _, _, _ => False
  | n + 1, p, B, a1, a2, a3, a4 => ((8 ≤ a4 → True) ∧ (¬ 8 ≤ a4 → ((ok_X5_connect_L15 fu p B a1 a2 a3 a4 0) ∧ ∀ z11 : Int32, z11 = f_X5_connect_L15 fu p B a1 a2 a3 a4 0 → (ok_X5_connect_L5 n p B a1 a2 z11 (a4 + 1)))))
def f_X5_connect (p : Nat) (B : StB) (x0 : Int32) (x1 : Int32) : Int32 := (nm (f_X5_connect_L5 fu p B x0 x1 0 0) (fun (z12 : Int32) => (if ((z12 >>> (x1 &&& 31)) &&& 1) = 1 then 1 else 0)))
def ok_X5_connect (p : Nat) (B : StB) (x0 : Int32) (x1 : Int32) : Prop := (ok_X5_connect_L5 fu p B x0 x1 0 0)
def f_X5_copyFrom_L18 : Nat → Nat → Nat → StB → Int32 → StB
  | 0, p, q0, B, a2 => (B)
  | n + 1, p, q0, B, a2 => (if (bi B p 0) ≤ a2 then B else (nm (f_X5_copySlot p q0 B a2 a2) (fun (B5 : StB) => (f_X5_copyFrom_L18 n p q0 B5 (a2 + 1)))))
def ok_X5_copyFrom_L18 : Nat → Nat → Nat → StB → Int32 → Prop
  | 0, _, _, _, _ => False
  | n + 1, p, q0, B, a2 => (((bi B p 0) ≤ a2 → True) ∧ (¬ (bi B p 0) ≤ a2 → ((ok_X5_copySlot p q0 B a2 a2) ∧ (∀ B5 : StB, B5 = (f_X5_copySlot p q0 B a2 a2) → (ok_X5_copyFrom_L18 n p q0 B5 (a2 + 1))))))
def f_X5_copyFrom (p : Nat) (q0 : Nat) (B : StB)  : StB := (nm (sbi B p 0 (bi B q0 0)) (fun (B1 : StB) => (nm (sbi B1 p 1 (bi B1 q0 1)) (fun (B2 : StB) => (nm (f_X5_copyFrom_L18 fu p q0 B2 0) (fun (z6 : StB) => z6))))))
def ok_X5_copyFrom (p : Nat) (q0 : Nat) (B : StB)  : Prop := (∀ B1 : StB, B1 = (sbi B p 0 (bi B q0 0)) → (∀ B2 : StB, B2 = (sbi B1 p 1 (bi B1 q0 1)) → (ok_X5_copyFrom_L18 fu p q0 B2 0)))
def f_X5_remove_L7 : Nat → Nat → StB → Int32 → Int32 → Int32 → Int32 → Int32 × Int32 × StB
  | 0, p, B, a1, a2, a3, a4 => (a2, a3, B)
  | n + 1, p, B, a1, a2, a3, a4 => (if (bi B p 0) ≤ a4 then (a2, a3, B) else (if (ba B (p + 1) (ix a4)) = a1 then (nm (ba B (p + 4) (ix a4)) (fun (v7 : Int32) => (f_X5_remove_L7 n p B a1 v7 a3 (a4 + 1)))) else (nm (f_X5_copySlot p p B a4 a3) (fun (B5 : StB) => (f_X5_remove_L7 n p B5 a1 a2 (a3 + 1) (a4 + 1))))))
def ok_X5_remove_L7 : Nat → Nat → StB → Int32 → Int32 → Int32 → Int32 → Prop
  | 0, _, _, _, _, _, _ => False
  | n + 1, p, B, a1, a2, a3, a4 => (((bi B p 0) ≤ a4 → True) ∧ (¬ (bi B p 0) ≤ a4 → (vp_in a4 10 ∧ (((ba B (p + 1) (ix a4)) = a1 → (vp_in a4 10 ∧ (∀ v7 : Int32, v7 = (ba B (p + 4) (ix a4)) → (ok_X5_remove_L7 n p B a1 v7 a3 (a4 + 1))))) ∧ (¬ (ba B (p + 1) (ix a4)) = a1 → ((ok_X5_copySlot p p B a4 a3) ∧ (∀ B5 : StB, B5 = (f_X5_copySlot p p B a4 a3) → (ok_X5_remove_L7 n p B5 a1 a2 (a3 + 1) (a4 + 1)))))))))
def f_X5_remove (p : Nat) (B : StB) (x0 : Int32) : Int32 × StB := (nm (f_X5_remove_L7 fu p B x0 0 0 0) (fun (z8 : Int32 × Int32 × StB) => (nm (sbi z8.2.2 p 0 z8.2.1) (fun (B9 : StB) => (z8.1, B9)))))
def ok_X5_remove (p : Nat) (B : StB) (x0 : Int32) : Prop := (ok_X5_remove_L7 fu p B x0 0 0 0)
def f_X5_idAt_L4 : Nat → Nat → StB → Int32 → Int32 → Int32 → Int32
  | 0, p, B, a1, a2, a3 => (a2)
  | n + 1, p, B, a1, a2, a3 => (if (bi B p 0) ≤ a3 then a2 else (nm (f_X5_positionOf p B a3) (fun (r3 : Int32) => (if r3 = a1 then (nm (ba B (p + 1) (ix a3)) (fun (v6 : Int32) => (f_X5_idAt_L4 n p B a1 v6 (a3 + 1)))) else (f_X5_idAt_L4 n p B a1 a2 (a3 + 1))))))
def ok_X5_idAt_L4 : Nat → Nat → StB → Int32 → Int32 → Int32 → Prop
  | 0, _, _, _, _, _ => False
  | n + 1, p, B, a1, a2, a3 => (((bi B p 0) ≤ a3 → True) ∧ (¬ (bi B p 0) ≤ a3 → ((ok_X5_positionOf p B a3) ∧ (∀ r3 : Int32, r3 = (f_X5_positionOf p B a3) → ((r3 = a1 → (vp_in a3 10 ∧ (∀ v6 : Int32, v6 = (ba B (p + 1) (ix a3)) → (ok_X5_idAt_L4 n p B a1 v6 (a3 + 1))))) ∧ (¬ r3 = a1 → (ok_X5_idAt_L4 n p B a1 a2 (a3 + 1))))))))
def f_X5_idAt (p : Nat) (B : StB) (x0 : Int32) : Int32 := (nm (f_X5_idAt_L4 fu p B x0 (-1) 0) (fun (z7 : Int32) => z7))
def ok_X5_idAt (p : Nat) (B : StB) (x0 : Int32) : Prop := (ok_X5_idAt_L4 fu p B x0 (-1) 0)
