def f_X7_thrown  (M : StM)  : Int32 := (mi M 15)
def f_X7_holds_J35  (M : StM) (s0 : Int32) : Int32 × StM := (nm (smi M 15 s0) (fun (M5 : StM) => (if (mi M5 15) = 0 then (1, M5) else (0, M5))))
def f_X7_holds  (M : StM) (x0 : Int32) (x1 : Int32) (x2 : Int32) (x3 : Int32) : Int32 × StM := (if x0 = 0 then (f_X7_holds_J35 M 1) else (if x1 = 0 then (f_X7_holds_J35 M 2) else (if x2 = 0 then (f_X7_holds_J35 M 3) else (if x3 = 0 then (f_X7_holds_J35 M 4) else (f_X7_holds_J35 M 0)))))
def f_X7_isIn   (x0 : Int32) (x1 : Int32) (x2 : Int32) : Int32 := (if x0 < x1 then 0 else (if x2 < x0 then 0 else 1))
def f_X7_accountAt   (x0 : Int32) : Int32 := (12 + (4 * x0))
def f_X7_writes_L4 : Nat → StM → Int32 → Int32 → Int32 → Int32 → StM
  | 0, M, a1, a2, a3, a4 => (M)
  | n + 1, M, a1, a2, a3, a4 => (if a4 < 97 then M else (nm (sma M 0 (ix a4) (ma M 0 (ix (a4 - 3)))) (fun (M4 : StM) => (f_X7_writes_L4 n M4 a1 a2 a3 (a4 + (-1))))))
def ok_X7_writes_L4 : Nat → StM → Int32 → Int32 → Int32 → Int32 → Prop
  | 0, _, _, _, _, _ => False
  | n + 1, M, a1, a2, a3, a4 => ((a4 < 97 → True) ∧ (¬ a4 < 97 → (vp_in (a4 - 3) 124 ∧ (vp_in a4 124 ∧ (∀ M4 : StM, M4 = (sma M 0 (ix a4) (ma M 0 (ix (a4 - 3)))) → (ok_X7_writes_L4 n M4 a1 a2 a3 (a4 + (-1))))))))
def f_X7_writes  (M : StM) (x0 : Int32) (x1 : Int32) (x2 : Int32) : StM := (nm (f_X7_writes_L4 fu M x0 x1 x2 123) (fun (z5 : StM) => (nm (sma z5 0 (ix 94) x0) (fun (M7 : StM) => (nm (sma M7 0 (ix 95) x1) (fun (M9 : StM) => (nm (sma M9 0 (ix 96) x2) (fun (M11 : StM) => (nm (sma M11 0 (ix 11) (mn 10 ((ma M11 0 (ix 11)) + 1))) (fun (M14 : StM) => M14))))))))))
def ok_X7_writes  (M : StM) (x0 : Int32) (x1 : Int32) (x2 : Int32) : Prop := (ok_X7_writes_L4 fu M x0 x1 x2 123)
def f_X7_find_L4 : Nat → StM → Int32 → Int32 → Int32 → Int32
  | 0, M, a1, a2, a3 => (a2)
  | n + 1, M, a1, a2, a3 => (if (ma M 0 (ix 3)) ≤ a3 then a2 else (if (ma M 0 (ix ((44 + (5 * a3)) + 0))) = a1 then (f_X7_find_L4 n M a1 a3 (a3 + 1)) else (f_X7_find_L4 n M a1 a2 (a3 + 1))))
def ok_X7_find_L4 : Nat → StM → Int32 → Int32 → Int32 → Prop
  | 0, _, _, _, _ => False
  | n + 1, M, a1, a2, a3 => (((ma M 0 (ix 3)) ≤ a3 → True) ∧ (¬ (ma M 0 (ix 3)) ≤ a3 → (vp_in ((44 + (5 * a3)) + 0) 124 ∧ (((ma M 0 (ix ((44 + (5 * a3)) + 0))) = a1 → (ok_X7_find_L4 n M a1 a3 (a3 + 1))) ∧ (¬ (ma M 0 (ix ((44 + (5 * a3)) + 0))) = a1 → (ok_X7_find_L4 n M a1 a2 (a3 + 1)))))))
def f_X7_find  (M : StM) (x0 : Int32) : Int32 := (nm (f_X7_find_L4 fu M x0 (-1) 0) (fun (z5 : Int32) => z5))
def ok_X7_find  (M : StM) (x0 : Int32) : Prop := (ok_X7_find_L4 fu M x0 (-1) 0)
def f_X7_ofPlace  (M : StM) (x0 : Int32) (x1 : Int32) : Int32 := (ma M 0 (ix ((44 + (5 * x0)) + x1)))
def ok_X7_ofPlace  (M : StM) (x0 : Int32) (x1 : Int32) : Prop := (vp_in ((44 + (5 * x0)) + x1) 124)
def f_X7_drops_L7 : Nat → StM → Int32 → StM
  | 0, M, a2 => (M)
  | n + 1, M, a2 => (if 89 ≤ a2 then M else (nm (sma M 0 (ix a2) (ma M 0 (ix (a2 + 5)))) (fun (M5 : StM) => (f_X7_drops_L7 n M5 (a2 + 1)))))
def ok_X7_drops_L7 : Nat → StM → Int32 → Prop
  | 0, _, _ => False
  | n + 1, M, a2 => ((89 ≤ a2 → True) ∧ (¬ 89 ≤ a2 → (vp_in (a2 + 5) 124 ∧ (vp_in a2 124 ∧ (∀ M5 : StM, M5 = (sma M 0 (ix a2) (ma M 0 (ix (a2 + 5)))) → (ok_X7_drops_L7 n M5 (a2 + 1)))))))
def f_X7_drops  (M : StM) (x0 : Int32) : StM := (nm (44 + (5 * x0)) (fun (v1 : Int32) => (nm (f_X7_drops_L7 fu M v1) (fun (z6 : StM) => (nm (sma z6 0 (ix 3) ((ma z6 0 (ix 3)) - 1)) (fun (M9 : StM) => M9))))))
def ok_X7_drops  (M : StM) (x0 : Int32) : Prop := (∀ v1 : Int32, v1 = (44 + (5 * x0)) → (ok_X7_drops_L7 fu M v1))
def f_X7_accountCount  (M : StM)  : Int32 × StM := (nm (smi M 15 0) (fun (M1 : StM) => ((ma M1 0 (ix 1)), M1)))
def f_X7_bankBalance  (M : StM)  : Int32 × StM := (nm (smi M 15 0) (fun (M1 : StM) => ((ma M1 0 (ix 4)), M1)))
def f_X7_totalInkByMovements  (M : StM)  : Int64 × StM := (nm (smi M 15 0) (fun (M1 : StM) => ((Int32.toInt64 ((ma M1 0 (ix 5)) - (ma M1 0 (ix 6)))), M1)))
def f_X7_transferredInk  (M : StM)  : Int64 × StM := (nm (smi M 15 0) (fun (M1 : StM) => ((Int32.toInt64 (ma M1 0 (ix 7))), M1)))
def f_X7_interestPaid  (M : StM)  : Int64 × StM := (nm (smi M 15 0) (fun (M1 : StM) => ((Int32.toInt64 (ma M1 0 (ix 8))), M1)))
def f_X7_chargesPaid  (M : StM)  : Int64 × StM := (nm (smi M 15 0) (fun (M1 : StM) => ((Int32.toInt64 (ma M1 0 (ix 9))), M1)))
def f_X7_day  (M : StM)  : Int32 × StM := (nm (smi M 15 0) (fun (M1 : StM) => ((ma M1 0 (ix 0)), M1)))
def f_X7_transferCount  (M : StM)  : Int32 × StM := (nm (smi M 15 0) (fun (M1 : StM) => ((ma M1 0 (ix 3)), M1)))
def f_X7_bounceCount  (M : StM)  : Int32 × StM := (nm (smi M 15 0) (fun (M1 : StM) => ((ma M1 0 (ix 10)), M1)))
def f_X7_journalLength  (M : StM)  : Int32 × StM := (nm (smi M 15 0) (fun (M1 : StM) => ((ma M1 0 (ix 11)), M1)))
def f_X7_letterFor   (x0 : Int32) : Int32 := (if x0 = 0 then 67 else (if x0 = 1 then 83 else (if x0 = 2 then 81 else 86)))
def f_X7_put  (M : StM) (x0 : Int32) (x1 : Int32) : Int32 × StM := (nm (sma M 6 (ix x0) x1) (fun (M2 : StM) => ((x0 + 1), M2)))
def ok_X7_put  (M : StM) (x0 : Int32) (x1 : Int32) : Prop := (vp_in x0 40)
def f_X7_startOf   (x0 : Int32) : Int32 := (if x0 = 0 then 0 else (if x0 = 1 then 4 else (if x0 = 2 then 9 else (5 * x0))))
def f_X7_letterHere  (M : StM)  : Int32 := (if (mi M 16) ≤ (mi M 17) then (-1) else (ma M 5 (ix (mi M 17))))
def ok_X7_letterHere  (M : StM)  : Prop := (((mi M 16) ≤ (mi M 17) → True) ∧ (¬ (mi M 16) ≤ (mi M 17) → (vp_in (mi M 17) 60)))
def f_X7_copies_M0_M1_L3 : Nat → StM → Int32 → Int32 → Int32 → StM
  | 0, M, a1, a3, a4 => (M)
  | n + 1, M, a1, a3, a4 => (if 124 ≤ a4 then M else (nm (sma M 1 (ix (a3 + a4)) (ma M 0 (ix (a1 + a4)))) (fun (M4 : StM) => (f_X7_copies_M0_M1_L3 n M4 a1 a3 (a4 + 1)))))
def ok_X7_copies_M0_M1_L3 : Nat → StM → Int32 → Int32 → Int32 → Prop
  | 0, _, _, _, _ => False
  | n + 1, M, a1, a3, a4 => ((124 ≤ a4 → True) ∧ (¬ 124 ≤ a4 → (vp_in (a1 + a4) 124 ∧ (vp_in (a3 + a4) 124 ∧ (∀ M4 : StM, M4 = (sma M 1 (ix (a3 + a4)) (ma M 0 (ix (a1 + a4)))) → (ok_X7_copies_M0_M1_L3 n M4 a1 a3 (a4 + 1)))))))
def f_X7_copies_M0_M1  (M : StM) (x1 : Int32) (x3 : Int32) : StM := (nm (f_X7_copies_M0_M1_L3 fu M x1 x3 0) (fun (z5 : StM) => z5))
def ok_X7_copies_M0_M1  (M : StM) (x1 : Int32) (x3 : Int32) : Prop := (ok_X7_copies_M0_M1_L3 fu M x1 x3 0)
def f_X7_copies_M1_M4_L3 : Nat → StM → Int32 → Int32 → Int32 → StM
  | 0, M, a1, a3, a4 => (M)
  | n + 1, M, a1, a3, a4 => (if 124 ≤ a4 then M else (nm (sma M 4 (ix (a3 + a4)) (ma M 1 (ix (a1 + a4)))) (fun (M4 : StM) => (f_X7_copies_M1_M4_L3 n M4 a1 a3 (a4 + 1)))))
def ok_X7_copies_M1_M4_L3 : Nat → StM → Int32 → Int32 → Int32 → Prop
  | 0, _, _, _, _ => False
  | n + 1, M, a1, a3, a4 => ((124 ≤ a4 → True) ∧ (¬ 124 ≤ a4 → (vp_in (a1 + a4) 124 ∧ (vp_in (a3 + a4) 992 ∧ (∀ M4 : StM, M4 = (sma M 4 (ix (a3 + a4)) (ma M 1 (ix (a1 + a4)))) → (ok_X7_copies_M1_M4_L3 n M4 a1 a3 (a4 + 1)))))))
def f_X7_copies_M1_M4  (M : StM) (x1 : Int32) (x3 : Int32) : StM := (nm (f_X7_copies_M1_M4_L3 fu M x1 x3 0) (fun (z5 : StM) => z5))
def ok_X7_copies_M1_M4  (M : StM) (x1 : Int32) (x3 : Int32) : Prop := (ok_X7_copies_M1_M4_L3 fu M x1 x3 0)
def f_X7_copies_M1_M0_L3 : Nat → StM → Int32 → Int32 → Int32 → StM
  | 0, M, a1, a3, a4 => (M)
  | n + 1, M, a1, a3, a4 => (if 124 ≤ a4 then M else (nm (sma M 0 (ix (a3 + a4)) (ma M 1 (ix (a1 + a4)))) (fun (M4 : StM) => (f_X7_copies_M1_M0_L3 n M4 a1 a3 (a4 + 1)))))
def ok_X7_copies_M1_M0_L3 : Nat → StM → Int32 → Int32 → Int32 → Prop
  | 0, _, _, _, _ => False
  | n + 1, M, a1, a3, a4 => ((124 ≤ a4 → True) ∧ (¬ 124 ≤ a4 → (vp_in (a1 + a4) 124 ∧ (vp_in (a3 + a4) 124 ∧ (∀ M4 : StM, M4 = (sma M 0 (ix (a3 + a4)) (ma M 1 (ix (a1 + a4)))) → (ok_X7_copies_M1_M0_L3 n M4 a1 a3 (a4 + 1)))))))
def f_X7_copies_M1_M0  (M : StM) (x1 : Int32) (x3 : Int32) : StM := (nm (f_X7_copies_M1_M0_L3 fu M x1 x3 0) (fun (z5 : StM) => z5))
def ok_X7_copies_M1_M0  (M : StM) (x1 : Int32) (x3 : Int32) : Prop := (ok_X7_copies_M1_M0_L3 fu M x1 x3 0)
def f_X7_copies_M4_M0_L3 : Nat → StM → Int32 → Int32 → Int32 → StM
  | 0, M, a1, a3, a4 => (M)
  | n + 1, M, a1, a3, a4 => (if 124 ≤ a4 then M else (nm (sma M 0 (ix (a3 + a4)) (ma M 4 (ix (a1 + a4)))) (fun (M4 : StM) => (f_X7_copies_M4_M0_L3 n M4 a1 a3 (a4 + 1)))))
def ok_X7_copies_M4_M0_L3 : Nat → StM → Int32 → Int32 → Int32 → Prop
  | 0, _, _, _, _ => False
  | n + 1, M, a1, a3, a4 => ((124 ≤ a4 → True) ∧ (¬ 124 ≤ a4 → (vp_in (a1 + a4) 992 ∧ (vp_in (a3 + a4) 124 ∧ (∀ M4 : StM, M4 = (sma M 0 (ix (a3 + a4)) (ma M 4 (ix (a1 + a4)))) → (ok_X7_copies_M4_M0_L3 n M4 a1 a3 (a4 + 1)))))))
def f_X7_copies_M4_M0  (M : StM) (x1 : Int32) (x3 : Int32) : StM := (nm (f_X7_copies_M4_M0_L3 fu M x1 x3 0) (fun (z5 : StM) => z5))
def ok_X7_copies_M4_M0  (M : StM) (x1 : Int32) (x3 : Int32) : Prop := (ok_X7_copies_M4_M0_L3 fu M x1 x3 0)
def f_X7_copies_M0_M3_L3 : Nat → StM → Int32 → Int32 → Int32 → StM
  | 0, M, a1, a3, a4 => (M)
  | n + 1, M, a1, a3, a4 => (if 124 ≤ a4 then M else (nm (sma M 3 (ix (a3 + a4)) (ma M 0 (ix (a1 + a4)))) (fun (M4 : StM) => (f_X7_copies_M0_M3_L3 n M4 a1 a3 (a4 + 1)))))
def ok_X7_copies_M0_M3_L3 : Nat → StM → Int32 → Int32 → Int32 → Prop
  | 0, _, _, _, _ => False
  | n + 1, M, a1, a3, a4 => ((124 ≤ a4 → True) ∧ (¬ 124 ≤ a4 → (vp_in (a1 + a4) 124 ∧ (vp_in (a3 + a4) 124 ∧ (∀ M4 : StM, M4 = (sma M 3 (ix (a3 + a4)) (ma M 0 (ix (a1 + a4)))) → (ok_X7_copies_M0_M3_L3 n M4 a1 a3 (a4 + 1)))))))
def f_X7_copies_M0_M3  (M : StM) (x1 : Int32) (x3 : Int32) : StM := (nm (f_X7_copies_M0_M3_L3 fu M x1 x3 0) (fun (z5 : StM) => z5))
def ok_X7_copies_M0_M3  (M : StM) (x1 : Int32) (x3 : Int32) : Prop := (ok_X7_copies_M0_M3_L3 fu M x1 x3 0)
def f_X7_copies_M3_M0_L3 : Nat → StM → Int32 → Int32 → Int32 → StM
  | 0, M, a1, a3, a4 => (M)
  | n + 1, M, a1, a3, a4 => (if 124 ≤ a4 then M else (nm (sma M 0 (ix (a3 + a4)) (ma M 3 (ix (a1 + a4)))) (fun (M4 : StM) => (f_X7_copies_M3_M0_L3 n M4 a1 a3 (a4 + 1)))))
def ok_X7_copies_M3_M0_L3 : Nat → StM → Int32 → Int32 → Int32 → Prop
  | 0, _, _, _, _ => False
  | n + 1, M, a1, a3, a4 => ((124 ≤ a4 → True) ∧ (¬ 124 ≤ a4 → (vp_in (a1 + a4) 124 ∧ (vp_in (a3 + a4) 124 ∧ (∀ M4 : StM, M4 = (sma M 0 (ix (a3 + a4)) (ma M 3 (ix (a1 + a4)))) → (ok_X7_copies_M3_M0_L3 n M4 a1 a3 (a4 + 1)))))))
def f_X7_copies_M3_M0  (M : StM) (x1 : Int32) (x3 : Int32) : StM := (nm (f_X7_copies_M3_M0_L3 fu M x1 x3 0) (fun (z5 : StM) => z5))
def ok_X7_copies_M3_M0  (M : StM) (x1 : Int32) (x3 : Int32) : Prop := (ok_X7_copies_M3_M0_L3 fu M x1 x3 0)
def f_X7_copies_M0_M2_L3 : Nat → StM → Int32 → Int32 → Int32 → StM
  | 0, M, a1, a3, a4 => (M)
  | n + 1, M, a1, a3, a4 => (if 124 ≤ a4 then M else (nm (sma M 2 (ix (a3 + a4)) (ma M 0 (ix (a1 + a4)))) (fun (M4 : StM) => (f_X7_copies_M0_M2_L3 n M4 a1 a3 (a4 + 1)))))
def ok_X7_copies_M0_M2_L3 : Nat → StM → Int32 → Int32 → Int32 → Prop
  | 0, _, _, _, _ => False
  | n + 1, M, a1, a3, a4 => ((124 ≤ a4 → True) ∧ (¬ 124 ≤ a4 → (vp_in (a1 + a4) 124 ∧ (vp_in (a3 + a4) 124 ∧ (∀ M4 : StM, M4 = (sma M 2 (ix (a3 + a4)) (ma M 0 (ix (a1 + a4)))) → (ok_X7_copies_M0_M2_L3 n M4 a1 a3 (a4 + 1)))))))
def f_X7_copies_M0_M2  (M : StM) (x1 : Int32) (x3 : Int32) : StM := (nm (f_X7_copies_M0_M2_L3 fu M x1 x3 0) (fun (z5 : StM) => z5))
def ok_X7_copies_M0_M2  (M : StM) (x1 : Int32) (x3 : Int32) : Prop := (ok_X7_copies_M0_M2_L3 fu M x1 x3 0)
def f_X7_copies_M2_M0_L3 : Nat → StM → Int32 → Int32 → Int32 → StM
  | 0, M, a1, a3, a4 => (M)
  | n + 1, M, a1, a3, a4 => (if 124 ≤ a4 then M else (nm (sma M 0 (ix (a3 + a4)) (ma M 2 (ix (a1 + a4)))) (fun (M4 : StM) => (f_X7_copies_M2_M0_L3 n M4 a1 a3 (a4 + 1)))))
def ok_X7_copies_M2_M0_L3 : Nat → StM → Int32 → Int32 → Int32 → Prop
  | 0, _, _, _, _ => False
  | n + 1, M, a1, a3, a4 => ((124 ≤ a4 → True) ∧ (¬ 124 ≤ a4 → (vp_in (a1 + a4) 124 ∧ (vp_in (a3 + a4) 124 ∧ (∀ M4 : StM, M4 = (sma M 0 (ix (a3 + a4)) (ma M 2 (ix (a1 + a4)))) → (ok_X7_copies_M2_M0_L3 n M4 a1 a3 (a4 + 1)))))))
def f_X7_copies_M2_M0  (M : StM) (x1 : Int32) (x3 : Int32) : StM := (nm (f_X7_copies_M2_M0_L3 fu M x1 x3 0) (fun (z5 : StM) => z5))
def ok_X7_copies_M2_M0  (M : StM) (x1 : Int32) (x3 : Int32) : Prop := (ok_X7_copies_M2_M0_L3 fu M x1 x3 0)
def f_X7_goes  (M : StM) (x0 : Int32) : Int32 × StM := (nm (f_X7_holds M x0 1 1 1) (fun (z1 : Int32 × StM) => (z1.1, z1.2)))
def ok_X7_goes  (M : StM) (x0 : Int32) : Prop := (∀ z1 : Int32 × StM, z1 = (f_X7_holds M x0 1 1 1) → (narrow .boolean (.int z1.1) = .int z1.1))
def f_X7_save  (M : StM)  : Int32 × StM := (nm (smi M 15 0) (fun (M1 : StM) => (nm (f_X7_copies_M0_M3 M1 0 0) (fun (M3 : StM) => (nm (smi M3 5 1) (fun (M4 : StM) => ((ma M4 0 (ix 0)), M4)))))))
def ok_X7_save  (M : StM)  : Prop := (∀ M1 : StM, M1 = (smi M 15 0) → ((ok_X7_copies_M0_M3 M1 0 0)))
def f_X7_begins  (M : StM)  : StM := (nm (f_X7_copies_M0_M1 M 0 0) (fun (M2 : StM) => M2))
def ok_X7_begins  (M : StM)  : Prop := ((ok_X7_copies_M0_M1 M 0 0))
def f_X7_opens_L52 : Nat → StM → Int32 → StM
  | 0, M, a2 => (M)
  | n + 1, M, a2 => (if 4 ≤ a2 then M else (nm (f_X7_accountAt (ma M 0 (ix 1))) (fun (r12 : Int32) => (nm (sma M 0 (ix (r12 + a2)) 0) (fun (M14 : StM) => (f_X7_opens_L52 n M14 (a2 + 1)))))))
def ok_X7_opens_L52 : Nat → StM → Int32 → Prop
  | 0, _, _ => False
  | n + 1, M, a2 => ((4 ≤ a2 → True) ∧ (¬ 4 ≤ a2 → (∀ r12 : Int32, r12 = (f_X7_accountAt (ma M 0 (ix 1))) → (vp_in (r12 + a2) 124 ∧ (∀ M14 : StM, M14 = (sma M 0 (ix (r12 + a2)) 0) → (ok_X7_opens_L52 n M14 (a2 + 1)))))))
def f_X7_opens_J23  (M : StM) (a1 : Int32) (s0 : Int32) (s1 : Int32) : Int32 × StM := (nm (f_X7_holds M s1 s0 1 1) (fun (z4 : Int32 × StM) => (if z4.1 = 0 then (0, z4.2) else (nm (f_X7_accountAt (ma z4.2 0 (ix 1))) (fun (r7 : Int32) => (nm (sma z4.2 0 (ix (r7 + 0)) a1) (fun (M9 : StM) => (nm (f_X7_opens_L52 fu M9 1) (fun (z15 : StM) => (nm (sma z15 0 (ix 1) ((ma z15 0 (ix 1)) + 1)) (fun (M18 : StM) => (((ma M18 0 (ix 1)) - 1), M18))))))))))))
def ok_X7_opens_J23  (M : StM) (a1 : Int32) (s0 : Int32) (s1 : Int32) : Prop := (∀ z4 : Int32 × StM, z4 = (f_X7_holds M s1 s0 1 1) → ((z4.1 = 0 → True) ∧ (¬ z4.1 = 0 → (∀ r7 : Int32, r7 = (f_X7_accountAt (ma z4.2 0 (ix 1))) → (vp_in (r7 + 0) 124 ∧ (∀ M9 : StM, M9 = (sma z4.2 0 (ix (r7 + 0)) a1) → (ok_X7_opens_L52 fu M9 1)))))))
def f_X7_opens  (M : StM) (x0 : Int32) : Int32 × StM := (nm (f_X7_isIn x0 0 3) (fun (r1 : Int32) => (if 8 ≤ (ma M 0 (ix 1)) then (f_X7_opens_J23 M x0 0 r1) else (f_X7_opens_J23 M x0 1 r1))))
def ok_X7_opens  (M : StM) (x0 : Int32) : Prop := (∀ r1 : Int32, r1 = (f_X7_isIn x0 0 3) → ((8 ≤ (ma M 0 (ix 1)) → (ok_X7_opens_J23 M x0 0 r1)) ∧ (¬ 8 ≤ (ma M 0 (ix 1)) → (ok_X7_opens_J23 M x0 1 r1))))
def f_X7_remembers_J49  (M : StM)  : StM := (nm (f_X7_copies_M1_M4 M 0 ((mi M 6) * 124)) (fun (M3 : StM) => (nm (smi M3 6 ((mi M3 6) + 1)) (fun (M4 : StM) => M4))))
def ok_X7_remembers_J49  (M : StM)  : Prop := ((ok_X7_copies_M1_M4 M 0 ((mi M 6) * 124)))
def f_X7_remembers_L11 : Nat → StM → Int32 → StM
  | 0, M, a1 => (M)
  | n + 1, M, a1 => (if 868 ≤ a1 then M else (nm (sma M 4 (ix a1) (ma M 4 (ix (a1 + 124)))) (fun (M8 : StM) => (f_X7_remembers_L11 n M8 (a1 + 1)))))
def ok_X7_remembers_L11 : Nat → StM → Int32 → Prop
  | 0, _, _ => False
  | n + 1, M, a1 => ((868 ≤ a1 → True) ∧ (¬ 868 ≤ a1 → (vp_in (a1 + 124) 992 ∧ (vp_in a1 992 ∧ (∀ M8 : StM, M8 = (sma M 4 (ix a1) (ma M 4 (ix (a1 + 124)))) → (ok_X7_remembers_L11 n M8 (a1 + 1)))))))
def f_X7_remembers  (M : StM)  : StM := (if (mi M 6) = 8 then (nm (f_X7_remembers_L11 fu M 0) (fun (z9 : StM) => (nm (smi z9 6 ((mi z9 6) - 1)) (fun (M10 : StM) => (f_X7_remembers_J49 M10))))) else (f_X7_remembers_J49 M))
def ok_X7_remembers  (M : StM)  : Prop := (((mi M 6) = 8 → ((ok_X7_remembers_L11 fu M 0) ∧ ∀ z9 : StM, z9 = f_X7_remembers_L11 fu M 0 → (∀ M10 : StM, M10 = (smi z9 6 ((mi z9 6) - 1)) → (ok_X7_remembers_J49 M10)))) ∧ (¬ (mi M 6) = 8 → (ok_X7_remembers_J49 M)))
def f_X7_isAmount   (x0 : Int32) : Int32 := (nm (f_X7_isIn x0 1 999) (fun (r1 : Int32) => r1))
def ok_X7_isAmount   (x0 : Int32) : Prop := (∀ r1 : Int32, r1 = (f_X7_isIn x0 1 999) → (narrow .boolean (.int r1) = .int r1))
def f_X7_isAccount  (M : StM) (x0 : Int32) : Int32 := (nm (f_X7_isIn x0 0 ((ma M 0 (ix 1)) - 1)) (fun (r2 : Int32) => r2))
def ok_X7_isAccount  (M : StM) (x0 : Int32) : Prop := (∀ r2 : Int32, r2 = (f_X7_isIn x0 0 ((ma M 0 (ix 1)) - 1)) → (narrow .boolean (.int r2) = .int r2))
def f_X7_changes  (M : StM) (x0 : Int32) (x1 : Int32) : StM := (nm (f_X7_accountAt x0) (fun (r1 : Int32) => (nm (sma M 0 (ix (r1 + 1)) ((ma M 0 (ix (r1 + 1))) + x1)) (fun (M4 : StM) => M4))))
def ok_X7_changes  (M : StM) (x0 : Int32) (x1 : Int32) : Prop := (∀ r1 : Int32, r1 = (f_X7_accountAt x0) → (vp_in (r1 + 1) 124 ∧ (vp_in (r1 + 1) 124)))
def f_X7_writesNumber_L25 : Nat → StM → Int32 → Int32 → Int32 → Int32
  | 0, M, a3, a4, a5 => (a5)
  | n + 1, M, a3, a4, a5 => (if (a4 / a5) ≤ 9 then a5 else (nm (a5 * 10) (fun (v5 : Int32) => (f_X7_writesNumber_L25 n M a3 a4 v5))))
def ok_X7_writesNumber_L25 : Nat → StM → Int32 → Int32 → Int32 → Prop
  | 0, _, _, _, _ => False
  | n + 1, M, a3, a4, a5 => (¬ a5 = 0 ∧ (((a4 / a5) ≤ 9 → True) ∧ (¬ (a4 / a5) ≤ 9 → (∀ v5 : Int32, v5 = (a5 * 10) → (ok_X7_writesNumber_L25 n M a3 a4 v5)))))
def f_X7_writesNumber_L49 : Nat → StM → Int32 → Int32 → Int32 → Int32 × StM
  | 0, M, a3, a4, a6 => (a3, M)
  | n + 1, M, a3, a4, a6 => (if a6 ≤ 0 then (a3, M) else (nm (f_X7_put M a3 (48 + ((a4 / a6) - (a4 / a6) / 10 * 10))) (fun (z10 : Int32 × StM) => (nm (a6 / 10) (fun (v11 : Int32) => (f_X7_writesNumber_L49 n z10.2 z10.1 a4 v11))))))
def ok_X7_writesNumber_L49 : Nat → StM → Int32 → Int32 → Int32 → Prop
  | 0, _, _, _, _ => False
  | n + 1, M, a3, a4, a6 => ((a6 ≤ 0 → True) ∧ (¬ a6 ≤ 0 → (¬ a6 = 0 ∧ ((ok_X7_put M a3 (48 + ((a4 / a6) - (a4 / a6) / 10 * 10))) ∧ (∀ z10 : Int32 × StM, z10 = (f_X7_put M a3 (48 + ((a4 / a6) - (a4 / a6) / 10 * 10))) → (∀ v11 : Int32, v11 = (a6 / 10) → (ok_X7_writesNumber_L49 n z10.2 z10.1 a4 v11)))))))
def f_X7_writesNumber_J15  (M : StM) (a2 : Int32) (s0 : Int32) : Int32 × StM := (nm (mabs a2) (fun (v2 : Int32) => (nm (f_X7_writesNumber_L25 fu M s0 v2 1) (fun (z6 : Int32) => (nm (f_X7_writesNumber_L49 fu M s0 v2 z6) (fun (z12 : Int32 × StM) => (z12.1, z12.2)))))))
def ok_X7_writesNumber_J15  (M : StM) (a2 : Int32) (s0 : Int32) : Prop := (∀ v2 : Int32, v2 = (mabs a2) → ((ok_X7_writesNumber_L25 fu M s0 v2 1) ∧ ∀ z6 : Int32, z6 = f_X7_writesNumber_L25 fu M s0 v2 1 → (ok_X7_writesNumber_L49 fu M s0 v2 z6)))
def f_X7_writesNumber  (M : StM) (x0 : Int32) (x1 : Int32) : Int32 × StM := (if 0 ≤ x1 then (f_X7_writesNumber_J15 M x1 x0) else (nm (f_X7_put M x0 45) (fun (z14 : Int32 × StM) => (f_X7_writesNumber_J15 z14.2 x1 z14.1))))
def ok_X7_writesNumber  (M : StM) (x0 : Int32) (x1 : Int32) : Prop := ((0 ≤ x1 → (ok_X7_writesNumber_J15 M x1 x0)) ∧ (¬ 0 ≤ x1 → ((ok_X7_put M x0 45) ∧ (∀ z14 : Int32 × StM, z14 = (f_X7_put M x0 45) → (ok_X7_writesNumber_J15 z14.2 x1 z14.1)))))
def f_X7_type_J23  (M : StM) (a1 : Int32) (s0 : Int32) (s1 : Int32) : Int32 × StM := (nm (f_X7_holds M s1 s0 1 1) (fun (z3 : Int32 × StM) => (if z3.1 = 0 then (0, z3.2) else (nm (sma z3.2 5 (ix (mi z3.2 12)) a1) (fun (M6 : StM) => (nm (smi M6 12 ((mi M6 12) + 1)) (fun (M7 : StM) => ((mi M7 12), M7))))))))
def ok_X7_type_J23  (M : StM) (a1 : Int32) (s0 : Int32) (s1 : Int32) : Prop := (∀ z3 : Int32 × StM, z3 = (f_X7_holds M s1 s0 1 1) → ((z3.1 = 0 → True) ∧ (¬ z3.1 = 0 → (vp_in (mi z3.2 12) 60))))
def f_X7_type  (M : StM) (x0 : Int32) : Int32 × StM := (nm (f_X7_isIn x0 32 126) (fun (r1 : Int32) => (if 60 ≤ (mi M 12) then (f_X7_type_J23 M x0 0 r1) else (f_X7_type_J23 M x0 1 r1))))
def ok_X7_type  (M : StM) (x0 : Int32) : Prop := (∀ r1 : Int32, r1 = (f_X7_isIn x0 32 126) → ((60 ≤ (mi M 12) → (ok_X7_type_J23 M x0 0 r1)) ∧ (¬ 60 ≤ (mi M 12) → (ok_X7_type_J23 M x0 1 r1))))
def f_X7_reads_J44  (M : StM)  : Int32 × StM := (if (mi M 18) = (-1) then (nm (smi M 18 (mi M 17)) (fun (M4 : StM) => (0, M4))) else (nm (smi M 18 (mi M 18)) (fun (M3 : StM) => (0, M3))))
def f_X7_reads  (M : StM) (x0 : Int32) (x1 : Int32) : Int32 × StM := (if (mi M 18) = (-1) then (nm (f_X7_letterHere M) (fun (r6 : Int32) => (nm (f_X7_isIn r6 x0 x1) (fun (r7 : Int32) => (if r7 = 0 then (f_X7_reads_J44 M) else (nm (smi M 17 ((mi M 17) + 1)) (fun (M9 : StM) => (((ma M9 5 (ix ((mi M9 17) - 1))) - x0), M9)))))))) else (f_X7_reads_J44 M))
def ok_X7_reads  (M : StM) (x0 : Int32) (x1 : Int32) : Prop := (((mi M 18) = (-1) → ((ok_X7_letterHere M) ∧ (∀ r6 : Int32, r6 = (f_X7_letterHere M) → (∀ r7 : Int32, r7 = (f_X7_isIn r6 x0 x1) → ((r7 = 0 → True) ∧ (¬ r7 = 0 → (∀ M9 : StM, M9 = (smi M 17 ((mi M 17) + 1)) → (vp_in ((mi M9 17) - 1) 60)))))))) ∧ (¬ (mi M 18) = (-1) → True))
def f_X7_undo_J13  (M : StM) (s0 : Int32) : Int32 × StM := (nm (f_X7_goes M s0) (fun (z3 : Int32 × StM) => (if z3.1 = 0 then (0, z3.2) else (nm (smi z3.2 6 ((mi z3.2 6) - 1)) (fun (M5 : StM) => (nm (f_X7_copies_M4_M0 M5 ((mi M5 6) * 124) 0) (fun (M7 : StM) => ((mi M7 6), M7))))))))
def ok_X7_undo_J13  (M : StM) (s0 : Int32) : Prop := ((ok_X7_goes M s0) ∧ (∀ z3 : Int32 × StM, z3 = (f_X7_goes M s0) → ((z3.1 = 0 → True) ∧ (¬ z3.1 = 0 → (∀ M5 : StM, M5 = (smi z3.2 6 ((mi z3.2 6) - 1)) → ((ok_X7_copies_M4_M0 M5 ((mi M5 6) * 124) 0)))))))
def f_X7_undo  (M : StM)  : Int32 × StM := (if (mi M 6) ≤ 0 then (f_X7_undo_J13 M 0) else (f_X7_undo_J13 M 1))
def ok_X7_undo  (M : StM)  : Prop := (((mi M 6) ≤ 0 → (ok_X7_undo_J13 M 0)) ∧ (¬ (mi M 6) ≤ 0 → (ok_X7_undo_J13 M 1)))
def f_X7_restore  (M : StM)  : Int32 × StM := (nm (f_X7_goes M (mi M 5)) (fun (z2 : Int32 × StM) => (if z2.1 = 0 then (0, z2.2) else (nm (f_X7_copies_M3_M0 z2.2 0 0) (fun (M5 : StM) => (nm (smi M5 6 0) (fun (M6 : StM) => ((ma M6 0 (ix 0)), M6))))))))
def ok_X7_restore  (M : StM)  : Prop := ((ok_X7_goes M (mi M 5)) ∧ (∀ z2 : Int32 × StM, z2 = (f_X7_goes M (mi M 5)) → ((z2.1 = 0 → True) ∧ (¬ z2.1 = 0 → ((ok_X7_copies_M3_M0 z2.2 0 0))))))
def f_X7_ends  (M : StM) (x0 : Int32) : Int32 × StM := (if (mi M 15) = 0 then (nm (f_X7_remembers M) (fun (M3 : StM) => (x0, M3))) else (nm (f_X7_copies_M1_M0 M 0 0) (fun (M5 : StM) => (0, M5))))
def ok_X7_ends  (M : StM) (x0 : Int32) : Prop := (((mi M 15) = 0 → ((ok_X7_remembers M))) ∧ (¬ (mi M 15) = 0 → ((ok_X7_copies_M1_M0 M 0 0))))
def f_X7_of_J17  (M : StM) (a2 : Int32) (s0 : Int32) : Int32 := (nm (f_X7_accountAt s0) (fun (r4 : Int32) => (ma M 0 (ix (r4 + a2)))))
def ok_X7_of_J17  (M : StM) (a2 : Int32) (s0 : Int32) : Prop := (∀ r4 : Int32, r4 = (f_X7_accountAt s0) → (vp_in (r4 + a2) 124))
def f_X7_of  (M : StM) (x0 : Int32) (x1 : Int32) : Int32 := (nm (f_X7_isAccount M x0) (fun (r2 : Int32) => (if r2 = 0 then (f_X7_of_J17 M x1 0) else (f_X7_of_J17 M x1 x0))))
def ok_X7_of  (M : StM) (x0 : Int32) (x1 : Int32) : Prop := ((ok_X7_isAccount M x0) ∧ (∀ r2 : Int32, r2 = (f_X7_isAccount M x0) → ((r2 = 0 → (ok_X7_of_J17 M x1 0)) ∧ (¬ r2 = 0 → (ok_X7_of_J17 M x1 x0)))))
def f_X7_seals_J70  (M : StM) (a1 : Int32) (a2 : Int32) (a3 : Int32) (a4 : Int32) (s0 : Int32) (s1 : Int32) (s2 : Int32) : Int32 × StM := (nm (f_X7_holds M s2 s1 s0 1) (fun (z7 : Int32 × StM) => (if z7.1 = 0 then (0, z7.2) else (nm (44 + (5 * (ma z7.2 0 (ix 3)))) (fun (v10 : Int32) => (nm (sma z7.2 0 (ix (v10 + 0)) (ma z7.2 0 (ix 2))) (fun (M13 : StM) => (nm (sma M13 0 (ix (v10 + 1)) a1) (fun (M15 : StM) => (nm (sma M15 0 (ix (v10 + 2)) a2) (fun (M17 : StM) => (nm (sma M17 0 (ix (v10 + 3)) a3) (fun (M19 : StM) => (nm (sma M19 0 (ix (v10 + 4)) ((ma M19 0 (ix 0)) + a4)) (fun (M22 : StM) => (nm (sma M22 0 (ix 3) ((ma M22 0 (ix 3)) + 1)) (fun (M25 : StM) => (nm (sma M25 0 (ix 2) ((ma M25 0 (ix 2)) + 1)) (fun (M28 : StM) => (((ma M28 0 (ix 2)) - 1), M28))))))))))))))))))))
def ok_X7_seals_J70  (M : StM) (a1 : Int32) (a2 : Int32) (a3 : Int32) (a4 : Int32) (s0 : Int32) (s1 : Int32) (s2 : Int32) : Prop := (∀ z7 : Int32 × StM, z7 = (f_X7_holds M s2 s1 s0 1) → ((z7.1 = 0 → True) ∧ (¬ z7.1 = 0 → (∀ v10 : Int32, v10 = (44 + (5 * (ma z7.2 0 (ix 3)))) → (vp_in (v10 + 0) 124 ∧ (∀ M13 : StM, M13 = (sma z7.2 0 (ix (v10 + 0)) (ma z7.2 0 (ix 2))) → (vp_in (v10 + 1) 124 ∧ (∀ M15 : StM, M15 = (sma M13 0 (ix (v10 + 1)) a1) → (vp_in (v10 + 2) 124 ∧ (∀ M17 : StM, M17 = (sma M15 0 (ix (v10 + 2)) a2) → (vp_in (v10 + 3) 124 ∧ (∀ M19 : StM, M19 = (sma M17 0 (ix (v10 + 3)) a3) → (vp_in (v10 + 4) 124)))))))))))))
def f_X7_seals_J52  (M : StM) (a1 : Int32) (a2 : Int32) (a3 : Int32) (a4 : Int32) (a5 : Int32) (s0 : Int32) : Int32 × StM := (if 10 ≤ (ma M 0 (ix 3)) then (f_X7_seals_J70 M a1 a2 a3 a4 0 a5 s0) else (f_X7_seals_J70 M a1 a2 a3 a4 1 a5 s0))
def ok_X7_seals_J52  (M : StM) (a1 : Int32) (a2 : Int32) (a3 : Int32) (a4 : Int32) (a5 : Int32) (s0 : Int32) : Prop := ((10 ≤ (ma M 0 (ix 3)) → (ok_X7_seals_J70 M a1 a2 a3 a4 0 a5 s0)) ∧ (¬ 10 ≤ (ma M 0 (ix 3)) → (ok_X7_seals_J70 M a1 a2 a3 a4 1 a5 s0)))
def f_X7_seals_J51  (M : StM) (a1 : Int32) (a2 : Int32) (a3 : Int32) (a4 : Int32) (a5 : Int32) : Int32 × StM := (f_X7_seals_J52 M a1 a2 a3 a4 a5 0)
def ok_X7_seals_J51  (M : StM) (a1 : Int32) (a2 : Int32) (a3 : Int32) (a4 : Int32) (a5 : Int32) : Prop := (ok_X7_seals_J52 M a1 a2 a3 a4 a5 0)
def f_X7_seals_J28  (M : StM) (a1 : Int32) (a2 : Int32) (a3 : Int32) (a4 : Int32) (s0 : Int32) : Int32 × StM := (nm (f_X7_isAccount M a1) (fun (r3 : Int32) => (if r3 = 0 then (f_X7_seals_J51 M a1 a2 a3 a4 s0) else (nm (f_X7_isAccount M a2) (fun (r31 : Int32) => (if r31 = 0 then (f_X7_seals_J51 M a1 a2 a3 a4 s0) else (f_X7_seals_J52 M a1 a2 a3 a4 s0 1)))))))
def ok_X7_seals_J28  (M : StM) (a1 : Int32) (a2 : Int32) (a3 : Int32) (a4 : Int32) (s0 : Int32) : Prop := ((ok_X7_isAccount M a1) ∧ (∀ r3 : Int32, r3 = (f_X7_isAccount M a1) → ((r3 = 0 → (ok_X7_seals_J51 M a1 a2 a3 a4 s0)) ∧ (¬ r3 = 0 → ((ok_X7_isAccount M a2) ∧ (∀ r31 : Int32, r31 = (f_X7_isAccount M a2) → ((r31 = 0 → (ok_X7_seals_J51 M a1 a2 a3 a4 s0)) ∧ (¬ r31 = 0 → (ok_X7_seals_J52 M a1 a2 a3 a4 s0 1)))))))))
def f_X7_seals_J27  (M : StM) (a1 : Int32) (a2 : Int32) (a3 : Int32) (a4 : Int32) : Int32 × StM := (f_X7_seals_J28 M a1 a2 a3 a4 0)
def ok_X7_seals_J27  (M : StM) (a1 : Int32) (a2 : Int32) (a3 : Int32) (a4 : Int32) : Prop := (ok_X7_seals_J28 M a1 a2 a3 a4 0)
def f_X7_seals  (M : StM) (x0 : Int32) (x1 : Int32) (x2 : Int32) (x3 : Int32) : Int32 × StM := (if x0 = x1 then (f_X7_seals_J27 M x0 x1 x2 x3) else (nm (f_X7_isAmount x2) (fun (r34 : Int32) => (if r34 = 0 then (f_X7_seals_J27 M x0 x1 x2 x3) else (nm (f_X7_isIn x3 0 60) (fun (r36 : Int32) => (if r36 = 0 then (f_X7_seals_J27 M x0 x1 x2 x3) else (f_X7_seals_J28 M x0 x1 x2 x3 1))))))))
def ok_X7_seals  (M : StM) (x0 : Int32) (x1 : Int32) (x2 : Int32) (x3 : Int32) : Prop := ((x0 = x1 → (ok_X7_seals_J27 M x0 x1 x2 x3)) ∧ (¬ x0 = x1 → ((ok_X7_isAmount x2) ∧ (∀ r34 : Int32, r34 = (f_X7_isAmount x2) → ((r34 = 0 → (ok_X7_seals_J27 M x0 x1 x2 x3)) ∧ (¬ r34 = 0 → (∀ r36 : Int32, r36 = (f_X7_isIn x3 0 60) → ((r36 = 0 → (ok_X7_seals_J27 M x0 x1 x2 x3)) ∧ (¬ r36 = 0 → (ok_X7_seals_J28 M x0 x1 x2 x3 1))))))))))
def f_X7_voids_J17  (M : StM) (a2 : Int32) (s0 : Int32) : Int32 × StM := (nm (f_X7_goes M s0) (fun (z5 : Int32 × StM) => (if z5.1 = 0 then (0, z5.2) else (nm (f_X7_ofPlace z5.2 a2 3) (fun (r8 : Int32) => (nm (f_X7_drops z5.2 a2) (fun (M10 : StM) => (r8, M10))))))))
def ok_X7_voids_J17  (M : StM) (a2 : Int32) (s0 : Int32) : Prop := ((ok_X7_goes M s0) ∧ (∀ z5 : Int32 × StM, z5 = (f_X7_goes M s0) → ((z5.1 = 0 → True) ∧ (¬ z5.1 = 0 → ((ok_X7_ofPlace z5.2 a2 3) ∧ (∀ r8 : Int32, r8 = (f_X7_ofPlace z5.2 a2 3) → ((ok_X7_drops z5.2 a2))))))))
def f_X7_voids  (M : StM) (x0 : Int32) : Int32 × StM := (nm (f_X7_find M x0) (fun (r2 : Int32) => (if r2 = (-1) then (f_X7_voids_J17 M r2 0) else (f_X7_voids_J17 M r2 1))))
def ok_X7_voids  (M : StM) (x0 : Int32) : Prop := ((ok_X7_find M x0) ∧ (∀ r2 : Int32, r2 = (f_X7_find M x0) → ((r2 = (-1) → (ok_X7_voids_J17 M r2 0)) ∧ (¬ r2 = (-1) → (ok_X7_voids_J17 M r2 1)))))
def f_X7_gives  (M : StM) (x0 : Int32) (x1 : Int32) (x2 : Int32) : StM := (if x2 ≤ 0 then M else (nm (f_X7_changes M x0 (-x2)) (fun (M3 : StM) => (nm (sma M3 0 (ix 4) ((ma M3 0 (ix 4)) + x2)) (fun (M6 : StM) => (nm (sma M6 0 (ix 9) ((ma M6 0 (ix 9)) + x2)) (fun (M9 : StM) => (nm (f_X7_writes M9 x1 x2 x0) (fun (M11 : StM) => M11)))))))))
def ok_X7_gives  (M : StM) (x0 : Int32) (x1 : Int32) (x2 : Int32) : Prop := ((x2 ≤ 0 → True) ∧ (¬ x2 ≤ 0 → ((ok_X7_changes M x0 (-x2)) ∧ (∀ M3 : StM, M3 = (f_X7_changes M x0 (-x2)) → (∀ M6 : StM, M6 = (sma M3 0 (ix 4) ((ma M3 0 (ix 4)) + x2)) → (∀ M9 : StM, M9 = (sma M6 0 (ix 9) ((ma M6 0 (ix 9)) + x2)) → ((ok_X7_writes M9 x1 x2 x0))))))))
def f_X7_transferAt_L20 : Nat → StM → Int32 → Int32 → Int32 → Int32 → Int32 → Int32
  | 0, M, a1, a2, a3, a4, a5 => (a4)
  | n + 1, M, a1, a2, a3, a4, a5 => (if (ma M 0 (ix 3)) ≤ a5 then a4 else (nm (f_X7_ofPlace M a3 4) (fun (r6 : Int32) => (nm (f_X7_ofPlace M a5 4) (fun (r8 : Int32) => (nm (r6 - r8) (fun (v9 : Int32) => (if 0 < v9 then (nm (a4 + 1) (fun (v11 : Int32) => (f_X7_transferAt_L20 n M a1 a2 a3 v11 (a5 + 1)))) else (if v9 = 0 then (if a3 ≤ a5 then (nm (a4 + 0) (fun (v15 : Int32) => (f_X7_transferAt_L20 n M a1 a2 a3 v15 (a5 + 1)))) else (nm (a4 + 1) (fun (v16 : Int32) => (f_X7_transferAt_L20 n M a1 a2 a3 v16 (a5 + 1))))) else (nm (a4 + 0) (fun (v13 : Int32) => (f_X7_transferAt_L20 n M a1 a2 a3 v13 (a5 + 1)))))))))))))
def ok_X7_transferAt_L20 : Nat → StM → Int32 → Int32 → Int32 → Int32 → Int32 → Prop
  | 0, _, _, _, _, _, _ => False
  | n + 1, M, a1, a2, a3, a4, a5 => (((ma M 0 (ix 3)) ≤ a5 → True) ∧ (¬ (ma M 0 (ix 3)) ≤ a5 → ((ok_X7_ofPlace M a3 4) ∧ (∀ r6 : Int32, r6 = (f_X7_ofPlace M a3 4) → ((ok_X7_ofPlace M a5 4) ∧ (∀ r8 : Int32, r8 = (f_X7_ofPlace M a5 4) → (∀ v9 : Int32, v9 = (r6 - r8) → ((0 < v9 → (∀ v11 : Int32, v11 = (a4 + 1) → (ok_X7_transferAt_L20 n M a1 a2 a3 v11 (a5 + 1)))) ∧ (¬ 0 < v9 → ((v9 = 0 → ((a3 ≤ a5 → (∀ v15 : Int32, v15 = (a4 + 0) → (ok_X7_transferAt_L20 n M a1 a2 a3 v15 (a5 + 1)))) ∧ (¬ a3 ≤ a5 → (∀ v16 : Int32, v16 = (a4 + 1) → (ok_X7_transferAt_L20 n M a1 a2 a3 v16 (a5 + 1)))))) ∧ (¬ v9 = 0 → (∀ v13 : Int32, v13 = (a4 + 0) → (ok_X7_transferAt_L20 n M a1 a2 a3 v13 (a5 + 1))))))))))))))
def f_X7_transferAt_L4 : Nat → StM → Int32 → Int32 → Int32 → Int32
  | 0, M, a1, a2, a3 => (a2)
  | n + 1, M, a1, a2, a3 => (if (ma M 0 (ix 3)) ≤ a3 then a2 else (nm (f_X7_transferAt_L20 fu M a1 a2 a3 0 0) (fun (z17 : Int32) => (if z17 = a1 then (nm (f_X7_ofPlace M a3 0) (fun (r20 : Int32) => (f_X7_transferAt_L4 n M a1 r20 (a3 + 1)))) else (f_X7_transferAt_L4 n M a1 a2 (a3 + 1))))))
def ok_X7_transferAt_L4 : Nat → StM → Int32 → Int32 → Int32 → Prop
  | 0, _, _, _, _ => False
  | n + 1, M, a1, a2, a3 => (((ma M 0 (ix 3)) ≤ a3 → True) ∧ (¬ (ma M 0 (ix 3)) ≤ a3 → ((ok_X7_transferAt_L20 fu M a1 a2 a3 0 0) ∧ ∀ z17 : Int32, z17 = f_X7_transferAt_L20 fu M a1 a2 a3 0 0 → ((z17 = a1 → ((ok_X7_ofPlace M a3 0) ∧ (∀ r20 : Int32, r20 = (f_X7_ofPlace M a3 0) → (ok_X7_transferAt_L4 n M a1 r20 (a3 + 1))))) ∧ (¬ z17 = a1 → (ok_X7_transferAt_L4 n M a1 a2 (a3 + 1)))))))
def f_X7_transferAt_J113  (M : StM) (a2 : Int32) (s0 : Int32) : Int32 × StM := (nm (f_X7_goes M s0) (fun (z24 : Int32 × StM) => (if z24.1 = 0 then (0, z24.2) else (a2, z24.2))))
def ok_X7_transferAt_J113  (M : StM) (a2 : Int32) (s0 : Int32) : Prop := ((ok_X7_goes M s0))
def f_X7_transferAt  (M : StM) (x0 : Int32) : Int32 × StM := (nm (f_X7_transferAt_L4 fu M x0 (-1) 0) (fun (z21 : Int32) => (if z21 = (-1) then (f_X7_transferAt_J113 M z21 0) else (f_X7_transferAt_J113 M z21 1))))
def ok_X7_transferAt  (M : StM) (x0 : Int32) : Prop := ((ok_X7_transferAt_L4 fu M x0 (-1) 0) ∧ ∀ z21 : Int32, z21 = f_X7_transferAt_L4 fu M x0 (-1) 0 → ((z21 = (-1) → (ok_X7_transferAt_J113 M z21 0)) ∧ (¬ z21 = (-1) → (ok_X7_transferAt_J113 M z21 1))))
def f_X7_asksTransfer_J17  (M : StM) (a2 : Int32) (a3 : Int32) (s0 : Int32) : Int32 × StM := (nm (f_X7_goes M s0) (fun (z5 : Int32 × StM) => (if z5.1 = 0 then (0, z5.2) else (nm (f_X7_ofPlace z5.2 a3 a2) (fun (r8 : Int32) => (r8, z5.2))))))
def ok_X7_asksTransfer_J17  (M : StM) (a2 : Int32) (a3 : Int32) (s0 : Int32) : Prop := ((ok_X7_goes M s0) ∧ (∀ z5 : Int32 × StM, z5 = (f_X7_goes M s0) → ((z5.1 = 0 → True) ∧ (¬ z5.1 = 0 → ((ok_X7_ofPlace z5.2 a3 a2))))))
def f_X7_asksTransfer  (M : StM) (x0 : Int32) (x1 : Int32) : Int32 × StM := (nm (f_X7_find M x0) (fun (r2 : Int32) => (if r2 = (-1) then (f_X7_asksTransfer_J17 M x1 r2 0) else (f_X7_asksTransfer_J17 M x1 r2 1))))
def ok_X7_asksTransfer  (M : StM) (x0 : Int32) (x1 : Int32) : Prop := ((ok_X7_find M x0) ∧ (∀ r2 : Int32, r2 = (f_X7_find M x0) → ((r2 = (-1) → (ok_X7_asksTransfer_J17 M x1 r2 0)) ∧ (¬ r2 = (-1) → (ok_X7_asksTransfer_J17 M x1 r2 1)))))
def f_X7_net_L4 : Nat → StM → Int32 → Int32 → Int32 → Int32
  | 0, M, a1, a2, a3 => (a2)
  | n + 1, M, a1, a2, a3 => (if (ma M 0 (ix 3)) ≤ a3 then a2 else (nm (f_X7_ofPlace M a3 2) (fun (r4 : Int32) => (if r4 = a1 then (nm (f_X7_ofPlace M a3 3) (fun (r15 : Int32) => (nm (a2 + r15) (fun (v16 : Int32) => (nm (f_X7_ofPlace M a3 1) (fun (r18 : Int32) => (if r18 = a1 then (nm (f_X7_ofPlace M a3 3) (fun (r22 : Int32) => (nm (v16 - r22) (fun (v23 : Int32) => (f_X7_net_L4 n M a1 v23 (a3 + 1)))))) else (nm (v16 - 0) (fun (v20 : Int32) => (f_X7_net_L4 n M a1 v20 (a3 + 1))))))))))) else (nm (a2 + 0) (fun (v6 : Int32) => (nm (f_X7_ofPlace M a3 1) (fun (r8 : Int32) => (if r8 = a1 then (nm (f_X7_ofPlace M a3 3) (fun (r12 : Int32) => (nm (v6 - r12) (fun (v13 : Int32) => (f_X7_net_L4 n M a1 v13 (a3 + 1)))))) else (nm (v6 - 0) (fun (v10 : Int32) => (f_X7_net_L4 n M a1 v10 (a3 + 1)))))))))))))
def ok_X7_net_L4 : Nat → StM → Int32 → Int32 → Int32 → Prop
  | 0, _, _, _, _ => False
  | n + 1, M, a1, a2, a3 => (((ma M 0 (ix 3)) ≤ a3 → True) ∧ (¬ (ma M 0 (ix 3)) ≤ a3 → ((ok_X7_ofPlace M a3 2) ∧ (∀ r4 : Int32, r4 = (f_X7_ofPlace M a3 2) → ((r4 = a1 → ((ok_X7_ofPlace M a3 3) ∧ (∀ r15 : Int32, r15 = (f_X7_ofPlace M a3 3) → (∀ v16 : Int32, v16 = (a2 + r15) → ((ok_X7_ofPlace M a3 1) ∧ (∀ r18 : Int32, r18 = (f_X7_ofPlace M a3 1) → ((r18 = a1 → ((ok_X7_ofPlace M a3 3) ∧ (∀ r22 : Int32, r22 = (f_X7_ofPlace M a3 3) → (∀ v23 : Int32, v23 = (v16 - r22) → (ok_X7_net_L4 n M a1 v23 (a3 + 1)))))) ∧ (¬ r18 = a1 → (∀ v20 : Int32, v20 = (v16 - 0) → (ok_X7_net_L4 n M a1 v20 (a3 + 1))))))))))) ∧ (¬ r4 = a1 → (∀ v6 : Int32, v6 = (a2 + 0) → ((ok_X7_ofPlace M a3 1) ∧ (∀ r8 : Int32, r8 = (f_X7_ofPlace M a3 1) → ((r8 = a1 → ((ok_X7_ofPlace M a3 3) ∧ (∀ r12 : Int32, r12 = (f_X7_ofPlace M a3 3) → (∀ v13 : Int32, v13 = (v6 - r12) → (ok_X7_net_L4 n M a1 v13 (a3 + 1)))))) ∧ (¬ r8 = a1 → (∀ v10 : Int32, v10 = (v6 - 0) → (ok_X7_net_L4 n M a1 v10 (a3 + 1))))))))))))))
def f_X7_net  (M : StM) (x0 : Int32) : Int32 × StM := (nm (f_X7_net_L4 fu M x0 0 0) (fun (z24 : Int32) => (nm (f_X7_isAccount M x0) (fun (r26 : Int32) => (nm (f_X7_goes M r26) (fun (z28 : Int32 × StM) => (if z28.1 = 0 then (0, z28.2) else (z24, z28.2))))))))
def ok_X7_net  (M : StM) (x0 : Int32) : Prop := ((ok_X7_net_L4 fu M x0 0 0) ∧ ∀ z24 : Int32, z24 = f_X7_net_L4 fu M x0 0 0 → ((ok_X7_isAccount M x0) ∧ (∀ r26 : Int32, r26 = (f_X7_isAccount M x0) → ((ok_X7_goes M r26)))))
def f_X7_leadsTo_L49 : Nat → StM → Int32 → Int32 → Int32 → Int32 → Int32 → Int32
  | 0, M, a1, a2, a3, a4, a5 => (a3)
  | n + 1, M, a1, a2, a3, a4, a5 => (if (ma M 0 (ix 3)) ≤ a5 then a3 else (nm (f_X7_ofPlace M a5 1) (fun (r12 : Int32) => (if r12 = a1 then (nm (f_X7_ofPlace M a5 2) (fun (r16 : Int32) => (nm (a3 ||| (1 <<< (r16 &&& 31))) (fun (v17 : Int32) => (f_X7_leadsTo_L49 n M a1 a2 v17 a4 (a5 + 1)))))) else (nm (f_X7_ofPlace M a5 1) (fun (r19 : Int32) => (if ((a3 >>> (r19 &&& 31)) &&& 1) = 1 then (nm (f_X7_ofPlace M a5 2) (fun (r25 : Int32) => (nm (a3 ||| (1 <<< (r25 &&& 31))) (fun (v26 : Int32) => (f_X7_leadsTo_L49 n M a1 a2 v26 a4 (a5 + 1)))))) else (nm (a3 ||| 0) (fun (v22 : Int32) => (f_X7_leadsTo_L49 n M a1 a2 v22 a4 (a5 + 1)))))))))))
def ok_X7_leadsTo_L49 : Nat → StM → Int32 → Int32 → Int32 → Int32 → Int32 → Prop
  | 0, _, _, _, _, _, _ => False
  | n + 1, M, a1, a2, a3, a4, a5 => (((ma M 0 (ix 3)) ≤ a5 → True) ∧ (¬ (ma M 0 (ix 3)) ≤ a5 → ((ok_X7_ofPlace M a5 1) ∧ (∀ r12 : Int32, r12 = (f_X7_ofPlace M a5 1) → ((r12 = a1 → ((ok_X7_ofPlace M a5 2) ∧ (∀ r16 : Int32, r16 = (f_X7_ofPlace M a5 2) → (∀ v17 : Int32, v17 = (a3 ||| (1 <<< (r16 &&& 31))) → (ok_X7_leadsTo_L49 n M a1 a2 v17 a4 (a5 + 1)))))) ∧ (¬ r12 = a1 → ((ok_X7_ofPlace M a5 1) ∧ (∀ r19 : Int32, r19 = (f_X7_ofPlace M a5 1) → ((((a3 >>> (r19 &&& 31)) &&& 1) = 1 → ((ok_X7_ofPlace M a5 2) ∧ (∀ r25 : Int32, r25 = (f_X7_ofPlace M a5 2) → (∀ v26 : Int32, v26 = (a3 ||| (1 <<< (r25 &&& 31))) → (ok_X7_leadsTo_L49 n M a1 a2 v26 a4 (a5 + 1)))))) ∧ (¬ ((a3 >>> (r19 &&& 31)) &&& 1) = 1 → (∀ v22 : Int32, v22 = (a3 ||| 0) → (ok_X7_leadsTo_L49 n M a1 a2 v22 a4 (a5 + 1)))))))))))))
def f_X7_leadsTo_L35 : Nat → StM → Int32 → Int32 → Int32 → Int32 → Int32
  | 0, M, a1, a2, a3, a4 => (a3)
  | n + 1, M, a1, a2, a3, a4 => (if (ma M 0 (ix 3)) < a4 then a3 else (nm (f_X7_leadsTo_L49 fu M a1 a2 a3 a4 0) (fun (z27 : Int32) => (f_X7_leadsTo_L35 n M a1 a2 z27 (a4 + 1)))))
def ok_X7_leadsTo_L35 : Nat → StM → Int32 → Int32 → Int32 → Int32 → Prop
  | 0, _, _, _, _, _ => False
  | n + 1, M, a1, a2, a3, a4 => (((ma M 0 (ix 3)) < a4 → True) ∧ (¬ (ma M 0 (ix 3)) < a4 → ((ok_X7_leadsTo_L49 fu M a1 a2 a3 a4 0) ∧ ∀ z27 : Int32, z27 = f_X7_leadsTo_L49 fu M a1 a2 a3 a4 0 → (ok_X7_leadsTo_L35 n M a1 a2 z27 (a4 + 1)))))
def f_X7_leadsTo_J22  (M : StM) (a1 : Int32) (a2 : Int32) (s0 : Int32) : Int32 × StM := (nm (f_X7_goes M s0) (fun (z5 : Int32 × StM) => (if z5.1 = 0 then (0, z5.2) else (nm (f_X7_leadsTo_L35 fu z5.2 a1 a2 0 0) (fun (z28 : Int32) => (if ((z28 >>> (a2 &&& 31)) &&& 1) = 1 then (1, z5.2) else (0, z5.2)))))))
def ok_X7_leadsTo_J22  (M : StM) (a1 : Int32) (a2 : Int32) (s0 : Int32) : Prop := ((ok_X7_goes M s0) ∧ (∀ z5 : Int32 × StM, z5 = (f_X7_goes M s0) → ((z5.1 = 0 → True) ∧ (¬ z5.1 = 0 → (ok_X7_leadsTo_L35 fu z5.2 a1 a2 0 0)))))
def f_X7_leadsTo_J21  (M : StM) (a1 : Int32) (a2 : Int32) : Int32 × StM := (f_X7_leadsTo_J22 M a1 a2 0)
def ok_X7_leadsTo_J21  (M : StM) (a1 : Int32) (a2 : Int32) : Prop := (ok_X7_leadsTo_J22 M a1 a2 0)
def f_X7_leadsTo  (M : StM) (x0 : Int32) (x1 : Int32) : Int32 × StM := (nm (f_X7_isAccount M x0) (fun (r2 : Int32) => (if r2 = 0 then (f_X7_leadsTo_J21 M x0 x1) else (nm (f_X7_isAccount M x1) (fun (r31 : Int32) => (if r31 = 0 then (f_X7_leadsTo_J21 M x0 x1) else (f_X7_leadsTo_J22 M x0 x1 1)))))))
def ok_X7_leadsTo  (M : StM) (x0 : Int32) (x1 : Int32) : Prop := ((ok_X7_isAccount M x0) ∧ (∀ r2 : Int32, r2 = (f_X7_isAccount M x0) → ((r2 = 0 → (ok_X7_leadsTo_J21 M x0 x1)) ∧ (¬ r2 = 0 → ((ok_X7_isAccount M x1) ∧ (∀ r31 : Int32, r31 = (f_X7_isAccount M x1) → ((r31 = 0 → (ok_X7_leadsTo_J21 M x0 x1)) ∧ (¬ r31 = 0 → (ok_X7_leadsTo_J22 M x0 x1 1)))))))))
def f_X7_written  (M : StM) (x0 : Int32) (x1 : Int32) : Int32 × StM := (nm (f_X7_isIn x0 0 ((ma M 0 (ix 11)) - 1)) (fun (r2 : Int32) => (nm (f_X7_goes M r2) (fun (z4 : Int32 × StM) => (if z4.1 = 0 then (0, z4.2) else ((ma z4.2 0 (ix ((94 + (3 * x0)) + x1))), z4.2))))))
def ok_X7_written  (M : StM) (x0 : Int32) (x1 : Int32) : Prop := (∀ r2 : Int32, r2 = (f_X7_isIn x0 0 ((ma M 0 (ix 11)) - 1)) → ((ok_X7_goes M r2) ∧ (∀ z4 : Int32 × StM, z4 = (f_X7_goes M r2) → ((z4.1 = 0 → True) ∧ (¬ z4.1 = 0 → (vp_in ((94 + (3 * x0)) + x1) 124))))))
def f_X7_statementAt  (M : StM) (x0 : Int32) : Int32 × StM := (nm (f_X7_isIn x0 0 ((mi M 14) - 1)) (fun (r1 : Int32) => (nm (f_X7_goes M r1) (fun (z3 : Int32 × StM) => (if z3.1 = 0 then (0, z3.2) else ((Int32.toUInt32 (ma z3.2 6 (ix x0)) % 65536).toInt32, z3.2))))))
def ok_X7_statementAt  (M : StM) (x0 : Int32) : Prop := (∀ r1 : Int32, r1 = (f_X7_isIn x0 0 ((mi M 14) - 1)) → ((ok_X7_goes M r1) ∧ (∀ z3 : Int32 × StM, z3 = (f_X7_goes M r1) → ((z3.1 = 0 → True) ∧ (¬ z3.1 = 0 → (vp_in x0 40 ∧ (narrow .char (.int ((Int32.toUInt32 (ma z3.2 6 (ix x0)) % 65536).toInt32)) = .int ((Int32.toUInt32 (ma z3.2 6 (ix x0)) % 65536).toInt32))))))))
def f_X7_digit  (M : StM)  : Int32 × StM := (nm (f_X7_reads M 48 57) (fun (z2 : Int32 × StM) => (z2.1, z2.2)))
def ok_X7_digit  (M : StM)  : Prop := ((ok_X7_reads M 48 57))
def f_X7_errorPosition_J14  (M : StM) (s0 : Int32) : Int32 × StM := (nm (f_X7_goes M s0) (fun (z3 : Int32 × StM) => (if z3.1 = 0 then (0, z3.2) else ((mi z3.2 7), z3.2))))
def ok_X7_errorPosition_J14  (M : StM) (s0 : Int32) : Prop := ((ok_X7_goes M s0))
def f_X7_errorPosition  (M : StM)  : Int32 × StM := (if (mi M 7) = (-1) then (f_X7_errorPosition_J14 M 0) else (f_X7_errorPosition_J14 M 1))
def ok_X7_errorPosition  (M : StM)  : Prop := (((mi M 7) = (-1) → (ok_X7_errorPosition_J14 M 0)) ∧ (¬ (mi M 7) = (-1) → (ok_X7_errorPosition_J14 M 1)))
def f_X7_failedCommand_J14  (M : StM) (s0 : Int32) : Int32 × StM := (nm (f_X7_goes M s0) (fun (z3 : Int32 × StM) => (if z3.1 = 0 then (0, z3.2) else ((mi z3.2 8), z3.2))))
def ok_X7_failedCommand_J14  (M : StM) (s0 : Int32) : Prop := ((ok_X7_goes M s0))
def f_X7_failedCommand  (M : StM)  : Int32 × StM := (if (mi M 8) = (-1) then (f_X7_failedCommand_J14 M 0) else (f_X7_failedCommand_J14 M 1))
def ok_X7_failedCommand  (M : StM)  : Prop := (((mi M 8) = (-1) → (ok_X7_failedCommand_J14 M 0)) ∧ (¬ (mi M 8) = (-1) → (ok_X7_failedCommand_J14 M 1)))
def f_X7_open  (M : StM) (x0 : Int32) : Int32 × StM := (nm (f_X7_begins M) (fun (M2 : StM) => (nm (f_X7_opens M2 x0) (fun (z4 : Int32 × StM) => (nm (f_X7_ends z4.2 z4.1) (fun (z6 : Int32 × StM) => (z6.1, z6.2)))))))
def ok_X7_open  (M : StM) (x0 : Int32) : Prop := ((ok_X7_begins M) ∧ (∀ M2 : StM, M2 = (f_X7_begins M) → ((ok_X7_opens M2 x0) ∧ (∀ z4 : Int32 × StM, z4 = (f_X7_opens M2 x0) → ((ok_X7_ends z4.2 z4.1))))))
def f_X7_pays_J35  (M : StM) (a1 : Int32) (a2 : Int32) (s0 : Int32) (s1 : Int32) (s2 : Int32) : Int32 × StM := (nm (f_X7_holds M s2 s1 s0 1) (fun (z6 : Int32 × StM) => (if z6.1 = 0 then (0, z6.2) else (nm (f_X7_changes z6.2 a1 a2) (fun (M9 : StM) => (nm (sma M9 0 (ix 5) ((ma M9 0 (ix 5)) + a2)) (fun (M12 : StM) => (nm (f_X7_writes M12 100 a2 a1) (fun (M14 : StM) => (nm (f_X7_of M14 a1 1) (fun (r16 : Int32) => (r16, M14))))))))))))
def ok_X7_pays_J35  (M : StM) (a1 : Int32) (a2 : Int32) (s0 : Int32) (s1 : Int32) (s2 : Int32) : Prop := (∀ z6 : Int32 × StM, z6 = (f_X7_holds M s2 s1 s0 1) → ((z6.1 = 0 → True) ∧ (¬ z6.1 = 0 → ((ok_X7_changes z6.2 a1 a2) ∧ (∀ M9 : StM, M9 = (f_X7_changes z6.2 a1 a2) → (∀ M12 : StM, M12 = (sma M9 0 (ix 5) ((ma M9 0 (ix 5)) + a2)) → ((ok_X7_writes M12 100 a2 a1) ∧ (∀ M14 : StM, M14 = (f_X7_writes M12 100 a2 a1) → ((ok_X7_of M14 a1 1))))))))))
def f_X7_pays_J34  (M : StM) (a1 : Int32) (a2 : Int32) (s0 : Int32) (s1 : Int32) : Int32 × StM := (f_X7_pays_J35 M a1 a2 0 s0 s1)
def ok_X7_pays_J34  (M : StM) (a1 : Int32) (a2 : Int32) (s0 : Int32) (s1 : Int32) : Prop := (ok_X7_pays_J35 M a1 a2 0 s0 s1)
def f_X7_pays  (M : StM) (x0 : Int32) (x1 : Int32) : Int32 × StM := (nm (f_X7_isAmount x1) (fun (r2 : Int32) => (nm (f_X7_isAccount M x0) (fun (r4 : Int32) => (if r2 = 0 then (f_X7_pays_J34 M x0 x1 r2 r4) else (nm (f_X7_of M x0 1) (fun (r18 : Int32) => (if (9999 - x1) < r18 then (f_X7_pays_J34 M x0 x1 r2 r4) else (f_X7_pays_J35 M x0 x1 1 r2 r4)))))))))
def ok_X7_pays  (M : StM) (x0 : Int32) (x1 : Int32) : Prop := ((ok_X7_isAmount x1) ∧ (∀ r2 : Int32, r2 = (f_X7_isAmount x1) → ((ok_X7_isAccount M x0) ∧ (∀ r4 : Int32, r4 = (f_X7_isAccount M x0) → ((r2 = 0 → (ok_X7_pays_J34 M x0 x1 r2 r4)) ∧ (¬ r2 = 0 → ((ok_X7_of M x0 1) ∧ (∀ r18 : Int32, r18 = (f_X7_of M x0 1) → (((9999 - x1) < r18 → (ok_X7_pays_J34 M x0 x1 r2 r4)) ∧ (¬ (9999 - x1) < r18 → (ok_X7_pays_J35 M x0 x1 1 r2 r4)))))))))))
def f_X7_draws_J38  (M : StM) (a1 : Int32) (a2 : Int32) (s0 : Int32) (s1 : Int32) (s2 : Int32) : Int32 × StM := (nm (f_X7_holds M s2 s1 s0 1) (fun (z6 : Int32 × StM) => (if z6.1 = 0 then (0, z6.2) else (nm (f_X7_changes z6.2 a1 (-a2)) (fun (M9 : StM) => (nm (f_X7_accountAt a1) (fun (r10 : Int32) => (nm (sma M9 0 (ix (r10 + 3)) 1) (fun (M12 : StM) => (nm (sma M12 0 (ix 6) ((ma M12 0 (ix 6)) + a2)) (fun (M15 : StM) => (nm (f_X7_writes M15 119 a2 a1) (fun (M17 : StM) => (nm (f_X7_of M17 a1 1) (fun (r19 : Int32) => (r19, M17))))))))))))))))
def ok_X7_draws_J38  (M : StM) (a1 : Int32) (a2 : Int32) (s0 : Int32) (s1 : Int32) (s2 : Int32) : Prop := (∀ z6 : Int32 × StM, z6 = (f_X7_holds M s2 s1 s0 1) → ((z6.1 = 0 → True) ∧ (¬ z6.1 = 0 → ((ok_X7_changes z6.2 a1 (-a2)) ∧ (∀ M9 : StM, M9 = (f_X7_changes z6.2 a1 (-a2)) → (∀ r10 : Int32, r10 = (f_X7_accountAt a1) → (vp_in (r10 + 3) 124 ∧ (∀ M12 : StM, M12 = (sma M9 0 (ix (r10 + 3)) 1) → (∀ M15 : StM, M15 = (sma M12 0 (ix 6) ((ma M12 0 (ix 6)) + a2)) → ((ok_X7_writes M15 119 a2 a1) ∧ (∀ M17 : StM, M17 = (f_X7_writes M15 119 a2 a1) → ((ok_X7_of M17 a1 1)))))))))))))
def f_X7_draws_J37  (M : StM) (a1 : Int32) (a2 : Int32) (s0 : Int32) (s1 : Int32) : Int32 × StM := (f_X7_draws_J38 M a1 a2 0 s0 s1)
def ok_X7_draws_J37  (M : StM) (a1 : Int32) (a2 : Int32) (s0 : Int32) (s1 : Int32) : Prop := (ok_X7_draws_J38 M a1 a2 0 s0 s1)
def f_X7_draws  (M : StM) (x0 : Int32) (x1 : Int32) : Int32 × StM := (nm (f_X7_isAmount x1) (fun (r2 : Int32) => (nm (f_X7_isAccount M x0) (fun (r4 : Int32) => (if r2 = 0 then (f_X7_draws_J37 M x0 x1 r2 r4) else (nm (f_X7_of M x0 1) (fun (r21 : Int32) => (nm (f_X7_of M x0 2) (fun (r23 : Int32) => (if (r21 + r23) < x1 then (f_X7_draws_J37 M x0 x1 r2 r4) else (f_X7_draws_J38 M x0 x1 1 r2 r4)))))))))))
def ok_X7_draws  (M : StM) (x0 : Int32) (x1 : Int32) : Prop := ((ok_X7_isAmount x1) ∧ (∀ r2 : Int32, r2 = (f_X7_isAmount x1) → ((ok_X7_isAccount M x0) ∧ (∀ r4 : Int32, r4 = (f_X7_isAccount M x0) → ((r2 = 0 → (ok_X7_draws_J37 M x0 x1 r2 r4)) ∧ (¬ r2 = 0 → ((ok_X7_of M x0 1) ∧ (∀ r21 : Int32, r21 = (f_X7_of M x0 1) → ((ok_X7_of M x0 2) ∧ (∀ r23 : Int32, r23 = (f_X7_of M x0 2) → (((r21 + r23) < x1 → (ok_X7_draws_J37 M x0 x1 r2 r4)) ∧ (¬ (r21 + r23) < x1 → (ok_X7_draws_J38 M x0 x1 1 r2 r4)))))))))))))
def f_X7_limits_J64  (M : StM) (a1 : Int32) (a2 : Int32) (a5 : Int32) (s0 : Int32) (s1 : Int32) (s2 : Int32) (s3 : Int32) : Int32 × StM := (nm (f_X7_holds M s3 s2 s1 s0) (fun (z10 : Int32 × StM) => (if z10.1 = 0 then (a5, z10.2) else (nm (f_X7_accountAt a1) (fun (r12 : Int32) => (nm (sma z10.2 0 (ix (r12 + 2)) a2) (fun (M14 : StM) => (a5, M14))))))))
def ok_X7_limits_J64  (M : StM) (a1 : Int32) (a2 : Int32) (a5 : Int32) (s0 : Int32) (s1 : Int32) (s2 : Int32) (s3 : Int32) : Prop := (∀ z10 : Int32 × StM, z10 = (f_X7_holds M s3 s2 s1 s0) → ((z10.1 = 0 → True) ∧ (¬ z10.1 = 0 → (∀ r12 : Int32, r12 = (f_X7_accountAt a1) → (vp_in (r12 + 2) 124)))))
def f_X7_limits_J63  (M : StM) (a1 : Int32) (a2 : Int32) (a5 : Int32) (s0 : Int32) (s1 : Int32) (s2 : Int32) : Int32 × StM := (f_X7_limits_J64 M a1 a2 a5 0 s0 s1 s2)
def ok_X7_limits_J63  (M : StM) (a1 : Int32) (a2 : Int32) (a5 : Int32) (s0 : Int32) (s1 : Int32) (s2 : Int32) : Prop := (ok_X7_limits_J64 M a1 a2 a5 0 s0 s1 s2)
def f_X7_limits_J25  (M : StM) (a1 : Int32) (a2 : Int32) (a3 : Int32) (s0 : Int32) : Int32 × StM := (nm (f_X7_of M a1 2) (fun (r6 : Int32) => (nm (f_X7_isAccount M a1) (fun (r8 : Int32) => (if a3 = 0 then (f_X7_limits_J63 M a1 a2 r6 s0 a3 r8) else (nm (f_X7_of M a1 1) (fun (r16 : Int32) => (if (r16 + a2) < 0 then (f_X7_limits_J63 M a1 a2 r6 s0 a3 r8) else (f_X7_limits_J64 M a1 a2 r6 1 s0 a3 r8)))))))))
def ok_X7_limits_J25  (M : StM) (a1 : Int32) (a2 : Int32) (a3 : Int32) (s0 : Int32) : Prop := ((ok_X7_of M a1 2) ∧ (∀ r6 : Int32, r6 = (f_X7_of M a1 2) → ((ok_X7_isAccount M a1) ∧ (∀ r8 : Int32, r8 = (f_X7_isAccount M a1) → ((a3 = 0 → (ok_X7_limits_J63 M a1 a2 r6 s0 a3 r8)) ∧ (¬ a3 = 0 → ((ok_X7_of M a1 1) ∧ (∀ r16 : Int32, r16 = (f_X7_of M a1 1) → (((r16 + a2) < 0 → (ok_X7_limits_J63 M a1 a2 r6 s0 a3 r8)) ∧ (¬ (r16 + a2) < 0 → (ok_X7_limits_J64 M a1 a2 r6 1 s0 a3 r8)))))))))))
def f_X7_limits  (M : StM) (x0 : Int32) (x1 : Int32) : Int32 × StM := (nm (f_X7_isIn x1 0 500) (fun (r1 : Int32) => (nm (f_X7_of M x0 0) (fun (r3 : Int32) => (if (r3 - r3 / 2 * 2) = 0 then (f_X7_limits_J25 M x0 x1 r1 1) else (f_X7_limits_J25 M x0 x1 r1 0))))))
def ok_X7_limits  (M : StM) (x0 : Int32) (x1 : Int32) : Prop := (∀ r1 : Int32, r1 = (f_X7_isIn x1 0 500) → ((ok_X7_of M x0 0) ∧ (∀ r3 : Int32, r3 = (f_X7_of M x0 0) → (((r3 - r3 / 2 * 2) = 0 → (ok_X7_limits_J25 M x0 x1 r1 1)) ∧ (¬ (r3 - r3 / 2 * 2) = 0 → (ok_X7_limits_J25 M x0 x1 r1 0))))))
def f_X7_seal  (M : StM) (x0 : Int32) (x1 : Int32) (x2 : Int32) (x3 : Int32) : Int32 × StM := (nm (f_X7_begins M) (fun (M2 : StM) => (nm (f_X7_seals M2 x0 x1 x2 x3) (fun (z4 : Int32 × StM) => (nm (f_X7_ends z4.2 z4.1) (fun (z6 : Int32 × StM) => (z6.1, z6.2)))))))
def ok_X7_seal  (M : StM) (x0 : Int32) (x1 : Int32) (x2 : Int32) (x3 : Int32) : Prop := ((ok_X7_begins M) ∧ (∀ M2 : StM, M2 = (f_X7_begins M) → ((ok_X7_seals M2 x0 x1 x2 x3) ∧ (∀ z4 : Int32 × StM, z4 = (f_X7_seals M2 x0 x1 x2 x3) → ((ok_X7_ends z4.2 z4.1))))))
def f_X7_cancel  (M : StM) (x0 : Int32) : Int32 × StM := (nm (f_X7_begins M) (fun (M2 : StM) => (nm (f_X7_voids M2 x0) (fun (z4 : Int32 × StM) => (nm (f_X7_ends z4.2 z4.1) (fun (z6 : Int32 × StM) => (z6.1, z6.2)))))))
def ok_X7_cancel  (M : StM) (x0 : Int32) : Prop := ((ok_X7_begins M) ∧ (∀ M2 : StM, M2 = (f_X7_begins M) → ((ok_X7_voids M2 x0) ∧ (∀ z4 : Int32 × StM, z4 = (f_X7_voids M2 x0) → ((ok_X7_ends z4.2 z4.1))))))
def f_X7_atMost  (M : StM) (x0 : Int32) (x1 : Int32) : Int32 := (nm (f_X7_of M x0 1) (fun (r2 : Int32) => (nm (f_X7_of M x0 2) (fun (r4 : Int32) => (mn x1 (r2 + r4))))))
def ok_X7_atMost  (M : StM) (x0 : Int32) (x1 : Int32) : Prop := ((ok_X7_of M x0 1) ∧ (∀ r2 : Int32, r2 = (f_X7_of M x0 1) → ((ok_X7_of M x0 2))))
def f_X7_asks  (M : StM) (x0 : Int32) (x1 : Int32) : Int32 × StM := (nm (f_X7_isAccount M x0) (fun (r2 : Int32) => (nm (f_X7_goes M r2) (fun (z4 : Int32 × StM) => (if z4.1 = 0 then (0, z4.2) else (nm (f_X7_of z4.2 x0 x1) (fun (r7 : Int32) => (r7, z4.2))))))))
def ok_X7_asks  (M : StM) (x0 : Int32) (x1 : Int32) : Prop := ((ok_X7_isAccount M x0) ∧ (∀ r2 : Int32, r2 = (f_X7_isAccount M x0) → ((ok_X7_goes M r2) ∧ (∀ z4 : Int32 × StM, z4 = (f_X7_goes M r2) → ((z4.1 = 0 → True) ∧ (¬ z4.1 = 0 → ((ok_X7_of z4.2 x0 x1))))))))
def f_X7_availableIn  (M : StM) (x0 : Int32) : Int32 × StM := (nm (f_X7_isAccount M x0) (fun (r2 : Int32) => (nm (f_X7_goes M r2) (fun (z4 : Int32 × StM) => (if z4.1 = 0 then (0, z4.2) else (nm (f_X7_of z4.2 x0 1) (fun (r7 : Int32) => (nm (f_X7_of z4.2 x0 2) (fun (r9 : Int32) => ((r7 + r9), z4.2))))))))))
def ok_X7_availableIn  (M : StM) (x0 : Int32) : Prop := ((ok_X7_isAccount M x0) ∧ (∀ r2 : Int32, r2 = (f_X7_isAccount M x0) → ((ok_X7_goes M r2) ∧ (∀ z4 : Int32 × StM, z4 = (f_X7_goes M r2) → ((z4.1 = 0 → True) ∧ (¬ z4.1 = 0 → ((ok_X7_of z4.2 x0 1) ∧ (∀ r7 : Int32, r7 = (f_X7_of z4.2 x0 1) → ((ok_X7_of z4.2 x0 2))))))))))
def f_X7_accountAtRank_L20 : Nat → StM → Int32 → Int32 → Int32 → Int32 → Int32 → Int32
  | 0, M, a1, a2, a3, a4, a5 => (a4)
  | n + 1, M, a1, a2, a3, a4, a5 => (if (ma M 0 (ix 1)) ≤ a5 then a4 else (nm (f_X7_of M a5 1) (fun (r6 : Int32) => (nm (f_X7_of M a3 1) (fun (r8 : Int32) => (nm (r6 - r8) (fun (v9 : Int32) => (if 0 < v9 then (nm (a4 + 1) (fun (v11 : Int32) => (f_X7_accountAtRank_L20 n M a1 a2 a3 v11 (a5 + 1)))) else (if v9 = 0 then (if a3 ≤ a5 then (nm (a4 + 0) (fun (v15 : Int32) => (f_X7_accountAtRank_L20 n M a1 a2 a3 v15 (a5 + 1)))) else (nm (a4 + 1) (fun (v16 : Int32) => (f_X7_accountAtRank_L20 n M a1 a2 a3 v16 (a5 + 1))))) else (nm (a4 + 0) (fun (v13 : Int32) => (f_X7_accountAtRank_L20 n M a1 a2 a3 v13 (a5 + 1)))))))))))))
def ok_X7_accountAtRank_L20 : Nat → StM → Int32 → Int32 → Int32 → Int32 → Int32 → Prop
  | 0, _, _, _, _, _, _ => False
  | n + 1, M, a1, a2, a3, a4, a5 => (((ma M 0 (ix 1)) ≤ a5 → True) ∧ (¬ (ma M 0 (ix 1)) ≤ a5 → ((ok_X7_of M a5 1) ∧ (∀ r6 : Int32, r6 = (f_X7_of M a5 1) → ((ok_X7_of M a3 1) ∧ (∀ r8 : Int32, r8 = (f_X7_of M a3 1) → (∀ v9 : Int32, v9 = (r6 - r8) → ((0 < v9 → (∀ v11 : Int32, v11 = (a4 + 1) → (ok_X7_accountAtRank_L20 n M a1 a2 a3 v11 (a5 + 1)))) ∧ (¬ 0 < v9 → ((v9 = 0 → ((a3 ≤ a5 → (∀ v15 : Int32, v15 = (a4 + 0) → (ok_X7_accountAtRank_L20 n M a1 a2 a3 v15 (a5 + 1)))) ∧ (¬ a3 ≤ a5 → (∀ v16 : Int32, v16 = (a4 + 1) → (ok_X7_accountAtRank_L20 n M a1 a2 a3 v16 (a5 + 1)))))) ∧ (¬ v9 = 0 → (∀ v13 : Int32, v13 = (a4 + 0) → (ok_X7_accountAtRank_L20 n M a1 a2 a3 v13 (a5 + 1))))))))))))))
def f_X7_accountAtRank_L4 : Nat → StM → Int32 → Int32 → Int32 → Int32
  | 0, M, a1, a2, a3 => (a2)
  | n + 1, M, a1, a2, a3 => (if (ma M 0 (ix 1)) ≤ a3 then a2 else (nm (f_X7_accountAtRank_L20 fu M a1 a2 a3 0 0) (fun (z17 : Int32) => (if z17 = a1 then (f_X7_accountAtRank_L4 n M a1 a3 (a3 + 1)) else (f_X7_accountAtRank_L4 n M a1 a2 (a3 + 1))))))
def ok_X7_accountAtRank_L4 : Nat → StM → Int32 → Int32 → Int32 → Prop
  | 0, _, _, _, _ => False
  | n + 1, M, a1, a2, a3 => (((ma M 0 (ix 1)) ≤ a3 → True) ∧ (¬ (ma M 0 (ix 1)) ≤ a3 → ((ok_X7_accountAtRank_L20 fu M a1 a2 a3 0 0) ∧ ∀ z17 : Int32, z17 = f_X7_accountAtRank_L20 fu M a1 a2 a3 0 0 → ((z17 = a1 → (ok_X7_accountAtRank_L4 n M a1 a3 (a3 + 1))) ∧ (¬ z17 = a1 → (ok_X7_accountAtRank_L4 n M a1 a2 (a3 + 1)))))))
def f_X7_accountAtRank_J108  (M : StM) (a2 : Int32) (s0 : Int32) : Int32 × StM := (nm (f_X7_goes M s0) (fun (z22 : Int32 × StM) => (if z22.1 = 0 then (0, z22.2) else (a2, z22.2))))
def ok_X7_accountAtRank_J108  (M : StM) (a2 : Int32) (s0 : Int32) : Prop := ((ok_X7_goes M s0))
def f_X7_accountAtRank  (M : StM) (x0 : Int32) : Int32 × StM := (nm (f_X7_accountAtRank_L4 fu M x0 (-1) 0) (fun (z19 : Int32) => (if z19 = (-1) then (f_X7_accountAtRank_J108 M z19 0) else (f_X7_accountAtRank_J108 M z19 1))))
def ok_X7_accountAtRank  (M : StM) (x0 : Int32) : Prop := ((ok_X7_accountAtRank_L4 fu M x0 (-1) 0) ∧ ∀ z19 : Int32, z19 = f_X7_accountAtRank_L4 fu M x0 (-1) 0 → ((z19 = (-1) → (ok_X7_accountAtRank_J108 M z19 0)) ∧ (¬ z19 = (-1) → (ok_X7_accountAtRank_J108 M z19 1))))
def f_X7_balances_L4 : Nat → StM → Int64 → Int32 → Int64
  | 0, M, a1, a3 => (a1)
  | n + 1, M, a1, a3 => (if (ma M 0 (ix 1)) ≤ a3 then a1 else (nm (f_X7_of M a3 1) (fun (r4 : Int32) => (nm (a1 + (Int32.toInt64 r4)) (fun (v5 : Int64) => (f_X7_balances_L4 n M v5 (a3 + 1)))))))
def ok_X7_balances_L4 : Nat → StM → Int64 → Int32 → Prop
  | 0, _, _, _ => False
  | n + 1, M, a1, a3 => (((ma M 0 (ix 1)) ≤ a3 → True) ∧ (¬ (ma M 0 (ix 1)) ≤ a3 → ((ok_X7_of M a3 1) ∧ (∀ r4 : Int32, r4 = (f_X7_of M a3 1) → (∀ v5 : Int64, v5 = (a1 + (Int32.toInt64 r4)) → (ok_X7_balances_L4 n M v5 (a3 + 1)))))))
def f_X7_balances  (M : StM)  : Int64 := (nm (f_X7_balances_L4 fu M 0 0) (fun (z6 : Int64) => z6))
def ok_X7_balances  (M : StM)  : Prop := (ok_X7_balances_L4 fu M 0 0)
def f_X7_senderOf  (M : StM) (x0 : Int32) : Int32 × StM := (nm (f_X7_asksTransfer M x0 1) (fun (z2 : Int32 × StM) => (z2.1, z2.2)))
def ok_X7_senderOf  (M : StM) (x0 : Int32) : Prop := ((ok_X7_asksTransfer M x0 1))
def f_X7_receiverOf  (M : StM) (x0 : Int32) : Int32 × StM := (nm (f_X7_asksTransfer M x0 2) (fun (z2 : Int32 × StM) => (z2.1, z2.2)))
def ok_X7_receiverOf  (M : StM) (x0 : Int32) : Prop := ((ok_X7_asksTransfer M x0 2))
def f_X7_amountOf  (M : StM) (x0 : Int32) : Int32 × StM := (nm (f_X7_asksTransfer M x0 3) (fun (z2 : Int32 × StM) => (z2.1, z2.2)))
def ok_X7_amountOf  (M : StM) (x0 : Int32) : Prop := ((ok_X7_asksTransfer M x0 3))
def f_X7_daysUntilDue  (M : StM) (x0 : Int32) : Int32 × StM := (nm (f_X7_asksTransfer M x0 4) (fun (z2 : Int32 × StM) => (if (mi z2.2 15) = 0 then ((z2.1 - (ma z2.2 0 (ix 0))), z2.2) else (0, z2.2))))
def ok_X7_daysUntilDue  (M : StM) (x0 : Int32) : Prop := ((ok_X7_asksTransfer M x0 4))
def f_X7_netOf  (M : StM) (x0 : Int32) : Int32 × StM := (nm (f_X7_net M x0) (fun (z2 : Int32 × StM) => (z2.1, z2.2)))
def ok_X7_netOf  (M : StM) (x0 : Int32) : Prop := ((ok_X7_net M x0))
def f_X7_netByTable  (M : StM) (x0 : Int32) : Int32 × StM := (nm (f_X7_net M x0) (fun (z2 : Int32 × StM) => (z2.1, z2.2)))
def ok_X7_netByTable  (M : StM) (x0 : Int32) : Prop := ((ok_X7_net M x0))
def f_X7_movementKind  (M : StM) (x0 : Int32) : Int32 × StM := (nm (f_X7_written M x0 0) (fun (z2 : Int32 × StM) => ((Int32.toUInt32 z2.1 % 65536).toInt32, z2.2)))
def ok_X7_movementKind  (M : StM) (x0 : Int32) : Prop := ((ok_X7_written M x0 0) ∧ (∀ z2 : Int32 × StM, z2 = (f_X7_written M x0 0) → (narrow .char (.int ((Int32.toUInt32 z2.1 % 65536).toInt32)) = .int ((Int32.toUInt32 z2.1 % 65536).toInt32))))
def f_X7_movementAmount  (M : StM) (x0 : Int32) : Int32 × StM := (nm (f_X7_written M x0 1) (fun (z2 : Int32 × StM) => (z2.1, z2.2)))
def ok_X7_movementAmount  (M : StM) (x0 : Int32) : Prop := ((ok_X7_written M x0 1))
def f_X7_movementAccount  (M : StM) (x0 : Int32) : Int32 × StM := (nm (f_X7_written M x0 2) (fun (z2 : Int32 × StM) => (z2.1, z2.2)))
def ok_X7_movementAccount  (M : StM) (x0 : Int32) : Prop := ((ok_X7_written M x0 2))
def f_X7_writeStatement  (M : StM) (x0 : Int32) : Int32 × StM := (nm (f_X7_isAccount M x0) (fun (r2 : Int32) => (nm (f_X7_goes M r2) (fun (z4 : Int32 × StM) => (if z4.1 = 0 then (0, z4.2) else (nm (f_X7_of z4.2 x0 0) (fun (r7 : Int32) => (nm (f_X7_letterFor r7) (fun (r8 : Int32) => (nm (f_X7_put z4.2 0 r8) (fun (z10 : Int32 × StM) => (nm (f_X7_writesNumber z10.2 z10.1 x0) (fun (z12 : Int32 × StM) => (nm (f_X7_put z12.2 z12.1 58) (fun (z14 : Int32 × StM) => (nm (f_X7_of z14.2 x0 1) (fun (r16 : Int32) => (nm (f_X7_writesNumber z14.2 z14.1 r16) (fun (z18 : Int32 × StM) => (nm (f_X7_put z18.2 z18.1 47) (fun (z20 : Int32 × StM) => (nm (f_X7_of z20.2 x0 2) (fun (r22 : Int32) => (nm (f_X7_writesNumber z20.2 z20.1 r22) (fun (z24 : Int32 × StM) => (nm (f_X7_of z24.2 x0 3) (fun (r26 : Int32) => (if r26 = 1 then (nm (f_X7_put z24.2 z24.1 42) (fun (z30 : Int32 × StM) => (nm (smi z30.2 14 z30.1) (fun (M31 : StM) => ((mi M31 14), M31))))) else (nm (smi z24.2 14 z24.1) (fun (M28 : StM) => ((mi M28 14), M28)))))))))))))))))))))))))))))))
def ok_X7_writeStatement  (M : StM) (x0 : Int32) : Prop := ((ok_X7_isAccount M x0) ∧ (∀ r2 : Int32, r2 = (f_X7_isAccount M x0) → ((ok_X7_goes M r2) ∧ (∀ z4 : Int32 × StM, z4 = (f_X7_goes M r2) → ((z4.1 = 0 → True) ∧ (¬ z4.1 = 0 → ((ok_X7_of z4.2 x0 0) ∧ (∀ r7 : Int32, r7 = (f_X7_of z4.2 x0 0) → (∀ r8 : Int32, r8 = (f_X7_letterFor r7) → ((ok_X7_put z4.2 0 r8) ∧ (∀ z10 : Int32 × StM, z10 = (f_X7_put z4.2 0 r8) → ((ok_X7_writesNumber z10.2 z10.1 x0) ∧ (∀ z12 : Int32 × StM, z12 = (f_X7_writesNumber z10.2 z10.1 x0) → ((ok_X7_put z12.2 z12.1 58) ∧ (∀ z14 : Int32 × StM, z14 = (f_X7_put z12.2 z12.1 58) → ((ok_X7_of z14.2 x0 1) ∧ (∀ r16 : Int32, r16 = (f_X7_of z14.2 x0 1) → ((ok_X7_writesNumber z14.2 z14.1 r16) ∧ (∀ z18 : Int32 × StM, z18 = (f_X7_writesNumber z14.2 z14.1 r16) → ((ok_X7_put z18.2 z18.1 47) ∧ (∀ z20 : Int32 × StM, z20 = (f_X7_put z18.2 z18.1 47) → ((ok_X7_of z20.2 x0 2) ∧ (∀ r22 : Int32, r22 = (f_X7_of z20.2 x0 2) → ((ok_X7_writesNumber z20.2 z20.1 r22) ∧ (∀ z24 : Int32 × StM, z24 = (f_X7_writesNumber z20.2 z20.1 r22) → ((ok_X7_of z24.2 x0 3) ∧ (∀ r26 : Int32, r26 = (f_X7_of z24.2 x0 3) → ((r26 = 1 → ((ok_X7_put z24.2 z24.1 42))) ∧ (¬ r26 = 1 → True)))))))))))))))))))))))))))))
def f_X7_number_L7 : Nat → StM → Int32 → Int32 → Int32 × StM
  | 0, M, a1, a2 => (a1, M)
  | n + 1, M, a1, a2 => (if 3 ≤ a2 then (a1, M) else (if (mi M 18) = (-1) then (nm (f_X7_letterHere M) (fun (r6 : Int32) => (nm (f_X7_isIn r6 48 57) (fun (r7 : Int32) => (if r7 = 0 then (a1, M) else (nm (f_X7_digit M) (fun (z10 : Int32 × StM) => (nm ((10 * a1) + z10.1) (fun (v11 : Int32) => (f_X7_number_L7 n z10.2 v11 (a2 + 1))))))))))) else (a1, M)))
def ok_X7_number_L7 : Nat → StM → Int32 → Int32 → Prop
  | 0, _, _, _ => False
  | n + 1, M, a1, a2 => ((3 ≤ a2 → True) ∧ (¬ 3 ≤ a2 → (((mi M 18) = (-1) → ((ok_X7_letterHere M) ∧ (∀ r6 : Int32, r6 = (f_X7_letterHere M) → (∀ r7 : Int32, r7 = (f_X7_isIn r6 48 57) → ((r7 = 0 → True) ∧ (¬ r7 = 0 → ((ok_X7_digit M) ∧ (∀ z10 : Int32 × StM, z10 = (f_X7_digit M) → (∀ v11 : Int32, v11 = ((10 * a1) + z10.1) → (ok_X7_number_L7 n z10.2 v11 (a2 + 1))))))))))) ∧ (¬ (mi M 18) = (-1) → True))))
def f_X7_number  (M : StM)  : Int32 × StM := (nm (f_X7_digit M) (fun (z2 : Int32 × StM) => (nm (f_X7_number_L7 fu z2.2 z2.1 1) (fun (z12 : Int32 × StM) => (z12.1, z12.2)))))
def ok_X7_number  (M : StM)  : Prop := ((ok_X7_digit M) ∧ (∀ z2 : Int32 × StM, z2 = (f_X7_digit M) → (ok_X7_number_L7 fu z2.2 z2.1 1)))
def f_X7_deposit  (M : StM) (x0 : Int32) (x1 : Int32) : Int32 × StM := (nm (f_X7_begins M) (fun (M2 : StM) => (nm (f_X7_pays M2 x0 x1) (fun (z4 : Int32 × StM) => (nm (f_X7_ends z4.2 z4.1) (fun (z6 : Int32 × StM) => (z6.1, z6.2)))))))
def ok_X7_deposit  (M : StM) (x0 : Int32) (x1 : Int32) : Prop := ((ok_X7_begins M) ∧ (∀ M2 : StM, M2 = (f_X7_begins M) → ((ok_X7_pays M2 x0 x1) ∧ (∀ z4 : Int32 × StM, z4 = (f_X7_pays M2 x0 x1) → ((ok_X7_ends z4.2 z4.1))))))
def f_X7_withdraw  (M : StM) (x0 : Int32) (x1 : Int32) : Int32 × StM := (nm (f_X7_begins M) (fun (M2 : StM) => (nm (f_X7_draws M2 x0 x1) (fun (z4 : Int32 × StM) => (nm (f_X7_ends z4.2 z4.1) (fun (z6 : Int32 × StM) => (z6.1, z6.2)))))))
def ok_X7_withdraw  (M : StM) (x0 : Int32) (x1 : Int32) : Prop := ((ok_X7_begins M) ∧ (∀ M2 : StM, M2 = (f_X7_begins M) → ((ok_X7_draws M2 x0 x1) ∧ (∀ z4 : Int32 × StM, z4 = (f_X7_draws M2 x0 x1) → ((ok_X7_ends z4.2 z4.1))))))
def f_X7_setLimit  (M : StM) (x0 : Int32) (x1 : Int32) : Int32 × StM := (nm (f_X7_begins M) (fun (M2 : StM) => (nm (f_X7_limits M2 x0 x1) (fun (z4 : Int32 × StM) => (nm (f_X7_ends z4.2 z4.1) (fun (z6 : Int32 × StM) => (z6.1, z6.2)))))))
def ok_X7_setLimit  (M : StM) (x0 : Int32) (x1 : Int32) : Prop := ((ok_X7_begins M) ∧ (∀ M2 : StM, M2 = (f_X7_begins M) → ((ok_X7_limits M2 x0 x1) ∧ (∀ z4 : Int32 × StM, z4 = (f_X7_limits M2 x0 x1) → ((ok_X7_ends z4.2 z4.1))))))
def f_X7_isMoved_J145  (M : StM) (a4 : Int32) : Int32 × StM := (nm (smi M 10 1) (fun (M19 : StM) => (a4, M19)))
def ok_X7_isMoved_J145  (M : StM) (a4 : Int32) : Prop := (∀ M19 : StM, M19 = (smi M 10 1) → (narrow .boolean (.int a4) = .int a4))
def f_X7_isMoved_J37  (M : StM) (a1 : Int32) (a2 : Int32) (a3 : Int32) (s0 : Int32) : Int32 × StM := (if s0 = 0 then (nm (f_X7_atMost M a2 3) (fun (r12 : Int32) => (nm (f_X7_gives M a2 102 r12) (fun (M14 : StM) => (nm (sma M14 0 (ix 10) ((ma M14 0 (ix 10)) + 1)) (fun (M17 : StM) => (if (mi M17 10) = 0 then (nm (f_X7_ofPlace M17 a1 0) (fun (r22 : Int32) => (if r22 = (mi M17 9) then (f_X7_isMoved_J145 M17 s0) else (nm (smi M17 10 0) (fun (M24 : StM) => (s0, M24)))))) else (f_X7_isMoved_J145 M17 s0)))))))) else (nm (f_X7_changes M a2 (-a3)) (fun (M27 : StM) => (nm (f_X7_ofPlace M27 a1 2) (fun (r29 : Int32) => (nm (f_X7_changes M27 r29 a3) (fun (M31 : StM) => (nm (f_X7_accountAt a2) (fun (r32 : Int32) => (nm (sma M31 0 (ix (r32 + 3)) 1) (fun (M34 : StM) => (nm (sma M34 0 (ix 7) ((ma M34 0 (ix 7)) + a3)) (fun (M37 : StM) => (nm (f_X7_writes M37 116 a3 a2) (fun (M39 : StM) => (s0, M39))))))))))))))))
def ok_X7_isMoved_J37  (M : StM) (a1 : Int32) (a2 : Int32) (a3 : Int32) (s0 : Int32) : Prop := ((s0 = 0 → ((ok_X7_atMost M a2 3) ∧ (∀ r12 : Int32, r12 = (f_X7_atMost M a2 3) → ((ok_X7_gives M a2 102 r12) ∧ (∀ M14 : StM, M14 = (f_X7_gives M a2 102 r12) → (∀ M17 : StM, M17 = (sma M14 0 (ix 10) ((ma M14 0 (ix 10)) + 1)) → (((mi M17 10) = 0 → ((ok_X7_ofPlace M17 a1 0) ∧ (∀ r22 : Int32, r22 = (f_X7_ofPlace M17 a1 0) → ((r22 = (mi M17 9) → (ok_X7_isMoved_J145 M17 s0)) ∧ (¬ r22 = (mi M17 9) → (∀ M24 : StM, M24 = (smi M17 10 0) → (narrow .boolean (.int s0) = .int s0))))))) ∧ (¬ (mi M17 10) = 0 → (ok_X7_isMoved_J145 M17 s0))))))))) ∧ (¬ s0 = 0 → ((ok_X7_changes M a2 (-a3)) ∧ (∀ M27 : StM, M27 = (f_X7_changes M a2 (-a3)) → ((ok_X7_ofPlace M27 a1 2) ∧ (∀ r29 : Int32, r29 = (f_X7_ofPlace M27 a1 2) → ((ok_X7_changes M27 r29 a3) ∧ (∀ M31 : StM, M31 = (f_X7_changes M27 r29 a3) → (∀ r32 : Int32, r32 = (f_X7_accountAt a2) → (vp_in (r32 + 3) 124 ∧ (∀ M34 : StM, M34 = (sma M31 0 (ix (r32 + 3)) 1) → (∀ M37 : StM, M37 = (sma M34 0 (ix 7) ((ma M34 0 (ix 7)) + a3)) → ((ok_X7_writes M37 116 a3 a2) ∧ (∀ M39 : StM, M39 = (f_X7_writes M37 116 a3 a2) → (narrow .boolean (.int s0) = .int s0)))))))))))))))
def f_X7_isMoved  (M : StM) (x0 : Int32) : Int32 × StM := (nm (f_X7_ofPlace M x0 1) (fun (r2 : Int32) => (nm (f_X7_ofPlace M x0 3) (fun (r4 : Int32) => (nm (f_X7_of M r2 1) (fun (r6 : Int32) => (nm (f_X7_of M r2 2) (fun (r8 : Int32) => (if (r6 - r4) < (-r8) then (f_X7_isMoved_J37 M x0 r2 r4 0) else (f_X7_isMoved_J37 M x0 r2 r4 1))))))))))
def ok_X7_isMoved  (M : StM) (x0 : Int32) : Prop := ((ok_X7_ofPlace M x0 1) ∧ (∀ r2 : Int32, r2 = (f_X7_ofPlace M x0 1) → ((ok_X7_ofPlace M x0 3) ∧ (∀ r4 : Int32, r4 = (f_X7_ofPlace M x0 3) → ((ok_X7_of M r2 1) ∧ (∀ r6 : Int32, r6 = (f_X7_of M r2 1) → ((ok_X7_of M r2 2) ∧ (∀ r8 : Int32, r8 = (f_X7_of M r2 2) → (((r6 - r4) < (-r8) → (ok_X7_isMoved_J37 M x0 r2 r4 0)) ∧ (¬ (r6 - r4) < (-r8) → (ok_X7_isMoved_J37 M x0 r2 r4 1)))))))))))
def f_X7_earns  (M : StM) (x0 : Int32) : Int32 := (nm (f_X7_of M x0 1) (fun (r2 : Int32) => (nm ((mn r2 9999) / 100) (fun (v3 : Int32) => (nm (f_X7_of M x0 0) (fun (r5 : Int32) => (if r5 = 0 then (if r2 < 0 then (nm (f_X7_atMost M x0 (mx 1 (2 * ((-r2) / 50)))) (fun (r8 : Int32) => (-r8))) else v3) else (if r5 = 1 then (mn 30 (3 * v3)) else (if r5 = 2 then (if r2 < 0 then (nm (f_X7_atMost M x0 5) (fun (r11 : Int32) => (-r11))) else 0) else (nm (f_X7_of M x0 3) (fun (r13 : Int32) => (if r13 = 1 then 0 else (5 * v3)))))))))))))
def ok_X7_earns  (M : StM) (x0 : Int32) : Prop := ((ok_X7_of M x0 1) ∧ (∀ r2 : Int32, r2 = (f_X7_of M x0 1) → (∀ v3 : Int32, v3 = ((mn r2 9999) / 100) → ((ok_X7_of M x0 0) ∧ (∀ r5 : Int32, r5 = (f_X7_of M x0 0) → ((r5 = 0 → ((r2 < 0 → ((ok_X7_atMost M x0 (mx 1 (2 * ((-r2) / 50)))))) ∧ (¬ r2 < 0 → True))) ∧ (¬ r5 = 0 → ((r5 = 1 → True) ∧ (¬ r5 = 1 → ((r5 = 2 → ((r2 < 0 → ((ok_X7_atMost M x0 5))) ∧ (¬ r2 < 0 → True))) ∧ (¬ r5 = 2 → ((ok_X7_of M x0 3)))))))))))))
def f_X7_kindOf  (M : StM) (x0 : Int32) : Int32 × StM := (nm (f_X7_asks M x0 0) (fun (z2 : Int32 × StM) => (z2.1, z2.2)))
def ok_X7_kindOf  (M : StM) (x0 : Int32) : Prop := ((ok_X7_asks M x0 0))
def f_X7_balanceOf  (M : StM) (x0 : Int32) : Int32 × StM := (nm (f_X7_asks M x0 1) (fun (z2 : Int32 × StM) => (z2.1, z2.2)))
def ok_X7_balanceOf  (M : StM) (x0 : Int32) : Prop := ((ok_X7_asks M x0 1))
def f_X7_limitOf  (M : StM) (x0 : Int32) : Int32 × StM := (nm (f_X7_asks M x0 2) (fun (z2 : Int32 × StM) => (z2.1, z2.2)))
def ok_X7_limitOf  (M : StM) (x0 : Int32) : Prop := ((ok_X7_asks M x0 2))
def f_X7_wasTouched  (M : StM) (x0 : Int32) : Int32 × StM := (nm (f_X7_asks M x0 3) (fun (z2 : Int32 × StM) => (if z2.1 = 1 then (1, z2.2) else (0, z2.2))))
def ok_X7_wasTouched  (M : StM) (x0 : Int32) : Prop := ((ok_X7_asks M x0 3))
def f_X7_totalInk  (M : StM)  : Int64 × StM := (nm (smi M 15 0) (fun (M1 : StM) => (nm (f_X7_balances M1) (fun (r3 : Int64) => ((r3 + (Int32.toInt64 (ma M1 0 (ix 4)))), M1)))))
def ok_X7_totalInk  (M : StM)  : Prop := (∀ M1 : StM, M1 = (smi M 15 0) → ((ok_X7_balances M1)))
def f_X7_numberBehindBlank  (M : StM)  : Int32 × StM := (nm (f_X7_reads M 32 32) (fun (z2 : Int32 × StM) => (nm (f_X7_number z2.2) (fun (z4 : Int32 × StM) => (z4.1, z4.2)))))
def ok_X7_numberBehindBlank  (M : StM)  : Prop := ((ok_X7_reads M 32 32) ∧ (∀ z2 : Int32 × StM, z2 = (f_X7_reads M 32 32) → ((ok_X7_number z2.2))))
def f_X7_gains_J45  (M : StM) (a1 : Int32) (a2 : Int32) : StM := (nm (f_X7_gives M a1 99 (-a2)) (fun (M5 : StM) => M5))
def ok_X7_gains_J45  (M : StM) (a1 : Int32) (a2 : Int32) : Prop := ((ok_X7_gives M a1 99 (-a2)))
def f_X7_gains  (M : StM) (x0 : Int32) : StM := (nm (f_X7_earns M x0) (fun (r2 : Int32) => (if r2 ≤ 0 then (f_X7_gains_J45 M x0 r2) else (nm (f_X7_changes M x0 r2) (fun (M7 : StM) => (nm (sma M7 0 (ix 4) ((ma M7 0 (ix 4)) - r2)) (fun (M10 : StM) => (nm (sma M10 0 (ix 8) ((ma M10 0 (ix 8)) + r2)) (fun (M13 : StM) => (nm (f_X7_writes M13 105 r2 x0) (fun (M15 : StM) => (f_X7_gains_J45 M15 x0 r2))))))))))))
def ok_X7_gains  (M : StM) (x0 : Int32) : Prop := ((ok_X7_earns M x0) ∧ (∀ r2 : Int32, r2 = (f_X7_earns M x0) → ((r2 ≤ 0 → (ok_X7_gains_J45 M x0 r2)) ∧ (¬ r2 ≤ 0 → ((ok_X7_changes M x0 r2) ∧ (∀ M7 : StM, M7 = (f_X7_changes M x0 r2) → (∀ M10 : StM, M10 = (sma M7 0 (ix 4) ((ma M7 0 (ix 4)) - r2)) → (∀ M13 : StM, M13 = (sma M10 0 (ix 8) ((ma M10 0 (ix 8)) + r2)) → ((ok_X7_writes M13 105 r2 x0) ∧ (∀ M15 : StM, M15 = (f_X7_writes M13 105 r2 x0) → (ok_X7_gains_J45 M15 x0 r2)))))))))))
def f_X7_interestOf  (M : StM) (x0 : Int32) : Int32 × StM := (nm (f_X7_isAccount M x0) (fun (r2 : Int32) => (nm (f_X7_goes M r2) (fun (z4 : Int32 × StM) => (if z4.1 = 0 then (0, z4.2) else (nm (f_X7_earns z4.2 x0) (fun (r7 : Int32) => (r7, z4.2))))))))
def ok_X7_interestOf  (M : StM) (x0 : Int32) : Prop := ((ok_X7_isAccount M x0) ∧ (∀ r2 : Int32, r2 = (f_X7_isAccount M x0) → ((ok_X7_goes M r2) ∧ (∀ z4 : Int32 × StM, z4 = (f_X7_goes M r2) → ((z4.1 = 0 → True) ∧ (¬ z4.1 = 0 → ((ok_X7_earns z4.2 x0))))))))
def f_X7_closesDay_L4 : Nat → StM → Int32 → Int32 → Int32 × StM
  | 0, M, a1, a2 => (a1, M)
  | n + 1, M, a1, a2 => (if (ma M 0 (ix 3)) ≤ a2 then (a1, M) else (nm (f_X7_ofPlace M a2 4) (fun (r4 : Int32) => (if r4 = (ma M 0 (ix 0)) then (nm (f_X7_isMoved M a2) (fun (z8 : Int32 × StM) => (if z8.1 = 0 then (nm (a1 + 0) (fun (v10 : Int32) => (nm (f_X7_drops z8.2 a2) (fun (M12 : StM) => (f_X7_closesDay_L4 n M12 v10 a2))))) else (nm (a1 + 1) (fun (v13 : Int32) => (nm (f_X7_drops z8.2 a2) (fun (M15 : StM) => (f_X7_closesDay_L4 n M15 v13 a2)))))))) else (f_X7_closesDay_L4 n M a1 (a2 + 1))))))
def ok_X7_closesDay_L4 : Nat → StM → Int32 → Int32 → Prop
  | 0, _, _, _ => False
  | n + 1, M, a1, a2 => (((ma M 0 (ix 3)) ≤ a2 → True) ∧ (¬ (ma M 0 (ix 3)) ≤ a2 → ((ok_X7_ofPlace M a2 4) ∧ (∀ r4 : Int32, r4 = (f_X7_ofPlace M a2 4) → ((r4 = (ma M 0 (ix 0)) → ((ok_X7_isMoved M a2) ∧ (∀ z8 : Int32 × StM, z8 = (f_X7_isMoved M a2) → ((z8.1 = 0 → (∀ v10 : Int32, v10 = (a1 + 0) → ((ok_X7_drops z8.2 a2) ∧ (∀ M12 : StM, M12 = (f_X7_drops z8.2 a2) → (ok_X7_closesDay_L4 n M12 v10 a2))))) ∧ (¬ z8.1 = 0 → (∀ v13 : Int32, v13 = (a1 + 1) → ((ok_X7_drops z8.2 a2) ∧ (∀ M15 : StM, M15 = (f_X7_drops z8.2 a2) → (ok_X7_closesDay_L4 n M15 v13 a2))))))))) ∧ (¬ r4 = (ma M 0 (ix 0)) → (ok_X7_closesDay_L4 n M a1 (a2 + 1))))))))
def f_X7_closesDay_L61 : Nat → StM → Int32 → Int32 → StM
  | 0, M, a1, a3 => (M)
  | n + 1, M, a1, a3 => (if (ma M 0 (ix 1)) ≤ a3 then M else (nm (f_X7_gains M a3) (fun (M20 : StM) => (f_X7_closesDay_L61 n M20 a1 (a3 + 1)))))
def ok_X7_closesDay_L61 : Nat → StM → Int32 → Int32 → Prop
  | 0, _, _, _ => False
  | n + 1, M, a1, a3 => (((ma M 0 (ix 1)) ≤ a3 → True) ∧ (¬ (ma M 0 (ix 1)) ≤ a3 → ((ok_X7_gains M a3) ∧ (∀ M20 : StM, M20 = (f_X7_gains M a3) → (ok_X7_closesDay_L61 n M20 a1 (a3 + 1))))))
def f_X7_closesDay_L84 : Nat → StM → Int32 → Int32 → StM
  | 0, M, a1, a3 => (M)
  | n + 1, M, a1, a3 => (if (ma M 0 (ix 1)) ≤ a3 then M else (nm (f_X7_accountAt a3) (fun (r24 : Int32) => (nm (sma M 0 (ix (r24 + 3)) 0) (fun (M26 : StM) => (f_X7_closesDay_L84 n M26 a1 (a3 + 1)))))))
def ok_X7_closesDay_L84 : Nat → StM → Int32 → Int32 → Prop
  | 0, _, _, _ => False
  | n + 1, M, a1, a3 => (((ma M 0 (ix 1)) ≤ a3 → True) ∧ (¬ (ma M 0 (ix 1)) ≤ a3 → (∀ r24 : Int32, r24 = (f_X7_accountAt a3) → (vp_in (r24 + 3) 124 ∧ (∀ M26 : StM, M26 = (sma M 0 (ix (r24 + 3)) 0) → (ok_X7_closesDay_L84 n M26 a1 (a3 + 1)))))))
def f_X7_closesDay  (M : StM)  : Int32 × StM := (nm (f_X7_closesDay_L4 fu M 0 0) (fun (z16 : Int32 × StM) => (nm (f_X7_closesDay_L61 fu z16.2 z16.1 0) (fun (z21 : StM) => (nm (f_X7_closesDay_L84 fu z21 z16.1 0) (fun (z27 : StM) => (nm (sma z27 0 (ix 0) ((ma z27 0 (ix 0)) + 1)) (fun (M30 : StM) => (z16.1, M30)))))))))
def ok_X7_closesDay  (M : StM)  : Prop := ((ok_X7_closesDay_L4 fu M 0 0) ∧ ∀ z16 : Int32 × StM, z16 = f_X7_closesDay_L4 fu M 0 0 → ((ok_X7_closesDay_L61 fu z16.2 z16.1 0) ∧ ∀ z21 : StM, z21 = f_X7_closesDay_L61 fu z16.2 z16.1 0 → (ok_X7_closesDay_L84 fu z21 z16.1 0)))
def f_X7_waits_L20 : Nat → StM → Int32 → Int32 → Int32 → Int32 × StM
  | 0, M, a1, a2, a3 => (a2, M)
  | n + 1, M, a1, a2, a3 => (if a1 ≤ a3 then (a2, M) else (nm (f_X7_closesDay M) (fun (z7 : Int32 × StM) => (nm (a2 + z7.1) (fun (v8 : Int32) => (f_X7_waits_L20 n z7.2 a1 v8 (a3 + 1)))))))
def ok_X7_waits_L20 : Nat → StM → Int32 → Int32 → Int32 → Prop
  | 0, _, _, _, _ => False
  | n + 1, M, a1, a2, a3 => ((a1 ≤ a3 → True) ∧ (¬ a1 ≤ a3 → ((ok_X7_closesDay M) ∧ (∀ z7 : Int32 × StM, z7 = (f_X7_closesDay M) → (∀ v8 : Int32, v8 = (a2 + z7.1) → (ok_X7_waits_L20 n z7.2 a1 v8 (a3 + 1)))))))
def f_X7_waits  (M : StM) (x0 : Int32) : Int32 × StM := (nm (f_X7_isIn x0 1 60) (fun (r1 : Int32) => (nm (f_X7_goes M r1) (fun (z3 : Int32 × StM) => (if z3.1 = 0 then (0, z3.2) else (nm (f_X7_waits_L20 fu z3.2 x0 0 0) (fun (z9 : Int32 × StM) => (z9.1, z9.2))))))))
def ok_X7_waits  (M : StM) (x0 : Int32) : Prop := (∀ r1 : Int32, r1 = (f_X7_isIn x0 1 60) → ((ok_X7_goes M r1) ∧ (∀ z3 : Int32 × StM, z3 = (f_X7_goes M r1) → ((z3.1 = 0 → True) ∧ (¬ z3.1 = 0 → (ok_X7_waits_L20 fu z3.2 x0 0 0))))))
def f_X7_balanceAfter_L38 : Nat → StM → Int32 → Int32 → Int32 → StM
  | 0, M, a1, a2, a3 => (M)
  | n + 1, M, a1, a2, a3 => (if a2 ≤ a3 then M else (nm (f_X7_closesDay M) (fun (z10 : Int32 × StM) => (f_X7_balanceAfter_L38 n z10.2 a1 a2 (a3 + 1)))))
def ok_X7_balanceAfter_L38 : Nat → StM → Int32 → Int32 → Int32 → Prop
  | 0, _, _, _, _ => False
  | n + 1, M, a1, a2, a3 => ((a2 ≤ a3 → True) ∧ (¬ a2 ≤ a3 → ((ok_X7_closesDay M) ∧ (∀ z10 : Int32 × StM, z10 = (f_X7_closesDay M) → (ok_X7_balanceAfter_L38 n z10.2 a1 a2 (a3 + 1))))))
def f_X7_balanceAfter  (M : StM) (x0 : Int32) (x1 : Int32) : Int32 × StM := (nm (f_X7_isAccount M x0) (fun (r2 : Int32) => (nm (f_X7_isIn x1 0 60) (fun (r3 : Int32) => (nm (f_X7_holds M r2 r3 1 1) (fun (z4 : Int32 × StM) => (if z4.1 = 0 then (0, z4.2) else (nm (f_X7_copies_M0_M2 z4.2 0 0) (fun (M7 : StM) => (nm (f_X7_balanceAfter_L38 fu M7 x0 x1 0) (fun (z11 : StM) => (nm (f_X7_of z11 x0 1) (fun (r13 : Int32) => (nm (f_X7_copies_M2_M0 z11 0 0) (fun (M15 : StM) => (r13, M15))))))))))))))))
def ok_X7_balanceAfter  (M : StM) (x0 : Int32) (x1 : Int32) : Prop := ((ok_X7_isAccount M x0) ∧ (∀ r2 : Int32, r2 = (f_X7_isAccount M x0) → (∀ r3 : Int32, r3 = (f_X7_isIn x1 0 60) → (∀ z4 : Int32 × StM, z4 = (f_X7_holds M r2 r3 1 1) → ((z4.1 = 0 → True) ∧ (¬ z4.1 = 0 → ((ok_X7_copies_M0_M2 z4.2 0 0) ∧ (∀ M7 : StM, M7 = (f_X7_copies_M0_M2 z4.2 0 0) → ((ok_X7_balanceAfter_L38 fu M7 x0 x1 0) ∧ ∀ z11 : StM, z11 = f_X7_balanceAfter_L38 fu M7 x0 x1 0 → ((ok_X7_of z11 x0 1) ∧ (∀ r13 : Int32, r13 = (f_X7_of z11 x0 1) → ((ok_X7_copies_M2_M0 z11 0 0)))))))))))))
def f_X7_wouldBounce_L46 : Nat → StM → Int32 → StM
  | 0, M, a1 => (M)
  | n + 1, M, a1 => (nm (f_X7_find M a1) (fun (r12 : Int32) => (if r12 = (-1) then M else (nm (f_X7_closesDay M) (fun (z15 : Int32 × StM) => (f_X7_wouldBounce_L46 n z15.2 a1))))))
def ok_X7_wouldBounce_L46 : Nat → StM → Int32 → Prop
  | 0, _, _ => False
  | n + 1, M, a1 => ((ok_X7_find M a1) ∧ (∀ r12 : Int32, r12 = (f_X7_find M a1) → ((r12 = (-1) → True) ∧ (¬ r12 = (-1) → ((ok_X7_closesDay M) ∧ (∀ z15 : Int32 × StM, z15 = (f_X7_closesDay M) → (ok_X7_wouldBounce_L46 n z15.2 a1)))))))
def f_X7_wouldBounce_J15  (M : StM) (a1 : Int32) (s0 : Int32) : Int32 × StM := (nm (f_X7_goes M s0) (fun (z5 : Int32 × StM) => (if z5.1 = 0 then (0, z5.2) else (nm (f_X7_copies_M0_M2 z5.2 0 0) (fun (M8 : StM) => (nm (smi M8 9 a1) (fun (M9 : StM) => (nm (smi M9 10 0) (fun (M10 : StM) => (nm (f_X7_wouldBounce_L46 fu M10 a1) (fun (z16 : StM) => (nm (smi z16 9 (-1)) (fun (M17 : StM) => (nm (f_X7_copies_M2_M0 M17 0 0) (fun (M19 : StM) => ((mi M19 10), M19))))))))))))))))
def ok_X7_wouldBounce_J15  (M : StM) (a1 : Int32) (s0 : Int32) : Prop := ((ok_X7_goes M s0) ∧ (∀ z5 : Int32 × StM, z5 = (f_X7_goes M s0) → ((z5.1 = 0 → True) ∧ (¬ z5.1 = 0 → ((ok_X7_copies_M0_M2 z5.2 0 0) ∧ (∀ M8 : StM, M8 = (f_X7_copies_M0_M2 z5.2 0 0) → (∀ M9 : StM, M9 = (smi M8 9 a1) → (∀ M10 : StM, M10 = (smi M9 10 0) → ((ok_X7_wouldBounce_L46 fu M10 a1) ∧ ∀ z16 : StM, z16 = f_X7_wouldBounce_L46 fu M10 a1 → (∀ M17 : StM, M17 = (smi z16 9 (-1)) → ((ok_X7_copies_M2_M0 M17 0 0) ∧ (∀ M19 : StM, M19 = (f_X7_copies_M2_M0 M17 0 0) → (narrow .boolean (.int (mi M19 10)) = .int (mi M19 10))))))))))))))
def f_X7_wouldBounce  (M : StM) (x0 : Int32) : Int32 × StM := (nm (f_X7_find M x0) (fun (r2 : Int32) => (if r2 = (-1) then (f_X7_wouldBounce_J15 M x0 0) else (f_X7_wouldBounce_J15 M x0 1))))
def ok_X7_wouldBounce  (M : StM) (x0 : Int32) : Prop := ((ok_X7_find M x0) ∧ (∀ r2 : Int32, r2 = (f_X7_find M x0) → ((r2 = (-1) → (ok_X7_wouldBounce_J15 M x0 0)) ∧ (¬ r2 = (-1) → (ok_X7_wouldBounce_J15 M x0 1)))))
def f_X7_endDays  (M : StM) (x0 : Int32) : Int32 × StM := (nm (f_X7_begins M) (fun (M2 : StM) => (nm (f_X7_waits M2 x0) (fun (z4 : Int32 × StM) => (nm (f_X7_ends z4.2 z4.1) (fun (z6 : Int32 × StM) => (z6.1, z6.2)))))))
def ok_X7_endDays  (M : StM) (x0 : Int32) : Prop := ((ok_X7_begins M) ∧ (∀ M2 : StM, M2 = (f_X7_begins M) → ((ok_X7_waits M2 x0) ∧ (∀ z4 : Int32 × StM, z4 = (f_X7_waits M2 x0) → ((ok_X7_ends z4.2 z4.1))))))
def f_X7_does  (M : StM) (x0 : Int32) : Int32 × StM := (nm (ma M 7 (ix (x0 + 1))) (fun (v2 : Int32) => (nm (ma M 7 (ix (x0 + 2))) (fun (v4 : Int32) => (if (ma M 7 (ix x0)) = 0 then (nm (f_X7_pays M v2 v4) (fun (z7 : Int32 × StM) => (z7.1, z7.2))) else (if (ma M 7 (ix x0)) = 1 then (nm (f_X7_draws M v2 v4) (fun (z9 : Int32 × StM) => (z9.1, z9.2))) else (if (ma M 7 (ix x0)) = 2 then (nm (f_X7_limits M v2 v4) (fun (z11 : Int32 × StM) => (z11.1, z11.2))) else (if (ma M 7 (ix x0)) = 3 then (nm (f_X7_seals M v2 v4 (ma M 7 (ix (x0 + 3))) (ma M 7 (ix (x0 + 4)))) (fun (z15 : Int32 × StM) => (z15.1, z15.2))) else (if (ma M 7 (ix x0)) = 4 then (nm (f_X7_voids M v2) (fun (z17 : Int32 × StM) => (z17.1, z17.2))) else (nm (f_X7_waits M v2) (fun (z19 : Int32 × StM) => (z19.1, z19.2))))))))))))
def ok_X7_does  (M : StM) (x0 : Int32) : Prop := (vp_in (x0 + 1) 150 ∧ (∀ v2 : Int32, v2 = (ma M 7 (ix (x0 + 1))) → (vp_in (x0 + 2) 150 ∧ (∀ v4 : Int32, v4 = (ma M 7 (ix (x0 + 2))) → (vp_in x0 150 ∧ (((ma M 7 (ix x0)) = 0 → ((ok_X7_pays M v2 v4))) ∧ (¬ (ma M 7 (ix x0)) = 0 → (((ma M 7 (ix x0)) = 1 → ((ok_X7_draws M v2 v4))) ∧ (¬ (ma M 7 (ix x0)) = 1 → (((ma M 7 (ix x0)) = 2 → ((ok_X7_limits M v2 v4))) ∧ (¬ (ma M 7 (ix x0)) = 2 → (((ma M 7 (ix x0)) = 3 → (vp_in (x0 + 3) 150 ∧ (vp_in (x0 + 4) 150 ∧ ((ok_X7_seals M v2 v4 (ma M 7 (ix (x0 + 3))) (ma M 7 (ix (x0 + 4)))))))) ∧ (¬ (ma M 7 (ix x0)) = 3 → (((ma M 7 (ix x0)) = 4 → ((ok_X7_voids M v2))) ∧ (¬ (ma M 7 (ix x0)) = 4 → ((ok_X7_waits M v2)))))))))))))))))
