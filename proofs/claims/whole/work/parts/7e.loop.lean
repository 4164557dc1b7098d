/-! the law's loop -/
def okC (k : Nat) (B : StB) (M : StM) (O : StO) (y1 y2 y3 y4 : Int32) : Prop := match k with
  | 0 => okc_0 B M O y1
  | 1 => okc_1 B M O y1 y2
  | 2 => okc_2 B M O y1 y2
  | 3 => okc_3 B M O y1 y2
  | 4 => okc_4 B M O 
  | 5 => okc_5 B M O y1
  | 6 => okc_6 B M O y1
  | 7 => okc_7 B M O y1
  | 8 => okc_8 B M O y1
  | 9 => okc_9 B M O y1
  | 10 => okc_10 B M O y1
  | 11 => okc_11 B M O y1
  | 12 => okc_12 B M O 
  | 13 => okc_13 B M O 
  | 14 => okc_14 B M O 
  | 15 => okc_15 B M O 
  | 16 => okc_16 B M O 
  | 17 => okc_17 B M O 
  | 18 => okc_18 B M O 
  | 19 => okc_19 B M O 
  | 20 => okc_20 B M O y1
  | 21 => okc_21 B M O y1 y2
  | 22 => okc_22 B M O y1 y2 y3 y4
  | 23 => okc_23 B M O y1
  | 24 => okc_24 B M O 
  | 25 => okc_25 B M O y1
  | 26 => okc_26 B M O y1
  | 27 => okc_27 B M O y1
  | 28 => okc_28 B M O y1
  | 29 => okc_29 B M O y1
  | 30 => okc_30 B M O y1
  | 31 => okc_31 B M O 
  | 32 => okc_32 B M O y1
  | 33 => okc_33 B M O y1
  | 34 => okc_34 B M O y1 y2
  | 35 => okc_35 B M O 
  | 36 => okc_36 B M O y1
  | 37 => okc_37 B M O y1
  | 38 => okc_38 B M O y1
  | 39 => okc_39 B M O y1
  | 40 => okc_40 B M O y1
  | 41 => okc_41 B M O y1
  | 42 => okc_42 B M O 
  | 43 => okc_43 B M O 
  | 44 => okc_44 B M O 
  | 45 => okc_45 B M O 
  | 46 => okc_46 B M O 
  | 47 => okc_47 B M O 
  | _ => True
def sBC (k : Nat) (B : StB) (M : StM) (O : StO) (y1 y2 y3 y4 : Int32) : StB := match k with
  | 0 => stB_0 B M O y1
  | 1 => stB_1 B M O y1 y2
  | 2 => stB_2 B M O y1 y2
  | 3 => stB_3 B M O y1 y2
  | 4 => stB_4 B M O 
  | 5 => stB_5 B M O y1
  | 6 => stB_6 B M O y1
  | 7 => stB_7 B M O y1
  | 8 => stB_8 B M O y1
  | 9 => stB_9 B M O y1
  | 10 => stB_10 B M O y1
  | 11 => stB_11 B M O y1
  | 12 => stB_12 B M O 
  | 13 => stB_13 B M O 
  | 14 => stB_14 B M O 
  | 15 => stB_15 B M O 
  | 16 => stB_16 B M O 
  | 17 => stB_17 B M O 
  | 18 => stB_18 B M O 
  | 19 => stB_19 B M O 
  | 20 => stB_20 B M O y1
  | 21 => stB_21 B M O y1 y2
  | 22 => stB_22 B M O y1 y2 y3 y4
  | 23 => stB_23 B M O y1
  | 24 => stB_24 B M O 
  | 25 => stB_25 B M O y1
  | 26 => stB_26 B M O y1
  | 27 => stB_27 B M O y1
  | 28 => stB_28 B M O y1
  | 29 => stB_29 B M O y1
  | 30 => stB_30 B M O y1
  | 31 => stB_31 B M O 
  | 32 => stB_32 B M O y1
  | 33 => stB_33 B M O y1
  | 34 => stB_34 B M O y1 y2
  | 35 => stB_35 B M O 
  | 36 => stB_36 B M O y1
  | 37 => stB_37 B M O y1
  | 38 => stB_38 B M O y1
  | 39 => stB_39 B M O y1
  | 40 => stB_40 B M O y1
  | 41 => stB_41 B M O y1
  | 42 => stB_42 B M O 
  | 43 => stB_43 B M O 
  | 44 => stB_44 B M O 
  | 45 => stB_45 B M O 
  | 46 => stB_46 B M O 
  | 47 => stB_47 B M O 
  | _ => B
def sMC (k : Nat) (B : StB) (M : StM) (O : StO) (y1 y2 y3 y4 : Int32) : StM := match k with
  | 0 => stM_0 B M O y1
  | 1 => stM_1 B M O y1 y2
  | 2 => stM_2 B M O y1 y2
  | 3 => stM_3 B M O y1 y2
  | 4 => stM_4 B M O 
  | 5 => stM_5 B M O y1
  | 6 => stM_6 B M O y1
  | 7 => stM_7 B M O y1
  | 8 => stM_8 B M O y1
  | 9 => stM_9 B M O y1
  | 10 => stM_10 B M O y1
  | 11 => stM_11 B M O y1
  | 12 => stM_12 B M O 
  | 13 => stM_13 B M O 
  | 14 => stM_14 B M O 
  | 15 => stM_15 B M O 
  | 16 => stM_16 B M O 
  | 17 => stM_17 B M O 
  | 18 => stM_18 B M O 
  | 19 => stM_19 B M O 
  | 20 => stM_20 B M O y1
  | 21 => stM_21 B M O y1 y2
  | 22 => stM_22 B M O y1 y2 y3 y4
  | 23 => stM_23 B M O y1
  | 24 => stM_24 B M O 
  | 25 => stM_25 B M O y1
  | 26 => stM_26 B M O y1
  | 27 => stM_27 B M O y1
  | 28 => stM_28 B M O y1
  | 29 => stM_29 B M O y1
  | 30 => stM_30 B M O y1
  | 31 => stM_31 B M O 
  | 32 => stM_32 B M O y1
  | 33 => stM_33 B M O y1
  | 34 => stM_34 B M O y1 y2
  | 35 => stM_35 B M O 
  | 36 => stM_36 B M O y1
  | 37 => stM_37 B M O y1
  | 38 => stM_38 B M O y1
  | 39 => stM_39 B M O y1
  | 40 => stM_40 B M O y1
  | 41 => stM_41 B M O y1
  | 42 => stM_42 B M O 
  | 43 => stM_43 B M O 
  | 44 => stM_44 B M O 
  | 45 => stM_45 B M O 
  | 46 => stM_46 B M O 
  | 47 => stM_47 B M O 
  | _ => M
def sOC (k : Nat) (B : StB) (M : StM) (O : StO) (y1 y2 y3 y4 : Int32) : StO := match k with
  | 0 => stO_0 B M O y1
  | 1 => stO_1 B M O y1 y2
  | 2 => stO_2 B M O y1 y2
  | 3 => stO_3 B M O y1 y2
  | 4 => stO_4 B M O 
  | 5 => stO_5 B M O y1
  | 6 => stO_6 B M O y1
  | 7 => stO_7 B M O y1
  | 8 => stO_8 B M O y1
  | 9 => stO_9 B M O y1
  | 10 => stO_10 B M O y1
  | 11 => stO_11 B M O y1
  | 12 => stO_12 B M O 
  | 13 => stO_13 B M O 
  | 14 => stO_14 B M O 
  | 15 => stO_15 B M O 
  | 16 => stO_16 B M O 
  | 17 => stO_17 B M O 
  | 18 => stO_18 B M O 
  | 19 => stO_19 B M O 
  | 20 => stO_20 B M O y1
  | 21 => stO_21 B M O y1 y2
  | 22 => stO_22 B M O y1 y2 y3 y4
  | 23 => stO_23 B M O y1
  | 24 => stO_24 B M O 
  | 25 => stO_25 B M O y1
  | 26 => stO_26 B M O y1
  | 27 => stO_27 B M O y1
  | 28 => stO_28 B M O y1
  | 29 => stO_29 B M O y1
  | 30 => stO_30 B M O y1
  | 31 => stO_31 B M O 
  | 32 => stO_32 B M O y1
  | 33 => stO_33 B M O y1
  | 34 => stO_34 B M O y1 y2
  | 35 => stO_35 B M O 
  | 36 => stO_36 B M O y1
  | 37 => stO_37 B M O y1
  | 38 => stO_38 B M O y1
  | 39 => stO_39 B M O y1
  | 40 => stO_40 B M O y1
  | 41 => stO_41 B M O y1
  | 42 => stO_42 B M O 
  | 43 => stO_43 B M O 
  | 44 => stO_44 B M O 
  | 45 => stO_45 B M O 
  | 46 => stO_46 B M O 
  | 47 => stO_47 B M O 
  | _ => O
theorem and63 (w : Int32) : ∃ k, k < 64 ∧ w &&& 63 = Int32.ofNat k := by
  refine ⟨w.toBitVec.toNat % 64, Nat.mod_lt _ (by decide), ?_⟩
  apply Int32.toBitVec_inj.mp
  rw [Int32.toBitVec_and]
  apply BitVec.eq_of_toNat_eq
  rw [BitVec.toNat_and]
  show w.toBitVec.toNat &&& 63 = _
  rw [Nat.and_two_pow_sub_one_eq_mod w.toBitVec.toNat 6]
  have : (Int32.ofNat (w.toBitVec.toNat % 64)).toBitVec.toNat = (w.toBitVec.toNat % 64) % 2 ^ 32 := by
    show (BitVec.ofNat 32 (w.toBitVec.toNat % 64)).toNat = _
    rw [BitVec.toNat_ofNat]
  rw [this]
  omega
theorem ofN_toInt {a : Nat} (h : a < 2 ^ 31) : (Int32.ofNat a).toInt = (a : Int) := Int32.toInt_ofNat_of_lt h
theorem ofN_cl {a : Nat} (h : a < 2 ^ 31) : (Int32.ofNat a).toNatClampNeg = a := by
  show (Int32.ofNat a).toInt.toNat = a
  rw [ofN_toInt h]
  rfl
theorem ofN_in {a L : Nat} (h : a < 2 ^ 31) (hl : a < L) : vp_in (Int32.ofNat a) L := by
  unfold vp_in
  rw [ofN_cl h]
  rintro (q | q)
  · rw [Int32.lt_iff_toInt_lt, ofN_toInt h] at q
    exact absurd q (by simp)
  · omega
theorem lenm {L : Nat} (hL : L ≤ 2560) : (Int32.ofNat L - 5).toInt = (L : Int) - 5 := by
  have h1 : (Int32.ofNat L).toInt = (L : Int) := ofN_toInt (by omega)
  have h2 : (5 : Int32).toInt = 5 := by decide
  rw [Int32.toInt_sub, h1, h2]
  rw [Int.bmod_def]
  split <;> omega
section LP
variable {p : Program} {l : Launch} {e : Env} {R : Room} {s : State} {m : MethodId} {args : Array Value} {below : List Frame} {meth : Method} {c : Code} {cells slots : Nat} {Q : State → Prop}
variable {A : Nat → Prop} {G : GT} {ad : Nat → Nat} {B : StB} {M : StM} {O : StO} {b L : Nat} {xs : Nat → Int32}
abbrev lsL (ad : Nat → Nat) (b : Nat) (i : Int32) : List (Nat × Value) := [(5, .int i), (0, .ref b), (1, .ref (ad 176)), (2, .ref (ad 193)), (3, .ref (ad 202)), (4, .ref (ad 203))]
set_option maxHeartbeats 4000000 in
set_option maxRecDepth 100000 in
theorem law_sw (C : CX p l s m args meth c A G ad cL_law "InkBankLaw" 9 (some .boolean)) (hX : va_X b L xs s s.heap ∧ b < s.heap.size ∧ ¬ A b) (hR : 60 ≤ R.frames ∧ 4000 ≤ R.locals) (hf : cells + 8 ≤ R.cells ∧ slots + 48 ≤ R.slots) {i : Int32} (hin : ∀ k : Int32, k = 1 ∨ k = 2 ∨ k = 3 ∨ k = 4 → vp_in (i + k) L) {x y1 y2 y3 y4 : Int32} (hy1 : xs (ix (i + 1)) = y1) (hy2 : xs (ix (i + 2)) = y2) (hy3 : xs (ix (i + 3)) = y3) (hy4 : xs (ix (i + 4)) = y4) (n : Nat) (hn : n < 64) (hx : x = Int32.ofNat n) (hok : okC n B M O y1 y2 y3 y4) (kk : X p l e R s m args below meth c A G ad 9 (cells + 8) (slots + 48) Q (sBC n B M O y1 y2 y3 y4) (sMC n B M O y1 y2 y3 y4) (sOC n B M O y1 y2 y3 y4) (lsL ad b i) 2497 []) : X p l e R s m args below meth c A G ad 9 cells slots Q B M O (lsL ad b i) 44 [.int x] := by
  by_cases h48 : 48 ≤ n
  · refine x_tabOut C dL_law_44 (tgt := 2497) (Or.inr ?_) (by decide) ?_
    · rw [hx, ofN_toInt (by omega)]
      omega
    · obtain ⟨j, rfl⟩ : ∃ j, n = 48 + j := ⟨n - 48, by omega⟩
      rw [Nat.add_comm 48 j] at kk
      exact x_wid (by omega) (by omega) kk
  · have h49 : n = 0 ∨ n = 1 ∨ n = 2 ∨ n = 3 ∨ n = 4 ∨ n = 5 ∨ n = 6 ∨ n = 7 ∨ n = 8 ∨ n = 9 ∨ n = 10 ∨ n = 11 ∨ n = 12 ∨ n = 13 ∨ n = 14 ∨ n = 15 ∨ n = 16 ∨ n = 17 ∨ n = 18 ∨ n = 19 ∨ n = 20 ∨ n = 21 ∨ n = 22 ∨ n = 23 ∨ n = 24 ∨ n = 25 ∨ n = 26 ∨ n = 27 ∨ n = 28 ∨ n = 29 ∨ n = 30 ∨ n = 31 ∨ n = 32 ∨ n = 33 ∨ n = 34 ∨ n = 35 ∨ n = 36 ∨ n = 37 ∨ n = 38 ∨ n = 39 ∨ n = 40 ∨ n = 41 ∨ n = 42 ∨ n = 43 ∨ n = 44 ∨ n = 45 ∨ n = 46 ∨ n = 47 := by omega
    clear hn h48
    rcases h49 with rfl | rfl | rfl | rfl | rfl | rfl | rfl | rfl | rfl | rfl | rfl | rfl | rfl | rfl | rfl | rfl | rfl | rfl | rfl | rfl | rfl | rfl | rfl | rfl | rfl | rfl | rfl | rfl | rfl | rfl | rfl | rfl | rfl | rfl | rfl | rfl | rfl | rfl | rfl | rfl | rfl | rfl | rfl | rfl | rfl | rfl | rfl | rfl
    · exact x_tabIn C dL_law_44 (z := 0) hx (by decide) (by decide) rfl (by decide) (law_c0 C hX hR hf hin hy1 hok kk)
    · exact x_tabIn C dL_law_44 (z := 1) hx (by decide) (by decide) rfl (by decide) (law_c1 C hX hR hf hin hy1 hy2 hok kk)
    · exact x_tabIn C dL_law_44 (z := 2) hx (by decide) (by decide) rfl (by decide) (law_c2 C hX hR hf hin hy1 hy2 hok kk)
    · exact x_tabIn C dL_law_44 (z := 3) hx (by decide) (by decide) rfl (by decide) (law_c3 C hX hR hf hin hy1 hy2 hok kk)
    · exact x_tabIn C dL_law_44 (z := 4) hx (by decide) (by decide) rfl (by decide) (law_c4 C hX hR hf hin  hok kk)
    · exact x_tabIn C dL_law_44 (z := 5) hx (by decide) (by decide) rfl (by decide) (law_c5 C hX hR hf hin hy1 hok kk)
    · exact x_tabIn C dL_law_44 (z := 6) hx (by decide) (by decide) rfl (by decide) (law_c6 C hX hR hf hin hy1 hok kk)
    · exact x_tabIn C dL_law_44 (z := 7) hx (by decide) (by decide) rfl (by decide) (law_c7 C hX hR hf hin hy1 hok kk)
    · exact x_tabIn C dL_law_44 (z := 8) hx (by decide) (by decide) rfl (by decide) (law_c8 C hX hR hf hin hy1 hok kk)
    · exact x_tabIn C dL_law_44 (z := 9) hx (by decide) (by decide) rfl (by decide) (law_c9 C hX hR hf hin hy1 hok kk)
    · exact x_tabIn C dL_law_44 (z := 10) hx (by decide) (by decide) rfl (by decide) (law_c10 C hX hR hf hin hy1 hok kk)
    · exact x_tabIn C dL_law_44 (z := 11) hx (by decide) (by decide) rfl (by decide) (law_c11 C hX hR hf hin hy1 hok kk)
    · exact x_tabIn C dL_law_44 (z := 12) hx (by decide) (by decide) rfl (by decide) (law_c12 C hX hR hf hin  hok kk)
    · exact x_tabIn C dL_law_44 (z := 13) hx (by decide) (by decide) rfl (by decide) (law_c13 C hX hR hf hin  hok kk)
    · exact x_tabIn C dL_law_44 (z := 14) hx (by decide) (by decide) rfl (by decide) (law_c14 C hX hR hf hin  hok kk)
    · exact x_tabIn C dL_law_44 (z := 15) hx (by decide) (by decide) rfl (by decide) (law_c15 C hX hR hf hin  hok kk)
    · exact x_tabIn C dL_law_44 (z := 16) hx (by decide) (by decide) rfl (by decide) (law_c16 C hX hR hf hin  hok kk)
    · exact x_tabIn C dL_law_44 (z := 17) hx (by decide) (by decide) rfl (by decide) (law_c17 C hX hR hf hin  hok kk)
    · exact x_tabIn C dL_law_44 (z := 18) hx (by decide) (by decide) rfl (by decide) (law_c18 C hX hR hf hin  hok kk)
    · exact x_tabIn C dL_law_44 (z := 19) hx (by decide) (by decide) rfl (by decide) (law_c19 C hX hR hf hin  hok kk)
    · exact x_tabIn C dL_law_44 (z := 20) hx (by decide) (by decide) rfl (by decide) (law_c20 C hX hR hf hin hy1 hok kk)
    · exact x_tabIn C dL_law_44 (z := 21) hx (by decide) (by decide) rfl (by decide) (law_c21 C hX hR hf hin hy1 hy2 hok kk)
    · exact x_tabIn C dL_law_44 (z := 22) hx (by decide) (by decide) rfl (by decide) (law_c22 C hX hR hf hin hy1 hy2 hy3 hy4 hok kk)
    · exact x_tabIn C dL_law_44 (z := 23) hx (by decide) (by decide) rfl (by decide) (law_c23 C hX hR hf hin hy1 hok kk)
    · exact x_tabIn C dL_law_44 (z := 24) hx (by decide) (by decide) rfl (by decide) (law_c24 C hX hR hf hin  hok kk)
    · exact x_tabIn C dL_law_44 (z := 25) hx (by decide) (by decide) rfl (by decide) (law_c25 C hX hR hf hin hy1 hok kk)
    · exact x_tabIn C dL_law_44 (z := 26) hx (by decide) (by decide) rfl (by decide) (law_c26 C hX hR hf hin hy1 hok kk)
    · exact x_tabIn C dL_law_44 (z := 27) hx (by decide) (by decide) rfl (by decide) (law_c27 C hX hR hf hin hy1 hok kk)
    · exact x_tabIn C dL_law_44 (z := 28) hx (by decide) (by decide) rfl (by decide) (law_c28 C hX hR hf hin hy1 hok kk)
    · exact x_tabIn C dL_law_44 (z := 29) hx (by decide) (by decide) rfl (by decide) (law_c29 C hX hR hf hin hy1 hok kk)
    · exact x_tabIn C dL_law_44 (z := 30) hx (by decide) (by decide) rfl (by decide) (law_c30 C hX hR hf hin hy1 hok kk)
    · exact x_tabIn C dL_law_44 (z := 31) hx (by decide) (by decide) rfl (by decide) (law_c31 C hX hR hf hin  hok kk)
    · exact x_tabIn C dL_law_44 (z := 32) hx (by decide) (by decide) rfl (by decide) (law_c32 C hX hR hf hin hy1 hok kk)
    · exact x_tabIn C dL_law_44 (z := 33) hx (by decide) (by decide) rfl (by decide) (law_c33 C hX hR hf hin hy1 hok kk)
    · exact x_tabIn C dL_law_44 (z := 34) hx (by decide) (by decide) rfl (by decide) (law_c34 C hX hR hf hin hy1 hy2 hok kk)
    · exact x_tabIn C dL_law_44 (z := 35) hx (by decide) (by decide) rfl (by decide) (law_c35 C hX hR hf hin  hok kk)
    · exact x_tabIn C dL_law_44 (z := 36) hx (by decide) (by decide) rfl (by decide) (law_c36 C hX hR hf hin hy1 hok kk)
    · exact x_tabIn C dL_law_44 (z := 37) hx (by decide) (by decide) rfl (by decide) (law_c37 C hX hR hf hin hy1 hok kk)
    · exact x_tabIn C dL_law_44 (z := 38) hx (by decide) (by decide) rfl (by decide) (law_c38 C hX hR hf hin hy1 hok kk)
    · exact x_tabIn C dL_law_44 (z := 39) hx (by decide) (by decide) rfl (by decide) (law_c39 C hX hR hf hin hy1 hok kk)
    · exact x_tabIn C dL_law_44 (z := 40) hx (by decide) (by decide) rfl (by decide) (law_c40 C hX hR hf hin hy1 hok kk)
    · exact x_tabIn C dL_law_44 (z := 41) hx (by decide) (by decide) rfl (by decide) (law_c41 C hX hR hf hin hy1 hok kk)
    · exact x_tabIn C dL_law_44 (z := 42) hx (by decide) (by decide) rfl (by decide) (law_c42 C hX hR hf hin  hok kk)
    · exact x_tabIn C dL_law_44 (z := 43) hx (by decide) (by decide) rfl (by decide) (law_c43 C hX hR hf hin  hok kk)
    · exact x_tabIn C dL_law_44 (z := 44) hx (by decide) (by decide) rfl (by decide) (law_c44 C hX hR hf hin  hok kk)
    · exact x_tabIn C dL_law_44 (z := 45) hx (by decide) (by decide) rfl (by decide) (law_c45 C hX hR hf hin  hok kk)
    · exact x_tabIn C dL_law_44 (z := 46) hx (by decide) (by decide) rfl (by decide) (law_c46 C hX hR hf hin  hok kk)
    · exact x_tabIn C dL_law_44 (z := 47) hx (by decide) (by decide) rfl (by decide) (law_c47 C hX hR hf hin  hok kk)
set_option maxHeartbeats 4000000 in
set_option maxRecDepth 100000 in
theorem law_loop (C : CX p l s m args meth c A G ad cL_law "InkBankLaw" 9 (some .boolean)) (hX : va_X b L xs s s.heap ∧ b < s.heap.size ∧ ¬ A b) (hR : 60 ≤ R.frames ∧ 4000 ≤ R.locals) (hL : L ≤ 2560) (Inv : Nat → StB → StM → Prop) (hInv : ∀ u B M, u < 512 → Inv u B M → ∀ (k : Nat) (O : StO) (y1 y2 y3 y4 : Int32), okC k B M O y1 y2 y3 y4 ∧ Inv (u + 1) (sBC k B M O y1 y2 y3 y4) (sMC k B M O y1 y2 y3 y4)) (ce se : Nat) (hce : ce ≤ R.cells ∧ se ≤ R.slots) (kend : ∀ B M O i, X p l e R s m args below meth c A G ad 9 ce se Q B M O (lsL ad b i) 2503 []) : ∀ (n u : Nat) (B : StB) (M : StM) (O : StO) (cells slots : Nat), Inv u B M → L < 5 * u + 5 + 5 * n → cells + 8 * n ≤ ce → slots + 48 * n ≤ se → u ≤ 512 → X p l e R s m args below meth c A G ad 9 cells slots Q B M O (lsL ad b (Int32.ofNat (5 * u))) 28 [] := by
  intro n
  induction n with
  | zero =>
    intro u B M O cells slots hI hn hc hs hu
    refine x_iload C 0 dL_law_28 rfl ?_
    refine x_aload_n C 1 dL_law_30 rfl rfl ?_
    refine x_slen C hX dL_law_31 ?_
    refine x_iconst C (v := 5) dL_law_32 (by decide) ?_
    refine x_isub C dL_law_33 ?_
    refine x_icmp_gt C dL_law_34 (tgt := 2503) (by decide) (fun _ => ?_) (fun h9 => absurd ?_ h9)
    · exact x_wid (by omega) (by omega) (kend B M O _)
    · rw [Int32.lt_iff_toInt_lt, lenm hL, ofN_toInt (by omega)]
      omega
  | succ n ih =>
    intro u B M O cells slots hI hn hc hs hu
    refine x_iload C 0 dL_law_28 rfl ?_
    refine x_aload_n C 1 dL_law_30 rfl rfl ?_
    refine x_slen C hX dL_law_31 ?_
    refine x_iconst C (v := 5) dL_law_32 (by decide) ?_
    refine x_isub C dL_law_33 ?_
    refine x_icmp_gt C dL_law_34 (tgt := 2503) (by decide) (fun _ => ?_) (fun h9 => ?_)
    · exact x_wid (by omega) (by omega) (kend B M O _)
    · rw [Int32.lt_iff_toInt_lt, lenm hL, ofN_toInt (by omega)] at h9
      have h5 : 5 * u + 5 ≤ L := by omega
      have hin : ∀ k : Int32, k = 1 ∨ k = 2 ∨ k = 3 ∨ k = 4 → vp_in (Int32.ofNat (5 * u) + k) L := by
        rintro k (rfl | rfl | rfl | rfl)
        · rw [show Int32.ofNat (5 * u) + 1 = Int32.ofNat (5 * u + 1) from (Int32.ofNat_add _ _).symm]
          exact ofN_in (by omega) (by omega)
        · rw [show Int32.ofNat (5 * u) + 2 = Int32.ofNat (5 * u + 2) from (Int32.ofNat_add _ _).symm]
          exact ofN_in (by omega) (by omega)
        · rw [show Int32.ofNat (5 * u) + 3 = Int32.ofNat (5 * u + 3) from (Int32.ofNat_add _ _).symm]
          exact ofN_in (by omega) (by omega)
        · rw [show Int32.ofNat (5 * u) + 4 = Int32.ofNat (5 * u + 4) from (Int32.ofNat_add _ _).symm]
          exact ofN_in (by omega) (by omega)
      refine x_aload_n C 1 dL_law_37 rfl rfl ?_
      refine x_iload C 0 dL_law_38 rfl ?_
      refine x_sld C hX (ofN_in (by omega) (by omega)) dL_law_40 ?_
      refine x_bipush C (v := 63) dL_law_41 (by decide) ?_
      refine x_iand C dL_law_43 ?_
      obtain ⟨k, hk, ek⟩ := and63 (xs (ix (Int32.ofNat (5 * u))))
      obtain ⟨g1, g2⟩ := hInv u B M (by omega) hI k O (xs (ix (Int32.ofNat (5 * u) + 1))) (xs (ix (Int32.ofNat (5 * u) + 2))) (xs (ix (Int32.ofNat (5 * u) + 3))) (xs (ix (Int32.ofNat (5 * u) + 4)))
      refine law_sw C hX hR ⟨by have := hce.1; omega, by have := hce.2; omega⟩ hin rfl rfl rfl rfl k hk ek g1 ?_
      refine x_iinc C (v := Int32.ofNat (5 * (u + 1))) 0 dL_law_2497 rfl ?_ (by decide) rfl ?_
      · show Int32.ofNat (5 * u) + Int32.ofInt 5 = _
        rw [show 5 * (u + 1) = 5 * u + 5 by omega, Int32.ofNat_add]
        rfl
      refine x_goto C dL_law_2500 (tgt := 28) (by decide) ?_
      exact ih (u + 1) _ _ _ _ _ g2 (by omega) (by omega) (by omega) (by omega)
end LP
