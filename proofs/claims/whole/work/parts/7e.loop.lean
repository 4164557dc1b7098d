/-! the law's loop -/
def okC (k : Nat) (B : StB) (M : StM) (O : StO) (y1 y2 y3 y4 : Int32) : Prop := match k with
  | _ => True
def sBC (k : Nat) (B : StB) (M : StM) (O : StO) (y1 y2 y3 y4 : Int32) : StB := match k with
  | _ => B
def sMC (k : Nat) (B : StB) (M : StM) (O : StO) (y1 y2 y3 y4 : Int32) : StM := match k with
  | _ => M
def sOC (k : Nat) (B : StB) (M : StM) (O : StO) (y1 y2 y3 y4 : Int32) : StO := match k with
  | _ => O
theorem and63 (w : Int32) : ∃ k, k < 64 ∧ w &&& 63 = Int32.ofNat k := by
  refine ⟨w.toBitVec.toNat % 64, Nat.mod_lt _ (by decide), ?_⟩
  apply Int32.toBitVec_inj.mp
  rw [Int32.toBitVec_and]
  apply BitVec.eq_of_toNat_eq
  rw [BitVec.toNat_and]
  show w.toBitVec.toNat &&& 63 = _
  rw [Nat.and_two_pow_sub_one_eq_mod w.toBitVec.toNat 6]
  have : (Int32.ofNat (w.toBitVec.toNat % 64)).toBitVec.toNat = (w.toBitVec.toNat % 64) % 2 ^ 32 := by
    simp [Int32.ofNat]
  rw [this]
  omega
theorem ofN_toInt {a : Nat} (h : a < 2 ^ 31) : (Int32.ofNat a).toInt = (a : Int) := Int32.toInt_ofNat_of_lt h
theorem ofN_cl {a : Nat} (h : a < 2 ^ 31) : (Int32.ofNat a).toNatClampNeg = a := by
  show (Int32.ofNat a).toInt.toNat = a
  rw [ofN_toInt h]
  rfl
theorem ofN_in {a L : Nat} (h : a < 2 ^ 31) (hl : a < L) : vp_in (Int32.ofNat a) L := by
  unfold vp_in
  rw [ofN_cl h]
  rintro (q | q)
  · rw [Int32.lt_iff_toInt_lt, ofN_toInt h] at q
    exact absurd q (by simp)
  · omega
theorem lenm {L : Nat} (hL : L ≤ 2560) : (Int32.ofNat L - 5).toInt = (L : Int) - 5 := by
  have h1 : (Int32.ofNat L).toInt = (L : Int) := ofN_toInt (by omega)
  have h2 : (5 : Int32).toInt = 5 := by decide
  rw [Int32.toInt_sub, h1, h2]
  rw [Int.bmod_def]
  split <;> omega
section LP
variable {p : Program} {l : Launch} {e : Env} {R : Room} {s : State} {m : MethodId} {args : Array Value} {below : List Frame} {meth : Method} {c : Code} {cells slots : Nat} {Q : State → Prop}
variable {A : Nat → Prop} {G : GT} {ad : Nat → Nat} {B : StB} {M : StM} {O : StO} {b L : Nat} {xs : Nat → Int32}
abbrev lsL (ad : Nat → Nat) (b : Nat) (i : Int32) : List (Nat × Value) := [(5, .int i), (0, .ref b), (1, .ref (ad 176)), (2, .ref (ad 193)), (3, .ref (ad 202)), (4, .ref (ad 203))]
set_option maxHeartbeats 4000000 in
set_option maxRecDepth 100000 in
theorem law_sw (C : CX p l s m args meth c A G ad cL_law "InkBankLaw" 9 (some .boolean)) (hX : va_X b L xs s s.heap ∧ b < s.heap.size ∧ ¬ A b) (hR : 60 ≤ R.frames ∧ 4000 ≤ R.locals) (hf : cells + 8 ≤ R.cells ∧ slots + 48 ≤ R.slots) {i : Int32} (hin : ∀ k : Int32, k = 1 ∨ k = 2 ∨ k = 3 ∨ k = 4 → vp_in (i + k) L) {x y1 y2 y3 y4 : Int32} (hy1 : xs (ix (i + 1)) = y1) (hy2 : xs (ix (i + 2)) = y2) (hy3 : xs (ix (i + 3)) = y3) (hy4 : xs (ix (i + 4)) = y4) (n : Nat) (hn : n < 64) (hx : x = Int32.ofNat n) (hok : okC n B M O y1 y2 y3 y4) (kk : X p l e R s m args below meth c A G ad 9 (cells + 8) (slots + 48) Q (sBC n B M O y1 y2 y3 y4) (sMC n B M O y1 y2 y3 y4) (sOC n B M O y1 y2 y3 y4) (lsL ad b i) 2497 []) : X p l e R s m args below meth c A G ad 9 cells slots Q B M O (lsL ad b i) 44 [.int x] := by
  by_cases h48 : 48 ≤ n
  · refine x_tabOut C dL_law_44 (tgt := 2497) (Or.inr ?_) (by decide) ?_
    · rw [hx, ofN_toInt (by omega)]
      omega
    · obtain ⟨j, rfl⟩ : ∃ j, n = 48 + j := ⟨n - 48, by omega⟩
      rw [Nat.add_comm 48 j] at kk
      exact x_wid (by omega) (by omega) kk
  · have h48 : n < 48 := by omega
    clear hn
    match n, h48 with
    | 0, _ => sorry
    | 1, _ => sorry
    | 2, _ => sorry
    | 3, _ => sorry
    | 4, _ => sorry
    | 5, _ => sorry
    | 6, _ => sorry
    | 7, _ => sorry
    | 8, _ => sorry
    | 9, _ => sorry
    | 10, _ => sorry
    | 11, _ => sorry
    | 12, _ => sorry
    | 13, _ => sorry
    | 14, _ => sorry
    | 15, _ => sorry
    | 16, _ => sorry
    | 17, _ => sorry
    | 18, _ => sorry
    | 19, _ => sorry
    | 20, _ => sorry
    | 21, _ => sorry
    | 22, _ => sorry
    | 23, _ => sorry
    | 24, _ => sorry
    | 25, _ => sorry
    | 26, _ => sorry
    | 27, _ => sorry
    | 28, _ => sorry
    | 29, _ => sorry
    | 30, _ => sorry
    | 31, _ => sorry
    | 32, _ => sorry
    | 33, _ => sorry
    | 34, _ => sorry
    | 35, _ => sorry
    | 36, _ => sorry
    | 37, _ => sorry
    | 38, _ => sorry
    | 39, _ => sorry
    | 40, _ => sorry
    | 41, _ => sorry
    | 42, _ => sorry
    | 43, _ => sorry
    | 44, _ => sorry
    | 45, _ => sorry
    | 46, _ => sorry
    | 47, _ => sorry
set_option maxHeartbeats 4000000 in
set_option maxRecDepth 100000 in
theorem law_loop (C : CX p l s m args meth c A G ad cL_law "InkBankLaw" 9 (some .boolean)) (hX : va_X b L xs s s.heap ∧ b < s.heap.size ∧ ¬ A b) (hR : 60 ≤ R.frames ∧ 4000 ≤ R.locals) (hL : L ≤ 2560) (Inv : Nat → StB → StM → Prop) (hInv : ∀ u B M, u < 512 → Inv u B M → ∀ (k : Nat) (O : StO) (y1 y2 y3 y4 : Int32), okC k B M O y1 y2 y3 y4 ∧ Inv (u + 1) (sBC k B M O y1 y2 y3 y4) (sMC k B M O y1 y2 y3 y4)) (ce se : Nat) (hce : ce ≤ R.cells ∧ se ≤ R.slots) (kend : ∀ B M O i, X p l e R s m args below meth c A G ad 9 ce se Q B M O (lsL ad b i) 2503 []) : ∀ (n u : Nat) (B : StB) (M : StM) (O : StO) (cells slots : Nat), Inv u B M → L < 5 * u + 5 + 5 * n → cells + 8 * n ≤ ce → slots + 48 * n ≤ se → u ≤ 512 → X p l e R s m args below meth c A G ad 9 cells slots Q B M O (lsL ad b (Int32.ofNat (5 * u))) 28 [] := by
  intro n
  induction n with
  | zero =>
    intro u B M O cells slots hI hn hc hs hu
    refine x_iload C 0 dL_law_28 rfl ?_
    refine x_aload_n C 1 dL_law_30 rfl rfl ?_
    refine x_slen C hX dL_law_31 ?_
    refine x_iconst C (v := 5) dL_law_32 (by decide) ?_
    refine x_isub C dL_law_33 ?_
    refine x_icmp_gt C dL_law_34 (tgt := 2503) (by decide) (fun _ => ?_) (fun h9 => absurd ?_ h9)
    · exact x_wid (by omega) (by omega) (kend B M O _)
    · rw [Int32.lt_iff_toInt_lt, lenm hL, ofN_toInt (by omega)]
      omega
  | succ n ih =>
    intro u B M O cells slots hI hn hc hs hu
    refine x_iload C 0 dL_law_28 rfl ?_
    refine x_aload_n C 1 dL_law_30 rfl rfl ?_
    refine x_slen C hX dL_law_31 ?_
    refine x_iconst C (v := 5) dL_law_32 (by decide) ?_
    refine x_isub C dL_law_33 ?_
    refine x_icmp_gt C dL_law_34 (tgt := 2503) (by decide) (fun _ => ?_) (fun h9 => ?_)
    · exact x_wid (by omega) (by omega) (kend B M O _)
    · rw [Int32.lt_iff_toInt_lt, lenm hL, ofN_toInt (by omega)] at h9
      have h5 : 5 * u + 5 ≤ L := by omega
      have hin : ∀ k : Int32, k = 1 ∨ k = 2 ∨ k = 3 ∨ k = 4 → vp_in (Int32.ofNat (5 * u) + k) L := by
        rintro k (rfl | rfl | rfl | rfl)
        · rw [show Int32.ofNat (5 * u) + 1 = Int32.ofNat (5 * u + 1) from (Int32.ofNat_add _ _).symm]
          exact ofN_in (by omega) (by omega)
        · rw [show Int32.ofNat (5 * u) + 2 = Int32.ofNat (5 * u + 2) from (Int32.ofNat_add _ _).symm]
          exact ofN_in (by omega) (by omega)
        · rw [show Int32.ofNat (5 * u) + 3 = Int32.ofNat (5 * u + 3) from (Int32.ofNat_add _ _).symm]
          exact ofN_in (by omega) (by omega)
        · rw [show Int32.ofNat (5 * u) + 4 = Int32.ofNat (5 * u + 4) from (Int32.ofNat_add _ _).symm]
          exact ofN_in (by omega) (by omega)
      refine x_aload_n C 1 dL_law_37 rfl rfl ?_
      refine x_iload C 0 dL_law_38 rfl ?_
      refine x_sld C hX (ofN_in (by omega) (by omega)) dL_law_40 ?_
      refine x_bipush C (v := 63) dL_law_41 (by decide) ?_
      refine x_iand C dL_law_43 ?_
      obtain ⟨k, hk, ek⟩ := and63 (xs (ix (Int32.ofNat (5 * u))))
      obtain ⟨g1, g2⟩ := hInv u B M (by omega) hI k O (xs (ix (Int32.ofNat (5 * u) + 1))) (xs (ix (Int32.ofNat (5 * u) + 2))) (xs (ix (Int32.ofNat (5 * u) + 3))) (xs (ix (Int32.ofNat (5 * u) + 4)))
      refine law_sw C hX hR ⟨by have := hce.1; omega, by have := hce.2; omega⟩ hin rfl rfl rfl rfl k hk ek g1 ?_
      refine x_iinc C (v := Int32.ofNat (5 * (u + 1))) 0 dL_law_2497 rfl ?_ (by decide) rfl ?_
      · show Int32.ofNat (5 * u) + Int32.ofInt 5 = _
        rw [show 5 * (u + 1) = 5 * u + 5 by omega, Int32.ofNat_add]
        rfl
      refine x_goto C dL_law_2500 (tgt := 28) (by decide) ?_
      exact ih (u + 1) _ _ _ _ _ g2 (by omega) (by omega) (by omega) (by omega)
end LP
