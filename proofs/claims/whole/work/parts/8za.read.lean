/-! the pure part: programs, read by the class -/
/-- digits: at most so many, from s on, v before -/
def isd (T : Nat → Int32) (ty s : Nat) : Prop := s < ty ∧ 48 ≤ (T s).toInt ∧ (T s).toInt ≤ 57
def rnL (T : Nat → Int32) (ty : Nat) : Nat → Nat → Int32 → Int32 × Nat
  | 0, s, v => (v, s)
  | m + 1, s, v => if s < ty ∧ 48 ≤ (T s).toInt ∧ (T s).toInt ≤ 57 then rnL T ty m (s + 1) (mx v 0 * 10 + (T s - 48)) else (v, s)
theorem rnL_1 {T : Nat → Int32} {ty m s : Nat} {v : Int32} (h : s < ty ∧ 48 ≤ (T s).toInt ∧ (T s).toInt ≤ 57) : rnL T ty (m + 1) s v = rnL T ty m (s + 1) (mx v 0 * 10 + (T s - 48)) := if_pos h
theorem rnL_0 {T : Nat → Int32} {ty m s : Nat} {v : Int32} (h : ¬ (s < ty ∧ 48 ≤ (T s).toInt ∧ (T s).toInt ≤ 57)) : rnL T ty (m + 1) s v = (v, s) := if_neg h
/-- a digit, or a number -/
def dn (T : Nat → Int32) (ty : Nat) (c : Int32) (s : Nat) : Int32 × Nat := if c = 68 then rnL T ty 1 s (-1) else rnL T ty 3 s (-1)
/-- a form -/
def rf (T : Nat → Int32) (ty : Nat) : List Int32 → Nat → Nat → (Nat → Int32) → Bool × Nat × (Nat → Int32)
  | [], s, _, vs => (true, s, vs)
  | c :: cs, s, f, vs => if c = 68 ∨ c = 78 then (if (dn T ty c s).1 < 0 then (false, (dn T ty c s).2, vs) else rf T ty cs (dn T ty c s).2 (f + 1) (ur vs f (dn T ty c s).1)) else (if s < ty ∧ T s = c then rf T ty cs (s + 1) f vs else (false, s, vs))
theorem rnL_le (T : Nat → Int32) (ty : Nat) : ∀ m s v, s ≤ ty → s ≤ (rnL T ty m s v).2 ∧ (rnL T ty m s v).2 ≤ ty := by
  intro m
  induction m with
  | zero => intro s v h; exact ⟨Nat.le_refl s, h⟩
  | succ m ih =>
    intro s v h
    unfold rnL
    split
    · rename_i h1
      have := ih (s + 1) (mx v 0 * 10 + (T s - 48)) (by omega)
      omega
    · exact ⟨Nat.le_refl s, h⟩
theorem dn_le (T : Nat → Int32) (ty : Nat) (c : Int32) (s : Nat) (h : s ≤ ty) : s ≤ (dn T ty c s).2 ∧ (dn T ty c s).2 ≤ ty := by
  unfold dn
  split
  · exact rnL_le T ty 1 s (-1) h
  · exact rnL_le T ty 3 s (-1) h
theorem rf_le (T : Nat → Int32) (ty : Nat) : ∀ cs s f vs, s ≤ ty → s ≤ (rf T ty cs s f vs).2.1 ∧ (rf T ty cs s f vs).2.1 ≤ ty := by
  intro cs
  induction cs with
  | nil => intro s f vs h; exact ⟨Nat.le_refl s, h⟩
  | cons c cs ih =>
    intro s f vs h
    unfold rf
    have r := dn_le T ty c s h
    split
    · split
      · exact r
      · have := ih (dn T ty c s).2 (f + 1) (ur vs f (dn T ty c s).1) r.2
        omega
    · split
      · have := ih (s + 1) f vs (by omega)
        omega
      · exact ⟨Nat.le_refl s, h⟩
/-- the class's reader at s -/
def RdB (T : Nat → Int32) (ty : Nat) (B : StB) (s : Nat) : Prop := ty ≤ 60 ∧ s ≤ ty ∧ bi B 179 1 = Int32.ofNat ty ∧ bi B 179 2 = Int32.ofNat s ∧ ∀ k, k < ty → ba B 180 k = T k
theorem RdB_p {T : Nat → Int32} {ty s s' : Nat} {B : StB} (h : RdB T ty B s) (hs : s' ≤ ty) : RdB T ty (sbi B 179 2 (Int32.ofNat s')) s' := by
  obtain ⟨a1, a2, a3, a4, a5⟩ := h
  refine ⟨a1, hs, ?_, ?_, fun k hk => a5 k hk⟩
  · rw [bi_sbi, if_neg (by omega)]
    exact a3
  · rw [bi_sbi, if_pos ⟨rfl, rfl⟩]
theorem sbi_sbi (B : StB) (p k : Nat) (v w : Int32) : sbi (sbi B p k v) p k w = sbi B p k w := by
  refine Prod.ext (funext fun a => funext fun b => ?_) rfl
  show (if a = p ∧ b = k then w else if a = p ∧ b = k then v else B.1 a b) = (if a = p ∧ b = k then w else B.1 a b)
  split <;> rfl
theorem isdC {T : Nat → Int32} {ty s : Nat} {B : StB} (h : RdB T ty B s) : ok_X4_isDigitHere B ∧ ((s < ty ∧ 48 ≤ (T s).toInt ∧ (T s).toInt ≤ 57) → f_X4_isDigitHere B = 1) ∧ (¬ (s < ty ∧ 48 ≤ (T s).toInt ∧ (T s).toInt ≤ 57) → f_X4_isDigitHere B = 0) := by
  obtain ⟨a1, a2, a3, a4, a5⟩ := h
  have l48 : (48 : Int32).toInt = 48 := by decide
  have l57 : (57 : Int32).toInt = 57 := by decide
  have hx : ix (Int32.ofNat s) = s := ix_o (by omega)
  have w : (bi B 179 1 ≤ bi B 179 2) ↔ ty ≤ s := by
    rw [a3, a4]
    exact le_ofN (by omega) (by omega)
  have hv : ¬ bi B 179 1 ≤ bi B 179 2 → vp_in (bi B 179 2) 60 := by
    intro h
    rw [w] at h
    rw [a4]
    exact in_o (by omega) (by omega)
  refine ⟨⟨fun _ => trivial, fun h => ⟨hv h, fun _ => trivial, fun _ => hv h⟩⟩, fun h => ?_, fun h => ?_⟩
  · unfold f_X4_isDigitHere
    rw [if_neg (by rw [w]; omega), a4, hx, a5 s h.1, if_neg (by rw [i32_lt]; omega), if_neg (by rw [i32_lt]; omega)]
  · unfold f_X4_isDigitHere
    by_cases h1 : ty ≤ s
    · rw [if_pos (w.mpr h1)]
    · rw [if_neg (mt w.mp h1), a4, hx, a5 s (by omega)]
      by_cases h2 : T s < 48
      · rw [if_pos h2]
      · rw [if_neg h2, if_pos (by rw [i32_lt] at h2 ⊢; omega)]
theorem L_num {T : Nat → Int32} {ty : Nat} (m0 : Nat) (hm0 : m0 ≤ 3) : ∀ (m n i s : Nat) (B : StB) (v : Int32), i + m = m0 → m < n → RdB T ty B s → ok_X4_readNumber_L4 n B (Int32.ofNat m0) v (Int32.ofNat i) ∧ f_X4_readNumber_L4 n B (Int32.ofNat m0) v (Int32.ofNat i) = ((rnL T ty m s v).1, sbi B 179 2 (Int32.ofNat (rnL T ty m s v).2)) := by
  intro m
  induction m with
  | zero =>
    intro n i s B v hi hn h
    obtain ⟨n, rfl⟩ : ∃ q, n = q + 1 := ⟨n - 1, by omega⟩
    have him : i = m0 := by omega
    subst him
    have w : Int32.ofNat i ≤ Int32.ofNat i := (le_ofN (by omega) (by omega)).mpr (Nat.le_refl i)
    refine ⟨⟨fun _ => trivial, fun h9 => absurd w h9⟩, ?_⟩
    unfold f_X4_readNumber_L4 rnL
    rw [if_pos w, ← h.2.2.2.1, sbi_self]
  | succ m ih =>
    intro n i s B v hi hn h
    obtain ⟨n, rfl⟩ : ∃ q, n = q + 1 := ⟨n - 1, by omega⟩
    have w : ¬ Int32.ofNat m0 ≤ Int32.ofNat i := by
      rw [le_ofN (by omega) (by omega)]
      omega
    obtain ⟨o, d1, d0⟩ := isdC h
    obtain ⟨a1, a2, a3, a4, a5⟩ := h
    have hx : ix (Int32.ofNat s) = s := ix_o (by omega)
    by_cases hd : s < ty ∧ 48 ≤ (T s).toInt ∧ (T s).toInt ≤ 57
    · have hR := RdB_p (s' := s + 1) ⟨a1, a2, a3, a4, a5⟩ (by omega)
      obtain ⟨r1, r2⟩ := ih n (i + 1) (s + 1) (sbi B 179 2 (Int32.ofNat (s + 1))) (mx v 0 * 10 + (T s - 48)) (by omega) (by omega) hR
      have hv : vp_in (bi B 179 2) 60 := by
        rw [a4]
        exact in_o (by omega) (by omega)
      refine ⟨⟨fun _ => trivial, fun _ => ⟨o, ?_⟩⟩, ?_⟩
      · intro r hr
        rw [hr, d1 hd]
        refine ⟨fun h9 => absurd h9 (by decide), fun _ => ⟨hv, ?_⟩⟩
        intro z hz
        rw [hz]
        intro z2 hz2
        rw [hz2, a4, hx, a5 s hd.1, oad1, oad1]
        exact r1
      · unfold f_X4_readNumber_L4
        rw [if_neg w, nm_eq, d1 hd, if_neg (by decide), nm_eq, nm_eq, a4, hx, a5 s hd.1, oad1, oad1, r2, sbi_sbi, rnL_1 hd]
    · refine ⟨⟨fun _ => trivial, fun _ => ⟨o, ?_⟩⟩, ?_⟩
      · intro r hr
        rw [hr, d0 hd]
        exact ⟨fun _ => trivial, fun h9 => absurd rfl h9⟩
      · unfold f_X4_readNumber_L4
        rw [if_neg w, nm_eq, d0 hd, if_pos rfl, rnL_0 hd, ← a4, sbi_self]
theorem numC {T : Nat → Int32} {ty s m : Nat} {B : StB} (hm : m ≤ 3) (h : RdB T ty B s) : ok_X4_readNumber B (Int32.ofNat m) ∧ f_X4_readNumber B (Int32.ofNat m) = ((rnL T ty m s (-1)).1, sbi B 179 2 (Int32.ofNat (rnL T ty m s (-1)).2)) := by
  have hfu : m < fu := by unfold fu; omega
  obtain ⟨r1, r2⟩ := L_num m hm m fu 0 s B (-1) (by omega) hfu h
  clear hfu
  refine ⟨r1, ?_⟩
  unfold f_X4_readNumber
  rw [nm_eq]
  have : f_X4_readNumber_L4 fu B (Int32.ofNat m) (-1) 0 = ((rnL T ty m s (-1)).1, sbi B 179 2 (Int32.ofNat (rnL T ty m s (-1)).2)) := r2
  rw [this]
theorem sgnC {T : Nat → Int32} {ty s : Nat} {B : StB} (c : Int32) (h : RdB T ty B s) : ok_X4_readSign B c ∧ ((s < ty ∧ T s = c) → f_X4_readSign B c = (1, sbi B 179 2 (Int32.ofNat (s + 1)))) ∧ (¬ (s < ty ∧ T s = c) → f_X4_readSign B c = (0, B)) := by
  obtain ⟨a1, a2, a3, a4, a5⟩ := h
  have hx : ix (Int32.ofNat s) = s := ix_o (by omega)
  have w : (bi B 179 1 ≤ bi B 179 2) ↔ ty ≤ s := by
    rw [a3, a4]
    exact le_ofN (by omega) (by omega)
  refine ⟨⟨fun _ => trivial, fun h => ?_⟩, fun h => ?_, fun h => ?_⟩
  · rw [w] at h
    rw [a4]
    exact in_o (by omega) (by omega)
  · unfold f_X4_readSign
    rw [if_neg (by rw [w]; omega), a4, hx, a5 s h.1, if_pos h.2, nm_eq, oad1]
  · unfold f_X4_readSign
    by_cases h1 : ty ≤ s
    · rw [if_pos (w.mpr h1)]
    · rw [if_neg (mt w.mp h1), a4, hx, a5 s (by omega), if_neg (fun h2 => h ⟨by omega, h2⟩)]
/-- the forms by their numbers -/
theorem kch : ∀ k, k < 10 → ∀ i, i < (kByt.getD k []).length → f_J0_charAt_5068e k (Int32.ofNat i) = (kByt.getD k []).getD i 0 := by decide +kernel
theorem klen : ∀ k, k < 10 → f_J0_length_8abf5 k = Int32.ofNat (kByt.getD k []).length ∧ kLen.getD k 0 = (kByt.getD k []).length ∧ (kByt.getD k []).length ≤ 30 := by decide +kernel
theorem kchok (k i : Nat) (hk : k < 10) (hi : i < (kByt.getD k []).length) : ok_J0_charAt_5068e k (Int32.ofNat i) := by
  have hl := klen k hk
  have key : ∀ k, k < 10 → ∀ i, i < (kByt.getD k []).length → narrow .char (.int (f_J0_charAt_5068e k (Int32.ofNat i))) = .int (f_J0_charAt_5068e k (Int32.ofNat i)) ∧ narrow .char (.int (f_J1_charAt_3b067 k (Int32.ofNat i))) = .int (f_J1_charAt_3b067 k (Int32.ofNat i)) := by decide +kernel
  have kk := key k hk i hi
  intro r hr
  refine ⟨by rw [hr]; exact (by decide : ¬ (1 : Int32) = 0), ⟨⟨?_, ?_⟩, ?_, kk.2⟩, ?_⟩
  · rw [show (0 : Int32) = Int32.ofNat 0 from rfl, lt_ofN (by omega) (by omega)]
    omega
  · rw [hl.2.1, lt_ofN (by omega) (by omega)]
    exact hi
  · rw [hl.2.1]
    exact in_o hi (by omega)
  · intro v hv
    rw [hv]
    exact kk.2
/-- how many values a form has -/
def cnt : List Int32 → Nat
  | [] => 0
  | c :: cs => (if c = 68 ∨ c = 78 then 1 else 0) + cnt cs
theorem L_form {T : Nat → Int32} {ty k : Nat} (hk : k < 10) (hne : kLen.getD k 0 ≠ 0) : ∀ (cs : List Int32) (n i f s : Nat) (B : StB), i ≤ (kByt.getD k []).length → (kByt.getD k []).drop i = cs → cs.length < n → f + cnt cs ≤ 4 → RdB T ty B s → ok_X4_readCommand_L45 n k B (Int32.ofNat f) (Int32.ofNat i) ∧ (f_X4_readCommand_L45 n k B (Int32.ofNat f) (Int32.ofNat i)).1 = (if (rf T ty cs s f (ba B 181)).1 = true then 1 else 0) ∧ RdB T ty (f_X4_readCommand_L45 n k B (Int32.ofNat f) (Int32.ofNat i)).2 (rf T ty cs s f (ba B 181)).2.1 ∧ (∀ j, ba (f_X4_readCommand_L45 n k B (Int32.ofNat f) (Int32.ofNat i)).2 181 j = (rf T ty cs s f (ba B 181)).2.2 j) ∧ Fg 179 182 B (f_X4_readCommand_L45 n k B (Int32.ofNat f) (Int32.ofNat i)).2 ∧ bi (f_X4_readCommand_L45 n k B (Int32.ofNat f) (Int32.ofNat i)).2 179 3 = bi B 179 3 ∧ (∀ j, ba (f_X4_readCommand_L45 n k B (Int32.ofNat f) (Int32.ofNat i)).2 180 j = ba B 180 j) := by
  have hl := klen k hk
  intro cs
  induction cs with
  | nil =>
    intro n i f s B hiL hd hn hf h
    obtain ⟨n, rfl⟩ : ∃ q, n = q + 1 := ⟨n - 1, by omega⟩
    have hi : (kByt.getD k []).length ≤ i := by
      have := congrArg List.length hd
      rw [List.length_drop] at this
      simp only [List.length_nil] at this
      omega
    have hil : i = (kByt.getD k []).length ∨ (kByt.getD k []).length < i := by omega
    have he : f_J0_isEmpty_aae02 k = 0 := by
      unfold f_J0_isEmpty_aae02
      rw [if_neg]
      rw [show (0 : Int32) = Int32.ofNat 0 from rfl, ofN_inj (by omega) (by omega)]
      exact hne
    have hi31 : i < 2 ^ 31 := by omega
    · have w : f_J0_length_8abf5 k ≤ Int32.ofNat i := by
        rw [hl.1, le_ofN (by omega) hi31]
        exact hi
      have ef : f_X4_readCommand_L45 (n + 1) k B (Int32.ofNat f) (Int32.ofNat i) = (1, B) := by
        unfold f_X4_readCommand_L45
        rw [nm_eq, if_pos w, nm_eq, he, if_pos rfl]
      rw [ef]
      refine ⟨?_, rfl, h, fun _ => rfl, Fg_r _ _ B, rfl, fun _ => rfl⟩
      intro r hr
      rw [hr]
      exact ⟨fun _ => trivial, fun h9 => absurd w h9⟩
  | cons c cs ih =>
    intro n i f s B hiL hd hn hf h
    obtain ⟨n, rfl⟩ : ∃ q, n = q + 1 := ⟨n - 1, by omega⟩
    simp only [List.length_cons] at hn
    have hi : i < (kByt.getD k []).length := by
      have := congrArg List.length hd
      rw [List.length_drop] at this
      simp only [List.length_cons] at this
      omega
    have hcs : (kByt.getD k []).drop (i + 1) = cs := by
      have := List.drop_add_one_eq_tail_drop (l := kByt.getD k []) (i := i)
      rw [this, hd]
      rfl
    have hc : (kByt.getD k []).getD i 0 = c := by
      have h1 : (kByt.getD k [])[i]? = some c := by
        have := congrArg (fun l => l[0]?) hd
        simpa using this
      rw [List.getD_eq_getElem?_getD, h1]
      rfl
    have ech : f_J0_charAt_5068e k (Int32.ofNat i) = c := (kch k hk i hi).trans hc
    have och := kchok k i hk hi
    have w : ¬ f_J0_length_8abf5 k ≤ Int32.ofNat i := by
      rw [hl.1, le_ofN (by omega) (by omega)]
      omega
    by_cases hdn : c = 68 ∨ c = 78
    · have hcnt : cnt (c :: cs) = 1 + cnt cs := by
        show (if c = 68 ∨ c = 78 then 1 else 0) + cnt cs = _
        rw [if_pos hdn]
      rw [hcnt] at hf
      have hf4 : Int32.ofNat f < 4 := by
        rw [show (4 : Int32) = Int32.ofNat 4 from rfl, lt_ofN (by omega) (by omega)]
        omega
      have hxf : ix (Int32.ofNat f) = f := ix_o (by omega)
      have hvf : vp_in (Int32.ofNat f) 4 := in_o (by omega) (by omega)
      have hle := dn_le T ty c s h.2.1
      -- the number that is read
      have N1 := numC (m := 1) (by omega) h
      have N3 := numC (m := 3) (by omega) h
      have eN : f_X4_readNumber B (if c = 68 then 1 else 3) = ((dn T ty c s).1, sbi B 179 2 (Int32.ofNat (dn T ty c s).2)) := by
        unfold dn
        split
        · exact N1.2
        · exact N3.2
      have hR := RdB_p h hle.2
      have hF1 : Fg 179 182 B (sbi B 179 2 (Int32.ofNat (dn T ty c s).2)) := Fg_i (Fg_r _ _ B) _ _ (by omega) (by omega)
      generalize hD : dn T ty c s = D at eN hR hF1 hle
      have hR2 : RdB T ty (sba (sbi B 179 2 (Int32.ofNat D.2)) 181 f D.1) D.2 := ⟨hR.1, hR.2.1, hR.2.2.1, hR.2.2.2.1, fun k hk => by rw [ba_sba, if_neg (by omega)]; exact hR.2.2.2.2 k hk⟩
      obtain ⟨r1, r2, r3, r4, r5, r6, r7⟩ := ih n (i + 1) (f + 1) D.2 (sba (sbi B 179 2 (Int32.ofNat D.2)) 181 f D.1) (by omega) hcs (by omega) (by omega) hR2
      have e181 : ba (sba (sbi B 179 2 (Int32.ofNat D.2)) 181 f D.1) 181 = ur (ba B 181) f D.1 := by
        funext j
        rw [ba_sba, ba_sbi, ur_ap]
        by_cases hj : j = f
        · rw [if_pos ⟨rfl, hj⟩, if_pos hj]
        · rw [if_neg (by omega), if_neg hj]
      rw [e181] at r2 r3 r4
      have erf : rf T ty (c :: cs) s f (ba B 181) = if D.1 < 0 then (false, D.2, ba B 181) else rf T ty cs D.2 (f + 1) (ur (ba B 181) f D.1) := by
        rw [rf, if_pos hdn, hD]
      rw [erf]
      by_cases hneg : D.1 < 0
      · have ef : f_X4_readCommand_L45 (n + 1) k B (Int32.ofNat f) (Int32.ofNat i) = (0, sbi B 179 2 (Int32.ofNat D.2)) := by
          rcases hdn with h68 | h78
          · rw [if_pos h68] at eN
            unfold f_X4_readCommand_L45
            rw [nm_eq, if_neg w, nm_eq, ech, if_pos h68, if_pos h68, nm_eq, eN]
            show (if D.1 < 0 then _ else _) = _
            rw [if_pos hneg]
          · have h68 : ¬ c = 68 := by
              rw [h78]
              decide
            rw [if_neg h68] at eN
            unfold f_X4_readCommand_L45
            rw [nm_eq, if_neg w, nm_eq, ech, if_neg h68, if_pos h78, if_neg h68, nm_eq, eN]
            show (if D.1 < 0 then _ else _) = _
            rw [if_pos hneg]
        rw [ef, if_pos hneg]
        refine ⟨?_, rfl, hR, fun _ => rfl, hF1, rfl, fun _ => rfl⟩
        intro r hr
        rw [hr]
        refine ⟨fun _ => trivial, fun _ => ⟨och, ?_⟩⟩
        intro r2' hr2
        rw [hr2, ech]
        refine ⟨fun h68 => ⟨fun _ => ⟨N1.1, ?_⟩, fun h9 => absurd h68 h9⟩, fun h68 => ⟨fun h78 => ⟨fun h9 => absurd h9 h68, fun _ => ⟨N3.1, ?_⟩⟩, fun h9 => absurd (hdn.resolve_left h68) h9⟩⟩
        · rw [if_pos h68] at eN
          intro z hz
          rw [hz, eN]
          exact ⟨fun _ => trivial, fun h9 => absurd hneg h9⟩
        · rw [if_neg h68] at eN
          intro z hz
          rw [hz, eN]
          exact ⟨fun _ => trivial, fun h9 => absurd hneg h9⟩
      · have ef : f_X4_readCommand_L45 (n + 1) k B (Int32.ofNat f) (Int32.ofNat i) = f_X4_readCommand_L45 n k (sba (sbi B 179 2 (Int32.ofNat D.2)) 181 f D.1) (Int32.ofNat (f + 1)) (Int32.ofNat (i + 1)) := by
          rcases hdn with h68 | h78
          · rw [if_pos h68] at eN
            rw [f_X4_readCommand_L45, nm_eq, if_neg w, nm_eq, ech, if_pos h68, if_pos h68, nm_eq, eN]
            show (if D.1 < 0 then _ else (if Int32.ofNat f < 4 then nm (sba (sbi B 179 2 (Int32.ofNat D.2)) 181 (ix (Int32.ofNat f)) D.1) _ else _)) = _
            rw [if_neg hneg, if_pos hf4, nm_eq, hxf, oad1, oad1]
          · have h68 : ¬ c = 68 := by
              rw [h78]
              decide
            rw [if_neg h68] at eN
            rw [f_X4_readCommand_L45, nm_eq, if_neg w, nm_eq, ech, if_neg h68, if_pos h78, if_neg h68, nm_eq, eN]
            show (if D.1 < 0 then _ else (if Int32.ofNat f < 4 then nm (sba (sbi B 179 2 (Int32.ofNat D.2)) 181 (ix (Int32.ofNat f)) D.1) _ else _)) = _
            rw [if_neg hneg, if_pos hf4, nm_eq, hxf, oad1, oad1]
        rw [ef, if_neg hneg]
        refine ⟨?_, r2, r3, r4, Fg_t (Fg_a hF1 _ _ (by omega) (by omega)) r5, r6, fun j => (r7 j).trans (by rw [ba_sba, if_neg (by omega)]; rfl)⟩
        intro r hr
        rw [hr]
        refine ⟨fun _ => trivial, fun _ => ⟨och, ?_⟩⟩
        intro r2' hr2
        rw [hr2, ech]
        refine ⟨fun h68 => ⟨fun _ => ⟨N1.1, ?_⟩, fun h9 => absurd h68 h9⟩, fun h68 => ⟨fun h78 => ⟨fun h9 => absurd h9 h68, fun _ => ⟨N3.1, ?_⟩⟩, fun h9 => absurd (hdn.resolve_left h68) h9⟩⟩
        · rw [if_pos h68] at eN
          intro z hz
          rw [hz, eN]
          refine ⟨fun h9 => absurd h9 hneg, fun _ => ⟨fun _ => ⟨hvf, ?_⟩, fun _ => trivial⟩⟩
          intro z2 hz2
          rw [hz2, hxf, oad1, oad1]
          exact r1
        · rw [if_neg h68] at eN
          intro z hz
          rw [hz, eN]
          refine ⟨fun h9 => absurd h9 hneg, fun _ => ⟨fun _ => ⟨hvf, ?_⟩, fun _ => trivial⟩⟩
          intro z2 hz2
          rw [hz2, hxf, oad1, oad1]
          exact r1
    · have h68 : ¬ c = 68 := fun h => hdn (Or.inl h)
      have h78 : ¬ c = 78 := fun h => hdn (Or.inr h)
      have hcnt : cnt (c :: cs) = cnt cs := by
        show (if c = 68 ∨ c = 78 then 1 else 0) + cnt cs = _
        rw [if_neg hdn, Nat.zero_add]
      rw [hcnt] at hf
      obtain ⟨os, s1, s0⟩ := sgnC c h
      by_cases hm : s < ty ∧ T s = c
      · have hR := RdB_p (s' := s + 1) h (by omega)
        obtain ⟨r1, r2, r3, r4, r5, r6, r7⟩ := ih n (i + 1) f (s + 1) (sbi B 179 2 (Int32.ofNat (s + 1))) (by omega) hcs (by omega) (by omega) hR
        have erf : rf T ty (c :: cs) s f (ba B 181) = rf T ty cs (s + 1) f (ba B 181) := by
          rw [rf, if_neg hdn, if_pos hm]
        have ef : f_X4_readCommand_L45 (n + 1) k B (Int32.ofNat f) (Int32.ofNat i) = f_X4_readCommand_L45 n k (sbi B 179 2 (Int32.ofNat (s + 1))) (Int32.ofNat f) (Int32.ofNat (i + 1)) := by
          rw [f_X4_readCommand_L45, nm_eq, if_neg w, nm_eq, ech, if_neg h68, if_neg h78, nm_eq, s1 hm]
          show (if (1 : Int32) = 0 then _ else _) = _
          rw [if_neg (by decide), oad1]
        rw [ef, erf]
        refine ⟨?_, r2, r3, r4, Fg_t (Fg_i (Fg_r _ _ B) _ _ (by omega) (by omega)) r5, r6, r7⟩
        intro r hr
        rw [hr]
        refine ⟨fun _ => trivial, fun _ => ⟨och, ?_⟩⟩
        intro r2' hr2
        rw [hr2, ech]
        refine ⟨fun h9 => absurd h9 h68, fun _ => ⟨fun h9 => absurd h9 h78, fun _ => ⟨os, ?_⟩⟩⟩
        intro z hz
        rw [hz, s1 hm, oad1]
        exact ⟨fun h9 => absurd (show (1 : Int32) = 0 from h9) (by decide), fun _ => r1⟩
      · have erf : rf T ty (c :: cs) s f (ba B 181) = (false, s, ba B 181) := by
          rw [rf, if_neg hdn, if_neg hm]
        have ef : f_X4_readCommand_L45 (n + 1) k B (Int32.ofNat f) (Int32.ofNat i) = (0, B) := by
          rw [f_X4_readCommand_L45, nm_eq, if_neg w, nm_eq, ech, if_neg h68, if_neg h78, nm_eq, s0 hm]
          rfl
        rw [ef, erf]
        refine ⟨?_, rfl, h, fun _ => rfl, Fg_r _ _ B, rfl, fun _ => rfl⟩
        intro r hr
        rw [hr]
        refine ⟨fun _ => trivial, fun _ => ⟨och, ?_⟩⟩
        intro r2' hr2
        rw [hr2, ech]
        refine ⟨fun h9 => absurd h9 h68, fun _ => ⟨fun h9 => absurd h9 h78, fun _ => ⟨os, ?_⟩⟩⟩
        intro z hz
        rw [hz, s0 hm]
        exact ⟨fun _ => trivial, fun h9 => absurd rfl h9⟩
