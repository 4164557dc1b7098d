/-! the law's own cells come and go: worlds that change -/
abbrev xG (G : GT) (a b : Nat) : GT := (G.1, G.2.1, G.2.2.1, G.2.2.2.1, fun k => if k = 2 then a else if k = 3 then b else G.2.2.2.2 k)
abbrev xadL (ad : Nat → Nat) (q : Nat → Nat) : Nat → Nat := fun p => if p < 193 then ad p else q (p - 193)
theorem xad_lt {ad q : Nat → Nat} {p : Nat} (h : p < 193) : xadL ad q p = ad p := if_pos h
theorem entC_x {G : GT} {ad q : Nat → Nat} {a b p : Nat} {fi : Nat → Int32} {fl : Nat → Int64} {fa : Nat → Int32} {z : Nat} (h : p < 193) : entC (xG G a b) (xadL ad q) p fi fl fa z = entC G ad p fi fl fa z := by
  unfold entC
  by_cases h1 : p < 176
  · rw [if_pos h1, if_pos h1]
    obtain ⟨t, r, rfl, hr⟩ : ∃ t r, p = 16 * t + r ∧ r < 16 := ⟨p / 16, p % 16, (Nat.div_add_mod p 16).symm, Nat.mod_lt _ (by decide)⟩
    have e : (16 * t + r) % 16 = r := by omega
    rw [e]
    match r, hr with
    | 0, _ => simp (disch := omega) only [xad_lt]
    | 1, _ => simp (disch := omega) only [xad_lt]
    | 2, _ => rfl
    | 3, _ => rfl
    | 4, _ => rfl
    | 5, _ => rfl
    | 6, _ => simp (disch := omega) only [xad_lt]
    | 7, _ => rfl
    | 8, _ => rfl
    | 9, _ => rfl
    | 10, _ => rfl
    | 11, _ => rfl
    | 12, _ => simp (disch := omega) only [xad_lt]
    | 13, _ => rfl
    | 14, _ => rfl
    | 15, _ => rfl
    | r + 16, h => exact absurd h (by omega)
  · rw [if_neg h1, if_neg h1]
    obtain ⟨j, rfl⟩ : ∃ j, p = 176 + j := ⟨p - 176, by omega⟩
    rw [Nat.add_sub_cancel_left]
    have hj : j < 17 := by omega
    have e1 : (fun j => if j < 8 then some (xadL ad q (48 + 16 * j)) else none) = (fun j => if j < 8 then some (ad (48 + 16 * j)) else none) := by
      funext j
      by_cases h8 : j < 8
      · rw [if_pos h8, if_pos h8, xad_lt (by omega)]
      · rw [if_neg h8, if_neg h8]
    have e2 : (fun j => if j < 8 then some (xadL ad q (183 + j)) else none) = (fun j => if j < 8 then some (ad (183 + j)) else none) := by
      funext j
      by_cases h8 : j < 8
      · rw [if_pos h8, if_pos h8, xad_lt (by omega)]
      · rw [if_neg h8, if_neg h8]
    clear h h1
    match j, hj with
    | 0, _ => rfl
    | 1, _ => rfl
    | 2, _ => exact congrArg (fun f => (Sum.inl (G.2.1 4, 8, .inr (.inr (.inr (.inr f)))) : va_E)) e1
    | 3, _ => rfl
    | 4, _ => rfl
    | 5, _ => rfl
    | 6, _ => exact congrArg (fun f => (Sum.inl (G.2.1 5, 8, .inr (.inr (.inr (.inr f)))) : va_E)) e2
    | 7, _ => rfl
    | 8, _ => rfl
    | 9, _ => rfl
    | 10, _ => rfl
    | 11, _ => rfl
    | 12, _ => rfl
    | 13, _ => rfl
    | 14, _ => rfl
    | 15, _ => rfl
    | 16, _ => rfl
    | j + 17, h => exact absurd h (by omega)
/-- the same below the law's own places -/
def Lo (B B' : StB) : Prop := (∀ p, p < 193 → B'.1 p = B.1 p ∧ B'.2.1 p = B.2.1 p ∧ B'.2.2.1 p = B.2.2.1 p) ∧ B'.2.2.2 = B.2.2.2
theorem Lo.rf (B : StB) : Lo B B := ⟨fun _ _ => ⟨rfl, rfl, rfl⟩, rfl⟩
theorem Lo.sbi {B B' : StB} (h : Lo B B') {p k : Nat} {v : Int32} (hp : 193 ≤ p) : Lo B (sbi B' p k v) := ⟨fun q hq => ⟨(up2_ne _ _ _ _ (by omega)).trans (h.1 q hq).1, (h.1 q hq).2⟩, h.2⟩
theorem Lo.saf {B B' : StB} (h : Lo B B') {p : Nat} {g : Nat → Int32} (hp : 193 ≤ p) : Lo B (saf B' p g) := ⟨fun q hq => ⟨(h.1 q hq).1, (h.1 q hq).2.1, (if_neg (by omega)).trans (h.1 q hq).2.2⟩, h.2⟩
theorem ent_x {G : GT} {ad q : Nat → Nat} {a b p : Nat} {B B' : StB} {M : StM} {O : StO} (h : p < 193) (hb : Lo B B') : ent (xG G a b) (xadL ad q) B' M O p = ent G ad B M O p := by
  unfold ent
  rw [if_pos h, if_pos h, entC_x h, (hb.1 p h).1, (hb.1 p h).2.1, (hb.1 p h).2.2, hb.2]
theorem ent_xx {G : GT} {ad q q2 : Nat → Nat} {a b a2 b2 p : Nat} {B B' : StB} {M : StM} {O : StO} (h : p < 193) (hb : Lo B B') : ent (xG G a b) (xadL ad q) B' M O p = ent (xG G a2 b2) (xadL ad q2) B M O p := by
  rw [ent_x h hb, ent_x h (Lo.rf B)]
theorem fx_x {G : GT} {a b : Nat} {A : Nat → Prop} {U : State} (h : Fx G A U) : Fx (xG G a b) A U := by
  obtain ⟨h1, h2, h3, h4, h5, h6, h7, h8, h9, i1, i2, i3, i4, i5, i6, i7, i8, i9, i10⟩ := h
  refine ⟨h1, h2, h3, h4, h5, h6, h7, h8, h9, i1, i2, i3, i4, i5, i6, ?_, i8, i9, i10⟩
  have e : scx (xG G a b) = scx G := by
    funext j
    show Int32.ofNat (if 10 + j = 2 then a else if 10 + j = 3 then b else G.2.2.2.2 (10 + j)) = _
    rw [if_neg (by omega), if_neg (by omega)]
    rfl
  rw [e]
  exact i7
theorem wl_len {G : GT} {ad : Nat → Nat} {B : StB} {M : StM} {O : StO} : (wl G ad B M O).length = 193 + G.2.2.2.2 3 := by simp [wl]
section XYX
variable {p : Program} {l : Launch} {e : Env} {R : Room} {s : State} {m : MethodId} {args : Array Value} {below : List Frame} {meth : Method} {c : Code} {cells slots : Nat} {Q : State → Prop}
variable {A : Nat → Prop} {G : GT} {ad : Nat → Nat} {cc : ByteArray} {own : String} {nL : Nat} {ret : Option FieldType} {B : StB} {M : StM} {O : StO} {ls : List (Nat × Value)} {pc : Nat} {rest stk : List Value} {w0 L : va_W}
theorem cy_of (C : CX p l s m args meth c A G ad cc own nL ret) : CY p s m args meth c A G cc own nL ret := ⟨C.1, C.2.1, C.2.2.1, C.2.2.2.1, C.2.2.2.2.1, C.2.2.2.2.2.1, C.2.2.2.2.2.2.1, C.2.2.2.2.2.2.1.2.2.2.2.2.2.2.2.2.2.2.2.2.2.2.2.2.2, C.2.2.2.2.2.2.2.2.1, C.2.2.2.2.2.2.2.2.2.1, C.2.2.2.2.2.2.2.2.2.2⟩
theorem cx_x (C : CX p l s m args meth c A G ad cc own nL ret) {a b : Nat} {q : Nat → Nat} (h : AdOk A (xG G a b) (xadL ad q)) : CX p l s m args meth c A (xG G a b) (xadL ad q) cc own nL ret := ⟨C.1, C.2.1, C.2.2.1, C.2.2.2.1, C.2.2.2.2.1, C.2.2.2.2.2.1, fx_x C.2.2.2.2.2.2.1, ⟨C.2.2.2.2.2.2.2.1.1, h⟩, C.2.2.2.2.2.2.2.2.1, C.2.2.2.2.2.2.2.2.2.1, C.2.2.2.2.2.2.2.2.2.2⟩
theorem x_toY (C : CX p l s m args meth c A G ad cc own nL ret) (k : Y p l e R s m args below meth c A G nL cells slots Q (wl G ad B M O) [] ls pc stk) : X p l e R s m args below meth c A G ad nL cells slots Q B M O ls pc stk := fun H locs la hP hS hl => k H locs la (by rw [List.append_nil]; exact hP) (by rw [List.append_nil]; exact wl_D C.2.2.2.2.2.2.2.1.2) hS hl
theorem y_toX {G2 : GT} {ad2 : Nat → Nat} {B2 : StB} {M2 : StM} {O2 : StO} (g : Nat → Nat) (hG : G2.1 = G.1) (hg : ∀ i j, i < 193 + G2.2.2.2.2 3 → j < 193 + G2.2.2.2.2 3 → g i = g j → i = j) (he : ∀ k, k < 193 + G2.2.2.2.2 3 → (w0 ++ L)[g k]? = some (ad2 k, ent G2 ad2 B2 M2 O2 k)) (k : AdOk A G2 ad2 → X p l e R s m args below meth c A G2 ad2 nL cells slots Q B2 M2 O2 ls pc stk) : Y p l e R s m args below meth c A G nL cells slots Q w0 L ls pc stk := fun H locs la hP hD hS hl => by
  have hlt : ∀ (i : Nat) (q : Nat × va_E), (wl G2 ad2 B2 M2 O2)[i]? = some q → i < 193 + G2.2.2.2.2 3 ∧ (w0 ++ L)[g i]? = some q := by
    intro i q hi
    have h1 : i < 193 + G2.2.2.2.2 3 := by
      have := (List.getElem?_eq_some_iff.mp hi).1
      rw [wl_len] at this
      exact this
    refine ⟨h1, ?_⟩
    rw [wl_at ⟨h1, rfl⟩] at hi
    rw [he i h1]
    exact hi
  have hok : AdOk A G2 ad2 := by
    refine ⟨fun i j hi hj h => hg i j hi hj (hD.1 _ _ _ _ (he i hi) (he j hj) h), fun i hi => hD.2 _ _ (he i hi)⟩
  refine k hok H locs la (fun i q hi => ?_) hS hl
  rw [hG]
  exact hP _ _ (hlt i q hi).2
theorem x_back (hG : G.2.2.2.2 3 = 0) {a b : Nat} {q : Nat → Nat} (k : X p l e R s m args below meth c A G ad nL cells slots Q B M O ls pc stk) : X p l e R s m args below meth c A (xG G a b) (xadL ad q) nL cells slots Q B M O ls pc stk := fun H locs la hP hS hl => by
  refine k H locs la (fun i z hi => ?_) hS hl
  have h1 : i < 193 + G.2.2.2.2 3 := by
    have := (List.getElem?_eq_some_iff.mp hi).1
    rw [wl_len] at this
    exact this
  rw [wl_at ⟨h1, rfl⟩] at hi
  cases hi
  refine hP i _ ?_
  rw [wl_at (p := i) ⟨by show i < 193 + b; omega, rfl⟩, ent_x (by omega) (Lo.rf B), xad_lt (by omega)]
end XYX
/-- the state with a new builder of the law's own -/
def sbn (B : StB) : StB := sbi (sbi (sbi (saf B 194 (fun _ => 0)) 193 2 0) 193 3 0) 194 9 16
theorem Lo_sbn (B : StB) : Lo B (sbn B) := (((Lo.rf B).saf (by decide)).sbi (by decide)).sbi (by decide) |>.sbi (by decide)
/-- the state with the builder's text in its place -/
def tsB (B : StB) : StB := sbi (saf B 194 (va_cpy (ba B 194) (fun _ => 0) 0 0 (ix (bi B 193 3)))) 194 9 (bi B 193 3)
theorem Lo_tsB (B : StB) : Lo B (tsB B) := ((Lo.rf B).saf (by decide)).sbi (by decide)
def okStr (B : StB) : Prop := 0 ≤ (bi B 193 3).toInt ∧ ix (bi B 193 3) < ix (bi B 194 9) ∧ ix (bi B 194 9) ≤ 100 ∧ ∀ i, i < ix (bi B 193 3) → fits .byte (.int (ba B 194 i)) = true
