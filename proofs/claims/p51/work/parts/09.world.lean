/-! the layer: a world of places, the judgement X, its rows -/
abbrev GT : Type := va_G × (Nat → ClassId) × (Nat → Nat) × (Nat → Nat) × (Nat → Nat)
abbrev StB : Type := (Nat → Nat → Int32) × (Nat → Nat → Int64) × (Nat → Nat → Int32) × Nat
abbrev StM : Type := (Nat → Int32) × (Nat → Nat → Int32)
abbrev StO : Type := Int64 × UInt64
def bi (B : StB) (p k : Nat) : Int32 := B.1 p k
def bl (B : StB) (p k : Nat) : Int64 := B.2.1 p k
def ba (B : StB) (p k : Nat) : Int32 := B.2.2.1 p k
def bz (B : StB) : Nat := B.2.2.2
def up2 {α : Type} (f : Nat → Nat → α) (p k : Nat) (v : α) : Nat → Nat → α := fun a b => if a = p ∧ b = k then v else f a b
def sbi (B : StB) (p k : Nat) (v : Int32) : StB := (up2 B.1 p k v, B.2.1, B.2.2.1, B.2.2.2)
def sbl (B : StB) (p k : Nat) (v : Int64) : StB := (B.1, up2 B.2.1 p k v, B.2.2.1, B.2.2.2)
def sba (B : StB) (p k : Nat) (v : Int32) : StB := (B.1, B.2.1, up2 B.2.2.1 p k v, B.2.2.2)
def mi (M : StM) (k : Nat) : Int32 := M.1 k
def ma (M : StM) (q k : Nat) : Int32 := M.2 q k
def smi (M : StM) (k : Nat) (v : Int32) : StM := (fun b => if b = k then v else M.1 b, M.2)
def sma (M : StM) (q k : Nat) (v : Int32) : StM := (M.1, up2 M.2 q k v)
/-- the place of an int in an array -/
def ix (x : Int32) : Nat := x.toNatClampNeg
def nm {α β : Type} (v : α) (k : α → β) : β := k v
theorem nmE {α β : Type} {v : α} {k : α → β} {R : β} {x : α} (h : R = nm v k) (e : x = v) : R = k x := by rw [e]; exact h

def entC (G : GT) (ad : Nat → Nat) (p : Nat) (fi : Nat → Int32) (fl : Nat → Int64) (fa : Nat → Int32) (z : Nat) : va_E := if p < 176 then (match p % 16 with
  | 0 => .inr (7, [.ref (ad (p + 1)), .ref (ad (p + 6)), .ref (ad (p + 12)), .int (fi 3), .int (fi 4), .int (fi 5), .long (fl 6), .long (fl 7), .long (fl 8), .long (fl 9), .long (fl 10)])
  | 1 => .inr (4, [.int (fi 0), .ref (ad (p + 1)), .ref (ad (p + 2)), .ref (ad (p + 3)), .ref (ad (p + 4))])
  | 2 => .inl (G.2.1 2, 8, .inl fa)
  | 3 => .inl (G.2.1 2, 8, .inl fa)
  | 4 => .inl (G.2.1 2, 8, .inl fa)
  | 5 => .inl (G.2.1 3, 8, .inl fa)
  | 6 => .inr (9, [.int (fi 0), .int (fi 1), .ref (ad (p + 1)), .ref (ad (p + 2)), .ref (ad (p + 3)), .ref (ad (p + 4)), .ref (ad (p + 5))])
  | 7 => .inl (G.2.1 2, 10, .inl fa)
  | 8 => .inl (G.2.1 2, 10, .inl fa)
  | 9 => .inl (G.2.1 2, 10, .inl fa)
  | 10 => .inl (G.2.1 2, 10, .inl fa)
  | 11 => .inl (G.2.1 2, 10, .inl fa)
  | 12 => .inr (6, [.int (fi 0), .int (fi 1), .ref (ad (p + 1)), .ref (ad (p + 2)), .ref (ad (p + 3))])
  | 13 => .inl (G.2.1 1, 10, .inl fa)
  | 14 => .inl (G.2.1 2, 10, .inl fa)
  | _ => .inl (G.2.1 2, 10, .inl fa)
  ) else (match p - 176 with
  | 0 => .inr (10, [.ref (ad 0), .ref (ad 16), .ref (ad 32), .ref (ad 177), .ref (ad 179), .ref (ad 191), .ref (ad 182), .int (fi 7), .int (fi 8), .int (fi 9)])
  | 1 => .inr (5, [.int (fi 0), .int (fi 1), .ref (ad 178)])
  | 2 => .inl (G.2.1 4, 8, .inr (.inr (.inr (.inr (fun j => if j < 8 then some (ad (48 + 16 * j)) else none)))))
  | 3 => .inr (8, [.ref (ad 180), .int (fi 1), .int (fi 2), .int (fi 3), .ref (ad 181)])
  | 4 => .inl (G.2.1 1, 60, .inl fa)
  | 5 => .inl (G.2.1 2, 4, .inl fa)
  | 6 => .inl (G.2.1 5, 8, .inr (.inr (.inr (.inr (fun j => if j < 8 then some (ad (183 + j)) else none)))))
  | 15 => .inr (1, [.ref (ad 192), .int 0, .int (fi 2), .int (fi 3)])
  | 16 => .inl (G.2.1 0, z, .inl fa)
  | _ => .inl (G.2.1 2, 8, .inl fa))
def entM (G : GT) (ad : Nat → Nat) (p : Nat) (fi : Nat → Int32) (fa : Nat → Int32) : va_E := match G.2.2.2.2 2 with
  | 1 => (match p - 193 with
    | 0 => .inl (G.2.1 2, ix (fi 9), .inl fa)
    | 1 => .inl (G.2.1 2, ix (fi 9), .inl fa)
    | 2 => .inl (G.2.1 2, ix (fi 9), .inl fa)
    | _ => .inl (G.2.1 3, ix (fi 9), .inl fa))
  | 2 => (match p - 193 with
    | 0 => .inr (1, [.ref (ad 194), .int 0, .int (fi 2), .int (fi 3)])
    | _ => .inl (G.2.1 0, ix (fi 9), .inl fa))
  | _ => (match p - 193 with
    | 0 => .inr (0, [.ref (ad 194), .int 0, .int 0, .int 0])
    | _ => .inl (G.2.1 0, ix (fi 9), .inl fa))
def ent (G : GT) (ad : Nat → Nat) (B : StB) (_ : StM) (_ : StO) (p : Nat) : va_E := if p < 193 then entC G ad p (B.1 p) (B.2.1 p) (B.2.2.1 p) B.2.2.2 else entM G ad p (B.1 p) (B.2.2.1 p)
def wl (G : GT) (ad : Nat → Nat) (B : StB) (M : StM) (O : StO) : va_W := (List.range (193 + G.2.2.2.2 3)).map fun p => (ad p, ent G ad B M O p)
theorem wl_at {G : GT} {ad : Nat → Nat} {B : StB} {M : StM} {O : StO} {p : Nat} {E : va_E} (h : p < 193 + G.2.2.2.2 3 ∧ ent G ad B M O p = E) : (wl G ad B M O)[p]? = some (ad p, E) := by
  rw [← h.2]
  simp [wl, h.1]
theorem wl_set {G : GT} {ad : Nat → Nat} {B B' : StB} {M M' : StM} {O O' : StO} {p : Nat} {E : va_E} (hp : p < 193 + G.2.2.2.2 3) (h : ent G ad B' M' O' p = E) (ho : ∀ q, q ≠ p → ent G ad B' M' O' q = ent G ad B M O q) : (wl G ad B M O).set p (ad p, E) = wl G ad B' M' O' := by
  apply List.ext_getElem?
  intro i
  by_cases hi : i = p
  · subst hi
    rw [List.getElem?_set_self (by simp [wl, hp]), wl_at ⟨hp, h⟩]
  · rw [List.getElem?_set_ne (Ne.symm hi)]
    by_cases h2 : i < 193 + G.2.2.2.2 3
    · rw [wl_at ⟨h2, rfl⟩, wl_at ⟨h2, rfl⟩, ho i hi]
    · rw [List.getElem?_eq_none (by simp [wl]; omega), List.getElem?_eq_none (by simp [wl]; omega)]
/-- the addresses are apart, and of the kind -/
def AdOk (A : Nat → Prop) (G : GT) (ad : Nat → Nat) : Prop := (∀ i j, i < 193 + G.2.2.2.2 3 → j < 193 + G.2.2.2.2 3 → ad i = ad j → i = j) ∧ ∀ i, i < 193 + G.2.2.2.2 3 → A (ad i)
theorem wl_D {A : Nat → Prop} {G : GT} {ad : Nat → Nat} {B : StB} {M : StM} {O : StO} (h : AdOk A G ad) : va_D A (wl G ad B M O) := by
  have key : ∀ (k : Nat) (q : Nat × va_E), (wl G ad B M O)[k]? = some q → k < 193 + G.2.2.2.2 3 ∧ q.1 = ad k := by
    intro k q hk
    have hl : k < 193 + G.2.2.2.2 3 := by
      have := (List.getElem?_eq_some_iff.mp hk).1
      simpa [wl] using this
    rw [wl_at ⟨hl, rfl⟩] at hk
    cases hk
    exact ⟨hl, rfl⟩
  refine ⟨fun i j a b hi hj hab => ?_, fun k q hk => ?_⟩
  · obtain ⟨h1, h2⟩ := key i a hi
    obtain ⟨h3, h4⟩ := key j b hj
    exact h.1 i j h1 h3 (by rw [← h2, ← h4]; exact hab)
  · obtain ⟨h1, h2⟩ := key k q hk
    rw [h2]
    exact h.2 k h1

theorem e_L {G : GT} {ad : Nat → Nat} {B : StB} {M : StM} {O : StO} {p : Nat} (h : p < 176 ∧ p % 16 = 0) : p < 193 + G.2.2.2.2 3 ∧ ent G ad B M O p = .inr (7, [.ref (ad (p + 1)), .ref (ad (p + 6)), .ref (ad (p + 12)), .int (bi B p 3), .int (bi B p 4), .int (bi B p 5), .long (bl B p 6), .long (bl B p 7), .long (bl B p 8), .long (bl B p 9), .long (bl B p 10)]) := ⟨by omega, by simp only [ent, entC, h.1, h.2, if_pos (show p < 193 by omega), if_true]; rfl⟩
theorem e_A {G : GT} {ad : Nat → Nat} {B : StB} {M : StM} {O : StO} {p : Nat} (h : p < 176 ∧ p % 16 = 1) : p < 193 + G.2.2.2.2 3 ∧ ent G ad B M O p = .inr (4, [.int (bi B p 0), .ref (ad (p + 1)), .ref (ad (p + 2)), .ref (ad (p + 3)), .ref (ad (p + 4))]) := ⟨by omega, by simp only [ent, entC, h.1, h.2, if_pos (show p < 193 by omega), if_true]; rfl⟩
theorem e_Ak {G : GT} {ad : Nat → Nat} {B : StB} {M : StM} {O : StO} {p : Nat} (h : p < 176 ∧ p % 16 = 2) : p < 193 + G.2.2.2.2 3 ∧ ent G ad B M O p = .inl (G.2.1 2, 8, .inl (ba B p)) := ⟨by omega, by simp only [ent, entC, h.1, h.2, if_pos (show p < 193 by omega), if_true]; rfl⟩
theorem e_Ab {G : GT} {ad : Nat → Nat} {B : StB} {M : StM} {O : StO} {p : Nat} (h : p < 176 ∧ p % 16 = 3) : p < 193 + G.2.2.2.2 3 ∧ ent G ad B M O p = .inl (G.2.1 2, 8, .inl (ba B p)) := ⟨by omega, by simp only [ent, entC, h.1, h.2, if_pos (show p < 193 by omega), if_true]; rfl⟩
theorem e_Al {G : GT} {ad : Nat → Nat} {B : StB} {M : StM} {O : StO} {p : Nat} (h : p < 176 ∧ p % 16 = 4) : p < 193 + G.2.2.2.2 3 ∧ ent G ad B M O p = .inl (G.2.1 2, 8, .inl (ba B p)) := ⟨by omega, by simp only [ent, entC, h.1, h.2, if_pos (show p < 193 by omega), if_true]; rfl⟩
theorem e_At {G : GT} {ad : Nat → Nat} {B : StB} {M : StM} {O : StO} {p : Nat} (h : p < 176 ∧ p % 16 = 5) : p < 193 + G.2.2.2.2 3 ∧ ent G ad B M O p = .inl (G.2.1 3, 8, .inl (ba B p)) := ⟨by omega, by simp only [ent, entC, h.1, h.2, if_pos (show p < 193 by omega), if_true]; rfl⟩
theorem e_T {G : GT} {ad : Nat → Nat} {B : StB} {M : StM} {O : StO} {p : Nat} (h : p < 176 ∧ p % 16 = 6) : p < 193 + G.2.2.2.2 3 ∧ ent G ad B M O p = .inr (9, [.int (bi B p 0), .int (bi B p 1), .ref (ad (p + 1)), .ref (ad (p + 2)), .ref (ad (p + 3)), .ref (ad (p + 4)), .ref (ad (p + 5))]) := ⟨by omega, by simp only [ent, entC, h.1, h.2, if_pos (show p < 193 by omega), if_true]; rfl⟩
theorem e_Ti {G : GT} {ad : Nat → Nat} {B : StB} {M : StM} {O : StO} {p : Nat} (h : p < 176 ∧ p % 16 = 7) : p < 193 + G.2.2.2.2 3 ∧ ent G ad B M O p = .inl (G.2.1 2, 10, .inl (ba B p)) := ⟨by omega, by simp only [ent, entC, h.1, h.2, if_pos (show p < 193 by omega), if_true]; rfl⟩
theorem e_Ts {G : GT} {ad : Nat → Nat} {B : StB} {M : StM} {O : StO} {p : Nat} (h : p < 176 ∧ p % 16 = 8) : p < 193 + G.2.2.2.2 3 ∧ ent G ad B M O p = .inl (G.2.1 2, 10, .inl (ba B p)) := ⟨by omega, by simp only [ent, entC, h.1, h.2, if_pos (show p < 193 by omega), if_true]; rfl⟩
theorem e_Tr {G : GT} {ad : Nat → Nat} {B : StB} {M : StM} {O : StO} {p : Nat} (h : p < 176 ∧ p % 16 = 9) : p < 193 + G.2.2.2.2 3 ∧ ent G ad B M O p = .inl (G.2.1 2, 10, .inl (ba B p)) := ⟨by omega, by simp only [ent, entC, h.1, h.2, if_pos (show p < 193 by omega), if_true]; rfl⟩
theorem e_Ta {G : GT} {ad : Nat → Nat} {B : StB} {M : StM} {O : StO} {p : Nat} (h : p < 176 ∧ p % 16 = 10) : p < 193 + G.2.2.2.2 3 ∧ ent G ad B M O p = .inl (G.2.1 2, 10, .inl (ba B p)) := ⟨by omega, by simp only [ent, entC, h.1, h.2, if_pos (show p < 193 by omega), if_true]; rfl⟩
theorem e_Td {G : GT} {ad : Nat → Nat} {B : StB} {M : StM} {O : StO} {p : Nat} (h : p < 176 ∧ p % 16 = 11) : p < 193 + G.2.2.2.2 3 ∧ ent G ad B M O p = .inl (G.2.1 2, 10, .inl (ba B p)) := ⟨by omega, by simp only [ent, entC, h.1, h.2, if_pos (show p < 193 by omega), if_true]; rfl⟩
theorem e_J {G : GT} {ad : Nat → Nat} {B : StB} {M : StM} {O : StO} {p : Nat} (h : p < 176 ∧ p % 16 = 12) : p < 193 + G.2.2.2.2 3 ∧ ent G ad B M O p = .inr (6, [.int (bi B p 0), .int (bi B p 1), .ref (ad (p + 1)), .ref (ad (p + 2)), .ref (ad (p + 3))]) := ⟨by omega, by simp only [ent, entC, h.1, h.2, if_pos (show p < 193 by omega), if_true]; rfl⟩
theorem e_Jk {G : GT} {ad : Nat → Nat} {B : StB} {M : StM} {O : StO} {p : Nat} (h : p < 176 ∧ p % 16 = 13) : p < 193 + G.2.2.2.2 3 ∧ ent G ad B M O p = .inl (G.2.1 1, 10, .inl (ba B p)) := ⟨by omega, by simp only [ent, entC, h.1, h.2, if_pos (show p < 193 by omega), if_true]; rfl⟩
theorem e_Ja {G : GT} {ad : Nat → Nat} {B : StB} {M : StM} {O : StO} {p : Nat} (h : p < 176 ∧ p % 16 = 14) : p < 193 + G.2.2.2.2 3 ∧ ent G ad B M O p = .inl (G.2.1 2, 10, .inl (ba B p)) := ⟨by omega, by simp only [ent, entC, h.1, h.2, if_pos (show p < 193 by omega), if_true]; rfl⟩
theorem e_Jc {G : GT} {ad : Nat → Nat} {B : StB} {M : StM} {O : StO} {p : Nat} (h : p < 176 ∧ p % 16 = 15) : p < 193 + G.2.2.2.2 3 ∧ ent G ad B M O p = .inl (G.2.1 2, 10, .inl (ba B p)) := ⟨by omega, by simp only [ent, entC, h.1, h.2, if_pos (show p < 193 by omega), if_true]; rfl⟩
theorem e_I {G : GT} {ad : Nat → Nat} {B : StB} {M : StM} {O : StO} : 176 < 193 + G.2.2.2.2 3 ∧ ent G ad B M O 176 = .inr (10, [.ref (ad 0), .ref (ad 16), .ref (ad 32), .ref (ad 177), .ref (ad 179), .ref (ad 191), .ref (ad 182), .int (bi B 176 7), .int (bi B 176 8), .int (bi B 176 9)]) := ⟨by omega, rfl⟩
theorem e_H {G : GT} {ad : Nat → Nat} {B : StB} {M : StM} {O : StO} : 177 < 193 + G.2.2.2.2 3 ∧ ent G ad B M O 177 = .inr (5, [.int (bi B 177 0), .int (bi B 177 1), .ref (ad 178)]) := ⟨by omega, rfl⟩
theorem e_Hs {G : GT} {ad : Nat → Nat} {B : StB} {M : StM} {O : StO} : 178 < 193 + G.2.2.2.2 3 ∧ ent G ad B M O 178 = .inl (G.2.1 4, 8, .inr (.inr (.inr (.inr (fun j => if j < 8 then some (ad (48 + 16 * j)) else none))))) := ⟨by omega, rfl⟩
theorem e_R {G : GT} {ad : Nat → Nat} {B : StB} {M : StM} {O : StO} : 179 < 193 + G.2.2.2.2 3 ∧ ent G ad B M O 179 = .inr (8, [.ref (ad 180), .int (bi B 179 1), .int (bi B 179 2), .int (bi B 179 3), .ref (ad 181)]) := ⟨by omega, rfl⟩
theorem e_Rt {G : GT} {ad : Nat → Nat} {B : StB} {M : StM} {O : StO} : 180 < 193 + G.2.2.2.2 3 ∧ ent G ad B M O 180 = .inl (G.2.1 1, 60, .inl (ba B 180)) := ⟨by omega, rfl⟩
theorem e_Rv {G : GT} {ad : Nat → Nat} {B : StB} {M : StM} {O : StO} : 181 < 193 + G.2.2.2.2 3 ∧ ent G ad B M O 181 = .inl (G.2.1 2, 4, .inl (ba B 181)) := ⟨by omega, rfl⟩
theorem e_S {G : GT} {ad : Nat → Nat} {B : StB} {M : StM} {O : StO} : 182 < 193 + G.2.2.2.2 3 ∧ ent G ad B M O 182 = .inl (G.2.1 5, 8, .inr (.inr (.inr (.inr (fun j => if j < 8 then some (ad (183 + j)) else none))))) := ⟨by omega, rfl⟩
theorem e_B {G : GT} {ad : Nat → Nat} {B : StB} {M : StM} {O : StO} : 191 < 193 + G.2.2.2.2 3 ∧ ent G ad B M O 191 = .inr (1, [.ref (ad 192), .int 0, .int (bi B 191 2), .int (bi B 191 3)]) := ⟨by omega, rfl⟩
theorem e_Bb {G : GT} {ad : Nat → Nat} {B : StB} {M : StM} {O : StO} : 192 < 193 + G.2.2.2.2 3 ∧ ent G ad B M O 192 = .inl (G.2.1 0, bz B, .inl (ba B 192)) := ⟨by omega, rfl⟩
theorem e_Si {G : GT} {ad : Nat → Nat} {B : StB} {M : StM} {O : StO} {i : Nat} (h : i < 8) : 183 + i < 193 + G.2.2.2.2 3 ∧ ent G ad B M O (183 + i) = .inl (G.2.1 2, 8, .inl (ba B (183 + i))) := by
  refine ⟨by omega, ?_⟩
  match i, h with
  | 0, _ => rfl
  | 1, _ => rfl
  | 2, _ => rfl
  | 3, _ => rfl
  | 4, _ => rfl
  | 5, _ => rfl
  | 6, _ => rfl
  | 7, _ => rfl
theorem up2_ne {α : Type} (f : Nat → Nat → α) (p k : Nat) (v : α) {q : Nat} (h : q ≠ p) : up2 f p k v q = f q := by
  funext b
  simp [up2, h]
theorem up2_eq (f : Nat → Nat → Int32) (p k : Nat) (v : Int32) : up2 f p k v p = upd (f p) k v := by
  funext b
  simp [up2, upd]
theorem o_sbi {G : GT} {ad : Nat → Nat} {B : StB} {M : StM} {O : StO} (p k : Nat) (v : Int32) : ∀ q, q ≠ p → ent G ad (sbi B p k v) M O q = ent G ad B M O q := fun q h => by
  simp only [ent, sbi, up2_ne _ _ _ _ h]
theorem o_sbl {G : GT} {ad : Nat → Nat} {B : StB} {M : StM} {O : StO} (p k : Nat) (v : Int64) : ∀ q, q ≠ p → ent G ad (sbl B p k v) M O q = ent G ad B M O q := fun q h => by
  simp only [ent, sbl, up2_ne _ _ _ _ h]
theorem o_sba {G : GT} {ad : Nat → Nat} {B : StB} {M : StM} {O : StO} (p k : Nat) (v : Int32) : ∀ q, q ≠ p → ent G ad (sba B p k v) M O q = ent G ad B M O q := fun q h => by
  simp only [ent, sba, up2_ne _ _ _ _ h]
theorem e_Q0 {G : GT} {ad : Nat → Nat} {B : StB} {M : StM} {O : StO} (h : G.2.2.2.2 2 = 1 ∧ G.2.2.2.2 3 = 4) : 193 < 193 + G.2.2.2.2 3 ∧ ent G ad B M O 193 = .inl (G.2.1 2, ix (bi B 193 9), .inl (ba B 193)) := ⟨by omega, by simp only [ent, entM, h.1]; rfl⟩
theorem e_Q1 {G : GT} {ad : Nat → Nat} {B : StB} {M : StM} {O : StO} (h : G.2.2.2.2 2 = 1 ∧ G.2.2.2.2 3 = 4) : 194 < 193 + G.2.2.2.2 3 ∧ ent G ad B M O 194 = .inl (G.2.1 2, ix (bi B 194 9), .inl (ba B 194)) := ⟨by omega, by simp only [ent, entM, h.1]; rfl⟩
theorem e_Q2 {G : GT} {ad : Nat → Nat} {B : StB} {M : StM} {O : StO} (h : G.2.2.2.2 2 = 1 ∧ G.2.2.2.2 3 = 4) : 195 < 193 + G.2.2.2.2 3 ∧ ent G ad B M O 195 = .inl (G.2.1 2, ix (bi B 195 9), .inl (ba B 195)) := ⟨by omega, by simp only [ent, entM, h.1]; rfl⟩
theorem e_Q3 {G : GT} {ad : Nat → Nat} {B : StB} {M : StM} {O : StO} (h : G.2.2.2.2 2 = 1 ∧ G.2.2.2.2 3 = 4) : 196 < 193 + G.2.2.2.2 3 ∧ ent G ad B M O 196 = .inl (G.2.1 3, ix (bi B 196 9), .inl (ba B 196)) := ⟨by omega, by simp only [ent, entM, h.1]; rfl⟩
theorem e_Db {G : GT} {ad : Nat → Nat} {B : StB} {M : StM} {O : StO} (h : G.2.2.2.2 2 = 2 ∧ G.2.2.2.2 3 = 2) : 194 < 193 + G.2.2.2.2 3 ∧ ent G ad B M O 194 = .inl (G.2.1 0, ix (bi B 194 9), .inl (ba B 194)) := ⟨by omega, by simp only [ent, entM, h.1]; rfl⟩
theorem e_Wv {G : GT} {ad : Nat → Nat} {B : StB} {M : StM} {O : StO} (h : G.2.2.2.2 2 = 3 ∧ G.2.2.2.2 3 = 2) : 194 < 193 + G.2.2.2.2 3 ∧ ent G ad B M O 194 = .inl (G.2.1 0, ix (bi B 194 9), .inl (ba B 194)) := ⟨by omega, by simp only [ent, entM, h.1]; rfl⟩
theorem e_D {G : GT} {ad : Nat → Nat} {B : StB} {M : StM} {O : StO} (h : G.2.2.2.2 2 = 2 ∧ G.2.2.2.2 3 = 2) : 193 < 193 + G.2.2.2.2 3 ∧ ent G ad B M O 193 = .inr (1, [.ref (ad 194), .int 0, .int (bi B 193 2), .int (bi B 193 3)]) := ⟨by omega, by simp only [ent, entM, h.1]; rfl⟩
theorem e_W {G : GT} {ad : Nat → Nat} {B : StB} {M : StM} {O : StO} (h : G.2.2.2.2 2 = 3 ∧ G.2.2.2.2 3 = 2) : 193 < 193 + G.2.2.2.2 3 ∧ ent G ad B M O 193 = .inr (0, [.ref (ad 194), .int 0, .int 0, .int 0]) := ⟨by omega, by simp only [ent, entM, h.1]; rfl⟩
