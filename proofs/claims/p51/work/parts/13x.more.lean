section XE
variable {p : Program} {l : Launch} {e : Env} {R : Room} {s : State} {m : MethodId} {args : Array Value} {below : List Frame} {meth : Method} {c : Code} {cells slots : Nat} {Q : State → Prop}
variable {A : Nat → Prop} {G : GT} {ad : Nat → Nat} {cc : ByteArray} {own : String} {nL : Nat} {ret : Option FieldType} {B : StB} {M : StM} {O : StO} {ls : List (Nat × Value)} {pc : Nat} {rest stk : List Value}
def iushr (x y : Int32) : Int32 := (x.toUInt32 >>> (y.toUInt32 &&& Int32.toUInt32 31)).toInt32
def dcmpl (x y : UInt64) : Int32 := Op.cmpValue (FP.dcmp x y) .l
theorem x_iushr (C : CX p l s m args meth c A G ad cc own nL ret) {x y : Int32} (d : decode cc pc = .ok (.iushr, 1)) (k : X p l e R s m args below meth c A G ad nL cells slots Q B M O ls (pc + 1) (.int (iushr x y) :: rest)) : X p l e R s m args below meth c A G ad nL cells slots Q B M O ls (pc) (.int y :: .int x :: rest) := fun H locs la hP hS hl => lv_iushr C.1 C.2.1 d rfl (k H locs la hP hS hl)
theorem x_dcmpl (C : CX p l s m args meth c A G ad cc own nL ret) {x y : UInt64} (d : decode cc pc = .ok (.dcmp .l, 1)) (k : X p l e R s m args below meth c A G ad nL cells slots Q B M O ls (pc + 1) (.int (dcmpl x y) :: rest)) : X p l e R s m args below meth c A G ad nL cells slots Q B M O ls (pc) (.double y :: .double x :: rest) := fun H locs la hP hS hl => lv_dcmp C.1 C.2.1 d (k H locs la hP hS hl)
theorem x_ialdS (C : CX p l s m args meth c A G ad cc own nL ret) {S : Nat → Int32} {N : Nat} (hsc : S = scx G ∧ N = G.2.2.2.2 5) {x : Int32} (hin : vp_in x N) (d : decode cc pc = .ok (.iaload, 1)) (k : X p l e R s m args below meth c A G ad nL cells slots Q B M O ls (pc + 1) (.int (S (ix x)) :: rest)) : X p l e R s m args below meth c A G ad nL cells slots Q B M O ls (pc) (.int x :: .ref (G.2.2.2.2 4) :: rest) := fun H locs la hP hS hl =>
  va_ti C.1 C.2.1 C.2.2.2.2.2.2.1.2.2.2.2.2.2.2.2.2.2.2.2.2.2.2.1 hS (by rw [← hsc.2]; exact hin) (v := .int (S (ix x))) (by rw [hsc.1]; rfl) d (k H locs la hP hS hl)
theorem x_alenS (C : CX p l s m args meth c A G ad cc own nL ret) {S : Nat → Int32} {N : Nat} (hsc : S = scx G ∧ N = G.2.2.2.2 5) (d : decode cc pc = .ok (.arraylength, 1)) (k : X p l e R s m args below meth c A G ad nL cells slots Q B M O ls (pc + 1) (.int (Int32.ofNat N) :: rest)) : X p l e R s m args below meth c A G ad nL cells slots Q B M O ls (pc) (.ref (G.2.2.2.2 4) :: rest) := fun H locs la hP hS hl =>
  va_tlen C.1 C.2.1 C.2.2.2.2.2.2.1.2.2.2.2.2.2.2.2.2.2.2.2.2.2.2.1 hS (by rw [hsc.2]) d (k H locs la hP hS hl)
theorem put_D_2 {G : GT} {ad : Nat → Nat} {B : StB} {M : StM} {O : StO} {v : Int32} (h : G.2.2.2.2 2 = 2 ∧ G.2.2.2.2 3 = 2) : ent G ad (sbi B 193 2 v) M O 193 = .inr (1, [.ref (ad 194), .int 0, .int v, .int (bi B 193 3)]) := (e_D h).2
theorem put_D_3 {G : GT} {ad : Nat → Nat} {B : StB} {M : StM} {O : StO} {v : Int32} (h : G.2.2.2.2 2 = 2 ∧ G.2.2.2.2 3 = 2) : ent G ad (sbi B 193 3 v) M O 193 = .inr (1, [.ref (ad 194), .int 0, .int (bi B 193 2), .int v]) := (e_D h).2
theorem x_ifnn (C : CX p l s m args meth c A G ad cc own nL ret) {x : Nat} {off : Int} {tgt : Nat} (d : decode cc pc = .ok (.ifnonnull off, 3)) (ht : (pc : Int) + off = (tgt : Int)) (k : X p l e R s m args below meth c A G ad nL cells slots Q B M O ls tgt rest) : X p l e R s m args below meth c A G ad nL cells slots Q B M O ls (pc) (.ref x :: rest) := fun H locs la hP hS hl => lv_ifnonnull C.1 C.2.1 d ht (k H locs la hP hS hl)
theorem sel_put (C : CX p l s m args meth c A G ad cc own nL ret) : (Cond.selects RJ4 ySBput ySBput).before args s = true := va_tabs (u := s) (A := #[]) rfl rfl C.2.2.2.2.2.2.1.2.2.2.2.2.2.2.2.2.2.2.2.2.2.2.2.1
theorem sel_inf (C : CX p l s m args meth c A G ad cc own nL ret) : (Cond.selects RJ4 ySBinf ySBinf).before args s = true := va_tabs (u := s) (A := #[]) rfl rfl C.2.2.2.2.2.2.1.2.2.2.2.2.2.2.2.2.2.2.2.2.2.2.2.2.1
/-- another content of the array at p -/
def saf (B : StB) (p : Nat) (g : Nat → Int32) : StB := (B.1, B.2.1, fun a => if a = p then g else B.2.2.1 a, B.2.2.2)
theorem o_saf {G : GT} {ad : Nat → Nat} {B : StB} {M : StM} {O : StO} (p : Nat) (g : Nat → Int32) : ∀ q, q ≠ p → ent G ad (saf B p g) M O q = ent G ad B M O q := fun q h => by
  have e : (saf B p g).2.2.1 q = B.2.2.1 q := if_neg h
  have e1 : (saf B p g).1 = B.1 := rfl
  have e2 : (saf B p g).2.1 = B.2.1 := rfl
  have e3 : (saf B p g).2.2.2 = B.2.2.2 := rfl
  simp only [ent, e, e1, e2, e3]
/-- a text constant's bytes, copied into the law's own builder -/
def cpk (B : StB) (i : Nat) (dp : Int32) : StB := saf B 194 (va_cpy (fun j => (kByt.getD i []).getD j 0) (ba B 194) 0 (ix dp) (kLen.getD i 0))
theorem kfit : ∀ i, i < 9 → kLen.getD i 0 < 10 ∧ ∀ j, j < kLen.getD i 0 → fits .byte (.int ((kByt.getD i []).getD j 0)) = true := by decide +kernel
theorem x_acopyK (C : CX p l s m args meth c A G ad cc own nL ret) (hG : G.2.2.2.2 2 = 2 ∧ G.2.2.2.2 3 = 2) {idx i : Nat} {dp : Int32} (hi : i < 9) (h0 : ¬ dp < 0) (h5 : ix dp + kLen.getD i 0 ≤ ix (bi B 194 9)) (w1 : Cond.methodLink own idx arraycopyName ∈ TT) (w2 : Cond.native arraycopyName ∈ TT) (w3 : Cond.static arraycopyName ∈ TT) (w4 : Cond.initialized "java/lang/System" ∈ TT) (hframes : 1 ≤ R.frames) (hlocals : (rest.map fun v => v.category).sum + (nativeFrameWords "java/lang/System" "arraycopy" 5 + 11) ≤ R.locals) (d : decode cc pc = .ok (.invokestatic idx, 3)) (k : X p l e R s m args below meth c A G ad nL cells slots Q (cpk B i dp) M O ls (pc + 3) rest) : X p l e R s m args below meth c A G ad nL cells slots Q B M O ls (pc) (.int (Int32.ofNat (kLen.getD i 0)) :: .int dp :: .ref (ad 194) :: .int 0 :: .ref (G.2.2.2.1 i) :: rest) := fun H locs la hP hS hl => by
  have hc : (Int32.ofNat (kLen.getD i 0)).toNatClampNeg = kLen.getD i 0 := by
    have h10 := (kfit i hi).1
    generalize kLen.getD i 0 = n at h10
    match n, h10 with
    | 0, _ => rfl
    | 1, _ => rfl
    | 2, _ => rfl
    | 3, _ => rfl
    | 4, _ => rfl
    | 5, _ => rfl
    | 6, _ => rfl
    | 7, _ => rfl
    | 8, _ => rfl
    | 9, _ => rfl
  have hn : ¬ Int32.ofNat (kLen.getD i 0) < 0 := by
    have h10 := (kfit i hi).1
    generalize kLen.getD i 0 = n at h10
    match n, h10 with
    | 0, _ => decide
    | 1, _ => decide
    | 2, _ => decide
    | 3, _ => decide
    | 4, _ => decide
    | 5, _ => decide
    | 6, _ => decide
    | 7, _ => decide
    | 8, _ => decide
    | 9, _ => decide
  refine vk_copyt C.1 C.2.1 (by rw [C.2.2.1]; exact hl.1.symm) C.2.2.2.1 (C.2.2.2.2.1 _ w1) (C.2.2.2.2.1 _ w2) (C.2.2.2.2.1 _ w3) (C.2.2.2.2.1 _ w4) C.2.2.2.2.2.1 hP (wl_D C.2.2.2.2.2.2.2.1.2) hS (C.2.2.2.2.2.2.1.2.2.2.1.1 i hi).2.2.2 194 0 (wl_at (e_Db hG)) rfl (by decide) h0 hn (by rw [hc]; exact Nat.le_of_eq (Nat.zero_add _)) (by rw [hc]; exact h5) (fun j hj => by rw [hc] at hj; show fits .byte (.int ((kByt.getD i []).getD (0 + j) 0)) = true; rw [Nat.zero_add]; exact (kfit i hi).2 j hj) hframes hlocals d (fun H1 locs1 hP1 _ hS1 => k H1 locs1 la ?_ hS1 hl)
  rw [hc] at hP1
  have e9 : ba (cpk B i dp) 194 = va_cpy (fun j => (kByt.getD i []).getD j 0) (ba B 194) 0 (ix dp) (kLen.getD i 0) := by show (if (194 : Nat) = 194 then _ else ba B 194) = _; exact if_pos rfl
  have e8 : ent G ad (cpk B i dp) M O 194 = .inl (G.2.1 0, ix (bi B 194 9), .inl (va_cpy (fun j => (kByt.getD i []).getD j 0) (ba B 194) 0 (ix dp) (kLen.getD i 0))) := by
    rw [← e9]
    exact (e_Db hG).2
  have hP2 : va_P G.1 vwCl ((wl G ad B M O).set 194 (ad 194, .inl (G.2.1 0, ix (bi B 194 9), .inl (va_cpy (fun j => (kByt.getD i []).getD j 0) (ba B 194) 0 (ix dp) (kLen.getD i 0))))) H1 := hP1
  rw [wl_set (by omega) e8 (o_saf 194 _)] at hP2
  exact hP2
end XE
