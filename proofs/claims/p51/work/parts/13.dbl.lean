theorem mean_nan (a : Int64) (c : Int32) (h : ¬ c = 0) : FP.Core.dIsNaN (FP.ddiv (FP.l2d a) (FP.i2d c)) = false :=
  FP.Core.ddiv_out (FP.Core.l2d_notNaN a) (FP.Core.i2d_fin c) (fun z => FP.Core.i2d_ne_zero h ((FP.Core.zero_bits2 _).mp z))
theorem mean_n64 (a : Int64) (c : Int32) (h : ¬ c = 0) : vf_n64 (FP.ddiv (FP.l2d a) (FP.i2d c)) := by
  have h1 := mean_nan a c h
  generalize FP.ddiv (FP.l2d a) (FP.i2d c) = x at h1
  unfold vf_n64
  rw [← Bool.not_eq_true, FP.Core.isNaN_bits] at h1
  rw [UInt64.le_iff_toNat_le, UInt64.toNat_and]
  have e : (0x7fffffffffffffff : UInt64).toNat = 2 ^ 63 - 1 := by decide
  rw [e, Nat.and_two_pow_sub_one_eq_mod]
  have e2 : (0x7ff0000000000000 : UInt64).toNat = 9218868437227405312 := by decide
  rw [e2]
  omega

section XD
variable {p : Program} {l : Launch} {e : Env} {R : Room} {s : State} {m : MethodId} {args : Array Value} {below : List Frame} {meth : Method} {c : Code} {cells slots : Nat} {Q : State → Prop}
variable {A : Nat → Prop} {G : GT} {ad : Nat → Nat} {cc : ByteArray} {own : String} {nL : Nat} {ret : Option FieldType} {B : StB} {M : StM} {O : StO} {ls : List (Nat × Value)} {pc : Nat} {rest stk : List Value}

def TMetD (l : Launch) (y : MethodName) (ws : List Cond) (rm : Room) (as : List Value) (G : GT) (A : Nat → Prop) (ad : Nat → Nat) (B : StB) (M : StM) (O : StO) (f : Nat × UInt64 × StB) (mc ms : Nat) : Prop :=
  vx_Met l y ws rm (va_Pc as (PW G A ad B M O)) (va_Qd (fun r (_ : Unit) => f.1 = 0 ∧ r = f.2.1) (fun _ t => va_P G.1 vwCl (wl G ad f.2.2 M O) t.heap) A) (XQ G A ad M O (f.1, 0, f.2.2)) mc ms A
abbrev TQD (below : List Frame) (args : Array Value) (s : State) (G : GT) (A : Nat → Prop) (ad : Nat → Nat) (M : StM) (O : StO) (f : Nat × UInt64 × StB) (mc ms : Nat) : State → Prop := vx_MQ below (va_Qd (fun r (_ : Unit) => f.1 = 0 ∧ r = f.2.1) (fun _ t => va_P G.1 vwCl (wl G ad f.2.2 M O) t.heap) A) (XQ G A ad M O (f.1, 0, f.2.2)) args s mc ms A
theorem x_ddiv (C : CX p l s m args meth c A G ad cc own nL ret) {x y : UInt64} (hne : vf_n64 (FP.ddiv x y)) (d : decode cc pc = .ok (.ddiv, 1)) (k : X p l e R s m args below meth c A G ad nL cells slots Q B M O ls (pc + 1) (.double (FP.ddiv x y) :: rest)) : X p l e R s m args below meth c A G ad nL cells slots Q B M O ls (pc) (.double y :: .double x :: rest) := fun H locs la hP hS hl => lv_ddiv C.1 C.2.1 d hne (k H locs la hP hS hl)
theorem x_dconst0 (C : CX p l s m args meth c A G ad cc own nL ret) (d : decode cc pc = .ok (.dconst 0, 1)) (k : X p l e R s m args below meth c A G ad nL cells slots Q B M O ls (pc + 1) (.double 0 :: rest)) : X p l e R s m args below meth c A G ad nL cells slots Q B M O ls (pc) (rest) := fun H locs la hP hS hl => lv_dconst0 C.1 C.2.1 d (k H locs la hP hS hl)
theorem x_dretM (C : CX p l s m args meth c A G ad cc own nL ret) {v : UInt64} {f : UInt64 × StM} (hr : ret = some .double) (h : f = (v, M)) (d : decode cc pc = .ok (.dreturn, 1)) : X p l e R s m args below meth c A G ad nL cells slots (MQ below (QD G A ad f.1 B f.2 O) args s cells slots A) B M O ls (pc) ([.double v]) := by
  subst h
  exact x_dret C hr rfl d
theorem xt_dret (C : CX p l s m args meth c A G ad cc own nL ret) {v : UInt64} {f : Nat × UInt64 × StB} {mc ms : Nat} (hr : ret = some .double) (h : f = (0, v, B)) (hc : cells ≤ mc) (hs : slots ≤ ms) (d : decode cc pc = .ok (.dreturn, 1)) : X p l e R s m args below meth c A G ad nL cells slots (TQD below args s G A ad M O f mc ms) B M O ls (pc) ([.double v]) := fun H locs la hP hS hl => by
  subst h
  refine vx_ret (W.widen hc hs ?_)
  exact W.dret (v := v) C.1 C.2.1 (C.2.2.2.2.2.2.2.2.1.trans hr) (fun t ht hW => ⟨⟨v, (), rfl, ⟨rfl, rfl⟩, by subst ht; exact hP⟩, hS.F ht⟩) hS.2.2 d C.2.2.2.2.2.2.2.2.2.1
end XD
