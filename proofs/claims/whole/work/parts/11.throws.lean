def exL : List String := ["", "java/lang/IndexOutOfBoundsException", "java/lang/IllegalArgumentException", "java/lang/UnsupportedOperationException", "java/lang/IllegalStateException", "java/util/NoSuchElementException", "java/lang/ArithmeticException"]
def exN (k : Nat) : String := exL.getD k ""
def chainN : List String := ["java/lang/RuntimeException", "java/lang/Exception"]
def badW : List Cond := castL.map (fun q => Cond.castable q.1 q.2) ++ declL.map Cond.declares
theorem thr_g1 : ∀ w ∈ (vx_at0 RX6 196 (exN 1) chainN).filter goodWord, w ∈ TT := by decide +kernel
theorem thr_b1 : ∀ w ∈ (vx_at0 RX6 196 (exN 1) chainN).filter (fun w => !goodWord w), w ∈ badW := by decide +kernel
theorem thr_o1 : ∀ w ∈ Cond.classLink RX6 194 (exN 1) :: Cond.initialized (exN 1) :: vx_at0 RX6 196 (exN 1) chainN, vx_ot w = true := by decide +kernel
theorem thr_k1 : Cond.classLink RX6 194 (exN 1) ∈ TT := by decide +kernel
theorem thr_i1 : Cond.initialized (exN 1) ∈ TT := by decide +kernel
theorem thr_g2 : ∀ w ∈ (vx_at0 RX6 279 (exN 2) chainN).filter goodWord, w ∈ TT := by decide +kernel
theorem thr_b2 : ∀ w ∈ (vx_at0 RX6 279 (exN 2) chainN).filter (fun w => !goodWord w), w ∈ badW := by decide +kernel
theorem thr_o2 : ∀ w ∈ Cond.classLink RX6 277 (exN 2) :: Cond.initialized (exN 2) :: vx_at0 RX6 279 (exN 2) chainN, vx_ot w = true := by decide +kernel
theorem thr_k2 : Cond.classLink RX6 277 (exN 2) ∈ TT := by decide +kernel
theorem thr_i2 : Cond.initialized (exN 2) ∈ TT := by decide +kernel
theorem thr_g3 : ∀ w ∈ (vx_at0 RX6 314 (exN 3) chainN).filter goodWord, w ∈ TT := by decide +kernel
theorem thr_b3 : ∀ w ∈ (vx_at0 RX6 314 (exN 3) chainN).filter (fun w => !goodWord w), w ∈ badW := by decide +kernel
theorem thr_o3 : ∀ w ∈ Cond.classLink RX6 312 (exN 3) :: Cond.initialized (exN 3) :: vx_at0 RX6 314 (exN 3) chainN, vx_ot w = true := by decide +kernel
theorem thr_k3 : Cond.classLink RX6 312 (exN 3) ∈ TT := by decide +kernel
theorem thr_i3 : Cond.initialized (exN 3) ∈ TT := by decide +kernel
theorem thr_g4 : ∀ w ∈ (vx_at0 RX6 283 (exN 4) chainN).filter goodWord, w ∈ TT := by decide +kernel
theorem thr_b4 : ∀ w ∈ (vx_at0 RX6 283 (exN 4) chainN).filter (fun w => !goodWord w), w ∈ badW := by decide +kernel
theorem thr_o4 : ∀ w ∈ Cond.classLink RX6 281 (exN 4) :: Cond.initialized (exN 4) :: vx_at0 RX6 283 (exN 4) chainN, vx_ot w = true := by decide +kernel
theorem thr_k4 : Cond.classLink RX6 281 (exN 4) ∈ TT := by decide +kernel
theorem thr_i4 : Cond.initialized (exN 4) ∈ TT := by decide +kernel
theorem thr_g5 : ∀ w ∈ (vx_at0 RX6 131 (exN 5) chainN).filter goodWord, w ∈ TT := by decide +kernel
theorem thr_b5 : ∀ w ∈ (vx_at0 RX6 131 (exN 5) chainN).filter (fun w => !goodWord w), w ∈ badW := by decide +kernel
theorem thr_o5 : ∀ w ∈ Cond.classLink RX6 129 (exN 5) :: Cond.initialized (exN 5) :: vx_at0 RX6 131 (exN 5) chainN, vx_ot w = true := by decide +kernel
theorem thr_k5 : Cond.classLink RX6 129 (exN 5) ∈ TT := by decide +kernel
theorem thr_i5 : Cond.initialized (exN 5) ∈ TT := by decide +kernel
theorem thr_g6 : ∀ w ∈ (vx_at0 RX6 137 (exN 6) chainN).filter goodWord, w ∈ TT := by decide +kernel
theorem thr_b6 : ∀ w ∈ (vx_at0 RX6 137 (exN 6) chainN).filter (fun w => !goodWord w), w ∈ badW := by decide +kernel
theorem thr_o6 : ∀ w ∈ Cond.classLink RX6 135 (exN 6) :: Cond.initialized (exN 6) :: vx_at0 RX6 137 (exN 6) chainN, vx_ot w = true := by decide +kernel
theorem thr_k6 : Cond.classLink RX6 135 (exN 6) ∈ TT := by decide +kernel
theorem thr_i6 : Cond.initialized (exN 6) ∈ TT := by decide +kernel
theorem bad_at {G : GT} {A : Nat → Prop} {s : State} {args : Array Value} (h : Fx G A s) : ∀ w ∈ badW, w.before args s = true := by
  intro w hw
  obtain ⟨-, -, -, -, -, -, -, -, -, -, i2, i3, -, -⟩ := h
  rcases List.mem_append.mp hw with h | h
  · obtain ⟨q, hq, rfl⟩ := List.mem_map.mp h
    exact va_Nw.use rfl (i2 q hq)
  · obtain ⟨q, hq, rfl⟩ := List.mem_map.mp h
    exact va_Nw.use rfl (i3 q hq)
section XT
variable {p : Program} {l : Launch} {e : Env} {R : Room} {s : State} {m : MethodId} {args : Array Value} {below : List Frame} {meth : Method} {c : Code} {cells slots : Nat} {Q : State → Prop}
variable {A : Nat → Prop} {G : GT} {ad : Nat → Nat} {cc : ByteArray} {own : String} {nL : Nat} {ret : Option FieldType} {B : StB} {M : StM} {O : StO} {ls : List (Nat × Value)} {pc : Nat} {rest stk : List Value}

/-- a method that answers an int or throws: f = (0, answer, world) or (number of the exception, _, world) -/
def TMet (l : Launch) (y : MethodName) (ws : List Cond) (rm : Room) (as : List Value) (G : GT) (A : Nat → Prop) (ad : Nat → Nat) (B : StB) (M : StM) (O : StO) (f : Nat × Int32 × StB) (mc ms : Nat) : Prop :=
  vx_Met l y ws rm (va_Pc as (PW G A ad B M O)) (va_Qi (fun r (_ : Unit) => f.1 = 0 ∧ r = f.2.1) (fun _ t => va_P G.1 vwCl (wl G ad f.2.2 M O) t.heap) A) (vx_X (fun (_ : Unit) => f.1 ≠ 0) (fun E _ t => E = exN f.1 ∧ va_P G.1 vwCl (wl G ad f.2.2 M O) t.heap) A) mc ms A
def TMetV (l : Launch) (y : MethodName) (ws : List Cond) (rm : Room) (as : List Value) (G : GT) (A : Nat → Prop) (ad : Nat → Nat) (B : StB) (M : StM) (O : StO) (f : Nat × Int32 × StB) (mc ms : Nat) : Prop :=
  vx_Met l y ws rm (va_Pc as (PW G A ad B M O)) (va_Qv (fun (_ : Unit) => f.1 = 0) (fun _ t => va_P G.1 vwCl (wl G ad f.2.2 M O) t.heap) A) (vx_X (fun (_ : Unit) => f.1 ≠ 0) (fun E _ t => E = exN f.1 ∧ va_P G.1 vwCl (wl G ad f.2.2 M O) t.heap) A) mc ms A
abbrev XQ (G : GT) (A : Nat → Prop) (ad : Nat → Nat) (M : StM) (O : StO) (f : Nat × Int32 × StB) : String → State → State → Prop := vx_X (fun (_ : Unit) => f.1 ≠ 0) (fun E _ t => E = exN f.1 ∧ va_P G.1 vwCl (wl G ad f.2.2 M O) t.heap) A
abbrev TQ (below : List Frame) (args : Array Value) (s : State) (G : GT) (A : Nat → Prop) (ad : Nat → Nat) (M : StM) (O : StO) (f : Nat × Int32 × StB) (mc ms : Nat) : State → Prop := vx_MQ below (va_Qi (fun r (_ : Unit) => f.1 = 0 ∧ r = f.2.1) (fun _ t => va_P G.1 vwCl (wl G ad f.2.2 M O) t.heap) A) (XQ G A ad M O f) args s mc ms A
abbrev TQV (below : List Frame) (args : Array Value) (s : State) (G : GT) (A : Nat → Prop) (ad : Nat → Nat) (M : StM) (O : StO) (f : Nat × Int32 × StB) (mc ms : Nat) : State → Prop := vx_MQ below (va_Qv (fun (_ : Unit) => f.1 = 0) (fun _ t => va_P G.1 vwCl (wl G ad f.2.2 M O) t.heap) A) (XQ G A ad M O f) args s mc ms A

theorem xt_zret (C : CX p l s m args meth c A G ad cc own nL ret) {v : Int32} {ty : FieldType} {f : Nat × Int32 × StB} {mc ms : Nat} (hr : ret = some ty) (hn : narrow ty (.int v) = .int v) (h : f = (0, v, B)) (hc : cells ≤ mc) (hs : slots ≤ ms) (d : decode cc pc = .ok (.ireturn, 1)) : X p l e R s m args below meth c A G ad nL cells slots (TQ below args s G A ad M O f mc ms) B M O ls (pc) ([.int v]) := fun H locs la hP hS hl => by
  subst h
  refine vx_ret (W.widen hc hs ?_)
  exact W.zret (v := v) C.1 C.2.1 (C.2.2.2.2.2.2.2.2.1.trans hr) hn (fun t ht hW => ⟨⟨v, (), rfl, ⟨rfl, rfl⟩, by subst ht; exact hP⟩, hS.F ht⟩) hS.2.2 d C.2.2.2.2.2.2.2.2.2.1
theorem xt_vret (C : CX p l s m args meth c A G ad cc own nL ret) {f : Nat × Int32 × StB} {mc ms : Nat} {r9 : Int32} (hr : ret = none) (h : f = (0, r9, B)) (hc : cells ≤ mc) (hs : slots ≤ ms) (d : decode cc pc = .ok (.return_, 1)) : X p l e R s m args below meth c A G ad nL cells slots (TQV below args s G A ad M O f mc ms) B M O ls (pc) ([]) := fun H locs la hP hS hl => by
  subst h
  refine vx_ret (W.widen hc hs ?_)
  exact W.vret C.1 C.2.1 (C.2.2.2.2.2.2.2.2.1.trans hr) (fun t ht hW => ⟨⟨(), rfl, rfl, by subst ht; exact hP⟩, hS.F ht⟩) hS.2.2 d C.2.2.2.2.2.2.2.2.2.1
theorem xt_throw (C : CX p l s m args meth c A G ad cc own nL ret) {Qc : Array Value → State → Outcome → State → Prop} {f : Nat × Int32 × StB} {mc ms k ik ic : Nat} {r9 : Int32} (hE : ∀ x ∈ c.exceptionTable.toList, False) (h : f = (k, r9, B)) (hk0 : k ≠ 0) (hfit : Bundle.fit (exN k) = true) (hk : Cond.classLink own ik (exN k) ∈ TT) (hi : Cond.initialized (exN k) ∈ TT) (hg : ∀ w ∈ (vx_at0 own ic (exN k) chainN).filter goodWord, w ∈ TT) (hb : ∀ w ∈ (vx_at0 own ic (exN k) chainN).filter (fun w => !goodWord w), w ∈ badW) (ho : ∀ w ∈ Cond.classLink own ik (exN k) :: Cond.initialized (exN k) :: vx_at0 own ic (exN k) chainN, vx_ot w = true)
  (d0 : decode cc pc = .ok (.new ik, 3)) (d3 : decode cc (pc + 3) = .ok (.dup, 1)) (d4 : decode cc (pc + 4) = .ok (.invokespecial ic, 3)) (d7 : decode cc (pc + 7) = .ok (.athrow, 1)) (hRf : 5 < R.frames) (hRl : (rest.map fun v => v.category).sum + 81 ≤ R.locals) (hRc : cells + 1 ≤ R.cells ∧ slots + 6 ≤ R.slots) (hc : cells + 1 ≤ mc) (hs : slots + 6 ≤ ms) : X p l e R s m args below meth c A G ad nL cells slots (vx_MQ below Qc (XQ G A ad M O f) args s mc ms A) B M O ls (pc) (rest) := fun H locs la hP hS hl => by
  subst h
  refine vx_throw0 (names := chainN) C.1 C.2.1 C.2.2.2.2.2.2.2.1.1 C.2.2.2.1 hfit (by decide +kernel) (C.2.2.2.2.1 _ hk) (C.2.2.2.2.1 _ hi) (vx_hat (B := badW) (fun w h => C.2.2.2.2.1 _ (hg w h)) hb (bad_at C.2.2.2.2.2.2.1)) ho C.2.2.2.2.2.2.1.1 C.2.2.2.2.2.2.1.2.1 hS (hl.1.trans C.2.2.1.symm) d0 d3 d4 d7 (fun x hx => (hE x hx).elim) hRf hRl hRc.1 hRc.2 C.2.2.2.2.2.2.2.2.2.1 (fun t ht hz hq => ?_) hS.2.2 hc hs
  refine ⟨(), hk0, ⟨rfl, hP.kept (fun k2 q2 hk2 => hq _ (hP k2 q2 hk2).lt)⟩, ?_⟩
  exact ⟨Nat.le_trans hS.1 hz, fun q h1 h2 => (hq q (Nat.lt_of_lt_of_le h1 hS.1)).trans (hS.2.1 q h1 h2)⟩
theorem xt_cIV (C : CX p l s m args meth c A G ad cc own nL ret) {Qc : Array Value → State → Outcome → State → Prop} {f f0 : Nat × Int32 × StB} {mc ms : Nat} {y : MethodName} {cd : ByteArray} {ml d0 mc0 ms0 idx n : Nat} {rt : Option FieldType} {as : List Value} {q ci N : Nat} {T : u_T} {fs : List Value} (hE : ∀ x ∈ c.exceptionTable.toList, False) (hM : TMet l y (wof y cd ml rt) (rmd d0 mc0 ms0) (.ref (ad q) :: as) G A ad B M O f0 mc0 ms0) (hr : q < 204 ∧ ent G ad B M O q = .inr (ci, fs)) (hc : vwCl[ci]? = some (y.cls, T, N)) (cv : CardV y) (cd0 : Card y cd ml rt n) (hl0 : Cond.methodLink own idx y ∈ TT) (hR : d0 + 1 ≤ R.frames ∧ 8 + (ml + 11) + 48 * d0 ≤ R.locals) (hf : cells + mc0 ≤ R.cells ∧ slots + ms0 ≤ R.slots) (hfm : cells + mc0 ≤ mc ∧ slots + ms0 ≤ ms) (hn : as.length = n) (hst : stk = as.reverse ++ .ref (ad q) :: rest) (hcat : (rest.map fun v => v.category).sum ≤ 8) (d : decode cc pc = .ok (.invokevirtual idx, 3)) (kx : ∀ z : Nat × Int32 × StB, z = f0 → ¬ z.1 = 0 → f = (z.1, 0, z.2.2)) (k : ∀ z : Nat × Int32 × StB, z = f0 → z.1 = 0 → X p l e R s m args below meth c A G ad nL (cells + mc0) (slots + ms0) (vx_MQ below Qc (XQ G A ad M O f) args s mc ms A) z.2.2 M O ls (pc + 3) (.int z.2.1 :: rest)) : X p l e R s m args below meth c A G ad nL cells slots (vx_MQ below Qc (XQ G A ad M O f) args s mc ms A) B M O ls (pc) (stk) := by
  intro H locs la hP hS hl
  refine vx_calli (vx_runV (As := as) (b := ad q) (rest := rest) ⟨C.1, C.2.1, C.2.2.1, C.2.2.2.1, C.2.2.2.2.1⟩ hM ⟨⟨rfl, rfl, hR.1, hR.2, pay_in (big := TT) C.2.2.2.2.1 (fun w h => by rcases List.mem_cons.mp h with h | h; (rw [h]; exact ⟨cd0.1, good_of_word (tt_good _ cd0.1)⟩); exact ⟨h, good_of_word (tt_good _ h)⟩), List.mem_cons_self, C.2.2.2.2.1 _ cd0.1, C.2.2.2.2.1 _ cd0.2.1, ⟨cd0.2.2.1, cd0.2.2.2.1⟩, fun sig h => by have h2 := cd0.2.2.2.2; rw [h] at h2; exact (Option.some.inj h2).symm, C.2.2.2.2.1 _ hl0⟩, C.2.2.2.2.1 _ cv.1, C.2.2.2.2.1 _ cv.2⟩ ⟨pw_blind, va_recv C.2.2.2.2.2.1 hP hc (wl_at hr), fun U hU hW => ⟨rfl, by rw [hU]; exact hP, va_K.moved hW.alike C.2.2.2.2.2.1, fx_step C.2.2.2.2.2.2.1 hS hU hW, fun z hz => C.2.2.2.2.2.2.2.2.2.2 z (Nat.le_trans hS.1 (by rw [hU] at hz; exact hz))⟩⟩ rfl hn hl.1 hst (lv_room hcat) d hf) hS (fun _ _ h => h) (fun _ h => h) (fun _ _ h => h) (fun E ce q9 u t H1 locs1 ht hvm hpx hBX hz1 hk1 hS1 hq9 hce hcl => ?_) (fun r u t H1 locs1 ht hvm hw hB hz1 hk1 hS1 => ?_)
  · obtain ⟨rfl, hB⟩ := hBX
    rw [ht] at hB
    have e1 := kx f0 rfl hpx
    subst e1
    exact vx_out (fun x hx => (hE x hx).elim) C.2.2.2.2.2.2.2.2.2.1 hq9 hce hcl (fun t2 ht2 hv2 => ⟨(), hpx, ⟨rfl, by rw [ht2]; exact hB⟩, hS1.F ht2⟩) hS1.2.2 hfm.1 hfm.2
  · rw [ht] at hB
    obtain ⟨hw, rfl⟩ := hw
    exact k f0 rfl hw H1 locs1 la hB hS1 hl
theorem xt_cIS (C : CX p l s m args meth c A G ad cc own nL ret) {Qc : Array Value → State → Outcome → State → Prop} {f f0 : Nat × Int32 × StB} {mc ms : Nat} {y : MethodName} {cd : ByteArray} {ml d0 mc0 ms0 idx n : Nat} {rt : Option FieldType} {as : List Value}  (hE : ∀ x ∈ c.exceptionTable.toList, False) (hM : TMet l y (wof y cd ml rt) (rmd d0 mc0 ms0) (as) G A ad B M O f0 mc0 ms0) (cv : Cond.static y ∈ TT) (cd0 : Card y cd ml rt n) (hl0 : Cond.methodLink own idx y ∈ TT) (hR : d0 + 1 ≤ R.frames ∧ 8 + (ml + 11) + 48 * d0 ≤ R.locals) (hf : cells + mc0 ≤ R.cells ∧ slots + ms0 ≤ R.slots) (hfm : cells + mc0 ≤ mc ∧ slots + ms0 ≤ ms) (hn : as.length = n) (hst : stk = as.reverse ++ rest) (hcat : (rest.map fun v => v.category).sum ≤ 8) (d : decode cc pc = .ok (.invokestatic idx, 3)) (kx : ∀ z : Nat × Int32 × StB, z = f0 → ¬ z.1 = 0 → f = (z.1, 0, z.2.2)) (k : ∀ z : Nat × Int32 × StB, z = f0 → z.1 = 0 → X p l e R s m args below meth c A G ad nL (cells + mc0) (slots + ms0) (vx_MQ below Qc (XQ G A ad M O f) args s mc ms A) z.2.2 M O ls (pc + 3) (.int z.2.1 :: rest)) : X p l e R s m args below meth c A G ad nL cells slots (vx_MQ below Qc (XQ G A ad M O f) args s mc ms A) B M O ls (pc) (stk) := by
  intro H locs la hP hS hl
  refine vx_calli (vx_runS (As := as) (rest := rest) ⟨C.1, C.2.1, C.2.2.1, C.2.2.2.1, C.2.2.2.2.1⟩ hM ⟨⟨rfl, rfl, hR.1, hR.2, pay_in (big := TT) C.2.2.2.2.1 (fun w h => by rcases List.mem_cons.mp h with h | h; (rw [h]; exact ⟨cd0.1, good_of_word (tt_good _ cd0.1)⟩); exact ⟨h, good_of_word (tt_good _ h)⟩), List.mem_cons_self, C.2.2.2.2.1 _ cd0.1, C.2.2.2.2.1 _ cd0.2.1, ⟨cd0.2.2.1, cd0.2.2.2.1⟩, fun sig h => by have h2 := cd0.2.2.2.2; rw [h] at h2; exact (Option.some.inj h2).symm, C.2.2.2.2.1 _ hl0⟩, C.2.2.2.2.1 _ cv⟩ ⟨pw_blind, fun U hU hW => ⟨rfl, by rw [hU]; exact hP, va_K.moved hW.alike C.2.2.2.2.2.1, fx_step C.2.2.2.2.2.2.1 hS hU hW, fun z hz => C.2.2.2.2.2.2.2.2.2.2 z (Nat.le_trans hS.1 (by rw [hU] at hz; exact hz))⟩⟩ rfl hn hl.1 hst (lv_room hcat) d hf) hS (fun _ _ h => h) (fun _ h => h) (fun _ _ h => h) (fun E ce q9 u t H1 locs1 ht hvm hpx hBX hz1 hk1 hS1 hq9 hce hcl => ?_) (fun r u t H1 locs1 ht hvm hw hB hz1 hk1 hS1 => ?_)
  · obtain ⟨rfl, hB⟩ := hBX
    rw [ht] at hB
    have e1 := kx f0 rfl hpx
    subst e1
    exact vx_out (fun x hx => (hE x hx).elim) C.2.2.2.2.2.2.2.2.2.1 hq9 hce hcl (fun t2 ht2 hv2 => ⟨(), hpx, ⟨rfl, by rw [ht2]; exact hB⟩, hS1.F ht2⟩) hS1.2.2 hfm.1 hfm.2
  · rw [ht] at hB
    obtain ⟨hw, rfl⟩ := hw
    exact k f0 rfl hw H1 locs1 la hB hS1 hl
theorem xt_cVV (C : CX p l s m args meth c A G ad cc own nL ret) {Qc : Array Value → State → Outcome → State → Prop} {f f0 : Nat × Int32 × StB} {mc ms : Nat} {y : MethodName} {cd : ByteArray} {ml d0 mc0 ms0 idx n : Nat} {rt : Option FieldType} {as : List Value} {q ci N : Nat} {T : u_T} {fs : List Value} (hE : ∀ x ∈ c.exceptionTable.toList, False) (hM : TMetV l y (wof y cd ml rt) (rmd d0 mc0 ms0) (.ref (ad q) :: as) G A ad B M O f0 mc0 ms0) (hr : q < 204 ∧ ent G ad B M O q = .inr (ci, fs)) (hc : vwCl[ci]? = some (y.cls, T, N)) (cv : CardV y) (cd0 : Card y cd ml rt n) (hl0 : Cond.methodLink own idx y ∈ TT) (hR : d0 + 1 ≤ R.frames ∧ 8 + (ml + 11) + 48 * d0 ≤ R.locals) (hf : cells + mc0 ≤ R.cells ∧ slots + ms0 ≤ R.slots) (hfm : cells + mc0 ≤ mc ∧ slots + ms0 ≤ ms) (hn : as.length = n) (hst : stk = as.reverse ++ .ref (ad q) :: rest) (hcat : (rest.map fun v => v.category).sum ≤ 8) (d : decode cc pc = .ok (.invokevirtual idx, 3)) (kx : ∀ z : Nat × Int32 × StB, z = f0 → ¬ z.1 = 0 → f = (z.1, 0, z.2.2)) (k : ∀ z : Nat × Int32 × StB, z = f0 → z.1 = 0 → X p l e R s m args below meth c A G ad nL (cells + mc0) (slots + ms0) (vx_MQ below Qc (XQ G A ad M O f) args s mc ms A) z.2.2 M O ls (pc + 3) (rest)) : X p l e R s m args below meth c A G ad nL cells slots (vx_MQ below Qc (XQ G A ad M O f) args s mc ms A) B M O ls (pc) (stk) := by
  intro H locs la hP hS hl
  refine vx_callv (vx_runV (As := as) (b := ad q) (rest := rest) ⟨C.1, C.2.1, C.2.2.1, C.2.2.2.1, C.2.2.2.2.1⟩ hM ⟨⟨rfl, rfl, hR.1, hR.2, pay_in (big := TT) C.2.2.2.2.1 (fun w h => by rcases List.mem_cons.mp h with h | h; (rw [h]; exact ⟨cd0.1, good_of_word (tt_good _ cd0.1)⟩); exact ⟨h, good_of_word (tt_good _ h)⟩), List.mem_cons_self, C.2.2.2.2.1 _ cd0.1, C.2.2.2.2.1 _ cd0.2.1, ⟨cd0.2.2.1, cd0.2.2.2.1⟩, fun sig h => by have h2 := cd0.2.2.2.2; rw [h] at h2; exact (Option.some.inj h2).symm, C.2.2.2.2.1 _ hl0⟩, C.2.2.2.2.1 _ cv.1, C.2.2.2.2.1 _ cv.2⟩ ⟨pw_blind, va_recv C.2.2.2.2.2.1 hP hc (wl_at hr), fun U hU hW => ⟨rfl, by rw [hU]; exact hP, va_K.moved hW.alike C.2.2.2.2.2.1, fx_step C.2.2.2.2.2.2.1 hS hU hW, fun z hz => C.2.2.2.2.2.2.2.2.2.2 z (Nat.le_trans hS.1 (by rw [hU] at hz; exact hz))⟩⟩ rfl hn hl.1 hst (lv_room hcat) d hf) hS (fun _ _ h => h) (fun _ h => h) (fun _ _ h => h) (fun E ce q9 u t H1 locs1 ht hvm hpx hBX hz1 hk1 hS1 hq9 hce hcl => ?_) (fun u t H1 locs1 ht hvm hw hB hz1 hk1 hS1 => ?_)
  · obtain ⟨rfl, hB⟩ := hBX
    rw [ht] at hB
    have e1 := kx f0 rfl hpx
    subst e1
    exact vx_out (fun x hx => (hE x hx).elim) C.2.2.2.2.2.2.2.2.2.1 hq9 hce hcl (fun t2 ht2 hv2 => ⟨(), hpx, ⟨rfl, by rw [ht2]; exact hB⟩, hS1.F ht2⟩) hS1.2.2 hfm.1 hfm.2
  · rw [ht] at hB
    skip
    exact k f0 rfl hw H1 locs1 la hB hS1 hl
theorem xt_cVS (C : CX p l s m args meth c A G ad cc own nL ret) {Qc : Array Value → State → Outcome → State → Prop} {f f0 : Nat × Int32 × StB} {mc ms : Nat} {y : MethodName} {cd : ByteArray} {ml d0 mc0 ms0 idx n : Nat} {rt : Option FieldType} {as : List Value}  (hE : ∀ x ∈ c.exceptionTable.toList, False) (hM : TMetV l y (wof y cd ml rt) (rmd d0 mc0 ms0) (as) G A ad B M O f0 mc0 ms0) (cv : Cond.static y ∈ TT) (cd0 : Card y cd ml rt n) (hl0 : Cond.methodLink own idx y ∈ TT) (hR : d0 + 1 ≤ R.frames ∧ 8 + (ml + 11) + 48 * d0 ≤ R.locals) (hf : cells + mc0 ≤ R.cells ∧ slots + ms0 ≤ R.slots) (hfm : cells + mc0 ≤ mc ∧ slots + ms0 ≤ ms) (hn : as.length = n) (hst : stk = as.reverse ++ rest) (hcat : (rest.map fun v => v.category).sum ≤ 8) (d : decode cc pc = .ok (.invokestatic idx, 3)) (kx : ∀ z : Nat × Int32 × StB, z = f0 → ¬ z.1 = 0 → f = (z.1, 0, z.2.2)) (k : ∀ z : Nat × Int32 × StB, z = f0 → z.1 = 0 → X p l e R s m args below meth c A G ad nL (cells + mc0) (slots + ms0) (vx_MQ below Qc (XQ G A ad M O f) args s mc ms A) z.2.2 M O ls (pc + 3) (rest)) : X p l e R s m args below meth c A G ad nL cells slots (vx_MQ below Qc (XQ G A ad M O f) args s mc ms A) B M O ls (pc) (stk) := by
  intro H locs la hP hS hl
  refine vx_callv (vx_runS (As := as) (rest := rest) ⟨C.1, C.2.1, C.2.2.1, C.2.2.2.1, C.2.2.2.2.1⟩ hM ⟨⟨rfl, rfl, hR.1, hR.2, pay_in (big := TT) C.2.2.2.2.1 (fun w h => by rcases List.mem_cons.mp h with h | h; (rw [h]; exact ⟨cd0.1, good_of_word (tt_good _ cd0.1)⟩); exact ⟨h, good_of_word (tt_good _ h)⟩), List.mem_cons_self, C.2.2.2.2.1 _ cd0.1, C.2.2.2.2.1 _ cd0.2.1, ⟨cd0.2.2.1, cd0.2.2.2.1⟩, fun sig h => by have h2 := cd0.2.2.2.2; rw [h] at h2; exact (Option.some.inj h2).symm, C.2.2.2.2.1 _ hl0⟩, C.2.2.2.2.1 _ cv⟩ ⟨pw_blind, fun U hU hW => ⟨rfl, by rw [hU]; exact hP, va_K.moved hW.alike C.2.2.2.2.2.1, fx_step C.2.2.2.2.2.2.1 hS hU hW, fun z hz => C.2.2.2.2.2.2.2.2.2.2 z (Nat.le_trans hS.1 (by rw [hU] at hz; exact hz))⟩⟩ rfl hn hl.1 hst (lv_room hcat) d hf) hS (fun _ _ h => h) (fun _ h => h) (fun _ _ h => h) (fun E ce q9 u t H1 locs1 ht hvm hpx hBX hz1 hk1 hS1 hq9 hce hcl => ?_) (fun u t H1 locs1 ht hvm hw hB hz1 hk1 hS1 => ?_)
  · obtain ⟨rfl, hB⟩ := hBX
    rw [ht] at hB
    have e1 := kx f0 rfl hpx
    subst e1
    exact vx_out (fun x hx => (hE x hx).elim) C.2.2.2.2.2.2.2.2.2.1 hq9 hce hcl (fun t2 ht2 hv2 => ⟨(), hpx, ⟨rfl, by rw [ht2]; exact hB⟩, hS1.F ht2⟩) hS1.2.2 hfm.1 hfm.2
  · rw [ht] at hB
    skip
    exact k f0 rfl hw H1 locs1 la hB hS1 hl
theorem xt_body {l : Launch} {A : Nat → Prop} {G : GT} {ad : Nat → Nat} {B : StB} {M : StM} {O : StO} {y : MethodName} {cc : ByteArray} {nL d0 mc ms : Nat} {ret : Option FieldType} {as : List Value} {Qc : Array Value → State → Outcome → State → Prop} {XC : String → State → State → Prop} {own : String} (hy : plainName y.cls = true) (ho : y.cls = own) (gl : Gl l A ad) (hle : (lg_sl as).length ≤ nL) {ls : List (Nat × Value)} (hls : lv_args 0 as = ls)
  (body : ∀ p e s m args below meth c, (∀ x ∈ c.exceptionTable.toList, False) → CX p l s m args meth c A G ad cc own nL ret → X p l e (rmd d0 mc ms) s m args below meth c A G ad nL 0 0 (vx_MQ below Qc XC args s mc ms A) B M O ls 0 []) : vx_Met l y (wof y cc nL ret) (rmd d0 mc ms) (va_Pc as (PW G A ad B M O)) Qc XC mc ms A := by
  refine vx_ofW (cc := cc) (maxL := nL) (ret := ret) hy rfl ?_
  intro p e s m args below meth c s₁ B0 hml hE hv
  obtain ⟨rfl, hP, hK, hF, hA⟩ := hv
  have hts := atoms_spec (ws := wof y cc nL ret) B0.pre
  have K := body p e s m as.toArray below meth c hE ⟨B0.exec, B0.bytes, hml, by rw [← ho]; exact findClass_of_methodNamed B0.named, fun w h => hts w (List.mem_cons_of_mem _ h), hK, hF, gl, B0.returns, B0.notSynchronized, hA⟩ s.heap []
  rw [lg_entry_eq]
  exact K _ hP va_S.rf (by rw [← hls]; exact lv_entry as hle)
end XT
