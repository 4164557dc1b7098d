/-! the law's wrappers: handlers, the out arrays -/
theorem tab_eq {L : List ExceptionTableEntry} {hh : List (Nat × Nat × Nat × Nat)} (h : L.map (fun h => (h.startPc, h.endPc, h.handlerPc, h.catchType)) = hh) : L = hh.map (fun q => ⟨q.1, q.2.1, q.2.2.1, q.2.2.2⟩) := by
  rw [← h, List.map_map]
  show L = L.map id
  rw [List.map_id]
theorem arrV_1 {cA : ClassId} {f g : Nat → Value} (h : f 0 = g 0) : arrV cA 1 f = arrV cA 1 g := by
  unfold arrV
  congr 1
  congr 1
  funext j
  have : j.val = 0 := by omega
  rw [this]
  exact h
theorem ent_o {G : GT} {ad : Nat → Nat} {B : StB} {M : StM} {O O2 : StO} {q : Nat} (h : (q ≠ 202 ∨ O.1 = O2.1) ∧ (q < 203 ∨ O.2 = O2.2)) : ent G ad B M O q = ent G ad B M O2 q := by
  obtain ⟨a1, a2⟩ := O
  obtain ⟨b1, b2⟩ := O2
  unfold ent
  by_cases h9 : q < 193
  · rw [if_pos h9, if_pos h9]
  · rw [if_neg h9, if_neg h9]
    unfold entM
    obtain ⟨j, hj⟩ : ∃ j, q = 193 + j := ⟨q - 193, by omega⟩
    subst hj
    rw [Nat.add_sub_cancel_left]
    match j, h with
    | 0, _ => rfl
    | 1, _ => rfl
    | 2, _ => rfl
    | 3, _ => rfl
    | 4, _ => rfl
    | 5, _ => rfl
    | 6, _ => rfl
    | 7, _ => rfl
    | 8, _ => rfl
    | 9, h => rcases h.1 with h | h; (exact absurd rfl h); (have h : a1 = b1 := h); subst h; rfl
    | j + 10, h => rcases h.2 with h | h; (exact absurd h (by omega)); (have h : a2 = b2 := h); subst h; rfl
section XW
variable {p : Program} {l : Launch} {e : Env} {R : Room} {s : State} {m : MethodId} {args : Array Value} {below : List Frame} {meth : Method} {c : Code} {cells slots : Nat} {Q : State → Prop}
variable {A : Nat → Prop} {G : GT} {ad : Nat → Nat} {cc : ByteArray} {own : String} {nL : Nat} {ret : Option FieldType} {B : StB} {M : StM} {O : StO} {ls : List (Nat × Value)} {pc : Nat} {rest stk : List Value}
theorem x_last (C : CX p l s m args meth c A G ad cc own nL ret) {x : Int64} (d : decode cc pc = .ok (.lastore, 1)) (k : X p l e R s m args below meth c A G ad nL cells slots Q B M (x, O.2) ls (pc + 1) rest) : X p l e R s m args below meth c A G ad nL cells slots Q B M O ls pc (.long x :: .int 0 :: .ref (ad 202) :: rest) := fun H locs la hP hS hl =>
  va_last C.1 C.2.1 C.2.2.2.2.2.1 hP (wl_D C.2.2.2.2.2.2.2.1.2) hS 202 6 (wl_at ⟨by decide, e_Ol.2⟩) rfl (by unfold vp_in; decide) d (fun H1 locs1 hP1 _ hS1 => k H1 locs1 la (by
    intro k0 q hk
    have hl2 : k0 < 204 := by
      have := (List.getElem?_eq_some_iff.mp hk).1
      simpa [wl] using this
    by_cases h2 : k0 = 202
    · subst h2
      rw [wl_at ⟨hl2, e_Ol.2⟩] at hk
      cases hk
      have := hP1 202 _ (List.getElem?_set_self (by simp [wl]))
      have h3 : H1[ad 202]? = some (vp_cell (G.2.1 6) (1, .inr (.inl (vp_updL (fun _ => O.1) (0 : Int32).toNatClampNeg x)))) := this
      show H1[ad 202]? = some (vp_cell (G.2.1 6) (1, .inr (.inl (fun _ => x))))
      rw [h3, vp_cell_l, vp_cell_l]
      exact congrArg some (arrV_1 rfl)
    · rw [wl_at ⟨hl2, rfl⟩] at hk
      cases hk
      refine hP1 k0 _ ?_
      rw [List.getElem?_set_ne (Ne.symm h2), wl_at ⟨hl2, rfl⟩]
      exact congrArg (fun z => some (ad k0, z)) (ent_o ⟨Or.inl h2, Or.inr rfl⟩)) hS1 hl)
theorem x_dast (C : CX p l s m args meth c A G ad cc own nL ret) {x : UInt64} (d : decode cc pc = .ok (.dastore, 1)) (k : X p l e R s m args below meth c A G ad nL cells slots Q B M (O.1, x) ls (pc + 1) rest) : X p l e R s m args below meth c A G ad nL cells slots Q B M O ls pc (.double x :: .int 0 :: .ref (ad 203) :: rest) := fun H locs la hP hS hl =>
  va_dast C.1 C.2.1 C.2.2.2.2.2.1 hP (wl_D C.2.2.2.2.2.2.2.1.2) hS 203 7 (wl_at ⟨by decide, e_Od.2⟩) rfl (by unfold vp_in; decide) d (fun H1 locs1 hP1 _ hS1 => k H1 locs1 la (by
    intro k0 q hk
    have hl2 : k0 < 204 := by
      have := (List.getElem?_eq_some_iff.mp hk).1
      simpa [wl] using this
    by_cases h2 : k0 = 203
    · subst h2
      rw [wl_at ⟨hl2, e_Od.2⟩] at hk
      cases hk
      have := hP1 203 _ (List.getElem?_set_self (by simp [wl]))
      have h3 : H1[ad 203]? = some (vp_cell (G.2.1 7) (1, .inr (.inr (.inr (.inl (vf_upd (fun _ => O.2) (0 : Int32).toNatClampNeg x)))))) := this
      show H1[ad 203]? = some (vp_cell (G.2.1 7) (1, .inr (.inr (.inr (.inl (fun _ => x))))))
      rw [h3]
      exact congrArg some (arrV_1 (f := fun j => .double (vf_upd (fun _ => O.2) (0 : Int32).toNatClampNeg x j)) (g := fun _ => .double x) rfl)
    · rw [wl_at ⟨hl2, rfl⟩] at hk
      cases hk
      refine hP1 k0 _ ?_
      rw [List.getElem?_set_ne (Ne.symm h2), wl_at ⟨hl2, rfl⟩]
      exact congrArg (fun z => some (ad k0, z)) (ent_o ⟨Or.inr rfl, Or.inl (by omega)⟩)) hS1 hl)
/-- an exception of the class E flies at pc -/
def XC (p : Program) (l : Launch) (e : Env) (R : Room) (s : State) (m : MethodId) (args : Array Value) (below : List Frame) (meth : Method) (c : Code) (A : Nat → Prop) (G : GT) (ad : Nat → Nat) (nL : Nat) (cells slots : Nat) (Q : State → Prop) (B : StB) (M : StM) (O : StO) (ls : List (Nat × Value)) (pc : Nat) (rest : List Value) (E : String) (q : Nat) : Prop :=
  ∀ (H : Heap) (locs : List Loc) (la : Array Slot) (ce : Cell), va_P G.1 vwCl (wl G ad B M O) H → va_S A s.heap H locs → lv_has la nL ls → H[q]? = some ce → ce.vm = .none → s.vm.findClass E = some ce.cls → vx_W p l e R s m args below meth c H locs cells slots Q (F0 m pc la rest) q
theorem xc_catch (C : CX p l s m args meth c A G ad cc own nL ret) {E name : String} {q : Nat} (pre : List ExceptionTableEntry) (x : ExceptionTableEntry) (suf : List ExceptionTableEntry) (hsplit : c.exceptionTable.toList = pre ++ x :: suf)
    (hpass : ∀ z ∈ pre, z.catchType ≠ 0 ∧ ∃ nm : String, Cond.classLink own z.catchType nm ∈ TT ∧ (E, nm) ∈ ncL) (hx : covers x pc = true) (h0 : x.catchType ≠ 0)
    (hlink : Cond.classLink own x.catchType name ∈ TT) (hcast : (E, name) ∈ castL)
    (k : X p l e R s m args below meth c A G ad nL cells slots Q B M O ls x.handlerPc [.ref q]) : XC p l e R s m args below meth c A G ad nL cells slots Q B M O ls pc rest E q := fun H locs la ce hP hS hl h1 h2 h3 =>
  vx_catch C.2.2.2.1 pre x suf hsplit (fun z hz => by
    obtain ⟨g1, nm, g2, g3⟩ := hpass z hz
    exact Or.inr ⟨g1, nm, C.2.2.2.2.1 _ g2, C.2.2.2.2.2.2.1.2.2.2.2.2.2.2.2.2.2.2.2.1 _ g3⟩) hx h0 (C.2.2.2.2.1 _ hlink) (va_Nw.use rfl (C.2.2.2.2.2.2.1.2.2.2.2.2.2.2.2.2.2.1 _ hcast)) h1 h2 h3 (k H locs la hP hS hl)
theorem xw_cIV (C : CX p l s m args meth c A G ad cc own nL ret) {f0 : Nat × Int32 × StB} {y : MethodName} {cd : ByteArray} {ml d0 mc0 ms0 idx n : Nat} {rt : Option FieldType} {as : List Value} {q ci N : Nat} {T : u_T} {fs : List Value} (hM : TMet l y (wof y cd ml rt) (rmd d0 mc0 ms0) (.ref (ad q) :: as) G A ad B M O f0 mc0 ms0) (hr : q < 204 ∧ ent G ad B M O q = .inr (ci, fs)) (hc : vwCl[ci]? = some (y.cls, T, N)) (cv : CardV y) (cd0 : Card y cd ml rt n) (hl0 : Cond.methodLink own idx y ∈ TT) (hR : d0 + 1 ≤ R.frames ∧ 8 + (ml + 11) + 48 * d0 ≤ R.locals) (hf : cells + mc0 ≤ R.cells ∧ slots + ms0 ≤ R.slots) (hn : as.length = n) (hst : stk = as.reverse ++ .ref (ad q) :: rest) (hcat : (rest.map fun v => v.category).sum ≤ 8) (d : decode cc pc = .ok (.invokevirtual idx, 3)) (kx : ¬ f0.1 = 0 → ∀ q : Nat, XC p l e R s m args below meth c A G ad nL (cells + mc0) (slots + ms0) Q f0.2.2 M O ls pc rest (exN f0.1) q) (k : f0.1 = 0 → X p l e R s m args below meth c A G ad nL (cells + mc0) (slots + ms0) Q f0.2.2 M O ls (pc + 3) (.int f0.2.1 :: rest)) : X p l e R s m args below meth c A G ad nL cells slots Q B M O ls (pc) (stk) := by
  intro H locs la hP hS hl
  refine vx_calli (vx_runV (As := as) (b := ad q) (rest := rest) ⟨C.1, C.2.1, C.2.2.1, C.2.2.2.1, C.2.2.2.2.1⟩ hM ⟨⟨rfl, rfl, hR.1, hR.2, pay_in (big := TT) C.2.2.2.2.1 (fun w h => by rcases List.mem_cons.mp h with h | h; (rw [h]; exact ⟨cd0.1, good_of_word (tt_good _ cd0.1)⟩); exact ⟨h, good_of_word (tt_good _ h)⟩), List.mem_cons_self, C.2.2.2.2.1 _ cd0.1, C.2.2.2.2.1 _ cd0.2.1, ⟨cd0.2.2.1, cd0.2.2.2.1⟩, fun sig h => by have h2 := cd0.2.2.2.2; rw [h] at h2; exact (Option.some.inj h2).symm, C.2.2.2.2.1 _ hl0⟩, C.2.2.2.2.1 _ cv.1, C.2.2.2.2.1 _ cv.2⟩ ⟨pw_blind, va_recv C.2.2.2.2.2.1 hP hc (wl_at hr), fun U hU hW => ⟨rfl, by rw [hU]; exact hP, va_K.moved hW.alike C.2.2.2.2.2.1, fx_step C.2.2.2.2.2.2.1 hS hU hW, fun z hz => C.2.2.2.2.2.2.2.2.2.2 z (Nat.le_trans hS.1 (by rw [hU] at hz; exact hz))⟩⟩ rfl hn hl.1 hst (lv_room hcat) d hf) hS (fun _ _ h => h) (fun _ h => h) (fun _ _ h => h) (fun E ce q9 u t H1 locs1 ht hvm hpx hBX hz1 hk1 hS1 hq9 hce hcl => ?_) (fun r u t H1 locs1 ht hvm hw hB hz1 hk1 hS1 => ?_)
  · obtain ⟨rfl, hB⟩ := hBX
    rw [ht] at hB
    exact kx hpx q9 H1 locs1 la ce hB hS1 hl hq9 hce hcl
  · rw [ht] at hB
    obtain ⟨hw, rfl⟩ := hw
    exact k hw H1 locs1 la hB hS1 hl

theorem xw_cDV (C : CX p l s m args meth c A G ad cc own nL ret) {f0 : Nat × UInt64 × StB} {y : MethodName} {cd : ByteArray} {ml d0 mc0 ms0 idx n : Nat} {rt : Option FieldType} {as : List Value} {q ci N : Nat} {T : u_T} {fs : List Value} (hM : TMetD l y (wof y cd ml rt) (rmd d0 mc0 ms0) (.ref (ad q) :: as) G A ad B M O f0 mc0 ms0) (hr : q < 204 ∧ ent G ad B M O q = .inr (ci, fs)) (hc : vwCl[ci]? = some (y.cls, T, N)) (cv : CardV y) (cd0 : Card y cd ml rt n) (hl0 : Cond.methodLink own idx y ∈ TT) (hR : d0 + 1 ≤ R.frames ∧ 8 + (ml + 11) + 48 * d0 ≤ R.locals) (hf : cells + mc0 ≤ R.cells ∧ slots + ms0 ≤ R.slots) (hn : as.length = n) (hst : stk = as.reverse ++ .ref (ad q) :: rest) (hcat : (rest.map fun v => v.category).sum ≤ 8) (d : decode cc pc = .ok (.invokevirtual idx, 3)) (kx : ¬ f0.1 = 0 → ∀ q : Nat, XC p l e R s m args below meth c A G ad nL (cells + mc0) (slots + ms0) Q f0.2.2 M O ls pc rest (exN f0.1) q) (k : f0.1 = 0 → X p l e R s m args below meth c A G ad nL (cells + mc0) (slots + ms0) Q f0.2.2 M O ls (pc + 3) (.double f0.2.1 :: rest)) : X p l e R s m args below meth c A G ad nL cells slots Q B M O ls (pc) (stk) := by
  intro H locs la hP hS hl
  refine vx_calld (vx_runV (As := as) (b := ad q) (rest := rest) ⟨C.1, C.2.1, C.2.2.1, C.2.2.2.1, C.2.2.2.2.1⟩ hM ⟨⟨rfl, rfl, hR.1, hR.2, pay_in (big := TT) C.2.2.2.2.1 (fun w h => by rcases List.mem_cons.mp h with h | h; (rw [h]; exact ⟨cd0.1, good_of_word (tt_good _ cd0.1)⟩); exact ⟨h, good_of_word (tt_good _ h)⟩), List.mem_cons_self, C.2.2.2.2.1 _ cd0.1, C.2.2.2.2.1 _ cd0.2.1, ⟨cd0.2.2.1, cd0.2.2.2.1⟩, fun sig h => by have h2 := cd0.2.2.2.2; rw [h] at h2; exact (Option.some.inj h2).symm, C.2.2.2.2.1 _ hl0⟩, C.2.2.2.2.1 _ cv.1, C.2.2.2.2.1 _ cv.2⟩ ⟨pw_blind, va_recv C.2.2.2.2.2.1 hP hc (wl_at hr), fun U hU hW => ⟨rfl, by rw [hU]; exact hP, va_K.moved hW.alike C.2.2.2.2.2.1, fx_step C.2.2.2.2.2.2.1 hS hU hW, fun z hz => C.2.2.2.2.2.2.2.2.2.2 z (Nat.le_trans hS.1 (by rw [hU] at hz; exact hz))⟩⟩ rfl hn hl.1 hst (lv_room hcat) d hf) hS (fun _ _ h => h) (fun _ h => h) (fun _ _ h => h) (fun E ce q9 u t H1 locs1 ht hvm hpx hBX hz1 hk1 hS1 hq9 hce hcl => ?_) (fun r u t H1 locs1 ht hvm hw hB hz1 hk1 hS1 => ?_)
  · obtain ⟨rfl, hB⟩ := hBX
    rw [ht] at hB
    exact kx hpx q9 H1 locs1 la ce hB hS1 hl hq9 hce hcl
  · rw [ht] at hB
    obtain ⟨hw, rfl⟩ := hw
    exact k hw H1 locs1 la hB hS1 hl

end XW
def wofH (y : MethodName) (cd : ByteArray) (ml : Nat) (rt : Option FieldType) (hh : List (Nat × Nat × Nat × Nat)) : List Cond := .codeWith y cd ml rt hh :: TT
theorem xw_body {l : Launch} {A : Nat → Prop} {G : GT} {ad : Nat → Nat} {B : StB} {M : StM} {O : StO} {y : MethodName} {cc : ByteArray} {nL d0 mc ms : Nat} {ret : Option FieldType} {hh : List (Nat × Nat × Nat × Nat)} {as : List Value} {Qc : Array Value → State → Outcome → State → Prop} {own : String} (hy : plainName y.cls = true) (ho : y.cls = own) (gl : Gl l A ad) (hle : (lg_sl as).length ≤ nL) {ls : List (Nat × Value)} (hls : lv_args 0 as = ls)
  (body : ∀ p e s m args below meth c, CX p l s m args meth c A G ad cc own nL ret → c.exceptionTable.toList = tableOf hh → X p l e (rmd d0 mc ms) s m args below meth c A G ad nL 0 0 (MQ below Qc args s mc ms A) B M O ls 0 []) : Met l y (wofH y cc nL ret hh) (rmd d0 mc ms) (va_Pc as (PW G A ad B M O)) Qc mc ms A := by
  refine MetFree.of_bodyS (code := cc) (maxLocals := nL) (ret := ret) hy ?_ ?_
  · intro args s m h hn
    obtain ⟨m9, meth, c, hn9, h1, h2, h3, h4, -, h5, h6, -⟩ := Cond.codeWith_spec (atoms_spec (ws := wofH y cc nL ret hh) h _ List.mem_cons_self)
    cases hn.symm.trans hn9
    exact ⟨meth, c, h1, h2, h3, h4, h5, h6⟩
  · intro p e s m args below meth c s₁ B0 hml0 hv _
    obtain ⟨rfl, hP, hK, hF, hA⟩ := hv
    have hts := atoms_spec (ws := wofH y cc nL ret hh) B0.pre
    have htab : c.exceptionTable.toList = tableOf hh := vx_table (x := y) B0 (hts _ List.mem_cons_self)
    have K := body p e s m as.toArray below meth c ⟨B0.exec, B0.bytes, hml0, by rw [← ho]; exact findClass_of_methodNamed B0.named, fun w h => hts w (List.mem_cons_of_mem _ h), hK, hF, gl, B0.returns, B0.notSynchronized, hA⟩ htab s.heap []
    have hh0 : s₁.heap = s.heap := by rw [B0.state]; rfl
    have K2 : W p l e (rmd d0 mc ms) s m as.toArray below meth c s.heap [] 0 0 (MQ below Qc as.toArray s mc ms A) (entryFrame m as.toArray nL) := by
      rw [lg_entry_eq]
      exact K _ hP va_S.rf (by rw [← hls]; exact lv_entry as hle)
    obtain ⟨t, a1, o, b1, b2, b3⟩ := K2 s₁ hh0 (Stand.of_body B0)
    exact ⟨t, o, a1, b1, b2, ⟨b3.1, b3.2⟩⟩

