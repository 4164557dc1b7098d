/-! handlers -/
theorem tab_eq {L : List ExceptionTableEntry} {hh : List (Nat × Nat × Nat × Nat)} (h : L.map (fun h => (h.startPc, h.endPc, h.handlerPc, h.catchType)) = hh) : L = hh.map (fun q => ⟨q.1, q.2.1, q.2.2.1, q.2.2.2⟩) := by
  rw [← h, List.map_map]
  show L = L.map id
  rw [List.map_id]
section XW
variable {p : Program} {l : Launch} {e : Env} {R : Room} {s : State} {m : MethodId} {args : Array Value} {below : List Frame} {meth : Method} {c : Code} {cells slots : Nat} {Q : State → Prop}
variable {A : Nat → Prop} {G : GT} {ad : Nat → Nat} {cc : ByteArray} {own : String} {nL : Nat} {ret : Option FieldType} {B : StB} {M : StM} {O : StO} {ls : List (Nat × Value)} {pc : Nat} {rest stk : List Value}
/-- an exception of the class E flies at pc -/
def XC (p : Program) (l : Launch) (e : Env) (R : Room) (s : State) (m : MethodId) (args : Array Value) (below : List Frame) (meth : Method) (c : Code) (A : Nat → Prop) (G : GT) (ad : Nat → Nat) (nL : Nat) (cells slots : Nat) (Q : State → Prop) (B : StB) (M : StM) (O : StO) (ls : List (Nat × Value)) (pc : Nat) (rest : List Value) (E : String) (q : Nat) : Prop :=
  ∀ (H : Heap) (locs : List Loc) (la : Array Slot) (ce : Cell), va_P G.1 vwCl (wl G ad B M O) H → va_S A s.heap H locs → lv_has la nL ls → H[q]? = some ce → ce.vm = .none → s.vm.findClass E = some ce.cls → vx_W p l e R s m args below meth c H locs cells slots Q (F0 m pc la rest) q
theorem xc_catch (C : CX p l s m args meth c A G ad cc own nL ret) {E name : String} {q : Nat} (pre : List ExceptionTableEntry) (x : ExceptionTableEntry) (suf : List ExceptionTableEntry) (hsplit : c.exceptionTable.toList = pre ++ x :: suf)
    (hpass : ∀ z ∈ pre, z.catchType ≠ 0 ∧ ∃ nm : String, Cond.classLink own z.catchType nm ∈ TT ∧ (E, nm) ∈ ncL) (hx : covers x pc = true) (h0 : x.catchType ≠ 0)
    (hlink : Cond.classLink own x.catchType name ∈ TT) (hcast : (E, name) ∈ castL)
    (k : X p l e R s m args below meth c A G ad nL cells slots Q B M O ls x.handlerPc [.ref q]) : XC p l e R s m args below meth c A G ad nL cells slots Q B M O ls pc rest E q := fun H locs la ce hP hS hl h1 h2 h3 =>
  vx_catch C.2.2.2.1 pre x suf hsplit (fun z hz => by
    obtain ⟨g1, nm, g2, g3⟩ := hpass z hz
    exact Or.inr ⟨g1, nm, C.2.2.2.2.1 _ g2, C.2.2.2.2.2.2.1.2.2.2.2.2.2.2.2.2.2.2.2.1 _ g3⟩) hx h0 (C.2.2.2.2.1 _ hlink) (va_Nw.use rfl (C.2.2.2.2.2.2.1.2.2.2.2.2.2.2.2.2.2.1 _ hcast)) h1 h2 h3 (k H locs la hP hS hl)
theorem xw_cIS (C : CX p l s m args meth c A G ad cc own nL ret) {f0 : Nat × Int32 × StB} {y : MethodName} {cd : ByteArray} {ml d0 mc0 ms0 idx n : Nat} {rt : Option FieldType} {as : List Value}  (hM : TMet l y (wof y cd ml rt) (rmd d0 mc0 ms0) (as) G A ad B M O f0 mc0 ms0) (cv : Cond.static y ∈ TT) (cd0 : Card y cd ml rt n) (hl0 : Cond.methodLink own idx y ∈ TT) (hR : d0 + 1 ≤ R.frames ∧ 8 + (ml + 11) + 48 * d0 ≤ R.locals) (hf : cells + mc0 ≤ R.cells ∧ slots + ms0 ≤ R.slots) (hn : as.length = n) (hst : stk = as.reverse ++ rest) (hcat : (rest.map fun v => v.category).sum ≤ 8) (d : decode cc pc = .ok (.invokestatic idx, 3)) (kx : ¬ f0.1 = 0 → ∀ q : Nat, XC p l e R s m args below meth c A G ad nL (cells + mc0) (slots + ms0) Q f0.2.2 M O ls pc rest (exN f0.1) q) (k : f0.1 = 0 → X p l e R s m args below meth c A G ad nL (cells + mc0) (slots + ms0) Q f0.2.2 M O ls (pc + 3) (.int f0.2.1 :: rest)) : X p l e R s m args below meth c A G ad nL cells slots Q B M O ls (pc) (stk) := by
  intro H locs la hP hS hl
  refine vx_calli (vx_runS (As := as) (rest := rest) ⟨C.1, C.2.1, C.2.2.1, C.2.2.2.1, C.2.2.2.2.1⟩ hM ⟨⟨rfl, rfl, hR.1, hR.2, pay_in (big := TT) C.2.2.2.2.1 (fun w h => by rcases List.mem_cons.mp h with h | h; (rw [h]; exact ⟨cd0.1, good_of_word (tt_good _ cd0.1)⟩); exact ⟨h, good_of_word (tt_good _ h)⟩), List.mem_cons_self, C.2.2.2.2.1 _ cd0.1, C.2.2.2.2.1 _ cd0.2.1, ⟨cd0.2.2.1, cd0.2.2.2.1⟩, fun sig h => by have h2 := cd0.2.2.2.2; rw [h] at h2; exact (Option.some.inj h2).symm, C.2.2.2.2.1 _ hl0⟩, C.2.2.2.2.1 _ cv⟩ ⟨pw_blind, fun U hU hW => ⟨rfl, by rw [hU]; exact hP, va_K.moved hW.alike C.2.2.2.2.2.1, fx_step C.2.2.2.2.2.2.1 hS hU hW, fun z hz => C.2.2.2.2.2.2.2.2.2.2 z (Nat.le_trans hS.1 (by rw [hU] at hz; exact hz))⟩⟩ rfl hn hl.1 hst (lv_room hcat) d hf) hS (fun _ _ h => h) (fun _ h => h) (fun _ _ h => h) (fun E ce q9 u t H1 locs1 ht hvm hpx hBX hz1 hk1 hS1 hq9 hce hcl => ?_) (fun r u t H1 locs1 ht hvm hw hB hz1 hk1 hS1 => ?_)
  · obtain ⟨rfl, hB⟩ := hBX
    rw [ht] at hB
    exact kx hpx q9 H1 locs1 la ce hB hS1 hl hq9 hce hcl
  · rw [ht] at hB
    obtain ⟨hw, rfl⟩ := hw
    exact k hw H1 locs1 la hB hS1 hl
theorem x_cVVK (C : CX p l s m args meth c A G ad cc own nL ret) {y : MethodName} {cd : ByteArray} {ml d0 mc ms idx n i : Nat} {rt : Option FieldType} {as : List Value} {B1 : StB} {M1 : StM} {O1 : StO} (hM : Met l y (wof y cd ml rt) (rmd d0 mc ms) (va_Pc (.ref (G.2.2.1 i) :: as) (PW G A ad B M O)) (QV G A ad B1 M1 O1) mc ms A) (hi : i < 9) (hyc : y.cls = "java/lang/String") (cv : CardV y) (cd0 : Card y cd ml rt n) (hl0 : Cond.methodLink own idx y ∈ TT) (hR : d0 + 1 ≤ R.frames ∧ 8 + (ml + 11) + 48 * d0 ≤ R.locals) (hf : cells + mc ≤ R.cells ∧ slots + ms ≤ R.slots) (hn : as.length = n) (hst : stk = as.reverse ++ .ref (G.2.2.1 i) :: rest) (hcat : (rest.map fun v => v.category).sum ≤ 8) (d : decode cc pc = .ok (.invokevirtual idx, 3)) (k : X p l e R s m args below meth c A G ad nL (cells + mc) (slots + ms) Q B1 M1 O1 ls (pc + 3) rest) : X p l e R s m args below meth c A G ad nL cells slots Q B M O ls (pc) (stk) := by
  intro H locs la hP hS hl
  refine va_callv (va_runV (As := as) (b := G.2.2.1 i) (rest := rest) ⟨C.1, C.2.1, C.2.2.1, C.2.2.2.1, C.2.2.2.2.1⟩ hM ⟨⟨rfl, rfl, hR.1, hR.2, pay_in (big := TT) C.2.2.2.2.1 (fun w h => by rcases List.mem_cons.mp h with h | h; (rw [h]; exact ⟨cd0.1, good_of_word (tt_good _ cd0.1)⟩); exact ⟨h, good_of_word (tt_good _ h)⟩), List.mem_cons_self, C.2.2.2.2.1 _ cd0.1, C.2.2.2.2.1 _ cd0.2.1, ⟨cd0.2.2.1, cd0.2.2.2.1⟩, fun sig h => by have h2 := cd0.2.2.2.2; rw [h] at h2; exact (Option.some.inj h2).symm, C.2.2.2.2.1 _ hl0⟩, C.2.2.2.2.1 _ cv.1, C.2.2.2.2.1 _ cv.2⟩ ⟨pw_blind, by rw [hyc]; exact vk_recv C.2.2.2.2.2.2.1.2.2.2.1 hi hS, fun U hU hW => ⟨rfl, by rw [hU]; exact hP, va_K.moved hW.alike C.2.2.2.2.2.1, fx_step C.2.2.2.2.2.2.1 hS hU hW, fun z hz => C.2.2.2.2.2.2.2.2.2.2 z (Nat.le_trans hS.1 (by rw [hU] at hz; exact hz))⟩⟩ rfl hn hl.1 hst (lv_room hcat) d hf) hS (fun _ _ h => h) (fun _ h => h) (fun u t H1 locs1 ht hvm hw hB hz1 hk1 hS1 => ?_)
  rw [ht] at hB
  exact k H1 locs1 la hB hS1 hl
end XW
def wofH (y : MethodName) (cd : ByteArray) (ml : Nat) (rt : Option FieldType) (hh : List (Nat × Nat × Nat × Nat)) : List Cond := .codeWith y cd ml rt hh :: TT
theorem xw_body {l : Launch} {A : Nat → Prop} {G : GT} {ad : Nat → Nat} {B : StB} {M : StM} {O : StO} {y : MethodName} {cc : ByteArray} {nL d0 mc ms : Nat} {ret : Option FieldType} {hh : List (Nat × Nat × Nat × Nat)} {as : List Value} {Qc : Array Value → State → Outcome → State → Prop} {own : String} (hy : plainName y.cls = true) (ho : y.cls = own) (gl : Gl l A G ad) (hle : (lg_sl as).length ≤ nL) {ls : List (Nat × Value)} (hls : lv_args 0 as = ls)
  (body : ∀ p e s m args below meth c, CX p l s m args meth c A G ad cc own nL ret → c.exceptionTable.toList = tableOf hh → X p l e (rmd d0 mc ms) s m args below meth c A G ad nL 0 0 (MQ below Qc args s mc ms A) B M O ls 0 []) : Met l y (wofH y cc nL ret hh) (rmd d0 mc ms) (va_Pc as (PW G A ad B M O)) Qc mc ms A := by
  refine MetFree.of_bodyS (code := cc) (maxLocals := nL) (ret := ret) hy ?_ ?_
  · intro args s m h hn
    obtain ⟨m9, meth, c, hn9, h1, h2, h3, h4, -, h5, h6, -⟩ := Cond.codeWith_spec (atoms_spec (ws := wofH y cc nL ret hh) h _ List.mem_cons_self)
    cases hn.symm.trans hn9
    exact ⟨meth, c, h1, h2, h3, h4, h5, h6⟩
  · intro p e s m args below meth c s₁ B0 hml0 hv _
    obtain ⟨rfl, hP, hK, hF, hA⟩ := hv
    have hts := atoms_spec (ws := wofH y cc nL ret hh) B0.pre
    have htab : c.exceptionTable.toList = tableOf hh := vx_table (x := y) B0 (hts _ List.mem_cons_self)
    have K := body p e s m as.toArray below meth c ⟨B0.exec, B0.bytes, hml0, by rw [← ho]; exact findClass_of_methodNamed B0.named, fun w h => hts w (List.mem_cons_of_mem _ h), hK, hF, gl, B0.returns, B0.notSynchronized, hA⟩ htab s.heap []
    have hh0 : s₁.heap = s.heap := by rw [B0.state]; rfl
    have K2 : W p l e (rmd d0 mc ms) s m as.toArray below meth c s.heap [] 0 0 (MQ below Qc as.toArray s mc ms A) (entryFrame m as.toArray nL) := by
      rw [lg_entry_eq]
      exact K _ hP va_S.rf (by rw [← hls]; exact lv_entry as hle)
    obtain ⟨t, a1, o, b1, b2, b3⟩ := K2 s₁ hh0 (Stand.of_body B0)
    exact ⟨t, o, a1, b1, b2, ⟨b3.1, b3.2⟩⟩
section XL
variable {p : Program} {l : Launch} {e : Env} {R : Room} {s : State} {m : MethodId} {args : Array Value} {below : List Frame} {meth : Method} {c : Code} {cells slots : Nat} {Q : State → Prop}
variable {A : Nat → Prop} {G : GT} {ad : Nat → Nat} {cc : ByteArray} {own : String} {nL : Nat} {ret : Option FieldType} {B : StB} {M : StM} {O : StO} {ls : List (Nat × Value)} {pc : Nat} {rest stk : List Value}
theorem x_cWS (C : CX p l s m args meth c A G ad cc own nL ret) {y : MethodName} {cd : ByteArray} {ml d0 mc ms idx n : Nat} {hh : List (Nat × Nat × Nat × Nat)} {as : List Value} {B1 : StB} {M1 : StM} {O1 : StO} {r0 : Int32} (hM : Met l y (wofH y cd ml (some .int) hh) (rmd d0 mc ms) (va_Pc as (PW G A ad B M O)) (QI G A ad r0 B1 M1 O1) mc ms A) (h1 : Cond.methodLink own idx y ∈ TT) (h2 : Cond.static y ∈ TT) (h3 : Cond.initialized y.cls ∈ TT) (h4 : Cond.codeWith y cd ml (some .int) hh ∈ TT) (hd : y.cls ≠ "java/lang/invoke/MethodHandle" ∧ y.cls ≠ "java/lang/invoke/VarHandle" ∧ (parseMethodDescriptor y.desc).map (fun d => d.parameters.length) = some n) (hR : d0 + 1 ≤ R.frames ∧ 8 + (ml + 11) + 48 * d0 ≤ R.locals) (hf : cells + mc ≤ R.cells ∧ slots + ms ≤ R.slots) (hn : as.length = n) (hst : stk = as.reverse ++ rest) (hcat : (rest.map fun v => v.category).sum ≤ 8) (d : decode cc pc = .ok (.invokestatic idx, 3)) (k : X p l e R s m args below meth c A G ad nL (cells + mc) (slots + ms) Q B1 M1 O1 ls (pc + 3) (.int r0 :: rest)) : X p l e R s m args below meth c A G ad nL cells slots Q B M O ls (pc) (stk) := by
  intro H locs la hP hS hl
  have hG : GoodIn TT (va_wsS own idx y (wofH y cd ml (some .int) hh)) := fun w h => by
    have hw : w ∈ TT := by
      rcases List.mem_append.mp h with h | h
      · rcases List.mem_cons.mp h with h | h
        · rw [h]; exact h1
        · rcases List.mem_cons.mp h with h | h
          · rw [h]; exact h2
          · rcases List.mem_cons.mp h with h | h
            · rw [h]; exact h3
            · cases h
      · rcases List.mem_cons.mp h with h | h
        · rw [h]; exact h4
        · exact h
    exact ⟨hw, good_of_word (tt_good _ hw)⟩
  refine va_calli (vx_runSW (As := as) (rest := rest) ⟨C.1, C.2.1, C.2.2.1, C.2.2.2.1, C.2.2.2.2.1⟩ hM (vx_cwSW n C.2.2.2.2.1 hG rfl rfl rfl hd hR) ⟨pw_blind, fun U hU hW => ⟨rfl, by rw [hU]; exact hP, va_K.moved hW.alike C.2.2.2.2.2.1, fx_step C.2.2.2.2.2.2.1 hS hU hW, fun z hz => C.2.2.2.2.2.2.2.2.2.2 z (Nat.le_trans hS.1 (by rw [hU] at hz; exact hz))⟩⟩ rfl hn hl.1 hst (lv_room hcat) d hf) hS (fun _ _ h => h) (fun _ h => h) (fun r u t H1 locs1 ht hvm hw hB hz1 hk1 hS1 => ?_)
  subst hw
  rw [ht] at hB
  exact k H1 locs1 la hB hS1 hl
theorem x_ldcI (C : CX p l s m args meth c A G ad cc own nL ret) {idx : Nat} {v : Int32} (hc : Cond.constant own idx v ∈ TT) (d : decode cc pc = .ok (.ldc idx, 2)) (k : X p l e R s m args below meth c A G ad nL cells slots Q B M O ls (pc + 2) (.int v :: rest)) : X p l e R s m args below meth c A G ad nL cells slots Q B M O ls (pc) (rest) := fun H locs la hP hS hl => lv_ldc C.1 C.2.1 C.2.2.2.1 (C.2.2.2.2.1 _ hc) d (k H locs la hP hS hl)
end XL
