/-! rows of the law's own body -/
section XL
variable {p : Program} {l : Launch} {e : Env} {R : Room} {s : State} {m : MethodId} {args : Array Value} {below : List Frame} {meth : Method} {c : Code} {cells slots : Nat} {Q : State → Prop}
variable {A : Nat → Prop} {G : GT} {ad : Nat → Nat} {cc : ByteArray} {own : String} {nL : Nat} {ret : Option FieldType} {B : StB} {M : StM} {O : StO} {ls : List (Nat × Value)} {pc : Nat} {rest stk : List Value}
theorem x_sld (C : CX p l s m args meth c A G ad cc own nL ret) {b L : Nat} {xs : Nat → Int32} (hX : va_X b L xs s s.heap ∧ b < s.heap.size ∧ ¬ A b) {i : Int32} (hin : vp_in i L) (d : decode cc pc = .ok (.iaload, 1)) (k : X p l e R s m args below meth c A G ad nL cells slots Q B M O ls (pc + 1) (.int (xs (ix i)) :: rest)) : X p l e R s m args below meth c A G ad nL cells slots Q B M O ls pc (.int i :: .ref b :: rest) := fun H locs la hP hS hl =>
  va_sld C.1 C.2.1 hX.1 hX.2.1 hX.2.2 hS hin d (k H locs la hP hS hl)
theorem x_slen (C : CX p l s m args meth c A G ad cc own nL ret) {b L : Nat} {xs : Nat → Int32} (hX : va_X b L xs s s.heap ∧ b < s.heap.size ∧ ¬ A b) (d : decode cc pc = .ok (.arraylength, 1)) (k : X p l e R s m args below meth c A G ad nL cells slots Q B M O ls (pc + 1) (.int (Int32.ofNat L) :: rest)) : X p l e R s m args below meth c A G ad nL cells slots Q B M O ls pc (.ref b :: rest) := fun H locs la hP hS hl =>
  va_slen C.1 C.2.1 hX.1 hX.2.1 hX.2.2 hS d (k H locs la hP hS hl)
theorem x_lald (C : CX p l s m args meth c A G ad cc own nL ret) (d : decode cc pc = .ok (.laload, 1)) (k : X p l e R s m args below meth c A G ad nL cells slots Q B M O ls (pc + 1) (.long O.1 :: rest)) : X p l e R s m args below meth c A G ad nL cells slots Q B M O ls pc (.int 0 :: .ref (ad 202) :: rest) := fun H locs la hP hS hl =>
  va_lald C.1 C.2.1 C.2.2.2.2.2.1 hP 202 6 (wl_at ⟨by decide, e_Ol.2⟩) rfl (by unfold vp_in; decide) d (k H locs la hP hS hl)
theorem x_dald (C : CX p l s m args meth c A G ad cc own nL ret) (d : decode cc pc = .ok (.daload, 1)) (k : X p l e R s m args below meth c A G ad nL cells slots Q B M O ls (pc + 1) (.double O.2 :: rest)) : X p l e R s m args below meth c A G ad nL cells slots Q B M O ls pc (.int 0 :: .ref (ad 203) :: rest) := fun H locs la hP hS hl =>
  va_dald C.1 C.2.1 C.2.2.2.2.2.1 hP 203 7 (wl_at ⟨by decide, e_Od.2⟩) rfl (by unfold vp_in; decide) d (k H locs la hP hS hl)
theorem x_cWS (C : CX p l s m args meth c A G ad cc own nL ret) {y : MethodName} {cd : ByteArray} {ml d0 mc ms idx n : Nat} {hh : List (Nat × Nat × Nat × Nat)} {as : List Value} {B1 : StB} {M1 : StM} {O1 : StO} {r0 : Int32} (hM : Met l y (wofH y cd ml (some .int) hh) (rmd d0 mc ms) (va_Pc as (PW G A ad B M O)) (QI G A ad r0 B1 M1 O1) mc ms A) (h1 : Cond.methodLink own idx y ∈ TT) (h2 : Cond.static y ∈ TT) (h3 : Cond.initialized y.cls ∈ TT) (h4 : Cond.codeWith y cd ml (some .int) hh ∈ TT) (hd : y.cls ≠ "java/lang/invoke/MethodHandle" ∧ y.cls ≠ "java/lang/invoke/VarHandle" ∧ (parseMethodDescriptor y.desc).map (fun d => d.parameters.length) = some n) (hR : d0 + 1 ≤ R.frames ∧ 8 + (ml + 11) + 48 * d0 ≤ R.locals) (hf : cells + mc ≤ R.cells ∧ slots + ms ≤ R.slots) (hn : as.length = n) (hst : stk = as.reverse ++ rest) (hcat : (rest.map fun v => v.category).sum ≤ 8) (d : decode cc pc = .ok (.invokestatic idx, 3)) (k : X p l e R s m args below meth c A G ad nL (cells + mc) (slots + ms) Q B1 M1 O1 ls (pc + 3) (.int r0 :: rest)) : X p l e R s m args below meth c A G ad nL cells slots Q B M O ls (pc) (stk) := by
  intro H locs la hP hS hl
  have hG : GoodIn TT (va_wsS own idx y (wofH y cd ml (some .int) hh)) := fun w h => by
    have hw : w ∈ TT := by
      rcases List.mem_append.mp h with h | h
      · rcases List.mem_cons.mp h with h | h
        · rw [h]; exact h1
        · rcases List.mem_cons.mp h with h | h
          · rw [h]; exact h2
          · rcases List.mem_cons.mp h with h | h
            · rw [h]; exact h3
            · cases h
      · rcases List.mem_cons.mp h with h | h
        · rw [h]; exact h4
        · exact h
    exact ⟨hw, good_of_word (tt_good _ hw)⟩
  refine va_calli (vx_runSW (As := as) (rest := rest) ⟨C.1, C.2.1, C.2.2.1, C.2.2.2.1, C.2.2.2.2.1⟩ hM (vx_cwSW n C.2.2.2.2.1 hG rfl rfl rfl hd hR) ⟨pw_blind, fun U hU hW => ⟨rfl, by rw [hU]; exact hP, va_K.moved hW.alike C.2.2.2.2.2.1, fx_step C.2.2.2.2.2.2.1 hS hU hW, fun z hz => C.2.2.2.2.2.2.2.2.2.2 z (Nat.le_trans hS.1 (by rw [hU] at hz; exact hz))⟩⟩ rfl hn hl.1 hst (lv_room hcat) d hf) hS (fun _ _ h => h) (fun _ h => h) (fun r u t H1 locs1 ht hvm hw hB hz1 hk1 hS1 => ?_)
  subst hw
  rw [ht] at hB
  exact k H1 locs1 la hB hS1 hl
theorem x_cDV (C : CX p l s m args meth c A G ad cc own nL ret) {y : MethodName} {cd : ByteArray} {ml d0 mc ms idx n : Nat} {rt : Option FieldType} {as : List Value} {q ci N : Nat} {T : u_T} {fs : List Value} {B1 : StB} {M1 : StM} {O1 : StO} {r0 : UInt64} (hM : Met l y (wof y cd ml rt) (rmd d0 mc ms) (va_Pc (.ref (ad q) :: as) (PW G A ad B M O)) (QD G A ad r0 B1 M1 O1) mc ms A) (hr : q < 204 ∧ ent G ad B M O q = .inr (ci, fs)) (hc : vwCl[ci]? = some (y.cls, T, N)) (cv : CardV y) (cd0 : Card y cd ml rt n) (hl0 : Cond.methodLink own idx y ∈ TT) (hR : d0 + 1 ≤ R.frames ∧ 8 + (ml + 11) + 48 * d0 ≤ R.locals) (hf : cells + mc ≤ R.cells ∧ slots + ms ≤ R.slots) (hn : as.length = n) (hst : stk = as.reverse ++ .ref (ad q) :: rest) (hcat : (rest.map fun v => v.category).sum ≤ 8) (d : decode cc pc = .ok (.invokevirtual idx, 3)) (k : X p l e R s m args below meth c A G ad nL (cells + mc) (slots + ms) Q B1 M1 O1 ls (pc + 3) (.double r0 :: rest)) : X p l e R s m args below meth c A G ad nL cells slots Q B M O ls (pc) (stk) := by
  intro H locs la hP hS hl
  refine va_calld (va_runV (As := as) (b := ad q) (rest := rest) ⟨C.1, C.2.1, C.2.2.1, C.2.2.2.1, C.2.2.2.2.1⟩ hM ⟨⟨rfl, rfl, hR.1, hR.2, pay_in (big := TT) C.2.2.2.2.1 (fun w h => by rcases List.mem_cons.mp h with h | h; (rw [h]; exact ⟨cd0.1, good_of_word (tt_good _ cd0.1)⟩); exact ⟨h, good_of_word (tt_good _ h)⟩), List.mem_cons_self, C.2.2.2.2.1 _ cd0.1, C.2.2.2.2.1 _ cd0.2.1, ⟨cd0.2.2.1, cd0.2.2.2.1⟩, fun sig h => by have h2 := cd0.2.2.2.2; rw [h] at h2; exact (Option.some.inj h2).symm, C.2.2.2.2.1 _ hl0⟩, C.2.2.2.2.1 _ cv.1, C.2.2.2.2.1 _ cv.2⟩ ⟨pw_blind, va_recv C.2.2.2.2.2.1 hP hc (wl_at hr), fun U hU hW => ⟨rfl, by rw [hU]; exact hP, va_K.moved hW.alike C.2.2.2.2.2.1, fx_step C.2.2.2.2.2.2.1 hS hU hW, fun z hz => C.2.2.2.2.2.2.2.2.2.2 z (Nat.le_trans hS.1 (by rw [hU] at hz; exact hz))⟩⟩ rfl hn hl.1 hst (lv_room hcat) d hf) hS (fun _ _ h => h) (fun _ h => h) (fun r u t H1 locs1 ht hvm hw hB hz1 hk1 hS1 => ?_)
  subst hw
  rw [ht] at hB
  exact k H1 locs1 la hB hS1 hl

theorem x_dcmp (C : CX p l s m args meth c A G ad cc own nL ret) {x y : UInt64} {op : CmpOp} (d : decode cc pc = .ok (.dcmp op, 1)) (k : X p l e R s m args below meth c A G ad nL cells slots Q B M O ls (pc + 1) (.int (Op.cmpValue (FP.dcmp x y) op) :: rest)) : X p l e R s m args below meth c A G ad nL cells slots Q B M O ls pc (.double y :: .double x :: rest) := fun H locs la hP hS hl => lv_dcmp C.1 C.2.1 d (k H locs la hP hS hl)
end XL
theorem lg_cmp_self (x : Int64) : lg_cmp x x = 0 := by simp [lg_cmp]
