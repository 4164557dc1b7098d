theorem we_1_33 : (Jvm.Cond.classLink "InkBankLaw" (8 : Nat) "InkBank") ∈ TT := tt_1 (List.mem_of_getElem? (i := 33) rfl) rfl
theorem we_1_34 : (Jvm.Cond.instantiable "InkBank" (10 : Nat)) ∈ TT := tt_1 (List.mem_of_getElem? (i := 34) rfl) rfl
theorem we_1_35 : (Jvm.Cond.methodLink "InkBankLaw" (138 : Nat) ({ cls := "InkBank", name := "<init>", desc := "()V" } : Jvm.MethodName)) ∈ TT := tt_1 (List.mem_of_getElem? (i := 35) rfl) rfl
theorem we_1_36 : (Jvm.Cond.instanceMethod ({ cls := "InkBank", name := "<init>", desc := "()V" } : Jvm.MethodName)) ∈ TT := tt_1 (List.mem_of_getElem? (i := 36) rfl) rfl
theorem we_6_221 : (Jvm.Cond.classLink "InkBankLaw" (139 : Nat) "InkBankModel") ∈ TT := tt_6 (List.mem_of_getElem? (i := 221) rfl) rfl
theorem we_6_222 : (Jvm.Cond.instantiable "InkBankModel" (21 : Nat)) ∈ TT := tt_6 (List.mem_of_getElem? (i := 222) rfl) rfl
theorem we_6_223 : (Jvm.Cond.methodLink "InkBankLaw" (141 : Nat) ({ cls := "InkBankModel", name := "<init>", desc := "()V" } : Jvm.MethodName)) ∈ TT := tt_6 (List.mem_of_getElem? (i := 223) rfl) rfl
theorem we_6_224 : (Jvm.Cond.instanceMethod ({ cls := "InkBankModel", name := "<init>", desc := "()V" } : Jvm.MethodName)) ∈ TT := tt_6 (List.mem_of_getElem? (i := 224) rfl) rfl
theorem we_8_196 : (Jvm.Cond.arrayClass Jvm.ClassFile.FieldType.long) ∈ TT := tt_8 (List.mem_of_getElem? (i := 196) rfl) rfl
theorem we_8_197 : (Jvm.Cond.arrayClass Jvm.ClassFile.FieldType.double) ∈ TT := tt_8 (List.mem_of_getElem? (i := 197) rfl) rfl
theorem st_tr {l : Launch} (hflags : l.flags = flags0) : l.stackTraces = false := by
  unfold Launch.stackTraces
  rw [hflags]
  decide +kernel
def R_law : String := "InkBankLaw"
def lw_P (b : Addr) (xs : List Int32) (args : Array Value) (s : State) : Prop := args = #[.ref b] ∧ s.IntsAt b xs ∧ xs.length ≤ 2560 ∧ (Jvm.Cond.and given_1 narrow_1).before args s = true
/-- what a walk over the start with the record d0 says of its end, said of the start itself -/
theorem lw_closed {s t : State} {o : Outcome} {d0 : Drawn} {L : List Loc} {k n : Nat} (hd0 : s.drawn.sameBut d0 lw_cs) (hv : ∃ v, o = .returned v) (hW : (s.setDrawn d0).WarmedH t.vm) (hs : (s.setDrawn d0).sameButNew ({ t with vm := s.vm } : State) L k n) : State.butDraws s t lw_cs (fun t1 => Framed s o t1 L k n) := by
  have h2 : t.drawn = d0 := congrArg State.drawn hs.1
  refine ⟨⟨hv, hW, State.sameButNew.setDrawn hs s.drawn⟩, ?_, by decide⟩
  rw [h2]
  exact hd0
def lw_Q (_ : Array Value) (s : State) (o : Outcome) (t : State) : Prop := o = .returned (some (.int 1)) ∧ State.butDraws s t lw_cs (fun t1 => Framed s o t1 [] 603072 7219306)
def lw_Z (below : List Frame) (a : Array Value) (s : State) : State → Prop := fun t => ∃ o, t.status = .running ∧ Ended t below o ∧ lw_Q a s o t
/-- the law's own end, with 1 on the stack, nothing written that was there before, its room as the claim has it; d0: the record of draws at this point (at the entry s.drawn: begin with 'refine W.base ?_' and 'have hd0 := Drawn.sameBut.refl s.drawn lw_cs') -/
theorem lw_ret {p : Program} {l : Launch} {e : Env} {s : State} {m : MethodId} {below : List Frame} {meth : Method} {c : Code} {b : Nat} {d0 : Drawn} (hd0 : s.drawn.sameBut d0 lw_cs) (hx : p.tables.exec = Jvm.exec) (hb : c.code = code) (hr : meth.sig.returnType = ret) (hlocks : meth.locks = false) {pc : Nat} {H : Heap} {ls : Array Slot} (hdg : decode code pc = .ok (.ireturn, 1)) : W p l e room_1 (s.setDrawn d0) m #[Value.ref b] below meth c H [] 603072 7219306 (lw_Z below #[Value.ref b] s) (F0 m pc ls [.int 1]) := by
  intro T hT X
  obtain ⟨fs, hret, hrun, hended, hW, hframe⟩ := X.leave (v := some (.int 1)) (hlocks := hlocks) (fun h => by rw [hr] at h; cases h)
  have hmeth' : T.vm.method? m = some meth := X.method'
  refine ⟨T.setFrames fs, ?_, .returned (some (.int 1)), hrun, hended, rfl, lw_closed hd0 ⟨_, rfl⟩ hW hframe⟩
  jvm_step X.here [X.here.top, hx, hb, hdg, hmeth', hr, ret, narrow_b1]
  (try refine ⟨rfl, ?_⟩); (try refine ⟨rfl, ?_⟩)
  first | (intro acts; rw [hret _ acts rfl rfl rfl]) | rw [hret _ _ rfl rfl rfl]
  exact Steps.refl _
/-- what holds at the law's entry: the machine, the code, the tables' words (any of lw_tbl by 'hts w (by decide +kernel)'), the script of L ints xs at the cell b, what the Statement gives of the start (any of its parts by flat_of_before) -/
def lw_At (p : Program) (s : State) (m : MethodId) (meth : Method) (c : Code) (b L : Nat) (xs : Nat → Int32) : Prop :=
  p.tables.exec = Jvm.exec ∧ c.code = code ∧ meth.sig.returnType = ret ∧ c.maxLocals = 9 ∧ s.vm.findClass R_law = some m.cls ∧ (∀ w ∈ lw_tbl, w.before #[Value.ref b] s = true) ∧ va_X b L xs s s.heap ∧ b < s.heap.size ∧ meth.locks = false ∧ (Jvm.Cond.and given_1 narrow_1).before #[Value.ref b] s = true

set_option maxHeartbeats 4000000 in
set_option maxRecDepth 100000 in
theorem whole_from (Inv : Nat → StB → StM → Prop) (h00 : Inv 0 B0 M0) (hInv : ∀ u B M, u < 512 → Inv u B M → ∀ (k : Nat) (O : StO) (y1 y2 y3 y4 : Int32), okC k B M O y1 y2 y3 y4 ∧ Inv (u + 1) (sBC k B M O y1 y2 y3 y4) (sMC k B M O y1 y2 y3 y4)) {p : Program} {e : Env} {s : State} {m : MethodId} {below : List Frame} {meth : Method} {c : Code} (l : Launch) (hflags : l.flags = flags0) {b L : Nat} {xs : Nat → Int32} (hL : L ≤ 2560) (C0 : lw_At p s m meth c b L xs) : W p l e room_1 s m #[Value.ref b] below meth c s.heap [] 0 0 (lw_Z below #[Value.ref b] s) (entryFrame m ([Value.ref b] : List Value).toArray 9) := by
  obtain ⟨hx, hb, hr, hml, hown, hts, hX, hbl, hlk, hgv⟩ := C0
  have hA0 : ∀ a : Nat, a < s.heap.size → ¬ (s.heap.size ≤ a) := fun a h h2 => absurd h (Nat.not_lt.mpr h2)
  obtain ⟨G, hK, hF, hN⟩ := st_fx (A := fun q => s.heap.size ≤ q) hts hgv hA0
  have C : CY p s m #[Value.ref b] meth c (fun q => s.heap.size ≤ q) G cL_law "InkBankLaw" 9 (some .boolean) := ⟨hx, hb, hml, hown, fun w h => hts w (tt_lw h), hK, hF, hN, hr, hlk, fun _ h => h⟩
  have key : Y p l e room_1 s m #[Value.ref b] below meth c (fun q => s.heap.size ≤ q) G 9 0 0 (lw_Z below #[Value.ref b] s) [] [] [(0, .ref b)] 0 [] := by
    refine y_new C (ci := 10) (fs := [.null, .null, .null, .null, .null, .null, .null, .int 0, .int 0, .int 0]) tyX6 tyX6_ok rfl ttX6 we_1_33 we_1_34 we_1_1 (by decide) (Nat.le_of_ble_eq_true rfl) (Nat.le_of_ble_eq_true rfl) dL_law_0 (fun q1 => ?_)
    refine y_dup C dL_law_3 rfl ?_
    refine y_call C (kX6 [] q1 rfl) ce_X6 we_1_36 rfl we_1_35 ⟨(Nat.le_of_ble_eq_true rfl), (Nat.le_of_ble_eq_true rfl)⟩ ⟨(Nat.le_of_ble_eq_true rfl), (Nat.le_of_ble_eq_true rfl)⟩ rfl rfl (Nat.le_of_ble_eq_true rfl) dL_law_4 (fun u hu => ?_)
    obtain ⟨F, hF0, rfl⟩ := hu
    refine ⟨kI G F, rfl, ?_⟩
    refine y_astore_n C dL_law_7 rfl (by decide) rfl ?_
    refine y_new C (ci := 11) (fs := [.null, .null, .null, .null, .null, .int 0, .int 0, .int 0, .int 0, .int 0, .int 0, .null, .int 0, .null, .int 0, .int 0, .int 0, .int 0, .int 0, .int 0, .null]) tyX7 tyX7_ok rfl ttX7 we_6_221 we_6_222 we_1_12 (by decide) (Nat.le_of_ble_eq_true rfl) (Nat.le_of_ble_eq_true rfl) dL_law_8 (fun q2 => ?_)
    refine y_dup C dL_law_11 rfl ?_
    refine y_call C (kX7 (kI G F) q2 rfl) ce_X7 we_6_224 rfl we_6_223 ⟨(Nat.le_of_ble_eq_true rfl), (Nat.le_of_ble_eq_true rfl)⟩ ⟨(Nat.le_of_ble_eq_true rfl), (Nat.le_of_ble_eq_true rfl)⟩ rfl rfl (Nat.le_of_ble_eq_true rfl) dL_law_12 (fun u hu => ?_)
    obtain ⟨F2, hF2, rfl⟩ := hu
    refine ⟨kI G F ++ kM G F2, rfl, ?_⟩
    refine y_astore_n C dL_law_15 rfl (by decide) rfl ?_
    refine y_iconst C (v := 1) dL_law_16 (by decide) ?_
    refine y_newa C (atype := .long) (ty := .long) 6 rfl (fun _ h => h) rfl we_8_196 (n := 1) (N' := 1) (a0 := (1, .inr (.inl (fun _ => 0)))) (fun _ => rfl) (by decide) (by decide) (by decide) (Nat.le_of_ble_eq_true rfl) (Nat.le_of_ble_eq_true rfl) dL_law_17 (fun q3 => ?_)
    refine y_astore_n C dL_law_19 rfl (by decide) rfl ?_
    refine y_iconst C (v := 1) dL_law_20 (by decide) ?_
    refine y_newa C (atype := .double) (ty := .double) 7 rfl (fun _ h => h) rfl we_8_197 (n := 1) (N' := 1) (a0 := (1, .inr (.inr (.inr (.inl (fun _ => 0)))))) (fun _ => rfl) (by decide) (by decide) (by decide) (Nat.le_of_ble_eq_true rfl) (Nat.le_of_ble_eq_true rfl) dL_law_21 (fun q4 => ?_)
    refine y_astore C dL_law_23 (by decide) rfl ?_
    refine y_iconst C (v := 0) dL_law_25 (by decide) ?_
    refine y_istore C dL_law_26 (by decide) rfl ?_
    subst hF0
    subst hF2
    refine y_L C (L2 := ws0 G F F2 q3 q4) (by simp only [ws0, List.append_assoc]; rfl) ?_
    intro H locs la hP hD hS hl
    have hP1 : va_P G.1 vwCl (wl G (ad0 F F2 q3 q4) B0 M0 O0) H := ws0_P hP
    have hD1 : AdOk (fun q => s.heap.size ≤ q) (ad0 F F2 q3 q4) := ws0_ok hD
    have gl : Gl l (fun q => s.heap.size ≤ q) (ad0 F F2 q3 q4) := ⟨st_tr hflags, hD1⟩
    have C2 : CX p l s m #[Value.ref b] meth c (fun q => s.heap.size ≤ q) G (ad0 F F2 q3 q4) cL_law "InkBankLaw" 9 (some .boolean) := ⟨hx, hb, hml, hown, fun w h => hts w (tt_lw h), hK, hF, gl, hr, hlk, fun _ h => h⟩
    have loop := law_loop (Q := lw_Z below #[Value.ref b] s) (R := room_1) (e := e) (below := below) C2 ⟨hX, hbl, hA0 b hbl⟩ ⟨(Nat.le_of_ble_eq_true rfl), (Nat.le_of_ble_eq_true rfl)⟩ hL Inv hInv 4300 28059 ⟨(Nat.le_of_ble_eq_true rfl), (Nat.le_of_ble_eq_true rfl)⟩ (fun B M O i => by
      refine x_iconst C2 (v := 1) dL_law_2503 (by decide) ?_
      intro H locs la hP hS hl
      exact va_forget (fun q hq => hS.2.2 q hq) (W.widen (Nat.le_of_ble_eq_true rfl) (Nat.le_of_ble_eq_true rfl) (lw_ret (d0 := s.drawn) (Drawn.sameBut.refl s.drawn lw_cs) hx hb hr hlk dL_law_2504))) 512 0 B0 M0 O0 204 3483 h00 (by omega) (by decide) (by decide) (by decide)
    exact (x_sub (cells := 204) (slots := 3483) [0, 5, 4, 3, 2, 1] (ls2 := lsL (ad0 F F2 q3 q4) b (Int32.ofNat (5 * 0))) rfl loop) H locs la hP1 hS hl
  rw [lg_entry_eq]
  refine key s.heap [] _ (fun k q h => absurd h (by simp)) ⟨(fun i j a b2 h _ _ => absurd h (by simp)), (fun k q h => absurd h (by simp))⟩ va_S.rf (lv_entry [.ref b] (n := 9) (Nat.le_of_ble_eq_true rfl))
