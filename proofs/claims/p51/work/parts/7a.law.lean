/-! the law's own loop -/
def lwA (S : Nat → Int32) (N : Nat) (B : StB) (i : Int32) : StB := (f_L_any S N B (200 + 6 * i)).2
def lwB (S : Nat → Int32) (N : Nat) (B : StB) (i : Int32) : StB := (f_L_areAccountsRight (lwA S N B i)).2
def lwn (S : Nat → Int32) (N : Nat) (B : StB) (i : Int32) : Int32 := mx 1 (f_X6_accountCount (lwA S N B i))
def lwT (S : Nat → Int32) (N : Nat) (B : StB) (i : Int32) : Int32 × StB := f_L_areTransfersRight (lwB S N B i) (f_L_pick S N (300 + i) (lwn S N B i)) (f_L_pick S N (320 + i) (lwn S N B i))
def lwP (S : Nat → Int32) (N : Nat) (B : StB) (i : Int32) : Int32 × StB := f_L_pred (lwT S N B i).2 (1 + f_L_pick S N (340 + i) 9)
def lwJ (S : Nat → Int32) (N : Nat) (B : StB) (i : Int32) : Int32 × StB := f_L_isJournalRight (lwP S N B i).2
/-- one step of the law goes through and answers yes -/
def lwOk (S : Nat → Int32) (N : Nat) (B : StB) (i : Int32) : Prop :=
  ok_L_any S N B (200 + 6 * i) ∧ ok_L_areAccountsRight (lwA S N B i) ∧ (f_L_areAccountsRight (lwA S N B i)).1 = 1 ∧ ok_L_pick S N (300 + i) (lwn S N B i) ∧ ok_L_pick S N (320 + i) (lwn S N B i) ∧ ok_L_areTransfersRight (lwB S N B i) (f_L_pick S N (300 + i) (lwn S N B i)) (f_L_pick S N (320 + i) (lwn S N B i)) ∧ (lwT S N B i).1 = 1 ∧ ok_L_pick S N (340 + i) 9 ∧ ok_L_pred (lwT S N B i).2 (1 + f_L_pick S N (340 + i) 9) ∧ (lwP S N B i).1 = 1 ∧ ok_L_isJournalRight (lwP S N B i).2 ∧ (lwJ S N B i).1 = 1
set_option maxHeartbeats 4000000 in
set_option maxRecDepth 100000 in
theorem law_step {p : Program} {l : Launch} {e : Env} {s : State} {m : MethodId} {args : Array Value} {below : List Frame} {meth : Method} {c : Code} {Q : State → Prop} {A : Nat → Prop} {G : GT} {ad : Nat → Nat} {M : StM} {O : StO} {S : Nat → Int32} {N : Nat} (C : CX p l s m args meth c A G ad cL_law RL 5 (some .boolean)) (hsc : S = scx G ∧ N = G.2.2.2.2 5) (hG : G.2.2.2.2 2 = 0 ∧ G.2.2.2.2 3 = 0) (B : StB) (i : Int32) (h : lwOk S N B i) (h14 : ¬ 14 ≤ i) {cs ss : Nat} (hf : cs + 228 ≤ 863104 ∧ ss + 3384 ≤ 6505447) (k : X p l e room_1 s m args below meth c A G ad 5 (cs + 228) (ss + 3384) Q (lwJ S N B i).2 M O [(0, .ref (G.2.2.2.2 4)), (1, .ref (ad 176)), (2, .int (i + 1))] 15 []) : X p l e room_1 s m args below meth c A G ad 5 cs ss Q B M O [(0, .ref (G.2.2.2.2 4)), (1, .ref (ad 176)), (2, .int i)] 15 [] := by
  refine x_iload_n (pc := 15) C 2 dL_law_15 rfl rfl ?_
  refine x_bipush (pc := 16) C (v := 14) dL_law_16 (by decide) ?_
  refine x_icmp_ge (pc := 18) (tgt := 116) C dL_law_18 (by decide) (fun z => absurd z h14) (fun _ => ?_)
  refine x_aload_n (pc := 21) C 1 dL_law_21 rfl rfl ?_
  refine x_aload_n (pc := 22) C 0 dL_law_22 rfl rfl ?_
  refine x_sipush (pc := 23) C (v := 200) dL_law_23 (by decide) ?_
  refine x_bipush (pc := 26) C (v := 6) dL_law_26 (by decide) ?_
  refine x_iload_n (pc := 28) C 2 dL_law_28 rfl rfl ?_
  refine x_imul (pc := 29) C dL_law_29 ?_
  refine x_iadd (pc := 30) C dL_law_30 ?_
  refine x_cIS (pc := 31) (as := [.ref (ad 176), .ref (G.2.2.2.2 4), .int (200 + 6 * i)]) C (c_L_any C.2.2.2.2.2.2.2.1 S N hsc B M O (200 + 6 * i) h.1) wd_4_113 cd_L_any wd_4_112 ⟨(Nat.le_of_ble_eq_true rfl), (Nat.le_of_ble_eq_true rfl)⟩ ⟨by show _ ≤ 863104; omega, by show _ ≤ 6505447; omega⟩ rfl rfl (Nat.le_of_ble_eq_true rfl) dL_law_31 ?_
  refine x_istore_n (pc := 34) (ls2 := [(3, .int (f_L_any S N B (200 + 6 * i)).1), (0, .ref (G.2.2.2.2 4)), (1, .ref (ad 176)), (2, .int i)]) C dL_law_34 rfl (by decide) rfl ?_
  refine x_sub [3, 2, 1] (ls2 := [(2, .int i), (1, .ref (ad 176)), (0, .ref (G.2.2.2.2 4))]) rfl ?_
  obtain ⟨-, h⟩ := h
  show X p l e room_1 s m args below meth c A G ad 5 _ _ Q (lwA S N B i) M O _ 35 _
  refine x_iconst (pc := 35) C (v := 1) dL_law_35 (by decide) ?_
  refine x_aload_n (pc := 36) C 1 dL_law_36 rfl rfl ?_
  refine x_cIV (pc := 37) (as := []) (q := 176) C (c_X6_accountCount C.2.2.2.2.2.2.2.1 (lwA S N B i) M O) (fs := _) e_I rfl cv_X6_accountCount cd_X6_accountCount wd_2_61 ⟨(Nat.le_of_ble_eq_true rfl), (Nat.le_of_ble_eq_true rfl)⟩ ⟨by show _ ≤ 863104; omega, by show _ ≤ 6505447; omega⟩ rfl rfl (Nat.le_of_ble_eq_true rfl) dL_law_37 ?_
  refine x_mmax (pc := 40) C wd_4_115 wd_3_180 wd_1_21 wd_3_181 ⟨(Nat.le_of_ble_eq_true rfl), (Nat.le_of_ble_eq_true rfl)⟩ ⟨by show _ ≤ 863104; omega, by show _ ≤ 6505447; omega⟩ dL_law_40 ?_
  refine x_istore (pc := 43) (ls2 := [(4, .int (lwn S N B i)), (2, .int i), (1, .ref (ad 176)), (0, .ref (G.2.2.2.2 4))]) C dL_law_43 (by decide) rfl ?_
  refine x_aload_n (pc := 45) C 2 dL_law_45 rfl rfl ?_
  refine x_cIS (pc := 46) (as := [.ref (ad 176)]) C (c_L_areAccountsRight C.2.2.2.2.2.2.2.1 hG (lwA S N B i) M O h.1) wd_4_136 cd_L_areAccountsRight wd_4_135 ⟨(Nat.le_of_ble_eq_true rfl), (Nat.le_of_ble_eq_true rfl)⟩ ⟨by show _ ≤ 863104; omega, by show _ ≤ 6505447; omega⟩ rfl rfl (Nat.le_of_ble_eq_true rfl) dL_law_46 ?_
  show X p l e room_1 s m args below meth c A G ad 5 _ _ Q (lwB S N B i) M O _ 49 _
  obtain ⟨-, hr, h⟩ := h
  rw [hr]
  refine x_if_eq (pc := 49) (tgt := 108) C dL_law_49 (by decide) (fun z => absurd z (by decide)) (fun _ => ?_)
  refine x_aload_n (pc := 52) C 2 dL_law_52 rfl rfl ?_
  refine x_aload_n (pc := 53) C 3 dL_law_53 rfl rfl ?_
  refine x_sipush (pc := 54) C (v := 300) dL_law_54 (by decide) ?_
  refine x_iload_n (pc := 57) C 1 dL_law_57 rfl rfl ?_
  refine x_iadd (pc := 58) C dL_law_58 ?_
  refine x_iload (pc := 59) C 0 dL_law_59 rfl ?_
  refine x_cIS (pc := 61) (as := [.ref (G.2.2.2.2 4), .int (300 + i), .int (lwn S N B i)]) C (c_L_pick C.2.2.2.2.2.2.2.1 S N hsc (lwB S N B i) M O (300 + i) (lwn S N B i) h.1) wd_2_66 cd_L_pick wd_2_65 ⟨(Nat.le_of_ble_eq_true rfl), (Nat.le_of_ble_eq_true rfl)⟩ ⟨by show _ ≤ 863104; omega, by show _ ≤ 6505447; omega⟩ rfl rfl (Nat.le_of_ble_eq_true rfl) dL_law_61 ?_
  refine x_aload_n (pc := 64) C 3 dL_law_64 rfl rfl ?_
  refine x_sipush (pc := 65) C (v := 320) dL_law_65 (by decide) ?_
  refine x_iload_n (pc := 68) C 1 dL_law_68 rfl rfl ?_
  refine x_iadd (pc := 69) C dL_law_69 ?_
  refine x_iload (pc := 70) C 0 dL_law_70 rfl ?_
  refine x_cIS (pc := 72) (as := [.ref (G.2.2.2.2 4), .int (320 + i), .int (lwn S N B i)]) C (c_L_pick C.2.2.2.2.2.2.2.1 S N hsc (lwB S N B i) M O (320 + i) (lwn S N B i) h.2.1) wd_2_66 cd_L_pick wd_2_65 ⟨(Nat.le_of_ble_eq_true rfl), (Nat.le_of_ble_eq_true rfl)⟩ ⟨by show _ ≤ 863104; omega, by show _ ≤ 6505447; omega⟩ rfl rfl (Nat.le_of_ble_eq_true rfl) dL_law_72 ?_
  refine x_cIS (pc := 75) (as := [.ref (ad 176), .int (f_L_pick S N (300 + i) (lwn S N B i)), .int (f_L_pick S N (320 + i) (lwn S N B i))]) C (c_L_areTransfersRight C.2.2.2.2.2.2.2.1 (lwB S N B i) M O _ _ h.2.2.1) wd_6_102 cd_L_areTransfersRight wd_6_101 ⟨(Nat.le_of_ble_eq_true rfl), (Nat.le_of_ble_eq_true rfl)⟩ ⟨by show _ ≤ 863104; omega, by show _ ≤ 6505447; omega⟩ rfl rfl (Nat.le_of_ble_eq_true rfl) dL_law_75 ?_
  show X p l e room_1 s m args below meth c A G ad 5 _ _ Q (lwT S N B i).2 M O _ 78 (.int (lwT S N B i).1 :: _)
  obtain ⟨-, -, -, hr, h⟩ := h
  rw [hr]
  refine x_if_eq (pc := 78) (tgt := 108) C dL_law_78 (by decide) (fun z => absurd z (by decide)) (fun _ => ?_)
  refine x_aload_n (pc := 81) C 2 dL_law_81 rfl rfl ?_
  refine x_iconst (pc := 82) C (v := 1) dL_law_82 (by decide) ?_
  refine x_aload_n (pc := 83) C 3 dL_law_83 rfl rfl ?_
  refine x_sipush (pc := 84) C (v := 340) dL_law_84 (by decide) ?_
  refine x_iload_n (pc := 87) C 1 dL_law_87 rfl rfl ?_
  refine x_iadd (pc := 88) C dL_law_88 ?_
  refine x_bipush (pc := 89) C (v := 9) dL_law_89 (by decide) ?_
  refine x_cIS (pc := 91) (as := [.ref (G.2.2.2.2 4), .int (340 + i), .int 9]) C (c_L_pick C.2.2.2.2.2.2.2.1 S N hsc (lwT S N B i).2 M O (340 + i) 9 h.1) wd_2_66 cd_L_pick wd_2_65 ⟨(Nat.le_of_ble_eq_true rfl), (Nat.le_of_ble_eq_true rfl)⟩ ⟨by show _ ≤ 863104; omega, by show _ ≤ 6505447; omega⟩ rfl rfl (Nat.le_of_ble_eq_true rfl) dL_law_91 ?_
  refine x_iadd (pc := 94) C dL_law_94 ?_
  refine x_cIS (pc := 95) (as := [.ref (ad 176), .int (1 + f_L_pick S N (340 + i) 9)]) C (c_L_pred C.2.2.2.2.2.2.2.1 hG.2 (lwT S N B i).2 M O _ h.2.1) wd_6_124 cd_L_arePredictionsRight wd_6_123 ⟨(Nat.le_of_ble_eq_true rfl), (Nat.le_of_ble_eq_true rfl)⟩ ⟨by show _ ≤ 863104; omega, by show _ ≤ 6505447; omega⟩ rfl rfl (Nat.le_of_ble_eq_true rfl) dL_law_95 ?_
  show X p l e room_1 s m args below meth c A G ad 5 _ _ Q (lwP S N B i).2 M O _ 98 (.int (lwP S N B i).1 :: _)
  obtain ⟨-, -, hr, h⟩ := h
  rw [hr]
  refine x_if_eq (pc := 98) (tgt := 108) C dL_law_98 (by decide) (fun z => absurd z (by decide)) (fun _ => ?_)
  refine x_aload_n (pc := 101) C 2 dL_law_101 rfl rfl ?_
  refine x_cIS (pc := 102) (as := [.ref (ad 176)]) C (c_L_isJournalRight C.2.2.2.2.2.2.2.1 (lwP S N B i).2 M O h.1) wd_6_139 cd_L_isJournalRight wd_6_138 ⟨(Nat.le_of_ble_eq_true rfl), (Nat.le_of_ble_eq_true rfl)⟩ ⟨by show _ ≤ 863104; omega, by show _ ≤ 6505447; omega⟩ rfl rfl (Nat.le_of_ble_eq_true rfl) dL_law_102 ?_
  show X p l e room_1 s m args below meth c A G ad 5 _ _ Q (lwJ S N B i).2 M O _ 105 (.int (lwJ S N B i).1 :: _)
  rw [h.2]
  refine x_if_ne (pc := 105) (tgt := 110) C dL_law_105 (by decide) (fun _ => ?_) (fun z => absurd z (by decide))
  refine x_iinc (pc := 110) (i := 2) (v := i + 1) (ls2 := [(2, .int (i + 1)), (4, .int (lwn S N B i)), (1, .ref (ad 176)), (0, .ref (G.2.2.2.2 4))]) C 1 dL_law_110 rfl rfl (by decide) rfl ?_
  refine x_goto (pc := 113) (tgt := 15) C dL_law_113 (by decide) ?_
  refine x_sub [3, 2, 0] (ls2 := [(0, .ref (G.2.2.2.2 4)), (1, .ref (ad 176)), (2, .int (i + 1))]) rfl ?_
  refine x_wid (by omega) (by omega) k
set_option maxHeartbeats 4000000 in
set_option maxRecDepth 100000 in
theorem law_loop {p : Program} {l : Launch} {e : Env} {s : State} {m : MethodId} {args : Array Value} {below : List Frame} {meth : Method} {c : Code} {Q : State → Prop} {A : Nat → Prop} {G : GT} {ad : Nat → Nat} {M : StM} {O : StO} {S : Nat → Int32} {N : Nat} (C : CX p l s m args meth c A G ad cL_law RL 5 (some .boolean)) (hsc : S = scx G ∧ N = G.2.2.2.2 5) (hG : G.2.2.2.2 2 = 0 ∧ G.2.2.2.2 3 = 0) (Inv : Nat → StB → Prop) (hI : ∀ k B, k < 14 → Inv k B → lwOk S N B (Int32.ofNat k) ∧ Inv (k + 1) (lwJ S N B (Int32.ofNat k)).2) (kend : ∀ (B : StB) {cs ss : Nat}, cs ≤ 863104 → ss ≤ 6505447 → X p l e room_1 s m args below meth c A G ad 5 cs ss Q B M O [(0, .ref (G.2.2.2.2 4)), (1, .ref (ad 176)), (2, .int 14)] 116 []) : ∀ g k B {cs ss : Nat}, k + g = 14 → Inv k B → cs + g * 228 ≤ 863104 → ss + g * 3384 ≤ 6505447 → X p l e room_1 s m args below meth c A G ad 5 cs ss Q B M O [(0, .ref (G.2.2.2.2 4)), (1, .ref (ad 176)), (2, .int (Int32.ofNat k))] 15 [] := by
  intro g
  induction g with
  | zero =>
    intro k B cs ss hk hi h1 h2
    have e : k = 14 := by omega
    subst e
    refine x_iload_n (pc := 15) C 2 dL_law_15 rfl rfl ?_
    refine x_bipush (pc := 16) C (v := 14) dL_law_16 (by decide) ?_
    refine x_icmp_ge (pc := 18) (tgt := 116) C dL_law_18 (by decide) (fun _ => kend B (by omega) (by omega)) (fun z => absurd (by decide) z)
  | succ g ih =>
    intro k B cs ss hk hi h1 h2
    obtain ⟨a, b⟩ := hI k B (by omega) hi
    have h14 : ¬ (14 : Int32) ≤ Int32.ofNat k := by
      rw [Int32.le_iff_toInt_le, ofN_toInt (by omega)]
      show ¬ (14 : Int) ≤ _
      omega
    refine law_step C hsc hG B (Int32.ofNat k) a h14 ⟨by omega, by omega⟩ ?_
    have e2 : Int32.ofNat k + 1 = Int32.ofNat (k + 1) := by
      rw [Int32.ofNat_add]
      rfl
    rw [e2]
    exact ih (k + 1) _ (by omega) b (by omega) (by omega)
def R_law : String := "InkBankLaw"
def lw_P (b : Addr) (xs : List Int32) (args : Array Value) (s : State) : Prop := args = #[.ref b] ∧ s.IntsAt b xs ∧ xs.length ≤ 260 ∧ (Jvm.Cond.and given_1 narrow_1).before args s = true
/-- what a walk over the start with the record d0 says of its end, said of the start itself -/
theorem lw_closed {s t : State} {o : Outcome} {d0 : Drawn} {L : List Loc} {k n : Nat} (hd0 : s.drawn.sameBut d0 lw_cs) (hv : ∃ v, o = .returned v) (hW : (s.setDrawn d0).WarmedH t.vm) (hs : (s.setDrawn d0).sameButNew ({ t with vm := s.vm } : State) L k n) : State.butDraws s t lw_cs (fun t1 => Framed s o t1 L k n) := by
  have h2 : t.drawn = d0 := congrArg State.drawn hs.1
  refine ⟨⟨hv, hW, State.sameButNew.setDrawn hs s.drawn⟩, ?_, by decide⟩
  rw [h2]
  exact hd0
def lw_Q (_ : Array Value) (s : State) (o : Outcome) (t : State) : Prop := o = .returned (some (.int 1)) ∧ State.butDraws s t lw_cs (fun t1 => Framed s o t1 [] 863104 6505447)
def lw_Z (below : List Frame) (a : Array Value) (s : State) : State → Prop := fun t => ∃ o, t.status = .running ∧ Ended t below o ∧ lw_Q a s o t
/-- the law's own end, with 1 on the stack, nothing written that was there before, its room as the claim has it; d0: the record of draws at this point (at the entry s.drawn: begin with 'refine W.base ?_' and 'have hd0 := Drawn.sameBut.refl s.drawn lw_cs') -/
theorem lw_ret {p : Program} {l : Launch} {e : Env} {s : State} {m : MethodId} {below : List Frame} {meth : Method} {c : Code} {b : Nat} {d0 : Drawn} (hd0 : s.drawn.sameBut d0 lw_cs) (hx : p.tables.exec = Jvm.exec) (hb : c.code = code) (hr : meth.sig.returnType = ret) (hlocks : meth.locks = false) {pc : Nat} {H : Heap} {ls : Array Slot} (hdg : decode code pc = .ok (.ireturn, 1)) : W p l e room_1 (s.setDrawn d0) m #[Value.ref b] below meth c H [] 863104 6505447 (lw_Z below #[Value.ref b] s) (F0 m pc ls [.int 1]) := by
  intro T hT X
  obtain ⟨fs, hret, hrun, hended, hW, hframe⟩ := X.leave (v := some (.int 1)) (hlocks := hlocks) (fun h => by rw [hr] at h; cases h)
  have hmeth' : T.vm.method? m = some meth := X.method'
  refine ⟨T.setFrames fs, ?_, .returned (some (.int 1)), hrun, hended, rfl, lw_closed hd0 ⟨_, rfl⟩ hW hframe⟩
  jvm_step X.here [X.here.top, hx, hb, hdg, hmeth', hr, ret, narrow_b1]
  (try refine ⟨rfl, ?_⟩); (try refine ⟨rfl, ?_⟩)
  first | (intro acts; rw [hret _ acts rfl rfl rfl]) | rw [hret _ _ rfl rfl rfl]
  exact Steps.refl _
/-- what holds at the law's entry: the machine, the code, the tables' words (any of lw_tbl by 'hts w (by decide +kernel)'), the script of L ints xs at the cell b, what the Statement gives of the start (any of its parts by flat_of_before) -/
def lw_At (p : Program) (s : State) (m : MethodId) (meth : Method) (c : Code) (b L : Nat) (xs : Nat → Int32) : Prop :=
  p.tables.exec = Jvm.exec ∧ c.code = code ∧ meth.sig.returnType = ret ∧ c.maxLocals = 5 ∧ s.vm.findClass R_law = some m.cls ∧ (∀ w ∈ lw_tbl, w.before #[Value.ref b] s = true) ∧ va_X b L xs s s.heap ∧ b < s.heap.size ∧ meth.locks = false ∧ (Jvm.Cond.and given_1 narrow_1).before #[Value.ref b] s = true
theorem st_tr {l : Launch} (hflags : l.flags = flags0) : l.stackTraces = false := by
  unfold Launch.stackTraces
  rw [hflags]
  decide +kernel
set_option maxHeartbeats 4000000 in
set_option maxRecDepth 100000 in
theorem whole_from (hI : ∀ (S : Nat → Int32) (N : Nat), N ≤ 260 → ∃ Inv : Nat → StB → Prop, ok_L_lay S N B0 ∧ Inv 0 (f_L_lay S N B0) ∧ ∀ k B, k < 14 → Inv k B → lwOk S N B (Int32.ofNat k) ∧ Inv (k + 1) (lwJ S N B (Int32.ofNat k)).2) {p : Program} {e : Env} {s : State} {m : MethodId} {below : List Frame} {meth : Method} {c : Code} (l : Launch) (hflags : l.flags = flags0) {b L : Nat} {xs : Nat → Int32} (hL : L ≤ 260) (C0 : lw_At p s m meth c b L xs) : W p l e room_1 s m #[Value.ref b] below meth c s.heap [] 0 0 (lw_Z below #[Value.ref b] s) (entryFrame m ([Value.ref b] : List Value).toArray 5) := by
  obtain ⟨hx, hb, hr, hml, hown, hts, hX, hbl, hlk, hgv⟩ := C0
  have hA0 : ∀ a : Nat, a < s.heap.size → ¬ (s.heap.size ≤ a) := fun a h h2 => absurd h (Nat.not_lt.mpr h2)
  obtain ⟨G, hK, hF, hN, hG, hb4, hn5⟩ := st_fx (A := fun q => s.heap.size ≤ q) hL hX (hA0 b hbl) hts hgv hA0
  obtain ⟨Inv, hok, hi0, hstep⟩ := hI (scx G) (G.2.2.2.2 5) (by rw [hn5]; exact hL)
  have CC : CY p s m #[Value.ref b] meth c (fun q => s.heap.size ≤ q) G cL_law "InkBankLaw" 5 (some .boolean) := ⟨hx, hb, hml, hown, fun w h => hts w (tt_lw h), hK, hF, hN, hr, hlk, fun _ h => h⟩
  have key : Y p l e room_1 s m #[Value.ref b] below meth c (fun q => s.heap.size ≤ q) G 5 0 0 (lw_Z below #[Value.ref b] s) [] [] [(0, .ref b)] 0 [] := by
    refine y_new CC (ci := 10) (fs := [.null, .null, .null, .null, .null, .null, .null, .int 0, .int 0, .int 0]) tyX6 tyX6_ok rfl ttX6 wd_1_32 wd_1_33 wd_1_1 (by decide) (Nat.le_of_ble_eq_true rfl) (Nat.le_of_ble_eq_true rfl) dL_law_0 (fun q1 => ?_)
    refine y_dup CC dL_law_3 rfl ?_
    refine y_call CC (kX6 [] q1 rfl) ce_X6 wd_1_35 rfl wd_1_34 ⟨(Nat.le_of_ble_eq_true rfl), (Nat.le_of_ble_eq_true rfl)⟩ ⟨(Nat.le_of_ble_eq_true rfl), (Nat.le_of_ble_eq_true rfl)⟩ rfl rfl (Nat.le_of_ble_eq_true rfl) dL_law_4 (fun u hu => ?_)
    obtain ⟨F, hF0, rfl⟩ := hu
    refine ⟨kI G F, rfl, ?_⟩
    refine y_astore_n CC (ls2 := [(1, .ref q1), (0, .ref b)]) dL_law_7 rfl (by decide) rfl ?_
    subst hF0
    intro H locs la hP hD hS hl
    have hP1 : va_P G.1 vwCl (wl G (ad0 F) B0 M0 O0) H := ws0_P hG.2 hP
    have hD1 : AdOk (fun q => s.heap.size ≤ q) G (ad0 F) := ws0_ok hG.2 hD
    have gl : Gl l (fun q => s.heap.size ≤ q) G (ad0 F) := ⟨st_tr hflags, hD1⟩
    have C : CX p l s m #[Value.ref b] meth c (fun q => s.heap.size ≤ q) G (ad0 F) cL_law RL 5 (some .boolean) := ⟨hx, hb, hml, hown, fun w h => hts w (tt_lw h), hK, hF, gl, hr, hlk, fun _ h => h⟩
    have hl2 : lv_has la 5 [(1, .ref (ad0 F 176)), (0, .ref (G.2.2.2.2 4))] := by rw [hb4]; exact hl
    have k1 : X p l e room_1 s m #[Value.ref b] below meth c (fun q => s.heap.size ≤ q) G (ad0 F) 5 (0 + 1 + 192) (0 + 10 + 1712) (lw_Z below #[Value.ref b] s) B0 M0 O0 [(1, .ref (ad0 F 176)), (0, .ref (G.2.2.2.2 4))] 8 [] := by
      refine x_aload_n (pc := 8) C 0 dL_law_8 rfl rfl ?_
      refine x_aload_n (pc := 9) C 1 dL_law_9 rfl rfl ?_
      refine x_cVS (pc := 10) (as := [.ref (ad0 F 176), .ref (G.2.2.2.2 4)]) C (c_L_lay gl (scx G) (G.2.2.2.2 5) ⟨rfl, rfl⟩ B0 M0 O0 hok) wd_2_74 cd_L_lay wd_2_73 ⟨(Nat.le_of_ble_eq_true rfl), (Nat.le_of_ble_eq_true rfl)⟩ ⟨(Nat.le_of_ble_eq_true rfl), (Nat.le_of_ble_eq_true rfl)⟩ rfl rfl (Nat.le_of_ble_eq_true rfl) dL_law_10 ?_
      refine x_iconst (pc := 13) C (v := 0) dL_law_13 (by decide) ?_
      refine x_istore_n (pc := 14) (ls2 := [(2, .int 0), (1, .ref (ad0 F 176)), (0, .ref (G.2.2.2.2 4))]) C dL_law_14 rfl (by decide) rfl ?_
      refine x_sub [2, 1, 0] (ls2 := [(0, .ref (G.2.2.2.2 4)), (1, .ref (ad0 F 176)), (2, .int 0)]) rfl ?_
      refine law_loop C ⟨rfl, rfl⟩ hG Inv hstep (fun B cs ss h1 h2 => ?_) 14 0 _ (by omega) hi0 (Nat.le_of_ble_eq_true rfl) (Nat.le_of_ble_eq_true rfl)
      refine x_iconst (pc := 116) C (v := 1) dL_law_116 (by decide) ?_
      intro H locs la hP hS hl
      exact va_forget (fun q hq => hS.2.2 q hq) (W.widen h1 h2 (lw_ret (d0 := s.drawn) (Drawn.sameBut.refl s.drawn lw_cs) hx hb hr hlk dL_law_117))
    exact k1 H locs la hP1 hS hl2
  rw [lg_entry_eq]
  refine key s.heap [] _ (fun k q h => absurd h (by simp)) ⟨(fun i j a b2 h _ _ => absurd h (by simp)), (fun k q h => absurd h (by simp))⟩ va_S.rf (lv_entry [.ref b] (n := 5) (Nat.le_of_ble_eq_true rfl))
