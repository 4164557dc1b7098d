section YP
variable {p : Program} {l : Launch} {e : Env} {R : Room} {s : State} {m : MethodId} {args : Array Value} {below : List Frame} {meth : Method} {c : Code} {cells slots : Nat} {Q : State → Prop}
variable {A : Nat → Prop} {G : GT} {cc : ByteArray} {own : String} {nL : Nat} {ret : Option FieldType} {w0 L : va_W} {ls : List (Nat × Value)} {pc : Nat} {rest stk : List Value}
theorem y_cRVP (C : CY p s m args meth c A G cc own nL ret) {y : MethodName} {cd : ByteArray} {ml d0 mc ms idx n : Nat} {rt : Option FieldType} {as : List Value} {P : va_W × Nat → Prop} {b : Nat} (hM : Met l y (wof y cd ml rt) (rmd d0 mc ms) (va_Pc (.ref b :: as) (PO G A (w0 ++ L))) (QOR G A P) mc ms A) {j ci N : Nat} {Cn : String} {T : u_T} {fs : List Value} (he : w0[j]? = some (b, .inr (ci, fs))) (hc : vwCl[ci]? = some (Cn, T, N)) (hsel : Cond.selects Cn y y ∈ TT) (hi : Cond.instanceMethod y ∈ TT) (cd0 : Card y cd ml rt n) (hl0 : Cond.methodLink own idx y ∈ TT) (hR : d0 + 1 ≤ R.frames ∧ 8 + (ml + 11) + 48 * d0 ≤ R.locals) (hf : cells + mc ≤ R.cells ∧ slots + ms ≤ R.slots) (hn : as.length = n) (hst : stk = as.reverse ++ .ref b :: rest) (hcat : (rest.map fun v => v.category).sum ≤ 8) (d : decode cc pc = .ok (.invokevirtual idx, 3)) (k : ∀ u, P u → ∃ L2, u.1 = w0 ++ L2 ∧ Y p l e R s m args below meth c A G nL (cells + mc) (slots + ms) Q w0 L2 ls (pc + 3) (.ref u.2 :: rest)) : Y p l e R s m args below meth c A G nL cells slots Q w0 L ls (pc) (stk) := by
  intro H locs la hP hD hS hl
  refine va_callr (va_runV (C := Cn) (As := as) (b := b) (rest := rest) ⟨C.1, C.2.1, C.2.2.1, C.2.2.2.1, C.2.2.2.2.1⟩ hM ⟨⟨rfl, rfl, hR.1, hR.2, pay_in (big := TT) C.2.2.2.2.1 (fun w h => by rcases List.mem_cons.mp h with h | h; (rw [h]; exact ⟨cd0.1, good_of_word (tt_good _ cd0.1)⟩); exact ⟨h, good_of_word (tt_good _ h)⟩), List.mem_cons_self, C.2.2.2.2.1 _ cd0.1, C.2.2.2.2.1 _ cd0.2.1, ⟨cd0.2.2.1, cd0.2.2.2.1⟩, fun sig h => by have h2 := cd0.2.2.2.2; rw [h] at h2; exact (Option.some.inj h2).symm, C.2.2.2.2.1 _ hl0⟩, C.2.2.2.2.1 _ hi, C.2.2.2.2.1 _ hsel⟩ ⟨po_blind, va_recv C.2.2.2.2.2.1 hP hc (ap_w he), fun U hU hW => ⟨rfl, by rw [hU]; exact hP, hD, va_K.moved hW.alike C.2.2.2.2.2.1, fx_step C.2.2.2.2.2.2.1 hS hU hW, NB_moved hW.alike C.2.2.2.2.2.2.2.1, fun z hz => C.2.2.2.2.2.2.2.2.2.2 z (Nat.le_trans hS.1 (by rw [hU] at hz; exact hz))⟩⟩ rfl hn hl.1 hst (lv_room hcat) d hf) hS (fun _ _ h => h) (fun _ h => h) (fun u ra t H1 locs1 ht hvm hw hB hz1 hk1 hS1 => ?_)
  obtain ⟨rfl, hB⟩ := hB
  obtain ⟨L2, h2, k2⟩ := k u hw
  rw [ht, h2] at hB
  exact k2 H1 locs1 la hB.1 hB.2 hS1 hl
end YP
set_option maxHeartbeats 4000000 in
set_option maxRecDepth 100000 in
theorem x_sbnew {p : Program} {l : Launch} {e : Env} {R : Room} {s : State} {m : MethodId} {args : Array Value} {below : List Frame} {meth : Method} {c : Code} {cells slots : Nat} {Q : State → Prop} {A : Nat → Prop} {G : GT} {ad : Nat → Nat} {B : StB} {M : StM} {O : StO} {ls : List (Nat × Value)} {rest : List Value} (C : CX p l s m args meth c A G ad cL_areAccountsRight RL 9 (some .boolean)) (hG : G.2.2.2.2 3 = 0) (hR : 3 ≤ R.frames ∧ 200 ≤ R.locals) (hf : cells + 2 ≤ R.cells ∧ slots + 20 ≤ R.slots) (hcat : (rest.map fun v => v.category).sum ≤ 4) (k : ∀ q : Nat → Nat, AdOk A (xG G 2 2) (xadL ad q) → X p l e R s m args below meth c A (xG G 2 2) (xadL ad q) 9 (cells + 2) (slots + 20) Q (sbn B) M O ls 214 (.ref (xadL ad q 193) :: rest)) : X p l e R s m args below meth c A G ad 9 cells slots Q B M O ls 207 rest := by
  have CC := cy_of C
  refine x_toY C ?_
  refine y_new CC (ci := 1) (fs := [.null, .int 0, .int 0, .int 0]) tyJ4 tyJ4_ok rfl ttJ4 wd_6_30 wd_1_236 wd_1_9 (by decide) (by omega) (by omega) dL_areAccountsRight_207 (fun q1 => ?_)
  refine y_dup CC dL_areAccountsRight_210 rfl ?_
  refine y_call CC (kJ4 (wl G ad B M O) q1 rfl) ce_J4 wd_1_238 rfl wd_6_31 ⟨hR.1, Nat.le_trans (Nat.le_of_ble_eq_true rfl) hR.2⟩ ⟨by omega, by omega⟩ rfl rfl (by rw [List.map_cons, List.sum_cons]; show 1 + _ ≤ 8; omega) dL_areAccountsRight_211 (fun u hu => ?_)
  obtain ⟨f, hf0, rfl⟩ := hu
  refine ⟨kS G f, rfl, ?_⟩
  subst hf0
  refine y_toX (G2 := xG G 2 2) (ad2 := xadL ad f) (B2 := sbn B) (M2 := M) (O2 := O) (fun i => i) rfl (fun _ _ _ _ h => h) (fun i hi => ?_) (fun hok => k f hok)
  have hi : i < 195 := hi
  by_cases h : i < 193
  · rw [List.getElem?_append_left (by rw [wl_len]; omega), wl_at ⟨by omega, rfl⟩, ent_x h (Lo_sbn B), xad_lt h]
  · rw [List.getElem?_append_right (by rw [wl_len]; omega), wl_len, hG]
    rcases (show i = 193 ∨ i = 194 by omega) with rfl | rfl
    · rw [(e_D (G := xG G 2 2) (ad := xadL ad f) (B := sbn B) (M := M) (O := O) ⟨rfl, rfl⟩).2]
      rfl
    · rw [(e_Db (G := xG G 2 2) (ad := xadL ad f) (B := sbn B) (M := M) (O := O) ⟨rfl, rfl⟩).2]
      rfl
set_option maxHeartbeats 4000000 in
set_option maxRecDepth 100000 in
theorem x_sbstr {p : Program} {l : Launch} {e : Env} {R : Room} {s : State} {m : MethodId} {args : Array Value} {below : List Frame} {meth : Method} {c : Code} {cells slots : Nat} {Q : State → Prop} {A : Nat → Prop} {G : GT} {ad : Nat → Nat} {B : StB} {M : StM} {O : StO} {ls : List (Nat × Value)} {rest : List Value} {q : Nat → Nat} (C : CX p l s m args meth c A (xG G 2 2) (xadL ad q) cL_areAccountsRight RL 9 (some .boolean)) (hs : okStr B) (hR : 8 ≤ R.frames ∧ 400 ≤ R.locals) (hf : cells + 2 ≤ R.cells ∧ slots + 104 ≤ R.slots) (hcat : (rest.map fun v => v.category).sum ≤ 8) (k : ∀ q2 : Nat → Nat, AdOk A (xG G 3 2) (xadL ad q2) → X p l e R s m args below meth c A (xG G 3 2) (xadL ad q2) 9 (cells + 2) (slots + 104) Q (tsB B) M O ls 266 (.ref (xadL ad q2 193) :: rest)) : X p l e R s m args below meth c A (xG G 2 2) (xadL ad q) 9 cells slots Q B M O ls 263 (.ref (xadL ad q 193) :: rest) := by
  have CC := cy_of C
  obtain ⟨hs0, hs1, hs2, hs3⟩ := hs
  obtain ⟨n, hn⟩ : ∃ n, n = ix (bi B 193 3) := ⟨_, rfl⟩
  have e : bi B 193 3 = Int32.ofNat n := by
    rw [hn]
    apply Int32.toInt_inj.mp
    have h2 : (bi B 193 3).toInt < 2 ^ 31 := Int32.toInt_lt _
    have h3 : ((ix (bi B 193 3) : Nat) : Int) = (bi B 193 3).toInt := by
      show (((bi B 193 3).toInt.toNat : Nat) : Int) = _
      omega
    rw [ofN_toInt (by omega)]
    omega
  rw [← hn] at hs1 hs3
  have H1 : (wl (xG G 2 2) (xadL ad q) B M O)[193]? = some (xadL ad q 193, .inr (1, [.ref (xadL ad q 194), .int 0, .int (bi B 193 2), .int (Int32.ofNat n)])) := by
    rw [← e]
    exact wl_at (e_D ⟨rfl, rfl⟩)
  have H2 : (wl (xG G 2 2) (xadL ad q) B M O)[194]? = some (xadL ad q 194, .inl ((xG G 2 2).2.1 0, ix (bi B 194 9), .inl (ba B 194))) := wl_at (e_Db ⟨rfl, rfl⟩)
  refine x_toY C ?_
  refine y_cRVP CC (as := []) (ci := 1) (c_tStr H1 H2 hs1 hs2 hs3) H1 rfl wd_5_158 wd_5_157 ct_J4_toString_0e30d wd_6_38 ⟨hR.1, Nat.le_trans (Nat.le_of_ble_eq_true rfl) hR.2⟩ ⟨by omega, by omega⟩ rfl rfl hcat dL_areAccountsRight_263 (fun u hu => ?_)
  obtain ⟨q1, q2, rfl⟩ := hu
  refine ⟨_, rfl, ?_⟩
  refine y_toX (G2 := xG G 3 2) (ad2 := xadL ad (fun j => [q1, q2].getD j 0)) (B2 := tsB B) (M2 := M) (O2 := O) (fun i => if i < 193 then i else i + 2) rfl (fun i j _ _ h => by have h : (if i < 193 then i else i + 2) = (if j < 193 then j else j + 2) := h; split at h <;> split at h <;> omega) (fun i hi => ?_) (fun hok => k _ hok)
  have hi : i < 195 := hi
  by_cases h : i < 193
  · try dsimp only
    rw [if_pos h, List.getElem?_append_left (by rw [wl_len]; show i < 193 + 2; omega), wl_at ⟨by show i < 193 + 2; omega, rfl⟩, ent_xx (b := 2) (b2 := 2) (a2 := 2) (q2 := q) h (Lo_tsB B), xad_lt h, xad_lt h]
  · try dsimp only
    rw [if_neg h, List.getElem?_append_right (by rw [wl_len]; show 193 + 2 ≤ _; omega), wl_len]
    rcases (show i = 193 ∨ i = 194 by omega) with rfl | rfl
    · rw [(e_W (G := xG G 3 2) (ad := xadL ad (fun j => [q1, q2].getD j 0)) (B := tsB B) (M := M) (O := O) ⟨rfl, rfl⟩).2]
      rfl
    · rw [(e_Wv (G := xG G 3 2) (ad := xadL ad (fun j => [q1, q2].getD j 0)) (B := tsB B) (M := M) (O := O) ⟨rfl, rfl⟩).2]
      have e9 : ix (bi (tsB B) 194 9) = n := hn.symm
      have e8 : ba (tsB B) 194 = va_cpy (ba B 194) (fun _ => 0) 0 0 n := by rw [hn]; show (if (194 : Nat) = 194 then _ else ba B 194) = _; exact if_pos rfl
      rw [e9, e8]
      rfl
/-- the law's four arrays, new -/
def arB (B : StB) (n t : Int32) : StB := sbi (sbi (sbi (sbi (saf (saf (saf (saf B 193 (fun _ => 0)) 194 (fun _ => 0)) 195 (fun _ => 0)) 196 (fun _ => 0)) 193 9 n) 194 9 t) 195 9 t) 196 9 t
theorem Lo_arB (B : StB) (n t : Int32) : Lo B (arB B n t) := ((((((((Lo.rf B).saf (by decide)).saf (by decide)).saf (by decide)).saf (by decide)).sbi (by decide)).sbi (by decide)).sbi (by decide)).sbi (by decide)
theorem x_post {p : Program} {l : Launch} {e : Env} {R : Room} {s : State} {m : MethodId} {args : Array Value} {below : List Frame} {meth : Method} {c : Code} {cells slots : Nat} {Q Q2 : State → Prop} {A : Nat → Prop} {G : GT} {ad : Nat → Nat} {nL : Nat} {B : StB} {M : StM} {O : StO} {ls : List (Nat × Value)} {pc : Nat} {stk : List Value} (h : ∀ t, Q t → Q2 t) (k : X p l e R s m args below meth c A G ad nL cells slots Q B M O ls pc stk) : X p l e R s m args below meth c A G ad nL cells slots Q2 B M O ls pc stk := fun H locs la hP hS hl T hT X0 => by
  obtain ⟨t, a, b⟩ := k H locs la hP hS hl T hT X0
  exact ⟨t, a, h t b⟩
theorem wl_back {G : GT} {ad q : Nat → Nat} {a b : Nat} {B : StB} {M : StM} {O : StO} {H : Heap} (hG : G.2.2.2.2 3 = 0) (hP : va_P G.1 vwCl (wl (xG G a b) (xadL ad q) B M O) H) : va_P G.1 vwCl (wl G ad B M O) H := fun i z hi => by
  have h1 : i < 193 + G.2.2.2.2 3 := by
    have := (List.getElem?_eq_some_iff.mp hi).1
    rw [wl_len] at this
    exact this
  rw [wl_at ⟨h1, rfl⟩] at hi
  cases hi
  refine hP i _ ?_
  rw [wl_at (p := i) ⟨by show i < 193 + b; omega, rfl⟩, ent_x (by omega) (Lo.rf B), xad_lt (by omega)]
def f_L_pred (B : StB) (x1 : Int32) : Int32 × StB := f_L_arePredictionsRight (arB B (f_X6_accountCount B) (f_X6_transferCount B)) x1 (f_X6_accountCount B) (f_X6_transferCount B)
def okA (n : Int32) : Prop := ¬ n < 0 ∧ ix n ≤ 10
def ok_L_pred (B : StB) (x1 : Int32) : Prop := okA (f_X6_accountCount B) ∧ okA (f_X6_transferCount B) ∧ ok_L_arePredictionsRight (arB B (f_X6_accountCount B) (f_X6_transferCount B)) x1 (f_X6_accountCount B) (f_X6_transferCount B)
set_option maxHeartbeats 4000000 in
set_option maxRecDepth 100000 in
theorem c_L_pred {l : Launch} {A : Nat → Prop} {G : GT} {ad : Nat → Nat} (gl : Gl l A G ad) (hG : G.2.2.2.2 3 = 0) (B : StB) (M : StM) (O : StO) (x1 : Int32) (hok : ok_L_pred B x1) : Met l yL_arePredictionsRight (wof yL_arePredictionsRight cL_arePredictionsRight 16 (some .boolean)) (rmd 22 96 592) (va_Pc [.ref (ad 176), .int x1] (PW G A ad B M O)) (QI G A ad (f_L_pred B x1).1 (f_L_pred B x1).2 M O) 96 592 A := by
  unfold f_L_pred
  unfold ok_L_pred at hok
  refine x_body (own := RL) (by decide +kernel) rfl gl (Nat.le_of_ble_eq_true rfl) (ls := [(0, .ref (ad 176)), (1, .int x1)]) rfl ?_
  intro p e s m args below meth c C
  refine x_aload_n (pc := 0) C 0 dL_arePredictionsRight_0 rfl rfl ?_
  refine x_cIV (pc := 1) (as := []) (q := 176) C (c_X6_accountCount gl B M O) (fs := _) e_I rfl cv_X6_accountCount cd_X6_accountCount wd_2_61 ⟨(Nat.le_of_ble_eq_true rfl), (Nat.le_of_ble_eq_true rfl)⟩ ⟨(Nat.le_of_ble_eq_true rfl), (Nat.le_of_ble_eq_true rfl)⟩ rfl rfl (Nat.le_of_ble_eq_true rfl) dL_arePredictionsRight_1 ?_
  refine x_nmI (fun n en => ?_)
  rw [← en] at hok ⊢
  refine x_istore_n (ls2 := [(2, .int n), (0, .ref (ad 176)), (1, .int x1)]) C dL_arePredictionsRight_4 rfl (by decide) rfl ?_
  refine x_aload_n (pc := 5) C 1 dL_arePredictionsRight_5 rfl rfl ?_
  refine x_cIV (pc := 6) (as := []) (q := 176) C (c_X6_transferCount gl B M O) (fs := _) e_I rfl cv_X6_transferCount cd_X6_transferCount wd_4_119 ⟨(Nat.le_of_ble_eq_true rfl), (Nat.le_of_ble_eq_true rfl)⟩ ⟨(Nat.le_of_ble_eq_true rfl), (Nat.le_of_ble_eq_true rfl)⟩ rfl rfl (Nat.le_of_ble_eq_true rfl) dL_arePredictionsRight_6 ?_
  refine x_nmI (fun t et => ?_)
  rw [← et] at hok ⊢
  refine x_istore_n (ls2 := [(3, .int t), (2, .int n), (0, .ref (ad 176)), (1, .int x1)]) C dL_arePredictionsRight_9 rfl (by decide) rfl ?_
  have CC := cy_of C
  obtain ⟨hA1, hA2, hok⟩ := hok
  refine x_toY C ?_
  refine y_iload_n CC 1 dL_arePredictionsRight_10 rfl rfl ?_
  refine y_newa CC (atype := .int) (ty := .int) 2 rfl (fun _ h => h) rfl wd_1_77 (n := n) (N' := ix n) (a0 := (ix n, .inl (fun _ => 0))) (fun _ => rfl) hA1.1 rfl (by show ix n * 4 ≤ _; have := hA1.2; omega) (by show 0 + 1 ≤ 96; omega) (by show 0 + ix n ≤ 592; have := hA1.2; have := hA2.2; omega) dL_arePredictionsRight_11 (fun q0 => ?_)
  refine y_astore (ls2 := [(4, .ref q0), (3, .int t), (2, .int n), (0, .ref (ad 176)), (1, .int x1)]) CC dL_arePredictionsRight_13 (by decide) rfl ?_
  refine y_iload_n CC 1 dL_arePredictionsRight_15 rfl rfl ?_
  refine y_newa CC (atype := .int) (ty := .int) 2 rfl (fun _ h => h) rfl wd_1_77 (n := t) (N' := ix t) (a0 := (ix t, .inl (fun _ => 0))) (fun _ => rfl) hA2.1 rfl (by show ix t * 4 ≤ _; have := hA2.2; omega) (by show 0 + 2 ≤ 96; omega) (by show 0 + ix n + ix t ≤ 592; have := hA1.2; have := hA2.2; omega) dL_arePredictionsRight_16 (fun q1 => ?_)
  refine y_astore (ls2 := [(5, .ref q1), (4, .ref q0), (3, .int t), (2, .int n), (0, .ref (ad 176)), (1, .int x1)]) CC dL_arePredictionsRight_18 (by decide) rfl ?_
  refine y_iload_n CC 2 dL_arePredictionsRight_20 rfl rfl ?_
  refine y_newa CC (atype := .int) (ty := .int) 2 rfl (fun _ h => h) rfl wd_1_77 (n := t) (N' := ix t) (a0 := (ix t, .inl (fun _ => 0))) (fun _ => rfl) hA2.1 rfl (by show ix t * 4 ≤ _; have := hA2.2; omega) (by show 0 + 3 ≤ 96; omega) (by show 0 + ix n + ix t + ix t ≤ 592; have := hA1.2; have := hA2.2; omega) dL_arePredictionsRight_21 (fun q2 => ?_)
  refine y_astore (ls2 := [(6, .ref q2), (5, .ref q1), (4, .ref q0), (3, .int t), (2, .int n), (0, .ref (ad 176)), (1, .int x1)]) CC dL_arePredictionsRight_23 (by decide) rfl ?_
  refine y_iload_n CC 3 dL_arePredictionsRight_25 rfl rfl ?_
  refine y_newa CC (atype := .boolean) (ty := .boolean) 3 rfl (fun _ h => h) rfl wd_1_78 (n := t) (N' := ix t) (a0 := (ix t, .inl (fun _ => 0))) (fun _ => rfl) hA2.1 rfl (by show ix t * 1 ≤ _; have := hA2.2; omega) (by show 0 + 4 ≤ 96; omega) (by show 0 + ix n + ix t + ix t + ix t ≤ 592; have := hA1.2; have := hA2.2; omega) dL_arePredictionsRight_26 (fun q3 => ?_)
  refine y_astore (ls2 := [(7, .ref q3), (6, .ref q2), (5, .ref q1), (4, .ref q0), (3, .int t), (2, .int n), (0, .ref (ad 176)), (1, .int x1)]) CC dL_arePredictionsRight_28 (by decide) rfl ?_
  refine y_toX (G2 := xG G 1 4) (ad2 := xadL ad (fun j => [q0, q1, q2, q3].getD j 0)) (B2 := arB B n t) (M2 := M) (O2 := O) (fun i => i) rfl (fun _ _ _ _ h => h) (fun i hi => ?_) (fun hA => ?_)
  · have hi : i < 197 := hi
    by_cases h : i < 193
    · rw [List.getElem?_append_left (by rw [wl_len]; omega), wl_at ⟨by omega, rfl⟩, ent_x h (Lo_arB B n t), xad_lt h]
    · rw [List.getElem?_append_right (by rw [wl_len]; omega), wl_len, hG]
      rcases (show i = 193 ∨ i = 194 ∨ i = 195 ∨ i = 196 by omega) with rfl | rfl | rfl | rfl
      · rw [(e_Q0 (G := xG G 1 4) (ad := xadL ad (fun j => [q0, q1, q2, q3].getD j 0)) (B := arB B n t) (M := M) (O := O) ⟨rfl, rfl⟩).2]
        rfl
      · rw [(e_Q1 (G := xG G 1 4) (ad := xadL ad (fun j => [q0, q1, q2, q3].getD j 0)) (B := arB B n t) (M := M) (O := O) ⟨rfl, rfl⟩).2]
        rfl
      · rw [(e_Q2 (G := xG G 1 4) (ad := xadL ad (fun j => [q0, q1, q2, q3].getD j 0)) (B := arB B n t) (M := M) (O := O) ⟨rfl, rfl⟩).2]
        rfl
      · rw [(e_Q3 (G := xG G 1 4) (ad := xadL ad (fun j => [q0, q1, q2, q3].getD j 0)) (B := arB B n t) (M := M) (O := O) ⟨rfl, rfl⟩).2]
        rfl
  · obtain ⟨R0, hR⟩ : ∃ R0, R0 = f_L_arePredictionsRight_S (arB B n t) x1 n t := ⟨_, rfl⟩
    have hR2 : f_L_arePredictionsRight (arB B n t) x1 n t = R0 := hR.symm
    rw [hR2]
    refine x_sub [6, 7, 5, 4, 3, 2, 1, 0] (ls2 := [(0, .ref (ad 176)), (1, .int x1), (2, .int n), (3, .int t), (4, .ref q0), (5, .ref q1), (6, .ref q2), (7, .ref q3)]) rfl ?_
    refine x_wid (k0 := 4) (n0 := 40) (by show 0 + 1 + 1 + 1 + 1 ≤ 4; omega) (by have := hA1.2; have := hA2.2; omega) ?_
    refine x_post (fun t h => ?_) (t_L_arePredictionsRight_S (cx_x C hA) ⟨rfl, rfl⟩ (arB B n t) x1 n t M O 4 40 ⟨by omega, by omega⟩ R0 hR hok)
    obtain ⟨o, g1, g2, ⟨⟨r, u, g3, g4, g5⟩, g6⟩, g7⟩ := h
    exact ⟨o, g1, g2, ⟨⟨r, u, g3, g4, wl_back hG g5⟩, g6⟩, g7⟩
