set_option maxHeartbeats 4000000 in
set_option maxRecDepth 100000 in
theorem t_X7_copies_M1_M0_L3 {p0 : Program} {l : Launch} {e : Env} {s : State} {m : MethodId} {args : Array Value} {below : List Frame} {meth : Method} {c : Code} {A : Nat → Prop} {G : GT} {ad : Nat → Nat} {Q : State → Prop} (C : CX p0 l s m args meth c A G ad cX7_copies RX7 5 none)    (n : Nat) (M : StM) (a1 : Int32) (a3 : Int32) (a4 : Int32) (B : StB) (O : StO) : ∀ (R0 : StM) (hR : R0 = f_X7_copies_M1_M0_L3 n M a1 a3 a4) (hok : ok_X7_copies_M1_M0_L3 n M a1 a3 a4) (k : X p0 l e (rmd 1 0 0) s m args below meth c A G ad 5 0 0 Q B R0 O [] 28 []), X p0 l e (rmd 1 0 0) s m args below meth c A G ad 5 0 0 Q B M O [(0, .ref (ad 195)), (1, .int a1), (2, .ref (ad 194)), (3, .int a3), (4, .int a4)] 3 [] := by
  induction n generalizing M a1 a3 a4 with
  | zero => intro R0 hR hok k; exact False.elim hok
  | succ n ih =>
    intro R0 hR hok k
    have hR : R0 = (if 124 ≤ a4 then M else (nm (sma M 0 (ix (a3 + a4)) (ma M 1 (ix (a1 + a4)))) (fun (M4 : StM) => (f_X7_copies_M1_M0_L3 n M4 a1 a3 (a4 + 1))))) := hR
    have hok : ((124 ≤ a4 → True) ∧ (¬ 124 ≤ a4 → (vp_in (a1 + a4) 124 ∧ (vp_in (a3 + a4) 124 ∧ (∀ M4 : StM, M4 = (sma M 0 (ix (a3 + a4)) (ma M 1 (ix (a1 + a4)))) → (ok_X7_copies_M1_M0_L3 n M4 a1 a3 (a4 + 1))))))) := hok
    refine x_iload (pc := 3) (i := 4) C 4 dX7_copies_3 rfl ?_
    refine x_bipush (pc := 5) (v := 124) C dX7_copies_5 (by decide) ?_
    refine x_icmp_ge (pc := 7) (tgt := 28) C dX7_copies_7 (by decide) (fun c1 => ?_) (fun c1 => ?_)
    · have hR := hR.trans (if_pos c1)
      refine x_sub [] (ls2 := []) rfl ?_
      subst hR
      exact k
    · have hR := hR.trans (if_neg c1)
      have hok := hok.2 c1
      refine x_aload_n (pc := 10) (i := 2) C 2 dX7_copies_10 rfl rfl ?_
      refine x_iload_n (pc := 11) (i := 3) C 3 dX7_copies_11 rfl rfl ?_
      refine x_iload (pc := 12) (i := 4) C 4 dX7_copies_12 rfl ?_
      refine x_iadd (pc := 14) C dX7_copies_14 ?_
      refine x_aload_n (pc := 15) (i := 0) C 0 dX7_copies_15 rfl rfl ?_
      refine x_iload_n (pc := 16) (i := 1) C 1 dX7_copies_16 rfl rfl ?_
      refine x_iload (pc := 17) (i := 4) C 4 dX7_copies_17 rfl ?_
      refine x_iadd (pc := 19) C dX7_copies_19 ?_
      have h2 := hok.1
      have hok := hok.2
      refine x_iald (pc := 20) (q := 195) C e_M1 h2 dX7_copies_20 ?_
      have h3 := hok.1
      have hok := hok.2
      refine x_iastM (pc := 21) (j := 0) (q := 194) C rfl (by decide) e_M0 e_M0.2 h3 dX7_copies_21 ?_
      refine x_nmM (fun M4 eM4 => ?_)
      have hR := nmE hR eM4
      have hok := hok M4 eM4
      refine x_iinc (pc := 22) (i := 4) (v := (a4 + 1)) (ls2 := [(4, .int (a4 + 1)), (0, .ref (ad 195)), (1, .int a1), (2, .ref (ad 194)), (3, .int a3)]) C 4 dX7_copies_22 rfl rfl (by decide) rfl ?_
      refine x_goto (pc := 25) (tgt := 3) C dX7_copies_25 (by decide) ?_
      refine x_sub [1, 2, 3, 4, 0] (ls2 := [(0, .ref (ad 195)), (1, .int a1), (2, .ref (ad 194)), (3, .int a3), (4, .int (a4 + 1))]) rfl ?_
      exact ih M4 a1 a3 (a4 + 1) R0 hR hok k
set_option maxHeartbeats 4000000 in
set_option maxRecDepth 100000 in
theorem c_X7_copies_M1_M0 {l : Launch} {A : Nat → Prop} {G : GT} {ad : Nat → Nat} (gl : Gl l A ad)  (B : StB) (M : StM) (O : StO) (x1 : Int32) (x3 : Int32) (hok : ok_X7_copies_M1_M0 M x1 x3) : Met l yX7_copies (wof yX7_copies cX7_copies 5 none) (rmd 1 0 0) (va_Pc [.ref (ad 195), .int x1, .ref (ad 194), .int x3] (PW G A ad B M O)) (QV G A ad B (f_X7_copies_M1_M0 M x1 x3) O) 0 0 A := by
  refine x_body (own := RX7) (by decide +kernel) rfl gl (Nat.le_of_ble_eq_true rfl) (ls := [(0, .ref (ad 195)), (1, .int x1), (2, .ref (ad 194)), (3, .int x3)]) rfl ?_
  intro p0 e s m args below meth c C
  have hR : (f_X7_copies_M1_M0 M x1 x3) = (nm (f_X7_copies_M1_M0_L3 fu M x1 x3 0) (fun (z5 : StM) => z5)) := rfl
  have hok : (ok_X7_copies_M1_M0_L3 fu M x1 x3 0) := hok
  refine x_iconst (pc := 0) (v := 0) C dX7_copies_0 (by decide) ?_
  refine x_istore (pc := 1) (i := 4) (ls2 := [(4, .int 0), (0, .ref (ad 195)), (1, .int x1), (2, .ref (ad 194)), (3, .int x3)]) C dX7_copies_1 (by decide) rfl ?_
  refine x_sub [1, 2, 3, 4, 0] (ls2 := [(0, .ref (ad 195)), (1, .int x1), (2, .ref (ad 194)), (3, .int x3), (4, .int 0)]) rfl ?_
  obtain ⟨z5, ez5⟩ : ∃ z : StM, z = f_X7_copies_M1_M0_L3 fu M x1 x3 0 := ⟨_, rfl⟩
  refine t_X7_copies_M1_M0_L3 C fu M x1 x3 0 B O z5 ez5 hok ?_
  have hR := nmE hR ez5
  exact x_vretM (pc := 28) C rfl hR dX7_copies_28
set_option maxHeartbeats 4000000 in
set_option maxRecDepth 100000 in
theorem t_X7_copies_M4_M0_L3 {p0 : Program} {l : Launch} {e : Env} {s : State} {m : MethodId} {args : Array Value} {below : List Frame} {meth : Method} {c : Code} {A : Nat → Prop} {G : GT} {ad : Nat → Nat} {Q : State → Prop} (C : CX p0 l s m args meth c A G ad cX7_copies RX7 5 none)    (n : Nat) (M : StM) (a1 : Int32) (a3 : Int32) (a4 : Int32) (B : StB) (O : StO) : ∀ (R0 : StM) (hR : R0 = f_X7_copies_M4_M0_L3 n M a1 a3 a4) (hok : ok_X7_copies_M4_M0_L3 n M a1 a3 a4) (k : X p0 l e (rmd 1 0 0) s m args below meth c A G ad 5 0 0 Q B R0 O [] 28 []), X p0 l e (rmd 1 0 0) s m args below meth c A G ad 5 0 0 Q B M O [(0, .ref (ad 198)), (1, .int a1), (2, .ref (ad 194)), (3, .int a3), (4, .int a4)] 3 [] := by
  induction n generalizing M a1 a3 a4 with
  | zero => intro R0 hR hok k; exact False.elim hok
  | succ n ih =>
    intro R0 hR hok k
    have hR : R0 = (if 124 ≤ a4 then M else (nm (sma M 0 (ix (a3 + a4)) (ma M 4 (ix (a1 + a4)))) (fun (M4 : StM) => (f_X7_copies_M4_M0_L3 n M4 a1 a3 (a4 + 1))))) := hR
    have hok : ((124 ≤ a4 → True) ∧ (¬ 124 ≤ a4 → (vp_in (a1 + a4) 992 ∧ (vp_in (a3 + a4) 124 ∧ (∀ M4 : StM, M4 = (sma M 0 (ix (a3 + a4)) (ma M 4 (ix (a1 + a4)))) → (ok_X7_copies_M4_M0_L3 n M4 a1 a3 (a4 + 1))))))) := hok
    refine x_iload (pc := 3) (i := 4) C 4 dX7_copies_3 rfl ?_
    refine x_bipush (pc := 5) (v := 124) C dX7_copies_5 (by decide) ?_
    refine x_icmp_ge (pc := 7) (tgt := 28) C dX7_copies_7 (by decide) (fun c1 => ?_) (fun c1 => ?_)
    · have hR := hR.trans (if_pos c1)
      refine x_sub [] (ls2 := []) rfl ?_
      subst hR
      exact k
    · have hR := hR.trans (if_neg c1)
      have hok := hok.2 c1
      refine x_aload_n (pc := 10) (i := 2) C 2 dX7_copies_10 rfl rfl ?_
      refine x_iload_n (pc := 11) (i := 3) C 3 dX7_copies_11 rfl rfl ?_
      refine x_iload (pc := 12) (i := 4) C 4 dX7_copies_12 rfl ?_
      refine x_iadd (pc := 14) C dX7_copies_14 ?_
      refine x_aload_n (pc := 15) (i := 0) C 0 dX7_copies_15 rfl rfl ?_
      refine x_iload_n (pc := 16) (i := 1) C 1 dX7_copies_16 rfl rfl ?_
      refine x_iload (pc := 17) (i := 4) C 4 dX7_copies_17 rfl ?_
      refine x_iadd (pc := 19) C dX7_copies_19 ?_
      have h2 := hok.1
      have hok := hok.2
      refine x_iald (pc := 20) (q := 198) C e_M4 h2 dX7_copies_20 ?_
      have h3 := hok.1
      have hok := hok.2
      refine x_iastM (pc := 21) (j := 0) (q := 194) C rfl (by decide) e_M0 e_M0.2 h3 dX7_copies_21 ?_
      refine x_nmM (fun M4 eM4 => ?_)
      have hR := nmE hR eM4
      have hok := hok M4 eM4
      refine x_iinc (pc := 22) (i := 4) (v := (a4 + 1)) (ls2 := [(4, .int (a4 + 1)), (0, .ref (ad 198)), (1, .int a1), (2, .ref (ad 194)), (3, .int a3)]) C 4 dX7_copies_22 rfl rfl (by decide) rfl ?_
      refine x_goto (pc := 25) (tgt := 3) C dX7_copies_25 (by decide) ?_
      refine x_sub [1, 2, 3, 4, 0] (ls2 := [(0, .ref (ad 198)), (1, .int a1), (2, .ref (ad 194)), (3, .int a3), (4, .int (a4 + 1))]) rfl ?_
      exact ih M4 a1 a3 (a4 + 1) R0 hR hok k
set_option maxHeartbeats 4000000 in
set_option maxRecDepth 100000 in
theorem c_X7_copies_M4_M0 {l : Launch} {A : Nat → Prop} {G : GT} {ad : Nat → Nat} (gl : Gl l A ad)  (B : StB) (M : StM) (O : StO) (x1 : Int32) (x3 : Int32) (hok : ok_X7_copies_M4_M0 M x1 x3) : Met l yX7_copies (wof yX7_copies cX7_copies 5 none) (rmd 1 0 0) (va_Pc [.ref (ad 198), .int x1, .ref (ad 194), .int x3] (PW G A ad B M O)) (QV G A ad B (f_X7_copies_M4_M0 M x1 x3) O) 0 0 A := by
  refine x_body (own := RX7) (by decide +kernel) rfl gl (Nat.le_of_ble_eq_true rfl) (ls := [(0, .ref (ad 198)), (1, .int x1), (2, .ref (ad 194)), (3, .int x3)]) rfl ?_
  intro p0 e s m args below meth c C
  have hR : (f_X7_copies_M4_M0 M x1 x3) = (nm (f_X7_copies_M4_M0_L3 fu M x1 x3 0) (fun (z5 : StM) => z5)) := rfl
  have hok : (ok_X7_copies_M4_M0_L3 fu M x1 x3 0) := hok
  refine x_iconst (pc := 0) (v := 0) C dX7_copies_0 (by decide) ?_
  refine x_istore (pc := 1) (i := 4) (ls2 := [(4, .int 0), (0, .ref (ad 198)), (1, .int x1), (2, .ref (ad 194)), (3, .int x3)]) C dX7_copies_1 (by decide) rfl ?_
  refine x_sub [1, 2, 3, 4, 0] (ls2 := [(0, .ref (ad 198)), (1, .int x1), (2, .ref (ad 194)), (3, .int x3), (4, .int 0)]) rfl ?_
  obtain ⟨z5, ez5⟩ : ∃ z : StM, z = f_X7_copies_M4_M0_L3 fu M x1 x3 0 := ⟨_, rfl⟩
  refine t_X7_copies_M4_M0_L3 C fu M x1 x3 0 B O z5 ez5 hok ?_
  have hR := nmE hR ez5
  exact x_vretM (pc := 28) C rfl hR dX7_copies_28
set_option maxHeartbeats 4000000 in
set_option maxRecDepth 100000 in
theorem t_X7_copies_M0_M3_L3 {p0 : Program} {l : Launch} {e : Env} {s : State} {m : MethodId} {args : Array Value} {below : List Frame} {meth : Method} {c : Code} {A : Nat → Prop} {G : GT} {ad : Nat → Nat} {Q : State → Prop} (C : CX p0 l s m args meth c A G ad cX7_copies RX7 5 none)    (n : Nat) (M : StM) (a1 : Int32) (a3 : Int32) (a4 : Int32) (B : StB) (O : StO) : ∀ (R0 : StM) (hR : R0 = f_X7_copies_M0_M3_L3 n M a1 a3 a4) (hok : ok_X7_copies_M0_M3_L3 n M a1 a3 a4) (k : X p0 l e (rmd 1 0 0) s m args below meth c A G ad 5 0 0 Q B R0 O [] 28 []), X p0 l e (rmd 1 0 0) s m args below meth c A G ad 5 0 0 Q B M O [(0, .ref (ad 194)), (1, .int a1), (2, .ref (ad 197)), (3, .int a3), (4, .int a4)] 3 [] := by
  induction n generalizing M a1 a3 a4 with
  | zero => intro R0 hR hok k; exact False.elim hok
  | succ n ih =>
    intro R0 hR hok k
    have hR : R0 = (if 124 ≤ a4 then M else (nm (sma M 3 (ix (a3 + a4)) (ma M 0 (ix (a1 + a4)))) (fun (M4 : StM) => (f_X7_copies_M0_M3_L3 n M4 a1 a3 (a4 + 1))))) := hR
    have hok : ((124 ≤ a4 → True) ∧ (¬ 124 ≤ a4 → (vp_in (a1 + a4) 124 ∧ (vp_in (a3 + a4) 124 ∧ (∀ M4 : StM, M4 = (sma M 3 (ix (a3 + a4)) (ma M 0 (ix (a1 + a4)))) → (ok_X7_copies_M0_M3_L3 n M4 a1 a3 (a4 + 1))))))) := hok
    refine x_iload (pc := 3) (i := 4) C 4 dX7_copies_3 rfl ?_
    refine x_bipush (pc := 5) (v := 124) C dX7_copies_5 (by decide) ?_
    refine x_icmp_ge (pc := 7) (tgt := 28) C dX7_copies_7 (by decide) (fun c1 => ?_) (fun c1 => ?_)
    · have hR := hR.trans (if_pos c1)
      refine x_sub [] (ls2 := []) rfl ?_
      subst hR
      exact k
    · have hR := hR.trans (if_neg c1)
      have hok := hok.2 c1
      refine x_aload_n (pc := 10) (i := 2) C 2 dX7_copies_10 rfl rfl ?_
      refine x_iload_n (pc := 11) (i := 3) C 3 dX7_copies_11 rfl rfl ?_
      refine x_iload (pc := 12) (i := 4) C 4 dX7_copies_12 rfl ?_
      refine x_iadd (pc := 14) C dX7_copies_14 ?_
      refine x_aload_n (pc := 15) (i := 0) C 0 dX7_copies_15 rfl rfl ?_
      refine x_iload_n (pc := 16) (i := 1) C 1 dX7_copies_16 rfl rfl ?_
      refine x_iload (pc := 17) (i := 4) C 4 dX7_copies_17 rfl ?_
      refine x_iadd (pc := 19) C dX7_copies_19 ?_
      have h2 := hok.1
      have hok := hok.2
      refine x_iald (pc := 20) (q := 194) C e_M0 h2 dX7_copies_20 ?_
      have h3 := hok.1
      have hok := hok.2
      refine x_iastM (pc := 21) (j := 3) (q := 197) C rfl (by decide) e_M3 e_M3.2 h3 dX7_copies_21 ?_
      refine x_nmM (fun M4 eM4 => ?_)
      have hR := nmE hR eM4
      have hok := hok M4 eM4
      refine x_iinc (pc := 22) (i := 4) (v := (a4 + 1)) (ls2 := [(4, .int (a4 + 1)), (0, .ref (ad 194)), (1, .int a1), (2, .ref (ad 197)), (3, .int a3)]) C 4 dX7_copies_22 rfl rfl (by decide) rfl ?_
      refine x_goto (pc := 25) (tgt := 3) C dX7_copies_25 (by decide) ?_
      refine x_sub [1, 2, 3, 4, 0] (ls2 := [(0, .ref (ad 194)), (1, .int a1), (2, .ref (ad 197)), (3, .int a3), (4, .int (a4 + 1))]) rfl ?_
      exact ih M4 a1 a3 (a4 + 1) R0 hR hok k
set_option maxHeartbeats 4000000 in
set_option maxRecDepth 100000 in
theorem c_X7_copies_M0_M3 {l : Launch} {A : Nat → Prop} {G : GT} {ad : Nat → Nat} (gl : Gl l A ad)  (B : StB) (M : StM) (O : StO) (x1 : Int32) (x3 : Int32) (hok : ok_X7_copies_M0_M3 M x1 x3) : Met l yX7_copies (wof yX7_copies cX7_copies 5 none) (rmd 1 0 0) (va_Pc [.ref (ad 194), .int x1, .ref (ad 197), .int x3] (PW G A ad B M O)) (QV G A ad B (f_X7_copies_M0_M3 M x1 x3) O) 0 0 A := by
  refine x_body (own := RX7) (by decide +kernel) rfl gl (Nat.le_of_ble_eq_true rfl) (ls := [(0, .ref (ad 194)), (1, .int x1), (2, .ref (ad 197)), (3, .int x3)]) rfl ?_
  intro p0 e s m args below meth c C
  have hR : (f_X7_copies_M0_M3 M x1 x3) = (nm (f_X7_copies_M0_M3_L3 fu M x1 x3 0) (fun (z5 : StM) => z5)) := rfl
  have hok : (ok_X7_copies_M0_M3_L3 fu M x1 x3 0) := hok
  refine x_iconst (pc := 0) (v := 0) C dX7_copies_0 (by decide) ?_
  refine x_istore (pc := 1) (i := 4) (ls2 := [(4, .int 0), (0, .ref (ad 194)), (1, .int x1), (2, .ref (ad 197)), (3, .int x3)]) C dX7_copies_1 (by decide) rfl ?_
  refine x_sub [1, 2, 3, 4, 0] (ls2 := [(0, .ref (ad 194)), (1, .int x1), (2, .ref (ad 197)), (3, .int x3), (4, .int 0)]) rfl ?_
  obtain ⟨z5, ez5⟩ : ∃ z : StM, z = f_X7_copies_M0_M3_L3 fu M x1 x3 0 := ⟨_, rfl⟩
  refine t_X7_copies_M0_M3_L3 C fu M x1 x3 0 B O z5 ez5 hok ?_
  have hR := nmE hR ez5
  exact x_vretM (pc := 28) C rfl hR dX7_copies_28
set_option maxHeartbeats 4000000 in
set_option maxRecDepth 100000 in
theorem t_X7_copies_M3_M0_L3 {p0 : Program} {l : Launch} {e : Env} {s : State} {m : MethodId} {args : Array Value} {below : List Frame} {meth : Method} {c : Code} {A : Nat → Prop} {G : GT} {ad : Nat → Nat} {Q : State → Prop} (C : CX p0 l s m args meth c A G ad cX7_copies RX7 5 none)    (n : Nat) (M : StM) (a1 : Int32) (a3 : Int32) (a4 : Int32) (B : StB) (O : StO) : ∀ (R0 : StM) (hR : R0 = f_X7_copies_M3_M0_L3 n M a1 a3 a4) (hok : ok_X7_copies_M3_M0_L3 n M a1 a3 a4) (k : X p0 l e (rmd 1 0 0) s m args below meth c A G ad 5 0 0 Q B R0 O [] 28 []), X p0 l e (rmd 1 0 0) s m args below meth c A G ad 5 0 0 Q B M O [(0, .ref (ad 197)), (1, .int a1), (2, .ref (ad 194)), (3, .int a3), (4, .int a4)] 3 [] := by
  induction n generalizing M a1 a3 a4 with
  | zero => intro R0 hR hok k; exact False.elim hok
  | succ n ih =>
    intro R0 hR hok k
    have hR : R0 = (if 124 ≤ a4 then M else (nm (sma M 0 (ix (a3 + a4)) (ma M 3 (ix (a1 + a4)))) (fun (M4 : StM) => (f_X7_copies_M3_M0_L3 n M4 a1 a3 (a4 + 1))))) := hR
    have hok : ((124 ≤ a4 → True) ∧ (¬ 124 ≤ a4 → (vp_in (a1 + a4) 124 ∧ (vp_in (a3 + a4) 124 ∧ (∀ M4 : StM, M4 = (sma M 0 (ix (a3 + a4)) (ma M 3 (ix (a1 + a4)))) → (ok_X7_copies_M3_M0_L3 n M4 a1 a3 (a4 + 1))))))) := hok
    refine x_iload (pc := 3) (i := 4) C 4 dX7_copies_3 rfl ?_
    refine x_bipush (pc := 5) (v := 124) C dX7_copies_5 (by decide) ?_
    refine x_icmp_ge (pc := 7) (tgt := 28) C dX7_copies_7 (by decide) (fun c1 => ?_) (fun c1 => ?_)
    · have hR := hR.trans (if_pos c1)
      refine x_sub [] (ls2 := []) rfl ?_
      subst hR
      exact k
    · have hR := hR.trans (if_neg c1)
      have hok := hok.2 c1
      refine x_aload_n (pc := 10) (i := 2) C 2 dX7_copies_10 rfl rfl ?_
      refine x_iload_n (pc := 11) (i := 3) C 3 dX7_copies_11 rfl rfl ?_
      refine x_iload (pc := 12) (i := 4) C 4 dX7_copies_12 rfl ?_
      refine x_iadd (pc := 14) C dX7_copies_14 ?_
      refine x_aload_n (pc := 15) (i := 0) C 0 dX7_copies_15 rfl rfl ?_
      refine x_iload_n (pc := 16) (i := 1) C 1 dX7_copies_16 rfl rfl ?_
      refine x_iload (pc := 17) (i := 4) C 4 dX7_copies_17 rfl ?_
      refine x_iadd (pc := 19) C dX7_copies_19 ?_
      have h2 := hok.1
      have hok := hok.2
      refine x_iald (pc := 20) (q := 197) C e_M3 h2 dX7_copies_20 ?_
      have h3 := hok.1
      have hok := hok.2
      refine x_iastM (pc := 21) (j := 0) (q := 194) C rfl (by decide) e_M0 e_M0.2 h3 dX7_copies_21 ?_
      refine x_nmM (fun M4 eM4 => ?_)
      have hR := nmE hR eM4
      have hok := hok M4 eM4
      refine x_iinc (pc := 22) (i := 4) (v := (a4 + 1)) (ls2 := [(4, .int (a4 + 1)), (0, .ref (ad 197)), (1, .int a1), (2, .ref (ad 194)), (3, .int a3)]) C 4 dX7_copies_22 rfl rfl (by decide) rfl ?_
      refine x_goto (pc := 25) (tgt := 3) C dX7_copies_25 (by decide) ?_
      refine x_sub [1, 2, 3, 4, 0] (ls2 := [(0, .ref (ad 197)), (1, .int a1), (2, .ref (ad 194)), (3, .int a3), (4, .int (a4 + 1))]) rfl ?_
      exact ih M4 a1 a3 (a4 + 1) R0 hR hok k
set_option maxHeartbeats 4000000 in
set_option maxRecDepth 100000 in
theorem c_X7_copies_M3_M0 {l : Launch} {A : Nat → Prop} {G : GT} {ad : Nat → Nat} (gl : Gl l A ad)  (B : StB) (M : StM) (O : StO) (x1 : Int32) (x3 : Int32) (hok : ok_X7_copies_M3_M0 M x1 x3) : Met l yX7_copies (wof yX7_copies cX7_copies 5 none) (rmd 1 0 0) (va_Pc [.ref (ad 197), .int x1, .ref (ad 194), .int x3] (PW G A ad B M O)) (QV G A ad B (f_X7_copies_M3_M0 M x1 x3) O) 0 0 A := by
  refine x_body (own := RX7) (by decide +kernel) rfl gl (Nat.le_of_ble_eq_true rfl) (ls := [(0, .ref (ad 197)), (1, .int x1), (2, .ref (ad 194)), (3, .int x3)]) rfl ?_
  intro p0 e s m args below meth c C
  have hR : (f_X7_copies_M3_M0 M x1 x3) = (nm (f_X7_copies_M3_M0_L3 fu M x1 x3 0) (fun (z5 : StM) => z5)) := rfl
  have hok : (ok_X7_copies_M3_M0_L3 fu M x1 x3 0) := hok
  refine x_iconst (pc := 0) (v := 0) C dX7_copies_0 (by decide) ?_
  refine x_istore (pc := 1) (i := 4) (ls2 := [(4, .int 0), (0, .ref (ad 197)), (1, .int x1), (2, .ref (ad 194)), (3, .int x3)]) C dX7_copies_1 (by decide) rfl ?_
  refine x_sub [1, 2, 3, 4, 0] (ls2 := [(0, .ref (ad 197)), (1, .int x1), (2, .ref (ad 194)), (3, .int x3), (4, .int 0)]) rfl ?_
  obtain ⟨z5, ez5⟩ : ∃ z : StM, z = f_X7_copies_M3_M0_L3 fu M x1 x3 0 := ⟨_, rfl⟩
  refine t_X7_copies_M3_M0_L3 C fu M x1 x3 0 B O z5 ez5 hok ?_
  have hR := nmE hR ez5
  exact x_vretM (pc := 28) C rfl hR dX7_copies_28
set_option maxHeartbeats 4000000 in
set_option maxRecDepth 100000 in
theorem t_X7_copies_M0_M2_L3 {p0 : Program} {l : Launch} {e : Env} {s : State} {m : MethodId} {args : Array Value} {below : List Frame} {meth : Method} {c : Code} {A : Nat → Prop} {G : GT} {ad : Nat → Nat} {Q : State → Prop} (C : CX p0 l s m args meth c A G ad cX7_copies RX7 5 none)    (n : Nat) (M : StM) (a1 : Int32) (a3 : Int32) (a4 : Int32) (B : StB) (O : StO) : ∀ (R0 : StM) (hR : R0 = f_X7_copies_M0_M2_L3 n M a1 a3 a4) (hok : ok_X7_copies_M0_M2_L3 n M a1 a3 a4) (k : X p0 l e (rmd 1 0 0) s m args below meth c A G ad 5 0 0 Q B R0 O [] 28 []), X p0 l e (rmd 1 0 0) s m args below meth c A G ad 5 0 0 Q B M O [(0, .ref (ad 194)), (1, .int a1), (2, .ref (ad 196)), (3, .int a3), (4, .int a4)] 3 [] := by
  induction n generalizing M a1 a3 a4 with
  | zero => intro R0 hR hok k; exact False.elim hok
  | succ n ih =>
    intro R0 hR hok k
    have hR : R0 = (if 124 ≤ a4 then M else (nm (sma M 2 (ix (a3 + a4)) (ma M 0 (ix (a1 + a4)))) (fun (M4 : StM) => (f_X7_copies_M0_M2_L3 n M4 a1 a3 (a4 + 1))))) := hR
    have hok : ((124 ≤ a4 → True) ∧ (¬ 124 ≤ a4 → (vp_in (a1 + a4) 124 ∧ (vp_in (a3 + a4) 124 ∧ (∀ M4 : StM, M4 = (sma M 2 (ix (a3 + a4)) (ma M 0 (ix (a1 + a4)))) → (ok_X7_copies_M0_M2_L3 n M4 a1 a3 (a4 + 1))))))) := hok
    refine x_iload (pc := 3) (i := 4) C 4 dX7_copies_3 rfl ?_
    refine x_bipush (pc := 5) (v := 124) C dX7_copies_5 (by decide) ?_
    refine x_icmp_ge (pc := 7) (tgt := 28) C dX7_copies_7 (by decide) (fun c1 => ?_) (fun c1 => ?_)
    · have hR := hR.trans (if_pos c1)
      refine x_sub [] (ls2 := []) rfl ?_
      subst hR
      exact k
    · have hR := hR.trans (if_neg c1)
      have hok := hok.2 c1
      refine x_aload_n (pc := 10) (i := 2) C 2 dX7_copies_10 rfl rfl ?_
      refine x_iload_n (pc := 11) (i := 3) C 3 dX7_copies_11 rfl rfl ?_
      refine x_iload (pc := 12) (i := 4) C 4 dX7_copies_12 rfl ?_
      refine x_iadd (pc := 14) C dX7_copies_14 ?_
      refine x_aload_n (pc := 15) (i := 0) C 0 dX7_copies_15 rfl rfl ?_
      refine x_iload_n (pc := 16) (i := 1) C 1 dX7_copies_16 rfl rfl ?_
      refine x_iload (pc := 17) (i := 4) C 4 dX7_copies_17 rfl ?_
      refine x_iadd (pc := 19) C dX7_copies_19 ?_
      have h2 := hok.1
      have hok := hok.2
      refine x_iald (pc := 20) (q := 194) C e_M0 h2 dX7_copies_20 ?_
      have h3 := hok.1
      have hok := hok.2
      refine x_iastM (pc := 21) (j := 2) (q := 196) C rfl (by decide) e_M2 e_M2.2 h3 dX7_copies_21 ?_
      refine x_nmM (fun M4 eM4 => ?_)
      have hR := nmE hR eM4
      have hok := hok M4 eM4
      refine x_iinc (pc := 22) (i := 4) (v := (a4 + 1)) (ls2 := [(4, .int (a4 + 1)), (0, .ref (ad 194)), (1, .int a1), (2, .ref (ad 196)), (3, .int a3)]) C 4 dX7_copies_22 rfl rfl (by decide) rfl ?_
      refine x_goto (pc := 25) (tgt := 3) C dX7_copies_25 (by decide) ?_
      refine x_sub [1, 2, 3, 4, 0] (ls2 := [(0, .ref (ad 194)), (1, .int a1), (2, .ref (ad 196)), (3, .int a3), (4, .int (a4 + 1))]) rfl ?_
      exact ih M4 a1 a3 (a4 + 1) R0 hR hok k
set_option maxHeartbeats 4000000 in
set_option maxRecDepth 100000 in
theorem c_X7_copies_M0_M2 {l : Launch} {A : Nat → Prop} {G : GT} {ad : Nat → Nat} (gl : Gl l A ad)  (B : StB) (M : StM) (O : StO) (x1 : Int32) (x3 : Int32) (hok : ok_X7_copies_M0_M2 M x1 x3) : Met l yX7_copies (wof yX7_copies cX7_copies 5 none) (rmd 1 0 0) (va_Pc [.ref (ad 194), .int x1, .ref (ad 196), .int x3] (PW G A ad B M O)) (QV G A ad B (f_X7_copies_M0_M2 M x1 x3) O) 0 0 A := by
  refine x_body (own := RX7) (by decide +kernel) rfl gl (Nat.le_of_ble_eq_true rfl) (ls := [(0, .ref (ad 194)), (1, .int x1), (2, .ref (ad 196)), (3, .int x3)]) rfl ?_
  intro p0 e s m args below meth c C
  have hR : (f_X7_copies_M0_M2 M x1 x3) = (nm (f_X7_copies_M0_M2_L3 fu M x1 x3 0) (fun (z5 : StM) => z5)) := rfl
  have hok : (ok_X7_copies_M0_M2_L3 fu M x1 x3 0) := hok
  refine x_iconst (pc := 0) (v := 0) C dX7_copies_0 (by decide) ?_
  refine x_istore (pc := 1) (i := 4) (ls2 := [(4, .int 0), (0, .ref (ad 194)), (1, .int x1), (2, .ref (ad 196)), (3, .int x3)]) C dX7_copies_1 (by decide) rfl ?_
  refine x_sub [1, 2, 3, 4, 0] (ls2 := [(0, .ref (ad 194)), (1, .int x1), (2, .ref (ad 196)), (3, .int x3), (4, .int 0)]) rfl ?_
  obtain ⟨z5, ez5⟩ : ∃ z : StM, z = f_X7_copies_M0_M2_L3 fu M x1 x3 0 := ⟨_, rfl⟩
  refine t_X7_copies_M0_M2_L3 C fu M x1 x3 0 B O z5 ez5 hok ?_
  have hR := nmE hR ez5
  exact x_vretM (pc := 28) C rfl hR dX7_copies_28
set_option maxHeartbeats 4000000 in
set_option maxRecDepth 100000 in
theorem t_X7_copies_M2_M0_L3 {p0 : Program} {l : Launch} {e : Env} {s : State} {m : MethodId} {args : Array Value} {below : List Frame} {meth : Method} {c : Code} {A : Nat → Prop} {G : GT} {ad : Nat → Nat} {Q : State → Prop} (C : CX p0 l s m args meth c A G ad cX7_copies RX7 5 none)    (n : Nat) (M : StM) (a1 : Int32) (a3 : Int32) (a4 : Int32) (B : StB) (O : StO) : ∀ (R0 : StM) (hR : R0 = f_X7_copies_M2_M0_L3 n M a1 a3 a4) (hok : ok_X7_copies_M2_M0_L3 n M a1 a3 a4) (k : X p0 l e (rmd 1 0 0) s m args below meth c A G ad 5 0 0 Q B R0 O [] 28 []), X p0 l e (rmd 1 0 0) s m args below meth c A G ad 5 0 0 Q B M O [(0, .ref (ad 196)), (1, .int a1), (2, .ref (ad 194)), (3, .int a3), (4, .int a4)] 3 [] := by
  induction n generalizing M a1 a3 a4 with
  | zero => intro R0 hR hok k; exact False.elim hok
  | succ n ih =>
    intro R0 hR hok k
    have hR : R0 = (if 124 ≤ a4 then M else (nm (sma M 0 (ix (a3 + a4)) (ma M 2 (ix (a1 + a4)))) (fun (M4 : StM) => (f_X7_copies_M2_M0_L3 n M4 a1 a3 (a4 + 1))))) := hR
    have hok : ((124 ≤ a4 → True) ∧ (¬ 124 ≤ a4 → (vp_in (a1 + a4) 124 ∧ (vp_in (a3 + a4) 124 ∧ (∀ M4 : StM, M4 = (sma M 0 (ix (a3 + a4)) (ma M 2 (ix (a1 + a4)))) → (ok_X7_copies_M2_M0_L3 n M4 a1 a3 (a4 + 1))))))) := hok
    refine x_iload (pc := 3) (i := 4) C 4 dX7_copies_3 rfl ?_
    refine x_bipush (pc := 5) (v := 124) C dX7_copies_5 (by decide) ?_
    refine x_icmp_ge (pc := 7) (tgt := 28) C dX7_copies_7 (by decide) (fun c1 => ?_) (fun c1 => ?_)
    · have hR := hR.trans (if_pos c1)
      refine x_sub [] (ls2 := []) rfl ?_
      subst hR
      exact k
    · have hR := hR.trans (if_neg c1)
      have hok := hok.2 c1
      refine x_aload_n (pc := 10) (i := 2) C 2 dX7_copies_10 rfl rfl ?_
      refine x_iload_n (pc := 11) (i := 3) C 3 dX7_copies_11 rfl rfl ?_
      refine x_iload (pc := 12) (i := 4) C 4 dX7_copies_12 rfl ?_
      refine x_iadd (pc := 14) C dX7_copies_14 ?_
      refine x_aload_n (pc := 15) (i := 0) C 0 dX7_copies_15 rfl rfl ?_
      refine x_iload_n (pc := 16) (i := 1) C 1 dX7_copies_16 rfl rfl ?_
      refine x_iload (pc := 17) (i := 4) C 4 dX7_copies_17 rfl ?_
      refine x_iadd (pc := 19) C dX7_copies_19 ?_
      have h2 := hok.1
      have hok := hok.2
      refine x_iald (pc := 20) (q := 196) C e_M2 h2 dX7_copies_20 ?_
      have h3 := hok.1
      have hok := hok.2
      refine x_iastM (pc := 21) (j := 0) (q := 194) C rfl (by decide) e_M0 e_M0.2 h3 dX7_copies_21 ?_
      refine x_nmM (fun M4 eM4 => ?_)
      have hR := nmE hR eM4
      have hok := hok M4 eM4
      refine x_iinc (pc := 22) (i := 4) (v := (a4 + 1)) (ls2 := [(4, .int (a4 + 1)), (0, .ref (ad 196)), (1, .int a1), (2, .ref (ad 194)), (3, .int a3)]) C 4 dX7_copies_22 rfl rfl (by decide) rfl ?_
      refine x_goto (pc := 25) (tgt := 3) C dX7_copies_25 (by decide) ?_
      refine x_sub [1, 2, 3, 4, 0] (ls2 := [(0, .ref (ad 196)), (1, .int a1), (2, .ref (ad 194)), (3, .int a3), (4, .int (a4 + 1))]) rfl ?_
      exact ih M4 a1 a3 (a4 + 1) R0 hR hok k
set_option maxHeartbeats 4000000 in
set_option maxRecDepth 100000 in
theorem c_X7_copies_M2_M0 {l : Launch} {A : Nat → Prop} {G : GT} {ad : Nat → Nat} (gl : Gl l A ad)  (B : StB) (M : StM) (O : StO) (x1 : Int32) (x3 : Int32) (hok : ok_X7_copies_M2_M0 M x1 x3) : Met l yX7_copies (wof yX7_copies cX7_copies 5 none) (rmd 1 0 0) (va_Pc [.ref (ad 196), .int x1, .ref (ad 194), .int x3] (PW G A ad B M O)) (QV G A ad B (f_X7_copies_M2_M0 M x1 x3) O) 0 0 A := by
  refine x_body (own := RX7) (by decide +kernel) rfl gl (Nat.le_of_ble_eq_true rfl) (ls := [(0, .ref (ad 196)), (1, .int x1), (2, .ref (ad 194)), (3, .int x3)]) rfl ?_
  intro p0 e s m args below meth c C
  have hR : (f_X7_copies_M2_M0 M x1 x3) = (nm (f_X7_copies_M2_M0_L3 fu M x1 x3 0) (fun (z5 : StM) => z5)) := rfl
  have hok : (ok_X7_copies_M2_M0_L3 fu M x1 x3 0) := hok
  refine x_iconst (pc := 0) (v := 0) C dX7_copies_0 (by decide) ?_
  refine x_istore (pc := 1) (i := 4) (ls2 := [(4, .int 0), (0, .ref (ad 196)), (1, .int x1), (2, .ref (ad 194)), (3, .int x3)]) C dX7_copies_1 (by decide) rfl ?_
  refine x_sub [1, 2, 3, 4, 0] (ls2 := [(0, .ref (ad 196)), (1, .int x1), (2, .ref (ad 194)), (3, .int x3), (4, .int 0)]) rfl ?_
  obtain ⟨z5, ez5⟩ : ∃ z : StM, z = f_X7_copies_M2_M0_L3 fu M x1 x3 0 := ⟨_, rfl⟩
  refine t_X7_copies_M2_M0_L3 C fu M x1 x3 0 B O z5 ez5 hok ?_
  have hR := nmE hR ez5
  exact x_vretM (pc := 28) C rfl hR dX7_copies_28
set_option maxHeartbeats 4000000 in
set_option maxRecDepth 100000 in
theorem c_X7_goes {l : Launch} {A : Nat → Prop} {G : GT} {ad : Nat → Nat} (gl : Gl l A ad)  (B : StB) (M : StM) (O : StO) (x0 : Int32) (hok : ok_X7_goes M x0) : Met l yX7_goes (wof yX7_goes cX7_goes 2 (some .boolean)) (rmd 2 0 0) (va_Pc [.ref (ad 193), .int x0] (PW G A ad B M O)) (QI G A ad (f_X7_goes M x0).1 B (f_X7_goes M x0).2 O) 0 0 A := by
  refine x_body (own := RX7) (by decide +kernel) rfl gl (Nat.le_of_ble_eq_true rfl) (ls := [(0, .ref (ad 193)), (1, .int x0)]) rfl ?_
  intro p0 e s m args below meth c C
  have hR : (f_X7_goes M x0) = (nm (f_X7_holds M x0 1 1 1) (fun (z1 : Int32 × StM) => (z1.1, z1.2))) := rfl
  have hok : (∀ z1 : Int32 × StM, z1 = (f_X7_holds M x0 1 1 1) → (narrow .boolean (.int z1.1) = .int z1.1)) := hok
  refine x_aload_n (pc := 0) (i := 0) C 0 dX7_goes_0 rfl rfl ?_
  refine x_iload_n (pc := 1) (i := 1) C 1 dX7_goes_1 rfl rfl ?_
  refine x_iconst (pc := 2) (v := 1) C dX7_goes_2 (by decide) ?_
  refine x_iconst (pc := 3) (v := 1) C dX7_goes_3 (by decide) ?_
  refine x_iconst (pc := 4) (v := 1) C dX7_goes_4 (by decide) ?_
  refine x_cIV (pc := 5) (as := [.int x0, .int 1, .int 1, .int 1]) (q := 193) C (c_X7_holds C.2.2.2.2.2.2.2.1  B M O x0 1 1 1) (fs := _) e_M rfl cv_X7_holds cd_X7_holds wd_7_63 ⟨Nat.le_of_ble_eq_true rfl, Nat.le_of_ble_eq_true rfl⟩ ⟨Nat.le_of_ble_eq_true rfl, Nat.le_of_ble_eq_true rfl⟩ rfl rfl (Nat.le_of_ble_eq_true rfl) dX7_goes_5 ?_
  refine x_nmIM (fun z1 ez1 => ?_)
  have hR := nmE hR ez1
  have hok := hok z1 ez1
  have h2 := hok
  exact x_zretM (pc := 8) C rfl h2 hR dX7_goes_8
set_option maxHeartbeats 4000000 in
set_option maxRecDepth 100000 in
theorem c_X7_save {l : Launch} {A : Nat → Prop} {G : GT} {ad : Nat → Nat} (gl : Gl l A ad)  (B : StB) (M : StM) (O : StO)  (hok : ok_X7_save M) : Met l yX7_save (wof yX7_save cX7_save 1 (some .int)) (rmd 2 0 0) (va_Pc [.ref (ad 193)] (PW G A ad B M O)) (QI G A ad (f_X7_save M).1 B (f_X7_save M).2 O) 0 0 A := by
  refine x_body (own := RX7) (by decide +kernel) rfl gl (Nat.le_of_ble_eq_true rfl) (ls := [(0, .ref (ad 193))]) rfl ?_
  intro p0 e s m args below meth c C
  have hR : (f_X7_save M) = (nm (smi M 15 0) (fun (M1 : StM) => (nm (f_X7_copies_M0_M3 M1 0 0) (fun (M3 : StM) => (nm (smi M3 5 1) (fun (M4 : StM) => ((ma M4 0 (ix 0)), M4))))))) := rfl
  have hok : (∀ M1 : StM, M1 = (smi M 15 0) → ((ok_X7_copies_M0_M3 M1 0 0))) := hok
  refine x_aload_n (pc := 0) (i := 0) C 0 dX7_save_0 rfl rfl ?_
  refine x_iconst (pc := 1) (v := 0) C dX7_save_1 (by decide) ?_
  refine x_put (pc := 2) (M2 := (smi M 15 0)) (B2 := B) (O2 := O) (q := 193) (i := 15) C tyX7 tyX7_ok nmX7 e_M rfl ttX7 (by decide) wd_7_2 rfl rfl rfl (Nat.le_of_ble_eq_true rfl) dX7_save_2 (put_M_15 ) (o_smi 15 0) ?_
  refine x_nmM (fun M1 eM1 => ?_)
  have hR := nmE hR eM1
  have hok := hok M1 eM1
  refine x_aload_n (pc := 5) (i := 0) C 0 dX7_save_5 rfl rfl ?_
  refine x_get (pc := 6) (q := 193) (i := 0) C e_M rfl ttX7 (by decide) wd_6_227 rfl dX7_save_6 ?_
  refine x_iconst (pc := 9) (v := 0) C dX7_save_9 (by decide) ?_
  refine x_aload_n (pc := 10) (i := 0) C 0 dX7_save_10 rfl rfl ?_
  refine x_get (pc := 11) (q := 193) (i := 3) C e_M rfl ttX7 (by decide) wd_6_230 rfl dX7_save_11 ?_
  refine x_iconst (pc := 14) (v := 0) C dX7_save_14 (by decide) ?_
  have h2 := hok
  refine x_cVS (pc := 15) (as := [.ref (ad 194), .int 0, .ref (ad 197), .int 0]) C (c_X7_copies_M0_M3 C.2.2.2.2.2.2.2.1  B M1 O 0 0 h2) wd_7_68 cd_X7_copies wd_7_67 ⟨Nat.le_of_ble_eq_true rfl, Nat.le_of_ble_eq_true rfl⟩ ⟨Nat.le_of_ble_eq_true rfl, Nat.le_of_ble_eq_true rfl⟩ rfl rfl (Nat.le_of_ble_eq_true rfl) dX7_save_15 ?_
  refine x_nmM (fun M3 eM3 => ?_)
  have hR := nmE hR eM3
  refine x_aload_n (pc := 18) (i := 0) C 0 dX7_save_18 rfl rfl ?_
  refine x_iconst (pc := 19) (v := 1) C dX7_save_19 (by decide) ?_
  refine x_put (pc := 20) (M2 := (smi M3 5 1)) (B2 := B) (O2 := O) (q := 193) (i := 5) C tyX7 tyX7_ok nmX7 e_M rfl ttX7 (by decide) wd_6_232 rfl (by decide) (by decide) (Nat.le_of_ble_eq_true rfl) dX7_save_20 (put_M_5 ) (o_smi 5 1) ?_
  refine x_nmM (fun M4 eM4 => ?_)
  have hR := nmE hR eM4
  refine x_aload_n (pc := 23) (i := 0) C 0 dX7_save_23 rfl rfl ?_
  refine x_get (pc := 24) (q := 193) (i := 0) C e_M rfl ttX7 (by decide) wd_6_227 rfl dX7_save_24 ?_
  refine x_iconst (pc := 27) (v := 0) C dX7_save_27 (by decide) ?_
  have h5 : vp_in (0) 124 := (by decide : ¬ ((0 : Int32) < 0 ∨ 124 ≤ Int32.toNatClampNeg 0))
  refine x_iald (pc := 28) (q := 194) C e_M0 h5 dX7_save_28 ?_
  exact x_iretM (pc := 29) C rfl hR dX7_save_29
