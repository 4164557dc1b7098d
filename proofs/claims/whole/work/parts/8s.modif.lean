/-! the pure part: a modification of the class against one of the model -/
theorem CS_e {e n t p : Nat} {B : StB} {R : Nat → Int32} {M : StM} {flt : Int32} {okf : Prop} {op : StB → Int32 × StB} {okop : StB → Prop} {mr : Int32 × StM} {okm : Prop} {codes : List Int32} (h : CS e n t p B R M flt okf op okop mr okm codes) : okf ∧ okm := ⟨h.1, h.2.1⟩
theorem ends_1 {M : StM} {x : Int32} (h : mi M 15 ≠ 0) : f_X7_ends M x = (0, mcp M 1 0 0 0 124) ∧ ok_X7_ends M x := by
  have F := F_copies_M1_M0 M 0 0 (by omega) (by omega)
  refine ⟨?_, fun h9 => absurd h9 h, fun _ => F.2⟩
  unfold f_X7_ends
  rw [if_neg h, nm_eq]
  exact congrArg (fun v => ((0 : Int32), v)) F.1
theorem ends_0 {M : StM} {x : Int32} (h : mi M 15 = 0) : f_X7_ends M x = (x, f_X7_remembers M) ∧ (ok_X7_remembers M → ok_X7_ends M x) := by
  refine ⟨?_, fun ho => ⟨fun _ => ho, fun h9 => absurd h h9⟩⟩
  unfold f_X7_ends
  rw [if_pos h, nm_eq]
theorem Fr_Fg {p : Nat} {B C : StB} (h : Fr p B C) : Fg p (p + 16) B C := h
theorem modif {u : Nat} {B : StB} {M : StM} (hI : Inv u B M) (hu : u < 512) : ∃ e n t, Ti 0 n 0 0 t B 0 (ma M 0) ∧ RB e (60 * e) n t 0 0 (ma M 0) ∧ e < 600 ∧ ∀ (flt : Int32) (okf : Prop) (op : StB → Int32 × StB) (okop : StB → Prop) (mr : Int32 × StM) (okm : Prop) (codes : List Int32), codes.length ≤ 8 → CS e n t 0 B (ma M 0) (f_X7_begins M) flt okf op okop mr okm codes → ok_X7_begins M ∧ okf ∧ okm ∧ ok_X7_ends mr.2 mr.1 ∧ ((∃ j, codes[j]? = some flt ∧ mi (f_X7_ends mr.2 mr.1).2 15 = Int32.ofNat (j + 1) ∧ Inv (u + 1) B (f_X7_ends mr.2 mr.1).2) ∨ (flt = 0 ∧ ok_X1_remember 0 B ∧ okop (f_X1_remember 0 B) ∧ mi (f_X7_ends mr.2 mr.1).2 15 = 0 ∧ (f_X7_ends mr.2 mr.1).1 = (op (f_X1_remember 0 B)).1 ∧ Inv (u + 1) (op (f_X1_remember 0 B)).2 (f_X7_ends mr.2 mr.1).2)) := by
  have hI' := hI
  obtain ⟨e, ty, he, hu2, hL, hS, hH, hE, hR, hT⟩ := hI
  have hL' := hL
  obtain ⟨n, t, lT, lR⟩ := hL
  refine ⟨e, n, t, lT, lR, by omega, ?_⟩
  intro flt okf op okop mr okm codes hlen hcs
  obtain ⟨b1, b2, b3⟩ := beg_M M
  obtain ⟨k1, k2, k3⟩ := hcs
  have r0 : ∀ k, ma (f_X7_begins M) 1 k = if k < 124 then ma M 0 k else ma M 1 k := by
    intro k
    rw [b1, ma_mcp]
    by_cases hk : k < 124
    · rw [if_pos (by omega), if_pos hk]
      exact congrArg (ma M 0) (by omega)
    · rw [if_neg (by omega), if_neg hk]
  have rq : ∀ q k, 2 ≤ q → ma (f_X7_begins M) q k = ma M q k := by
    intro q k hq
    rw [b1, ma_mcp, if_neg (by omega)]
  have rm : ∀ k, mi (f_X7_begins M) k = mi M k := fun k => by rw [b1, mi_mcp]
  refine ⟨b2, k1, k2, ?_⟩
  rcases k3 with ⟨j, j1, j2⟩ | ⟨f0, n', t', R', v, e2, nR, hop⟩
  · have hj : j < 8 := by
      have := (List.getElem?_eq_some_iff.mp j1).1
      omega
    have h15 : mi mr.2 15 = Int32.ofNat (j + 1) := by
      rw [j2, mi_rs, mi_smi, if_pos rfl]
    have hne : mi mr.2 15 ≠ 0 := by
      rw [h15, show (0 : Int32) = Int32.ofNat 0 from rfl]
      intro h
      have := (ofN_inj (by omega) (by omega)).mp h
      omega
    obtain ⟨E1, E2⟩ := ends_1 (x := mr.1) hne
    refine ⟨E2, Or.inl ⟨j, j1, ?_, ?_⟩⟩
    · rw [E1]
      exact h15
    · rw [E1]
      refine Inv_M hI' (by omega) (by omega) (fun k hk => ?_) (fun q k hq => ?_) (fun i h1 h2 => ?_)
      · show ma (mcp mr.2 1 0 0 0 124) 0 k = _
        rw [ma_mcp, if_pos (by omega), j2, ma_rs _ _ (by decide), ma_smi, r0, if_pos (by omega)]
        exact congrArg (ma M 0) (by omega)
      · show ma (mcp mr.2 1 0 0 0 124) q k = _
        rw [ma_mcp, if_neg (by omega), j2, ma_rs _ _ (by omega), ma_smi, rq q k (by omega)]
      · show mi (mcp mr.2 1 0 0 0 124) i = _
        rw [mi_mcp, j2, mi_rs, mi_smi, if_neg h1, rm]
  · obtain ⟨hl, hn, a1, a2, a3, a4, a5, a6⟩ := hH
    obtain ⟨c1, c2, c3, c4, c5, c6, c7, c8⟩ := rem_C hL' a1 a2 a3 a5
    obtain ⟨o1, o2, o3, o4⟩ := hop _ (c3 n t lT)
    have h15 : mi mr.2 15 = 0 := by
      rw [e2, mi_rs, mi_smi, if_neg (by decide), mi_smi, if_pos rfl]
    have mm : ∀ k, k ≠ 15 → k ≠ 10 → mi mr.2 k = mi M k := by
      intro k h1 h2
      rw [e2, mi_rs, mi_smi, if_neg h2, mi_smi, if_neg h1, rm]
    have m0 : ∀ k, ma mr.2 0 k = R' k := fun k => by rw [e2]; rfl
    have m1 : ∀ k, k < 124 → ma mr.2 1 k = ma M 0 k := by
      intro k hk
      rw [e2, ma_rs _ _ (by decide), ma_smi, ma_smi, r0, if_pos hk]
    have mq : ∀ q k, 2 ≤ q → ma mr.2 q k = ma M q k := by
      intro q k hq
      rw [e2, ma_rs _ _ (by omega), ma_smi, ma_smi, rq q k hq]
    obtain ⟨E1, E2⟩ := ends_0 (x := mr.1) h15
    obtain ⟨g1, g2, g3, g4, g5, g6⟩ := remb_M mr.2 hl a1 ((mm 6 (by decide) (by decide)).trans a4)
    rw [E1]
    refine ⟨E2 g1, Or.inr ⟨f0, c1, o1, ?_, o4.symm, e + 1, ty, by omega, by omega, ?_, ?_, ?_, ?_, ?_, ?_⟩⟩
    · show mi (f_X7_remembers mr.2) 15 = 0
      rw [g3 15 (by decide), h15]
    · refine ⟨n', t', Ti_cong o3 (fun k _ => ?_), RB_cong nR (fun k _ => ?_)⟩
      · show ma (f_X7_remembers mr.2) 0 k = R' k
        rw [g4 0 k (by decide), m0]
      · show ma (f_X7_remembers mr.2) 0 k = R' k
        rw [g4 0 k (by decide), m0]
    · have w7 := (o2.2 176 7 (by omega)).1.trans (c7 176 7 (by omega)).1
      exact IvS_k hS (by omega) (by omega) w7 ((g3 5 (by decide)).trans (mm 5 (by decide) (by decide))) (fun k _ => (g4 3 k (by decide)).trans (mq 3 k (by decide))) (fun R h => LR_Fg (c4 32 R (by omega) (by omega) h) (Fr_Fg o2) (by omega))
    · have w0 := (o2.2 177 0 (by omega)).1.trans c5
      have w1 := (o2.2 177 1 (by omega)).1.trans c6
      refine ⟨min (hl + 1) 8, (hn + 1) % 8, by omega, Nat.mod_lt _ (by decide), w0, g2, w1, fun r hr => ?_⟩
      by_cases hr0 : r = 0
      · subst hr0
        have hp : ((hn + 1) % 8 + 8 - 0) % 8 = (hn + 1) % 8 := by omega
        rw [hp]
        refine LR_mono (LR_cong (LR_Fg c2 (Fr_Fg o2) (by omega)) (fun k hk => ?_)) (by omega) (by omega)
        show ma (f_X7_remembers mr.2) 4 (124 * (min (hl + 1) 8 - 1 - 0) + k) = ma M 0 k
        rw [Nat.sub_zero, g5 k hk, m1 k hk]
      · have hp : ((hn + 1) % 8 + 8 - r) % 8 = (hn + 8 - (r - 1)) % 8 := by omega
        have hne : (hn + 8 - (r - 1)) % 8 ≠ (hn + 1) % 8 := by omega
        rw [hp]
        have h0 := a6 (r - 1) (by omega)
        refine LR_mono (LR_cong (LR_Fg (c4 _ _ (by omega) (by omega) h0) (Fr_Fg o2) (by omega)) (fun k hk => ?_)) (by omega) (by omega)
        show ma (f_X7_remembers mr.2) 4 (124 * (min (hl + 1) 8 - 1 - r) + k) = ma M 4 (124 * (hl - 1 - (r - 1)) + k)
        rw [g6 (min (hl + 1) 8 - 1 - r) k (by omega) hk, mq 4 _ (by decide)]
        refine congrArg (fun x => ma M 4 (124 * x + k)) ?_
        split <;> omega
    · exact IvE_k hE ((o2.2 176 8 (by omega)).1.trans (c7 176 8 (by omega)).1) ((o2.2 176 9 (by omega)).1.trans (c7 176 9 (by omega)).1) ((g3 7 (by decide)).trans (mm 7 (by decide) (by decide))) ((g3 8 (by decide)).trans (mm 8 (by decide) (by decide))) ((g3 9 (by decide)).trans (mm 9 (by decide) (by decide)))
    · exact IvR_k hR ((o2.2 179 1 (by omega)).1.trans (c7 179 1 (by omega)).1) ((g3 12 (by decide)).trans (mm 12 (by decide) (by decide))) (fun k => (o2.2 180 k (by omega)).2.2.trans (c7 180 k (by omega)).2.2) (fun k _ => (g4 5 k (by decide)).trans (mq 5 k (by decide)))
    · exact IvT_k hT (o2.1.trans c8) ((o2.2 191 3 (by omega)).1.trans (c7 191 3 (by omega)).1) ((g3 14 (by decide)).trans (mm 14 (by decide) (by decide))) (fun k => (o2.2 192 k (by omega)).2.2.trans (c7 192 k (by omega)).2.2) (fun k _ => (g4 6 k (by decide)).trans (mq 6 k (by decide)))
/-! the cases of the law -/
theorem raise_k (B : StB) : f_X6_raise B 0 = (0, 0, B) ∧ f_X6_raise B 1 = (1, 0, B) ∧ f_X6_raise B 2 = (2, 0, B) ∧ f_X6_raise B 3 = (3, 0, B) ∧ f_X6_raise B 4 = (4, 0, B) ∧ f_X6_raise B 5 = (5, 0, B) := ⟨rfl, rfl, rfl, rfl, rfl, rfl⟩
theorem case_0 {u : Nat} {B : StB} {M : StM} (hI : Inv u B M) (hu : u < 512) (O : StO) (y1 : Int32) : okc_0 B M O y1 ∧ Inv (u + 1) (stB_0 B M O y1) (stM_0 B M O y1) := by
  obtain ⟨e, n, t, hT, hR, he, md⟩ := modif hI hu
  have b3 := (beg_M M).2.2
  have cs := CS_opn (f_X7_begins M) y1 hT hR he
  rw [← b3] at cs
  obtain ⟨ob, okf, okm, oke, hh⟩ := md _ _ _ _ _ _ _ (by decide) cs
  have em : f_X7_open M y1 = f_X7_ends (f_X7_opens (f_X7_begins M) y1).2 (f_X7_opens (f_X7_begins M) y1).1 := by
    unfold f_X7_open
    simp only [nm_eq]
  have om : ok_X7_open M y1 := by
    refine ⟨ob, ?_⟩
    intro z hz
    rw [hz]
    refine ⟨okm, ?_⟩
    intro z hz
    rw [hz]
    exact oke
  unfold okc_0 stB_0 stM_0
  rcases hh with ⟨j, j1, j2, j3⟩ | ⟨f0, h1, h2, h3, h4, h5⟩
  · have key : ∀ (k : Nat) (kI : Int32), f_X3_openFault 0 B y1 = kI → f_X6_raise B kI = (k, 0, B) → k ≠ 0 → f_X6_open B y1 = (k, 0, B) ∧ ok_X6_open B y1 := by
      intro k kI e1 e2 e3
      refine ⟨?_, ?_⟩
      · unfold f_X6_open
        simp only [nm_eq, e1, e2]
        rw [if_neg e3]
      · intro r hr
        rw [hr, e1, e2]
        intro z hz h0
        rw [hz] at h0
        exact absurd h0 e3
    match j, j1, j2 with
    | 0, j1, j2 =>
      obtain ⟨k1, k2⟩ := key 2 2 (Option.some.inj j1).symm rfl (by decide)
      rw [k1, em]
      exact ⟨⟨k2, Or.inr (Or.inl rfl), om, j2, fun h => absurd (show (1 : Int32) = 0 from h) (by decide)⟩, j3⟩
    | 1, j1, j2 =>
      obtain ⟨k1, k2⟩ := key 4 4 (Option.some.inj j1).symm rfl (by decide)
      rw [k1, em]
      exact ⟨⟨k2, Or.inr (Or.inr rfl), om, j2, fun h => absurd (show (2 : Int32) = 0 from h) (by decide)⟩, j3⟩
    | j + 2, j1, j2 => exact absurd j1 (by simp)
  · have k1 : f_X6_open B y1 = (0, (f_X0_add 1 (f_X1_remember 0 B) y1).1, (f_X0_add 1 (f_X1_remember 0 B) y1).2) := by
      unfold f_X6_open
      simp only [nm_eq, f0, (raise_k B).1, if_true]
    have k2 : ok_X6_open B y1 := by
      refine ?_
      intro r hr
      rw [hr, f0, (raise_k B).1]
      intro z hz _
      rw [hz]
      refine ⟨h1, ?_⟩
      intro z hz
      rw [hz]
      exact h2
    have h4' : (f_X7_ends (f_X7_opens (f_X7_begins M) y1).2 (f_X7_opens (f_X7_begins M) y1).1).1 = (f_X0_add 1 (f_X1_remember 0 B) y1).1 := h4
    have h5' : Inv (u + 1) (f_X0_add 1 (f_X1_remember 0 B) y1).2 (f_X7_ends (f_X7_opens (f_X7_begins M) y1).2 (f_X7_opens (f_X7_begins M) y1).1).2 := h5
    generalize f_X0_add 1 (f_X1_remember 0 B) y1 = z at k1 h4' h5'
    rw [k1, em]
    exact ⟨⟨k2, Or.inl rfl, om, h3, fun _ => by rw [h4']; rfl⟩, h5'⟩
theorem case_1 {u : Nat} {B : StB} {M : StM} (hI : Inv u B M) (hu : u < 512) (O : StO) (y1 y2 : Int32) : okc_1 B M O y1 y2 ∧ Inv (u + 1) (stB_1 B M O y1 y2) (stM_1 B M O y1 y2) := by
  obtain ⟨e, n, t, hT, hR, he, md⟩ := modif hI hu
  have b3 := (beg_M M).2.2
  have cs := CS_pay (f_X7_begins M) y1 y2 hT hR he
  rw [← b3] at cs
  obtain ⟨ob, okf, okm, oke, hh⟩ := md _ _ _ _ _ _ _ (by decide) cs
  have em : f_X7_deposit M y1 y2 = f_X7_ends (f_X7_pays (f_X7_begins M) y1 y2).2 (f_X7_pays (f_X7_begins M) y1 y2).1 := by
    unfold f_X7_deposit
    simp only [nm_eq]
  have om : ok_X7_deposit M y1 y2 := by
    refine ⟨ob, ?_⟩
    intro z hz
    rw [hz]
    refine ⟨okm, ?_⟩
    intro z hz
    rw [hz]
    exact oke
  unfold okc_1 stB_1 stM_1
  rcases hh with ⟨j, j1, j2, j3⟩ | ⟨f0, h1, h2, h3, h4, h5⟩
  · have key : ∀ (k : Nat) (kI : Int32), f_X3_payInFault 0 B y1 y2 = kI → f_X6_raise B kI = (k, 0, B) → k ≠ 0 → f_X6_deposit B y1 y2 = (k, 0, B) ∧ ok_X6_deposit B y1 y2 := by
      intro k kI e1 e2 e3
      refine ⟨?_, okf, ?_⟩
      · unfold f_X6_deposit
        simp only [nm_eq, e1, e2]
        rw [if_neg e3]
      · intro r hr
        rw [hr, e1, e2]
        intro z hz h0
        rw [hz] at h0
        exact absurd h0 e3
    match j, j1, j2 with
    | 0, j1, j2 =>
      obtain ⟨k1, k2⟩ := key 1 1 (Option.some.inj j1).symm rfl (by decide)
      rw [k1, em]
      exact ⟨⟨k2, Or.inr (Or.inl rfl), om, j2, fun h => absurd (show (1 : Int32) = 0 from h) (by decide)⟩, j3⟩
    | 1, j1, j2 =>
      obtain ⟨k1, k2⟩ := key 2 2 (Option.some.inj j1).symm rfl (by decide)
      rw [k1, em]
      exact ⟨⟨k2, Or.inr (Or.inr (Or.inl rfl)), om, j2, fun h => absurd (show (2 : Int32) = 0 from h) (by decide)⟩, j3⟩
    | 2, j1, j2 =>
      obtain ⟨k1, k2⟩ := key 4 4 (Option.some.inj j1).symm rfl (by decide)
      rw [k1, em]
      exact ⟨⟨k2, Or.inr (Or.inr (Or.inr rfl)), om, j2, fun h => absurd (show (3 : Int32) = 0 from h) (by decide)⟩, j3⟩
    | j + 3, j1, j2 => exact absurd j1 (by simp)
  · have k1 : f_X6_deposit B y1 y2 = (0, (f_X3_payIn 0 (f_X1_remember 0 B) y1 y2).1, (f_X3_payIn 0 (f_X1_remember 0 B) y1 y2).2) := by
      unfold f_X6_deposit
      simp only [nm_eq, f0, (raise_k B).1, if_true]
    have k2 : ok_X6_deposit B y1 y2 := by
      refine ⟨okf, ?_⟩
      intro r hr
      rw [hr, f0, (raise_k B).1]
      intro z hz _
      rw [hz]
      refine ⟨h1, ?_⟩
      intro z hz
      rw [hz]
      exact h2
    have h4' : (f_X7_ends (f_X7_pays (f_X7_begins M) y1 y2).2 (f_X7_pays (f_X7_begins M) y1 y2).1).1 = (f_X3_payIn 0 (f_X1_remember 0 B) y1 y2).1 := h4
    have h5' : Inv (u + 1) (f_X3_payIn 0 (f_X1_remember 0 B) y1 y2).2 (f_X7_ends (f_X7_pays (f_X7_begins M) y1 y2).2 (f_X7_pays (f_X7_begins M) y1 y2).1).2 := h5
    generalize f_X3_payIn 0 (f_X1_remember 0 B) y1 y2 = z at k1 h4' h5'
    rw [k1, em]
    exact ⟨⟨k2, Or.inl rfl, om, h3, fun _ => by rw [h4']; rfl⟩, h5'⟩
theorem case_2 {u : Nat} {B : StB} {M : StM} (hI : Inv u B M) (hu : u < 512) (O : StO) (y1 y2 : Int32) : okc_2 B M O y1 y2 ∧ Inv (u + 1) (stB_2 B M O y1 y2) (stM_2 B M O y1 y2) := by
  obtain ⟨e, n, t, hT, hR, he, md⟩ := modif hI hu
  have b3 := (beg_M M).2.2
  have cs := CS_drw (f_X7_begins M) y1 y2 hT hR he
  rw [← b3] at cs
  obtain ⟨ob, okf, okm, oke, hh⟩ := md _ _ _ _ _ _ _ (by decide) cs
  have em : f_X7_withdraw M y1 y2 = f_X7_ends (f_X7_draws (f_X7_begins M) y1 y2).2 (f_X7_draws (f_X7_begins M) y1 y2).1 := by
    unfold f_X7_withdraw
    simp only [nm_eq]
  have om : ok_X7_withdraw M y1 y2 := by
    refine ⟨ob, ?_⟩
    intro z hz
    rw [hz]
    refine ⟨okm, ?_⟩
    intro z hz
    rw [hz]
    exact oke
  unfold okc_2 stB_2 stM_2
  rcases hh with ⟨j, j1, j2, j3⟩ | ⟨f0, h1, h2, h3, h4, h5⟩
  · have key : ∀ (k : Nat) (kI : Int32), f_X3_payOutFault 0 B y1 y2 = kI → f_X6_raise B kI = (k, 0, B) → k ≠ 0 → f_X6_withdraw B y1 y2 = (k, 0, B) ∧ ok_X6_withdraw B y1 y2 := by
      intro k kI e1 e2 e3
      refine ⟨?_, okf, ?_⟩
      · unfold f_X6_withdraw
        simp only [nm_eq, e1, e2]
        rw [if_neg e3]
      · intro r hr
        rw [hr, e1, e2]
        intro z hz h0
        rw [hz] at h0
        exact absurd h0 e3
    match j, j1, j2 with
    | 0, j1, j2 =>
      obtain ⟨k1, k2⟩ := key 1 1 (Option.some.inj j1).symm rfl (by decide)
      rw [k1, em]
      exact ⟨⟨k2, Or.inr (Or.inl rfl), om, j2, fun h => absurd (show (1 : Int32) = 0 from h) (by decide)⟩, j3⟩
    | 1, j1, j2 =>
      obtain ⟨k1, k2⟩ := key 2 2 (Option.some.inj j1).symm rfl (by decide)
      rw [k1, em]
      exact ⟨⟨k2, Or.inr (Or.inr (Or.inl rfl)), om, j2, fun h => absurd (show (2 : Int32) = 0 from h) (by decide)⟩, j3⟩
    | 2, j1, j2 =>
      obtain ⟨k1, k2⟩ := key 4 4 (Option.some.inj j1).symm rfl (by decide)
      rw [k1, em]
      exact ⟨⟨k2, Or.inr (Or.inr (Or.inr rfl)), om, j2, fun h => absurd (show (3 : Int32) = 0 from h) (by decide)⟩, j3⟩
    | j + 3, j1, j2 => exact absurd j1 (by simp)
  · have k1 : f_X6_withdraw B y1 y2 = (0, (f_X3_payOut 0 (f_X1_remember 0 B) y1 y2).1, (f_X3_payOut 0 (f_X1_remember 0 B) y1 y2).2) := by
      unfold f_X6_withdraw
      simp only [nm_eq, f0, (raise_k B).1, if_true]
    have k2 : ok_X6_withdraw B y1 y2 := by
      refine ⟨okf, ?_⟩
      intro r hr
      rw [hr, f0, (raise_k B).1]
      intro z hz _
      rw [hz]
      refine ⟨h1, ?_⟩
      intro z hz
      rw [hz]
      exact h2
    have h4' : (f_X7_ends (f_X7_draws (f_X7_begins M) y1 y2).2 (f_X7_draws (f_X7_begins M) y1 y2).1).1 = (f_X3_payOut 0 (f_X1_remember 0 B) y1 y2).1 := h4
    have h5' : Inv (u + 1) (f_X3_payOut 0 (f_X1_remember 0 B) y1 y2).2 (f_X7_ends (f_X7_draws (f_X7_begins M) y1 y2).2 (f_X7_draws (f_X7_begins M) y1 y2).1).2 := h5
    generalize f_X3_payOut 0 (f_X1_remember 0 B) y1 y2 = z at k1 h4' h5'
    rw [k1, em]
    exact ⟨⟨k2, Or.inl rfl, om, h3, fun _ => by rw [h4']; rfl⟩, h5'⟩
theorem case_3 {u : Nat} {B : StB} {M : StM} (hI : Inv u B M) (hu : u < 512) (O : StO) (y1 y2 : Int32) : okc_3 B M O y1 y2 ∧ Inv (u + 1) (stB_3 B M O y1 y2) (stM_3 B M O y1 y2) := by
  obtain ⟨e, n, t, hT, hR, he, md⟩ := modif hI hu
  have b3 := (beg_M M).2.2
  have cs := CS_lim (f_X7_begins M) y1 y2 hT hR he
  rw [← b3] at cs
  obtain ⟨ob, okf, okm, oke, hh⟩ := md _ _ _ _ _ _ _ (by decide) cs
  have em : f_X7_setLimit M y1 y2 = f_X7_ends (f_X7_limits (f_X7_begins M) y1 y2).2 (f_X7_limits (f_X7_begins M) y1 y2).1 := by
    unfold f_X7_setLimit
    simp only [nm_eq]
  have om : ok_X7_setLimit M y1 y2 := by
    refine ⟨ob, ?_⟩
    intro z hz
    rw [hz]
    refine ⟨okm, ?_⟩
    intro z hz
    rw [hz]
    exact oke
  unfold okc_3 stB_3 stM_3
  rcases hh with ⟨j, j1, j2, j3⟩ | ⟨f0, h1, h2, h3, h4, h5⟩
  · have key : ∀ (k : Nat) (kI : Int32), f_X3_limitFault 0 B y1 y2 = kI → f_X6_raise B kI = (k, 0, B) → k ≠ 0 → f_X6_setLimit B y1 y2 = (k, 0, B) ∧ ok_X6_setLimit B y1 y2 := by
      intro k kI e1 e2 e3
      refine ⟨?_, okf, ?_⟩
      · unfold f_X6_setLimit
        simp only [nm_eq, e1, e2]
        rw [if_neg e3]
      · intro r hr
        rw [hr, e1, e2]
        intro z hz h0
        rw [hz] at h0
        exact absurd h0 e3
    match j, j1, j2 with
    | 0, j1, j2 =>
      obtain ⟨k1, k2⟩ := key 1 1 (Option.some.inj j1).symm rfl (by decide)
      rw [k1, em]
      exact ⟨⟨k2, Or.inr (Or.inl rfl), om, j2, fun h => absurd (show (1 : Int32) = 0 from h) (by decide)⟩, j3⟩
    | 1, j1, j2 =>
      obtain ⟨k1, k2⟩ := key 2 2 (Option.some.inj j1).symm rfl (by decide)
      rw [k1, em]
      exact ⟨⟨k2, Or.inr (Or.inr (Or.inl rfl)), om, j2, fun h => absurd (show (2 : Int32) = 0 from h) (by decide)⟩, j3⟩
    | 2, j1, j2 =>
      obtain ⟨k1, k2⟩ := key 3 3 (Option.some.inj j1).symm rfl (by decide)
      rw [k1, em]
      exact ⟨⟨k2, Or.inr (Or.inr (Or.inr (Or.inl rfl))), om, j2, fun h => absurd (show (3 : Int32) = 0 from h) (by decide)⟩, j3⟩
    | 3, j1, j2 =>
      obtain ⟨k1, k2⟩ := key 4 4 (Option.some.inj j1).symm rfl (by decide)
      rw [k1, em]
      exact ⟨⟨k2, Or.inr (Or.inr (Or.inr (Or.inr rfl))), om, j2, fun h => absurd (show (4 : Int32) = 0 from h) (by decide)⟩, j3⟩
    | j + 4, j1, j2 => exact absurd j1 (by simp)
  · have k1 : f_X6_setLimit B y1 y2 = (0, (f_X0_changeLimit 1 (f_X1_remember 0 B) y1 y2).1, (f_X0_changeLimit 1 (f_X1_remember 0 B) y1 y2).2) := by
      unfold f_X6_setLimit
      simp only [nm_eq, f0, (raise_k B).1, if_true]
    have k2 : ok_X6_setLimit B y1 y2 := by
      refine ⟨okf, ?_⟩
      intro r hr
      rw [hr, f0, (raise_k B).1]
      intro z hz _
      rw [hz]
      refine ⟨h1, ?_⟩
      intro z hz
      rw [hz]
      exact h2
    have h4' : (f_X7_ends (f_X7_limits (f_X7_begins M) y1 y2).2 (f_X7_limits (f_X7_begins M) y1 y2).1).1 = (f_X0_changeLimit 1 (f_X1_remember 0 B) y1 y2).1 := h4
    have h5' : Inv (u + 1) (f_X0_changeLimit 1 (f_X1_remember 0 B) y1 y2).2 (f_X7_ends (f_X7_limits (f_X7_begins M) y1 y2).2 (f_X7_limits (f_X7_begins M) y1 y2).1).2 := h5
    generalize f_X0_changeLimit 1 (f_X1_remember 0 B) y1 y2 = z at k1 h4' h5'
    rw [k1, em]
    exact ⟨⟨k2, Or.inl rfl, om, h3, fun _ => by rw [h4']; rfl⟩, h5'⟩
theorem case_20 {u : Nat} {B : StB} {M : StM} (hI : Inv u B M) (hu : u < 512) (O : StO) (y1 : Int32) : okc_20 B M O y1 ∧ Inv (u + 1) (stB_20 B M O y1) (stM_20 B M O y1) := by
  obtain ⟨e, n, t, hT, hR, he, md⟩ := modif hI hu
  have b3 := (beg_M M).2.2
  have cs := CS_day (f_X7_begins M) y1 hT hR he
  rw [← b3] at cs
  obtain ⟨ob, okf, okm, oke, hh⟩ := md _ _ _ _ _ _ _ (by decide) cs
  have em : f_X7_endDays M y1 = f_X7_ends (f_X7_waits (f_X7_begins M) y1).2 (f_X7_waits (f_X7_begins M) y1).1 := by
    unfold f_X7_endDays
    simp only [nm_eq]
  have om : ok_X7_endDays M y1 := by
    refine ⟨ob, ?_⟩
    intro z hz
    rw [hz]
    refine ⟨okm, ?_⟩
    intro z hz
    rw [hz]
    exact oke
  unfold okc_20 stB_20 stM_20
  rcases hh with ⟨j, j1, j2, j3⟩ | ⟨f0, h1, h2, h3, h4, h5⟩
  · have key : ∀ (k : Nat) (kI : Int32), f_X3_endDaysFault 0 B y1 = kI → f_X6_raise B kI = (k, 0, B) → k ≠ 0 → f_X6_endDays B y1 = (k, 0, B) ∧ ok_X6_endDays B y1 := by
      intro k kI e1 e2 e3
      refine ⟨?_, ?_⟩
      · unfold f_X6_endDays
        simp only [nm_eq, e1, e2]
        rw [if_neg e3]
      · intro r hr
        rw [hr, e1, e2]
        intro z hz h0
        rw [hz] at h0
        exact absurd h0 e3
    match j, j1, j2 with
    | 0, j1, j2 =>
      obtain ⟨k1, k2⟩ := key 2 2 (Option.some.inj j1).symm rfl (by decide)
      rw [k1, em]
      exact ⟨⟨k2, Or.inr rfl, om, j2, fun h => absurd (show (1 : Int32) = 0 from h) (by decide)⟩, j3⟩
    | j + 1, j1, j2 => exact absurd j1 (by simp)
  · have k1 : f_X6_endDays B y1 = (0, (f_X3_passDays 0 (f_X1_remember 0 B) y1).1, (f_X3_passDays 0 (f_X1_remember 0 B) y1).2) := by
      unfold f_X6_endDays
      simp only [nm_eq, f0, (raise_k B).1, if_true]
    have k2 : ok_X6_endDays B y1 := by
      refine ?_
      intro r hr
      rw [hr, f0, (raise_k B).1]
      intro z hz _
      rw [hz]
      refine ⟨h1, ?_⟩
      intro z hz
      rw [hz]
      exact h2
    have h4' : (f_X7_ends (f_X7_waits (f_X7_begins M) y1).2 (f_X7_waits (f_X7_begins M) y1).1).1 = (f_X3_passDays 0 (f_X1_remember 0 B) y1).1 := h4
    have h5' : Inv (u + 1) (f_X3_passDays 0 (f_X1_remember 0 B) y1).2 (f_X7_ends (f_X7_waits (f_X7_begins M) y1).2 (f_X7_waits (f_X7_begins M) y1).1).2 := h5
    generalize f_X3_passDays 0 (f_X1_remember 0 B) y1 = z at k1 h4' h5'
    rw [k1, em]
    exact ⟨⟨k2, Or.inl rfl, om, h3, fun _ => by rw [h4']; rfl⟩, h5'⟩
theorem case_22 {u : Nat} {B : StB} {M : StM} (hI : Inv u B M) (hu : u < 512) (O : StO) (y1 y2 y3 y4 : Int32) : okc_22 B M O y1 y2 y3 y4 ∧ Inv (u + 1) (stB_22 B M O y1 y2 y3 y4) (stM_22 B M O y1 y2 y3 y4) := by
  obtain ⟨e, n, t, hT, hR, he, md⟩ := modif hI hu
  have b3 := (beg_M M).2.2
  have cs := CS_sel (f_X7_begins M) y1 y2 y3 y4 hT hR he
  rw [← b3] at cs
  obtain ⟨ob, okf, okm, oke, hh⟩ := md _ _ _ _ _ _ _ (by decide) cs
  have em : f_X7_seal M y1 y2 y3 y4 = f_X7_ends (f_X7_seals (f_X7_begins M) y1 y2 y3 y4).2 (f_X7_seals (f_X7_begins M) y1 y2 y3 y4).1 := by
    unfold f_X7_seal
    simp only [nm_eq]
  have om : ok_X7_seal M y1 y2 y3 y4 := by
    refine ⟨ob, ?_⟩
    intro z hz
    rw [hz]
    refine ⟨okm, ?_⟩
    intro z hz
    rw [hz]
    exact oke
  unfold okc_22 stB_22 stM_22
  rcases hh with ⟨j, j1, j2, j3⟩ | ⟨f0, h1, h2, h3, h4, h5⟩
  · have key : ∀ (k : Nat) (kI : Int32), f_X3_sealFault 0 B y1 y2 y3 y4 = kI → f_X6_raise B kI = (k, 0, B) → k ≠ 0 → f_X6_seal B y1 y2 y3 y4 = (k, 0, B) ∧ ok_X6_seal B y1 y2 y3 y4 := by
      intro k kI e1 e2 e3
      refine ⟨?_, ?_⟩
      · unfold f_X6_seal
        simp only [nm_eq, e1, e2]
        rw [if_neg e3]
      · intro r hr
        rw [hr, e1, e2]
        intro z hz h0
        rw [hz] at h0
        exact absurd h0 e3
    match j, j1, j2 with
    | 0, j1, j2 =>
      obtain ⟨k1, k2⟩ := key 1 1 (Option.some.inj j1).symm rfl (by decide)
      rw [k1, em]
      exact ⟨⟨k2, Or.inr (Or.inl rfl), om, j2, fun h => absurd (show (1 : Int32) = 0 from h) (by decide)⟩, j3⟩
    | 1, j1, j2 =>
      obtain ⟨k1, k2⟩ := key 2 2 (Option.some.inj j1).symm rfl (by decide)
      rw [k1, em]
      exact ⟨⟨k2, Or.inr (Or.inr (Or.inl rfl)), om, j2, fun h => absurd (show (2 : Int32) = 0 from h) (by decide)⟩, j3⟩
    | 2, j1, j2 =>
      obtain ⟨k1, k2⟩ := key 4 4 (Option.some.inj j1).symm rfl (by decide)
      rw [k1, em]
      exact ⟨⟨k2, Or.inr (Or.inr (Or.inr rfl)), om, j2, fun h => absurd (show (3 : Int32) = 0 from h) (by decide)⟩, j3⟩
    | j + 3, j1, j2 => exact absurd j1 (by simp)
  · have k1 : f_X6_seal B y1 y2 y3 y4 = (0, (f_X5_add 6 (f_X1_remember 0 B) y1 y2 y3 ((bi (f_X1_remember 0 B) 0 3) + y4)).1, (f_X5_add 6 (f_X1_remember 0 B) y1 y2 y3 ((bi (f_X1_remember 0 B) 0 3) + y4)).2) := by
      unfold f_X6_seal
      simp only [nm_eq, f0, (raise_k B).1, if_true]
    have k2 : ok_X6_seal B y1 y2 y3 y4 := by
      refine ?_
      intro r hr
      rw [hr, f0, (raise_k B).1]
      intro z hz _
      rw [hz]
      refine ⟨h1, ?_⟩
      intro z hz
      rw [hz]
      exact h2
    have h4' : (f_X7_ends (f_X7_seals (f_X7_begins M) y1 y2 y3 y4).2 (f_X7_seals (f_X7_begins M) y1 y2 y3 y4).1).1 = (f_X5_add 6 (f_X1_remember 0 B) y1 y2 y3 ((bi (f_X1_remember 0 B) 0 3) + y4)).1 := h4
    have h5' : Inv (u + 1) (f_X5_add 6 (f_X1_remember 0 B) y1 y2 y3 ((bi (f_X1_remember 0 B) 0 3) + y4)).2 (f_X7_ends (f_X7_seals (f_X7_begins M) y1 y2 y3 y4).2 (f_X7_seals (f_X7_begins M) y1 y2 y3 y4).1).2 := h5
    generalize f_X5_add 6 (f_X1_remember 0 B) y1 y2 y3 ((bi (f_X1_remember 0 B) 0 3) + y4) = z at k1 h4' h5'
    rw [k1, em]
    exact ⟨⟨k2, Or.inl rfl, om, h3, fun _ => by rw [h4']; rfl⟩, h5'⟩
theorem case_23 {u : Nat} {B : StB} {M : StM} (hI : Inv u B M) (hu : u < 512) (O : StO) (y1 : Int32) : okc_23 B M O y1 ∧ Inv (u + 1) (stB_23 B M O y1) (stM_23 B M O y1) := by
  obtain ⟨e, n, t, hT, hR, he, md⟩ := modif hI hu
  have b3 := (beg_M M).2.2
  have cs := CS_voi (f_X7_begins M) y1 hT hR he
  rw [← b3] at cs
  obtain ⟨ob, okf, okm, oke, hh⟩ := md _ _ _ _ _ _ _ (by decide) cs
  have em : f_X7_cancel M y1 = f_X7_ends (f_X7_voids (f_X7_begins M) y1).2 (f_X7_voids (f_X7_begins M) y1).1 := by
    unfold f_X7_cancel
    simp only [nm_eq]
  have om : ok_X7_cancel M y1 := by
    refine ⟨ob, ?_⟩
    intro z hz
    rw [hz]
    refine ⟨okm, ?_⟩
    intro z hz
    rw [hz]
    exact oke
  unfold okc_23 stB_23 stM_23
  rcases hh with ⟨j, j1, j2, j3⟩ | ⟨f0, h1, h2, h3, h4, h5⟩
  · have key : ∀ (k : Nat) (kI : Int32), f_X3_cancelFault 0 B y1 = kI → f_X6_raise B kI = (k, 0, B) → k ≠ 0 → f_X6_cancel B y1 = (k, 0, B) ∧ ok_X6_cancel B y1 := by
      intro k kI e1 e2 e3
      refine ⟨?_, okf, ?_⟩
      · unfold f_X6_cancel
        simp only [nm_eq, e1, e2]
        rw [if_neg e3]
      · intro r hr
        rw [hr, e1, e2]
        intro z hz h0
        rw [hz] at h0
        exact absurd h0 e3
    match j, j1, j2 with
    | 0, j1, j2 =>
      obtain ⟨k1, k2⟩ := key 5 5 (Option.some.inj j1).symm rfl (by decide)
      rw [k1, em]
      exact ⟨⟨k2, Or.inr rfl, om, j2, fun h => absurd (show (1 : Int32) = 0 from h) (by decide)⟩, j3⟩
    | j + 1, j1, j2 => exact absurd j1 (by simp)
  · have k1 : f_X6_cancel B y1 = (0, (f_X5_remove 6 (f_X1_remember 0 B) y1).1, (f_X5_remove 6 (f_X1_remember 0 B) y1).2) := by
      unfold f_X6_cancel
      simp only [nm_eq, f0, (raise_k B).1, if_true]
    have k2 : ok_X6_cancel B y1 := by
      refine ⟨okf, ?_⟩
      intro r hr
      rw [hr, f0, (raise_k B).1]
      intro z hz _
      rw [hz]
      refine ⟨h1, ?_⟩
      intro z hz
      rw [hz]
      exact h2
    have h4' : (f_X7_ends (f_X7_voids (f_X7_begins M) y1).2 (f_X7_voids (f_X7_begins M) y1).1).1 = (f_X5_remove 6 (f_X1_remember 0 B) y1).1 := h4
    have h5' : Inv (u + 1) (f_X5_remove 6 (f_X1_remember 0 B) y1).2 (f_X7_ends (f_X7_voids (f_X7_begins M) y1).2 (f_X7_voids (f_X7_begins M) y1).1).2 := h5
    generalize f_X5_remove 6 (f_X1_remember 0 B) y1 = z at k1 h4' h5'
    rw [k1, em]
    exact ⟨⟨k2, Or.inl rfl, om, h3, fun _ => by rw [h4']; rfl⟩, h5'⟩
