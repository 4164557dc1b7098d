/-! the pure part: commands obeyed -/
def OB (e : Nat) (C : StB) (M : StM) (z : Int32 × StB) (r : Int32 × StM) : Prop := (∃ j, j < 8 ∧ r.2 = smi M 15 (Int32.ofNat (j + 1)) ∧ z.1 ≠ 0 ∧ z.2 = C) ∨ (z.1 = 0 ∧ ∃ n' t' R' w, r.2 = rs (smi (smi M 15 0) 10 w) R' ∧ RB (e + 1) (60 * (e + 1)) n' t' 0 0 R' ∧ Fr 16 C z.2 ∧ Ti 0 n' 0 0 t' z.2 16 R')
theorem OB_CS {e n t : Nat} {C : StB} {M : StM} {flt : Int32} {okf : Prop} {op : StB → Int32 × StB} {okop : StB → Prop} {mr : Int32 × StM} {okm : Prop} {codes : List Int32} (h : CS e n t 16 C (ma M 0) M flt okf op okop mr okm codes) (hl : codes.length ≤ 8) (h0 : ∀ x ∈ codes, x ≠ 0) (hT : Ti 0 n 0 0 t C 16 (ma M 0)) : okf ∧ okm ∧ (flt = 0 → okop C) ∧ OB e C M (if flt = 0 then (0, (op C).2) else (flt, C)) mr := by
  obtain ⟨k1, k2, k3⟩ := h
  rcases k3 with ⟨j, j1, j2⟩ | ⟨f0, n', t', R', v, e2, nR, hop⟩
  · have hne : flt ≠ 0 := h0 flt (List.mem_of_getElem? j1)
    have hj : j < 8 := by
      have := (List.getElem?_eq_some_iff.mp j1).1
      omega
    refine ⟨k1, k2, fun h9 => absurd h9 hne, Or.inl ⟨j, hj, ?_, ?_, ?_⟩⟩
    · rw [j2]
      have : ma M 0 = ma (smi M 15 (Int32.ofNat (j + 1))) 0 := rfl
      rw [this, rs_self]
    · rw [if_neg hne]
      exact hne
    · rw [if_neg hne]
  · obtain ⟨o1, o2, o3, o4⟩ := hop C hT
    refine ⟨k1, k2, fun _ => o1, Or.inr ⟨?_, n', t', R', v, e2, nR, ?_, ?_⟩⟩
    · rw [if_pos f0]
    · rw [if_pos f0]
      exact o2
    · rw [if_pos f0]
      exact o3
theorem obey_k {e n t k v : Nat} {C : StB} {M : StM} (hT : Ti 0 n 0 0 t C 16 (ma M 0)) (hR : RB e (60 * e) n t 0 0 (ma M 0)) (he : e < 600) (hv : v < 6) (h7 : ma M 7 (5 * k) = Int32.ofNat v) (hx : ∀ j, j < cnt (kByt.getD (2 + v) []) → ma M 7 (5 * k + 1 + j) = ba C 181 j) (hk : 5 * k + 4 < 150) : ok_X3_obey 16 C (Int32.ofNat v) ∧ ok_X7_does M (Int32.ofNat (5 * k)) ∧ OB e C M (f_X3_obey 16 C (Int32.ofNat v)) (f_X7_does M (Int32.ofNat (5 * k))) := by
  have x0 : ix (Int32.ofNat (5 * k)) = 5 * k := ix_o (by omega)
  have x1 : ix (Int32.ofNat (5 * k) + 1) = 5 * k + 1 + 0 := by rw [oad1]; exact ix_o (by omega)
  have x2 : ix (Int32.ofNat (5 * k) + 2) = 5 * k + 1 + 1 := by rw [oad2]; exact ix_o (by omega)
  have x3 : ix (Int32.ofNat (5 * k) + 3) = 5 * k + 1 + 2 := by rw [oad3]; exact ix_o (by omega)
  have x4 : ix (Int32.ofNat (5 * k) + 4) = 5 * k + 1 + 3 := by rw [oad4]; exact ix_o (by omega)
  have v0 : vp_in (Int32.ofNat (5 * k)) 150 := in_o (by omega) (by omega)
  have v1 : vp_in (Int32.ofNat (5 * k) + 1) 150 := by rw [oad1]; exact in_o (by omega) (by omega)
  have v2 : vp_in (Int32.ofNat (5 * k) + 2) 150 := by rw [oad2]; exact in_o (by omega) (by omega)
  have v3 : vp_in (Int32.ofNat (5 * k) + 3) 150 := by rw [oad3]; exact in_o (by omega) (by omega)
  have v4 : vp_in (Int32.ofNat (5 * k) + 4) 150 := by rw [oad4]; exact in_o (by omega) (by omega)
  have i0 : ix 0 = 0 := by decide
  have i1 : ix 1 = 1 := by decide
  have i2 : ix 2 = 2 := by decide
  have i3 : ix 3 = 3 := by decide
  have hcv := cntv v hv
  rcases (by omega : v = 0 ∨ v = 1 ∨ v = 2 ∨ v = 3 ∨ v = 4 ∨ v = 5) with rfl | rfl | rfl | rfl | rfl | rfl
  · have hc : cnt (kByt.getD (2 + 0) []) = 2 := hcv
    rw [hc] at hx
    have cs := CS_pay M (ba C 181 0) (ba C 181 1) hT hR he
    rw [rs_self] at cs
    obtain ⟨o1, o2, o3, o4⟩ := OB_CS cs (by decide) (by decide) hT
    have ed : f_X7_does M (Int32.ofNat (5 * k)) = f_X7_pays M (ba C 181 0) (ba C 181 1) := by
      unfold f_X7_does
      rw [nm_eq, nm_eq, x0, x1, x2, h7, if_pos (by decide), hx 0 (by decide), hx 1 (by decide)]
      rfl
    have eo : f_X3_obey 16 C (Int32.ofNat 0) = if f_X3_payInFault 16 C (ba C 181 0) (ba C 181 1) = 0 then (0, (f_X3_payIn 16 C (ba C 181 0) (ba C 181 1)).2) else (f_X3_payInFault 16 C (ba C 181 0) (ba C 181 1), C) := by
      unfold f_X3_obey f_X3_faultOf
      rw [if_pos (by decide), nm_eq, nm_eq, if_pos (show Int32.ofNat 0 = 0 by decide), nm_eq, i0, i1]
    rw [ed, eo]
    refine ⟨⟨⟨fun _ => ?_, fun h9 => absurd rfl h9⟩, ?_⟩, ⟨v1, ?_⟩, o4⟩
    · rw [i0, i1]
      exact o1
    · intro r hr
      refine ⟨fun h0 => ⟨fun _ => ?_, fun h9 => absurd rfl h9⟩, fun _ => trivial⟩
      rw [i0, i1]
      refine o3 ?_
      rw [← h0, hr]
      unfold f_X3_faultOf
      rw [if_pos (by decide), nm_eq, i0, i1]
    · rw [x0, x1, x2, h7, hx 0 (by decide), hx 1 (by decide)]
      intro a ha
      refine ⟨v2, ?_⟩
      intro b hb
      rw [ha, hb]
      exact ⟨v0, fun _ => o2, fun h9 => absurd rfl h9⟩
  · have hc : cnt (kByt.getD (2 + 1) []) = 2 := hcv
    rw [hc] at hx
    have cs := CS_drw M (ba C 181 0) (ba C 181 1) hT hR he
    rw [rs_self] at cs
    obtain ⟨o1, o2, o3, o4⟩ := OB_CS cs (by decide) (by decide) hT
    have ed : f_X7_does M (Int32.ofNat (5 * k)) = f_X7_draws M (ba C 181 0) (ba C 181 1) := by
      unfold f_X7_does
      rw [nm_eq, nm_eq, x0, x1, x2, h7, if_neg (by decide), if_pos (by decide), hx 0 (by decide), hx 1 (by decide)]
      rfl
    have eo : f_X3_obey 16 C (Int32.ofNat 1) = if f_X3_payOutFault 16 C (ba C 181 0) (ba C 181 1) = 0 then (0, (f_X3_payOut 16 C (ba C 181 0) (ba C 181 1)).2) else (f_X3_payOutFault 16 C (ba C 181 0) (ba C 181 1), C) := by
      unfold f_X3_obey f_X3_faultOf
      rw [if_neg (by decide), if_pos (by decide), nm_eq, nm_eq, if_neg (show ¬ Int32.ofNat 1 = 0 by decide), if_pos (show Int32.ofNat 1 = 1 by decide), nm_eq, i0, i1]
    rw [ed, eo]
    refine ⟨⟨⟨fun h9 => absurd h9 (by decide), fun _ => ⟨fun _ => ?_, fun h9 => absurd rfl h9⟩⟩, ?_⟩, ⟨v1, ?_⟩, o4⟩
    · rw [i0, i1]
      exact o1
    · intro r hr
      refine ⟨fun h0 => ⟨fun h9 => absurd h9 (by decide), fun _ => ⟨fun _ => ?_, fun h9 => absurd rfl h9⟩⟩, fun _ => trivial⟩
      rw [i0, i1]
      refine o3 ?_
      rw [← h0, hr]
      unfold f_X3_faultOf
      rw [if_neg (by decide), if_pos (by decide), nm_eq, i0, i1]
    · rw [x0, x1, x2, h7, hx 0 (by decide), hx 1 (by decide)]
      intro a ha
      refine ⟨v2, ?_⟩
      intro b hb
      rw [ha, hb]
      exact ⟨v0, fun h9 => absurd h9 (by decide), fun _ => ⟨fun _ => o2, fun h9 => absurd rfl h9⟩⟩
  · have hc : cnt (kByt.getD (2 + 2) []) = 2 := hcv
    rw [hc] at hx
    have cs := CS_lim M (ba C 181 0) (ba C 181 1) hT hR he
    rw [rs_self] at cs
    obtain ⟨o1, o2, o3, o4⟩ := OB_CS cs (by decide) (by decide) hT
    have ed : f_X7_does M (Int32.ofNat (5 * k)) = f_X7_limits M (ba C 181 0) (ba C 181 1) := by
      unfold f_X7_does
      rw [nm_eq, nm_eq, x0, x1, x2, h7, if_neg (by decide), if_neg (by decide), if_pos (by decide), hx 0 (by decide), hx 1 (by decide)]
      rfl
    have eo : f_X3_obey 16 C (Int32.ofNat 2) = if f_X3_limitFault 16 C (ba C 181 0) (ba C 181 1) = 0 then (0, (f_X0_changeLimit (16 + 1) C (ba C 181 0) (ba C 181 1)).2) else (f_X3_limitFault 16 C (ba C 181 0) (ba C 181 1), C) := by
      unfold f_X3_obey f_X3_faultOf
      rw [if_neg (by decide), if_neg (by decide), if_pos (by decide), nm_eq, nm_eq, if_neg (show ¬ Int32.ofNat 2 = 0 by decide), if_neg (show ¬ Int32.ofNat 2 = 1 by decide), if_pos (show Int32.ofNat 2 = 2 by decide), nm_eq, i0, i1]
    rw [ed, eo]
    refine ⟨⟨⟨fun h9 => absurd h9 (by decide), fun _ => ⟨fun h9 => absurd h9 (by decide), fun _ => ⟨fun _ => ?_, fun h9 => absurd rfl h9⟩⟩⟩, ?_⟩, ⟨v1, ?_⟩, o4⟩
    · rw [i0, i1]
      exact o1
    · intro r hr
      refine ⟨fun h0 => ⟨fun h9 => absurd h9 (by decide), fun _ => ⟨fun h9 => absurd h9 (by decide), fun _ => ⟨fun _ => ?_, fun h9 => absurd rfl h9⟩⟩⟩, fun _ => trivial⟩
      rw [i0, i1]
      refine o3 ?_
      rw [← h0, hr]
      unfold f_X3_faultOf
      rw [if_neg (by decide), if_neg (by decide), if_pos (by decide), nm_eq, i0, i1]
    · rw [x0, x1, x2, h7, hx 0 (by decide), hx 1 (by decide)]
      intro a ha
      refine ⟨v2, ?_⟩
      intro b hb
      rw [ha, hb]
      exact ⟨v0, fun h9 => absurd h9 (by decide), fun _ => ⟨fun h9 => absurd h9 (by decide), fun _ => ⟨fun _ => o2, fun h9 => absurd rfl h9⟩⟩⟩
  · have hc : cnt (kByt.getD (2 + 3) []) = 4 := hcv
    rw [hc] at hx
    have cs := CS_sel M (ba C 181 0) (ba C 181 1) (ba C 181 2) (ba C 181 3) hT hR he
    rw [rs_self] at cs
    obtain ⟨o1, o2, o3, o4⟩ := OB_CS cs (by decide) (by decide) hT
    have ed : f_X7_does M (Int32.ofNat (5 * k)) = f_X7_seals M (ba C 181 0) (ba C 181 1) (ba C 181 2) (ba C 181 3) := by
      unfold f_X7_does
      rw [nm_eq, nm_eq, x0, x1, x2, h7, if_neg (by decide), if_neg (by decide), if_neg (by decide), if_pos (by decide), x3, x4, hx 0 (by decide), hx 1 (by decide), hx 2 (by decide), hx 3 (by decide)]
      rfl
    have eo : f_X3_obey 16 C (Int32.ofNat 3) = if f_X3_sealFault 16 C (ba C 181 0) (ba C 181 1) (ba C 181 2) (ba C 181 3) = 0 then (0, (f_X5_add (16 + 6) C (ba C 181 0) (ba C 181 1) (ba C 181 2) (bi C 16 3 + ba C 181 3)).2) else (f_X3_sealFault 16 C (ba C 181 0) (ba C 181 1) (ba C 181 2) (ba C 181 3), C) := by
      unfold f_X3_obey f_X3_faultOf
      rw [if_neg (by decide), if_neg (by decide), if_neg (by decide), if_pos (by decide), nm_eq, nm_eq, if_neg (show ¬ Int32.ofNat 3 = 0 by decide), if_neg (show ¬ Int32.ofNat 3 = 1 by decide), if_neg (show ¬ Int32.ofNat 3 = 2 by decide), if_pos (show Int32.ofNat 3 = 3 by decide), nm_eq, i0, i1, i2, i3]
    rw [ed, eo]
    refine ⟨⟨⟨fun h9 => absurd h9 (by decide), fun _ => ⟨fun h9 => absurd h9 (by decide), fun _ => ⟨fun h9 => absurd h9 (by decide), fun _ => ⟨fun _ => trivial, fun h9 => absurd rfl h9⟩⟩⟩⟩, ?_⟩, ⟨v1, ?_⟩, o4⟩
    · intro r hr
      refine ⟨fun h0 => ⟨fun h9 => absurd h9 (by decide), fun _ => ⟨fun h9 => absurd h9 (by decide), fun _ => ⟨fun h9 => absurd h9 (by decide), fun _ => ⟨fun _ => ?_, fun h9 => absurd rfl h9⟩⟩⟩⟩, fun _ => trivial⟩
      rw [i0, i1, i2, i3]
      refine o3 ?_
      rw [← h0, hr]
      unfold f_X3_faultOf
      rw [if_neg (by decide), if_neg (by decide), if_neg (by decide), if_pos (by decide), nm_eq, i0, i1, i2, i3]
    · rw [x0, x1, x2, x3, x4, h7, hx 0 (by decide), hx 1 (by decide), hx 2 (by decide), hx 3 (by decide)]
      intro a ha
      refine ⟨v2, ?_⟩
      intro b hb
      rw [ha, hb]
      exact ⟨v0, fun h9 => absurd h9 (by decide), fun _ => ⟨fun h9 => absurd h9 (by decide), fun _ => ⟨fun h9 => absurd h9 (by decide), fun _ => ⟨fun _ => ⟨v3, v4, o2⟩, fun h9 => absurd rfl h9⟩⟩⟩⟩
  · have hc : cnt (kByt.getD (2 + 4) []) = 1 := hcv
    rw [hc] at hx
    have cs := CS_voi M (ba C 181 0) hT hR he
    rw [rs_self] at cs
    obtain ⟨o1, o2, o3, o4⟩ := OB_CS cs (by decide) (by decide) hT
    have ed : f_X7_does M (Int32.ofNat (5 * k)) = f_X7_voids M (ba C 181 0) := by
      unfold f_X7_does
      rw [nm_eq, nm_eq, x0, x1, h7, if_neg (by decide), if_neg (by decide), if_neg (by decide), if_neg (by decide), if_pos (by decide), hx 0 (by decide)]
      rfl
    have eo : f_X3_obey 16 C (Int32.ofNat 4) = if f_X3_cancelFault 16 C (ba C 181 0) = 0 then (0, (f_X5_remove (16 + 6) C (ba C 181 0)).2) else (f_X3_cancelFault 16 C (ba C 181 0), C) := by
      unfold f_X3_obey f_X3_faultOf
      rw [if_neg (by decide), if_neg (by decide), if_neg (by decide), if_neg (by decide), if_pos (by decide), nm_eq, nm_eq, if_neg (show ¬ Int32.ofNat 4 = 0 by decide), if_neg (show ¬ Int32.ofNat 4 = 1 by decide), if_neg (show ¬ Int32.ofNat 4 = 2 by decide), if_neg (show ¬ Int32.ofNat 4 = 3 by decide), if_pos (show Int32.ofNat 4 = 4 by decide), nm_eq, i0]
    rw [ed, eo]
    refine ⟨⟨⟨fun h9 => absurd h9 (by decide), fun _ => ⟨fun h9 => absurd h9 (by decide), fun _ => ⟨fun h9 => absurd h9 (by decide), fun _ => ⟨fun h9 => absurd h9 (by decide), fun _ => ⟨fun _ => ?_, fun h9 => absurd rfl h9⟩⟩⟩⟩⟩, ?_⟩, ⟨v1, ?_⟩, o4⟩
    · rw [i0]
      exact o1
    · intro r hr
      refine ⟨fun h0 => ⟨fun h9 => absurd h9 (by decide), fun _ => ⟨fun h9 => absurd h9 (by decide), fun _ => ⟨fun h9 => absurd h9 (by decide), fun _ => ⟨fun h9 => absurd h9 (by decide), fun _ => ⟨fun _ => ?_, fun h9 => absurd rfl h9⟩⟩⟩⟩⟩, fun _ => trivial⟩
      rw [i0]
      refine o3 ?_
      rw [← h0, hr]
      unfold f_X3_faultOf
      rw [if_neg (by decide), if_neg (by decide), if_neg (by decide), if_neg (by decide), if_pos (by decide), nm_eq, i0]
    · rw [x0, x1, h7, hx 0 (by decide)]
      intro a ha
      refine ⟨v2, ?_⟩
      intro b hb
      rw [ha]
      exact ⟨v0, fun h9 => absurd h9 (by decide), fun _ => ⟨fun h9 => absurd h9 (by decide), fun _ => ⟨fun h9 => absurd h9 (by decide), fun _ => ⟨fun h9 => absurd h9 (by decide), fun _ => ⟨fun _ => o2, fun h9 => absurd rfl h9⟩⟩⟩⟩⟩
  · have hc : cnt (kByt.getD (2 + 5) []) = 1 := hcv
    rw [hc] at hx
    have cs := CS_day M (ba C 181 0) hT hR he
    rw [rs_self] at cs
    obtain ⟨o1, o2, o3, o4⟩ := OB_CS cs (by decide) (by decide) hT
    have ed : f_X7_does M (Int32.ofNat (5 * k)) = f_X7_waits M (ba C 181 0) := by
      unfold f_X7_does
      rw [nm_eq, nm_eq, x0, x1, h7, if_neg (by decide), if_neg (by decide), if_neg (by decide), if_neg (by decide), if_neg (by decide), hx 0 (by decide)]
      rfl
    have eo : f_X3_obey 16 C (Int32.ofNat 5) = if f_X3_endDaysFault 16 C (ba C 181 0) = 0 then (0, (f_X3_passDays 16 C (ba C 181 0)).2) else (f_X3_endDaysFault 16 C (ba C 181 0), C) := by
      unfold f_X3_obey f_X3_faultOf
      rw [if_neg (by decide), if_neg (by decide), if_neg (by decide), if_neg (by decide), if_neg (by decide), nm_eq, nm_eq, if_neg (show ¬ Int32.ofNat 5 = 0 by decide), if_neg (show ¬ Int32.ofNat 5 = 1 by decide), if_neg (show ¬ Int32.ofNat 5 = 2 by decide), if_neg (show ¬ Int32.ofNat 5 = 3 by decide), if_neg (show ¬ Int32.ofNat 5 = 4 by decide), nm_eq, i0]
    rw [ed, eo]
    refine ⟨⟨⟨fun h9 => absurd h9 (by decide), fun _ => ⟨fun h9 => absurd h9 (by decide), fun _ => ⟨fun h9 => absurd h9 (by decide), fun _ => ⟨fun h9 => absurd h9 (by decide), fun _ => ⟨fun h9 => absurd h9 (by decide), fun _ => trivial⟩⟩⟩⟩⟩, ?_⟩, ⟨v1, ?_⟩, o4⟩
    · intro r hr
      refine ⟨fun h0 => ⟨fun h9 => absurd h9 (by decide), fun _ => ⟨fun h9 => absurd h9 (by decide), fun _ => ⟨fun h9 => absurd h9 (by decide), fun _ => ⟨fun h9 => absurd h9 (by decide), fun _ => ⟨fun h9 => absurd h9 (by decide), fun _ => ?_⟩⟩⟩⟩⟩, fun _ => trivial⟩
      rw [i0]
      refine o3 ?_
      rw [← h0, hr]
      unfold f_X3_faultOf
      rw [if_neg (by decide), if_neg (by decide), if_neg (by decide), if_neg (by decide), if_neg (by decide), nm_eq, i0]
    · rw [x0, x1, h7, hx 0 (by decide)]
      intro a ha
      refine ⟨v2, ?_⟩
      intro b hb
      rw [ha]
      exact ⟨v0, fun h9 => absurd h9 (by decide), fun _ => ⟨fun h9 => absurd h9 (by decide), fun _ => ⟨fun h9 => absurd h9 (by decide), fun _ => ⟨fun h9 => absurd h9 (by decide), fun _ => ⟨fun h9 => absurd h9 (by decide), fun _ => o2⟩⟩⟩⟩⟩
