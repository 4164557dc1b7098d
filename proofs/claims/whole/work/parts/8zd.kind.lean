/-! the pure part: words, a command, a program, read by the model -/
def wd : Nat → List Int32
  | 0 => [112, 97, 121, 32]
  | 1 => [100, 114, 97, 119, 32]
  | 2 => [108, 105, 109, 105, 116, 32]
  | 3 => [115, 101, 110, 100, 32]
  | 4 => [118, 111, 105, 100, 32]
  | 5 => [119, 97, 105, 116, 32]
  | _ => []
def tl : Nat → List Int32
  | 0 => [68, 32, 78]
  | 1 => [68, 32, 78]
  | 2 => [68, 32, 78]
  | 3 => [68, 68, 32, 78, 32, 78]
  | 4 => [78]
  | 5 => [78]
  | _ => []
def stw : Nat → Nat
  | 0 => 0
  | 1 => 4
  | 2 => 9
  | 3 => 15
  | 4 => 20
  | 5 => 25
  | _ => 30
def mtc (T : Nat → Int32) (ty : Nat) : Nat → List Int32 → Nat
  | _, [] => 0
  | s, c :: cs => if s < ty ∧ T s = c then 1 + mtc T ty (s + 1) cs else 0
theorem mtc_le (T : Nat → Int32) (ty : Nat) : ∀ cs s, mtc T ty s cs ≤ cs.length ∧ (s ≤ ty → s + mtc T ty s cs ≤ ty) := by
  intro cs
  induction cs with
  | nil => intro s; exact ⟨Nat.le_refl 0, fun h => h⟩
  | cons c cs ih =>
    intro s
    have := ih (s + 1)
    unfold mtc
    split
    · rename_i h
      rw [List.length_cons]
      exact ⟨by omega, fun _ => by have := this.2 (by omega); omega⟩
    · exact ⟨Nat.zero_le _, fun h => h⟩
theorem rf_word (T : Nat → Int32) (ty : Nat) (tail : List Int32) : ∀ (w : List Int32) s f vs, (∀ c ∈ w, ¬ (c = 68 ∨ c = 78)) → rf T ty (w ++ tail) s f vs = if mtc T ty s w = w.length then rf T ty tail (s + w.length) f vs else (false, s + mtc T ty s w, vs) := by
  intro w
  induction w with
  | nil => intro s f vs _; rfl
  | cons c w ih =>
    intro s f vs hw
    have hc := hw c (List.mem_cons_self ..)
    have hm : mtc T ty s (c :: w) = if s < ty ∧ T s = c then 1 + mtc T ty (s + 1) w else 0 := rfl
    rw [List.cons_append, rf, if_neg hc, hm, List.length_cons]
    by_cases h : s < ty ∧ T s = c
    · rw [if_pos h, if_pos h, ih (s + 1) f vs (fun x hx => hw x (List.mem_cons_of_mem _ hx))]
      by_cases h2 : mtc T ty (s + 1) w = w.length
      · rw [if_pos h2, if_pos (by omega), show s + 1 + w.length = s + (w.length + 1) by omega]
      · rw [if_neg h2, if_neg (by omega), show s + 1 + mtc T ty (s + 1) w = s + (1 + mtc T ty (s + 1) w) by omega]
    · rw [if_neg h, if_neg h, if_neg (by omega)]
      rfl
theorem wd_f : ∀ v, v < 6 → kByt.getD (2 + v) [] = wd v ++ tl v ∧ (∀ c ∈ wd v, ¬ (c = 68 ∨ c = 78)) ∧ 4 ≤ (wd v).length ∧ (wd v).length ≤ 6 ∧ f_X7_startOf (Int32.ofNat v) = Int32.ofNat (stw v) ∧ stw v + (wd v).length = stw (v + 1) ∧ stw v + (wd v).length ≤ 30 ∧ f_X7_startOf (Int32.ofNat (v + 1)) = Int32.ofNat (stw (v + 1)) ∧ f_X7_startOf (Int32.ofNat v + 1) = Int32.ofNat (stw (v + 1)) ∧ vb ((wd v).getD 0 0) = some v := by decide +kernel
theorem wd_c : ∀ v, v < 6 → ∀ k, k < (wd v).length → (kByt.getD 9 []).getD (stw v + k) 0 = (wd v).getD k 0 := by decide +kernel
theorem len9 : (kByt.getD 9 []).length = 30 := by decide +kernel
theorem wch {v k : Nat} (hv : v < 6) (hk : k < (wd v).length) : f_J0_charAt_5068e 9 (f_X7_startOf (Int32.ofNat v) + Int32.ofNat k) = (wd v).getD k 0 ∧ ok_J0_charAt_5068e 9 (f_X7_startOf (Int32.ofNat v) + Int32.ofNat k) := by
  obtain ⟨_, _, _, _, h1, _, h2, _⟩ := wd_f v hv
  rw [h1, oadd]
  refine ⟨(kch 9 (by decide) _ ?_).trans (wd_c v hv k hk), kchok 9 _ (by decide) ?_⟩
  · rw [len9]; omega
  · rw [len9]; omega
theorem mtc_first {T : Nat → Int32} {ty s w : Nat} (hw : w < 6) (h : 0 < mtc T ty s (wd w)) : s < ty ∧ vb (T s) = some w := by
  obtain ⟨_, _, h4, _, _, _, _, _, _, hv⟩ := wd_f w hw
  cases hl : wd w with
  | nil => rw [hl] at h4; exact absurd h4 (by decide)
  | cons c cs =>
    rw [hl] at h hv
    unfold mtc at h
    split at h
    · rename_i h1
      exact ⟨h1.1, by rw [h1.2]; exact hv⟩
    · exact absurd h (by decide)
theorem L_word {T : Nat → Int32} {ty s w : Nat} {M : StM} (h : RdM T ty M s) (hw : w < 6) (a1 a2 : Int32) : ∀ (g n k : Nat), k + g = (wd w).length → g < n → ok_X7_kindHere_L36 n M a1 a2 (Int32.ofNat w) (Int32.ofNat (wd w).length) (Int32.ofNat k) ∧ f_X7_kindHere_L36 n M a1 a2 (Int32.ofNat w) (Int32.ofNat (wd w).length) (Int32.ofNat k) = Int32.ofNat (k + mtc T ty (s + k) ((wd w).drop k)) := by
  obtain ⟨a1', a2', a3, a4, a5, a6⟩ := h
  have hlen := (wd_f w hw).2.2.2.1
  intro g
  induction g with
  | zero =>
    intro n k hk hn
    obtain ⟨n, rfl⟩ : ∃ q, n = q + 1 := ⟨n - 1, by omega⟩
    have hkl : k = (wd w).length := by omega
    subst hkl
    have w1 : Int32.ofNat (wd w).length ≤ Int32.ofNat (wd w).length := (le_ofN (by omega) (by omega)).mpr (Nat.le_refl _)
    refine ⟨⟨fun _ => trivial, fun h9 => absurd w1 h9⟩, ?_⟩
    rw [f_X7_kindHere_L36, if_pos w1, List.drop_length]
    rfl
  | succ g ih =>
    intro n k hk hn
    obtain ⟨n, rfl⟩ : ∃ q, n = q + 1 := ⟨n - 1, by omega⟩
    have w1 : ¬ Int32.ofNat (wd w).length ≤ Int32.ofNat k := by
      rw [le_ofN (by omega) (by omega)]
      omega
    have w2 : (mi M 16 ≤ mi M 17 + Int32.ofNat k) ↔ ty ≤ s + k := by
      rw [a3, a4, oadd]
      exact le_ofN (by omega) (by omega)
    obtain ⟨c1, c2⟩ := wch hw (k := k) (by omega)
    have hd : (wd w).drop k = (wd w).getD k 0 :: (wd w).drop (k + 1) := by
      rw [List.drop_eq_getElem_cons (by omega : k < (wd w).length), List.getD_eq_getElem?_getD, List.getElem?_eq_getElem (by omega)]
      rfl
    have hm : mtc T ty (s + k) ((wd w).drop k) = if s + k < ty ∧ T (s + k) = (wd w).getD k 0 then 1 + mtc T ty (s + k + 1) ((wd w).drop (k + 1)) else 0 := by
      rw [hd]
      rfl
    rw [hm]
    by_cases hty : ty ≤ s + k
    · rw [if_neg (by omega)]
      refine ⟨⟨fun h9 => absurd h9 w1, fun _ => ⟨fun _ => trivial, fun h9 => absurd (w2.mpr hty) h9⟩⟩, ?_⟩
      rw [f_X7_kindHere_L36, if_neg w1, if_pos (w2.mpr hty)]
      rfl
    · have hx : ix (mi M 17 + Int32.ofNat k) = s + k := by
        rw [a4, oadd]
        exact ix_o (by omega)
      have hv : vp_in (mi M 17 + Int32.ofNat k) 60 := by
        rw [a4, oadd]
        exact in_o (by omega) (by omega)
      have hn2 := mt w2.mp hty
      obtain ⟨r1, r2⟩ := ih n (k + 1) (by omega) (by omega)
      by_cases hc : T (s + k) = (wd w).getD k 0
      · rw [if_pos ⟨by omega, hc⟩]
        have hc' : ma M 5 (ix (mi M 17 + Int32.ofNat k)) = f_J0_charAt_5068e 9 (f_X7_startOf (Int32.ofNat w) + Int32.ofNat k) := by
          rw [hx, a6 _ (by omega), c1, hc]
        refine ⟨⟨fun h9 => absurd h9 w1, fun _ => ⟨fun h9 => absurd h9 hn2, fun _ => ⟨hv, ?_⟩⟩⟩, ?_⟩
        · intro r hr
          rw [hr]
          refine ⟨c2, ?_⟩
          intro r' hr'
          rw [hr', oad1]
          exact ⟨fun _ => r1, fun h9 => absurd hc' h9⟩
        · rw [f_X7_kindHere_L36, if_neg w1, if_neg hn2, nm_eq, nm_eq, if_pos hc', oad1, r2]
          congr 1
          rw [show s + (k + 1) = s + k + 1 by omega]
          omega
      · rw [if_neg (fun h => hc h.2)]
        have hc' : ¬ ma M 5 (ix (mi M 17 + Int32.ofNat k)) = f_J0_charAt_5068e 9 (f_X7_startOf (Int32.ofNat w) + Int32.ofNat k) := by
          rw [hx, a6 _ (by omega), c1]
          exact hc
        refine ⟨⟨fun h9 => absurd h9 w1, fun _ => ⟨fun h9 => absurd h9 hn2, fun _ => ⟨hv, ?_⟩⟩⟩, ?_⟩
        · intro r hr
          rw [hr]
          refine ⟨c2, ?_⟩
          intro r' hr'
          rw [hr']
          exact ⟨fun h9 => absurd h9 hc', fun _ => trivial⟩
        · rw [f_X7_kindHere_L36, if_neg w1, if_neg hn2, nm_eq, nm_eq, if_neg hc']
          rfl
/-- the loop over words -/
theorem L_kind {T : Nat → Int32} {ty s : Nat} {M : StM} (h : RdM T ty M s) : ∀ (g n w f : Nat), w + g = 6 → g < n → s ≤ f → f ≤ 100 → ok_X7_kindHere_L9 n M (Int32.ofNat f) (-1) (Int32.ofNat w) ∧ ((∀ v, w ≤ v → v < 6 → mtc T ty s (wd v) = 0) → f_X7_kindHere_L9 n M (Int32.ofNat f) (-1) (Int32.ofNat w) = (Int32.ofNat f, -1)) ∧ (∀ v, w ≤ v → v < 6 → 0 < mtc T ty s (wd v) → f = s → f_X7_kindHere_L9 n M (Int32.ofNat f) (-1) (Int32.ofNat w) = (Int32.ofNat (s + mtc T ty s (wd v)), if mtc T ty s (wd v) = (wd v).length then Int32.ofNat v else -1)) := by
  intro g
  induction g with
  | zero =>
    intro n w f hw hn hf hf2
    obtain ⟨n, rfl⟩ : ∃ q, n = q + 1 := ⟨n - 1, by omega⟩
    have hw6 : w = 6 := by omega
    subst hw6
    have w1 : (6 : Int32) ≤ Int32.ofNat 6 := by decide
    refine ⟨⟨fun _ => trivial, fun h9 => absurd w1 h9⟩, fun _ => ?_, fun v h1 h2 => by omega⟩
    rw [f_X7_kindHere_L9, if_pos w1]
  | succ g ih =>
    intro n w f hw hn hf hf2
    obtain ⟨n, rfl⟩ : ∃ q, n = q + 1 := ⟨n - 1, by omega⟩
    have w6 : w < 6 := by omega
    have w1 : ¬ (6 : Int32) ≤ Int32.ofNat w := by
      rw [show (6 : Int32) = Int32.ofNat 6 from rfl, le_ofN (by omega) (by omega)]
      omega
    obtain ⟨q1, q2, q3, q4, q5, q6, q7, q8, q9, q10⟩ := wd_f w w6
    have hfu : (wd w).length < fu := by unfold fu; omega
    have ev : f_X7_startOf (Int32.ofNat w + 1) - f_X7_startOf (Int32.ofNat w) = Int32.ofNat (wd w).length := by
      rw [q9, q5, osub (by omega)]
      congr 1
      omega
    have L := L_word h w6 (Int32.ofNat f) (-1) (wd w).length fu 0 (by omega) hfu
    clear hfu
    rw [Nat.add_zero, List.drop_zero, Nat.zero_add] at L
    have hmle := mtc_le T ty (wd w) s
    have hty := h.1
    have hst := h.2.1
    have hs' := hmle.2 hst
    have emx : mx (Int32.ofNat f) (mi M 17 + Int32.ofNat (mtc T ty s (wd w))) = Int32.ofNat (max f (s + mtc T ty s (wd w))) := by
      rw [h.2.2.2.1, oadd]
      unfold mx
      by_cases hlt : f < s + mtc T ty s (wd w)
      · rw [if_pos ((lt_ofN (by omega) (by omega)).mpr hlt)]
        congr 1
        omega
      · rw [if_neg (mt (lt_ofN (by omega) (by omega)).mp hlt)]
        congr 1
        omega
    have eqlen : (Int32.ofNat (mtc T ty s (wd w)) = Int32.ofNat (wd w).length) ↔ mtc T ty s (wd w) = (wd w).length := ofN_inj (by omega) (by omega)
    have step : f_X7_kindHere_L9 (n + 1) M (Int32.ofNat f) (-1) (Int32.ofNat w) = if mtc T ty s (wd w) = (wd w).length then f_X7_kindHere_L9 n M (Int32.ofNat (max f (s + mtc T ty s (wd w)))) (Int32.ofNat w) (Int32.ofNat (w + 1)) else f_X7_kindHere_L9 n M (Int32.ofNat (max f (s + mtc T ty s (wd w)))) (-1) (Int32.ofNat (w + 1)) := by
      rw [f_X7_kindHere_L9, if_neg w1, if_pos rfl, nm_eq, nm_eq, nm_eq, ev]
      have z0 : f_X7_kindHere_L36 fu M (Int32.ofNat f) (-1) (Int32.ofNat w) (Int32.ofNat (wd w).length) 0 = Int32.ofNat (mtc T ty s (wd w)) := L.2
      rw [z0, nm_eq, nm_eq, emx, oad1]
      by_cases hfull : mtc T ty s (wd w) = (wd w).length
      · rw [if_pos (eqlen.mpr hfull), if_pos hfull]
      · rw [if_neg (mt eqlen.mp hfull), if_neg hfull]
    obtain ⟨r1, r2, r3⟩ := ih n (w + 1) (max f (s + mtc T ty s (wd w))) (by omega) (by omega) (by omega) (by omega)
    have stop : ∀ a, f_X7_kindHere_L9 n M a (Int32.ofNat w) (Int32.ofNat (w + 1)) = (a, Int32.ofNat w) ∧ ok_X7_kindHere_L9 n M a (Int32.ofNat w) (Int32.ofNat (w + 1)) := by
      intro a
      obtain ⟨n, rfl⟩ : ∃ q, n = q + 1 := ⟨n - 1, by omega⟩
      have hne := ne1 (s := w) (by omega)
      refine ⟨?_, fun _ => trivial, fun _ => ⟨fun h9 => absurd h9 hne, fun _ => trivial⟩⟩
      rw [f_X7_kindHere_L9]
      by_cases h6 : (6 : Int32) ≤ Int32.ofNat (w + 1)
      · rw [if_pos h6]
      · rw [if_neg h6, if_neg hne]
    refine ⟨?_, fun hz => ?_, fun v hv1 hv2 hv3 hfs => ?_⟩
    · refine ⟨fun h9 => absurd h9 w1, fun _ => ⟨fun _ => ?_, fun h9 => absurd rfl h9⟩⟩
      intro r4 hr4 r5 hr5 v6 hv6
      have e6 : v6 = Int32.ofNat (wd w).length := by rw [hv6, hr4, hr5, ev]
      rw [e6]
      refine ⟨L.1, ?_⟩
      intro z hz
      have ez : z = Int32.ofNat (mtc T ty s (wd w)) := hz.trans L.2
      rw [ez]
      intro v15 hv15
      rw [hv15, emx, oad1]
      refine ⟨fun _ => (stop _).2, fun _ => r1⟩
    · have h0 := hz w (Nat.le_refl w) w6
      rw [step, h0, if_neg (by omega)]
      have : max f (s + 0) = f := by omega
      rw [this]
      rw [h0, this] at r2
      exact r2 (fun v h1 h2 => hz v (by omega) h2)
    · by_cases hvw : v = w
      · subst hvw
        rw [step]
        have hmax : max f (s + mtc T ty s (wd v)) = s + mtc T ty s (wd v) := by omega
        rw [hmax] at r2 ⊢
        by_cases hfull : mtc T ty s (wd v) = (wd v).length
        · rw [if_pos hfull, if_pos hfull, (stop _).1]
        · rw [if_neg hfull, if_neg hfull]
          refine r2 (fun v' h1 h2 => ?_)
          apply Nat.eq_zero_of_not_pos
          intro hpos
          have e1 := (mtc_first h2 hpos).2
          have e2 := (mtc_first hv2 hv3).2
          rw [e1] at e2
          have := Option.some.inj e2
          omega
      · have h0 : mtc T ty s (wd w) = 0 := by
          apply Nat.eq_zero_of_not_pos
          intro hpos
          have e1 := (mtc_first w6 hpos).2
          have e2 := (mtc_first hv2 hv3).2
          rw [e1] at e2
          exact hvw (Option.some.inj e2).symm
        rw [step, h0, if_neg (by omega)]
        have : max f (s + 0) = f := by omega
        rw [this]
        rw [h0, this] at r3
        exact r3 v (by omega) hv2 hv3 hfs
