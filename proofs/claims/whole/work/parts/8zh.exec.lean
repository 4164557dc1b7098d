/-! the pure part: a program obeyed -/
def GF (B C : StB) : Prop := bz C = bz B ∧ (∀ q k, (q < 16 ∨ (32 ≤ q ∧ q < 179) ∨ 182 ≤ q) → bi C q k = bi B q k ∧ bl C q k = bl B q k ∧ ba C q k = ba B q k) ∧ (∀ e q R, (q = 0 ∨ 32 ≤ q) → q + 16 ≤ 179 → LR e B q R → LR e C q R)
theorem GF_r (B : StB) : GF B B := ⟨rfl, fun _ _ _ => ⟨rfl, rfl, rfl⟩, fun _ _ _ _ _ h => h⟩
theorem GF_t {B C D : StB} (h : GF B C) (h2 : GF C D) : GF B D := ⟨h2.1.trans h.1, fun q k hq => ⟨(h2.2.1 q k hq).1.trans (h.2.1 q k hq).1, (h2.2.1 q k hq).2.1.trans (h.2.1 q k hq).2.1, (h2.2.1 q k hq).2.2.trans (h.2.1 q k hq).2.2⟩, fun e q R h3 h4 h5 => h2.2.2 e q R h3 h4 (h.2.2 e q R h3 h4 h5)⟩
theorem GF_16 {B C : StB} (h : Fr 16 B C) : GF B C := ⟨h.1, fun q k hq => h.2 q k (by omega), fun e q R h3 h4 h5 => LR_Fg h5 (Fr_Fg h) (by omega)⟩
theorem GF_179 {B C : StB} (h : Fg 179 182 B C) : GF B C := ⟨h.1, fun q k hq => h.2 q k (by omega), fun e q R h3 h4 h5 => LR_Fg h5 h (by omega)⟩
theorem L_exec {T : Nat → Int32} {ty : Nat} (hty : ty ≤ 60) (hT : ∀ k, k < ty → 32 ≤ (T k).toInt ∧ (T k).toInt ≤ 126) : ∀ (m n1 n2 k s e n t : Nat) (C : StB) (M : StM), HP T ty M m k s → m < n1 → m < n2 → 5 * (k + m) ≤ 61 → Ti 0 n 0 0 t C 16 (ma M 0) → RB e (60 * e) n t 0 0 (ma M 0) → e + m < 600 → bi C 179 1 = Int32.ofNat ty → bi C 179 2 = Int32.ofNat s → (∀ k, k < ty → ba C 180 k = T k) → mi M 19 = Int32.ofNat (k + m) → mi M 15 = 0 → ok_X6_execute_L60 n1 C (Int32.ofNat (k + m)) (Int32.ofNat k) ∧ GF C (f_X6_execute_L60 n1 C (Int32.ofNat (k + m)) (Int32.ofNat k)).2 ∧ (((f_X6_execute_L60 n1 C (Int32.ofNat (k + m)) (Int32.ofNat k)).1 = Int32.ofNat (k + m) ∧ ∃ n' t' M', Ti 0 n' 0 0 t' (f_X6_execute_L60 n1 C (Int32.ofNat (k + m)) (Int32.ofNat k)).2 16 (ma M' 0) ∧ RB (e + m) (60 * (e + m)) n' t' 0 0 (ma M' 0) ∧ mi M' 15 = 0 ∧ (∀ j, j ≠ 15 → j ≠ 10 → mi M' j = mi M j) ∧ (∀ q k, q ≠ 0 → ma M' q k = ma M q k) ∧ f_X7_execute_L38 n2 M (Int32.ofNat k) = f_X7_ends M' (Int32.ofNat (k + m)) ∧ (ok_X7_ends M' (Int32.ofNat (k + m)) → ok_X7_execute_L38 n2 M (Int32.ofNat k))) ∨ (∃ i, i < k + m ∧ (f_X6_execute_L60 n1 C (Int32.ofNat (k + m)) (Int32.ofNat k)).1 = Int32.ofNat i ∧ ok_X7_execute_L38 n2 M (Int32.ofNat k) ∧ ∃ M', f_X7_execute_L38 n2 M (Int32.ofNat k) = (0, mcp M' 1 0 0 0 124) ∧ mi M' 8 = Int32.ofNat i ∧ mi M' 15 = 2 ∧ (∀ j, j ≠ 15 → j ≠ 10 → j ≠ 8 → mi M' j = mi M j) ∧ (∀ q k, q ≠ 0 → ma M' q k = ma M q k))) := by
  intro m
  induction m with
  | zero =>
    intro n1 n2 k s e n t C M hp hn1 hn2 h5 lT lR he b1 b2 b3 m19 m15
    obtain ⟨n1, rfl⟩ : ∃ q, n1 = q + 1 := ⟨n1 - 1, by omega⟩
    obtain ⟨n2, rfl⟩ : ∃ q, n2 = q + 1 := ⟨n2 - 1, by omega⟩
    have w : Int32.ofNat (k + 0) ≤ Int32.ofNat k := (le_ofN (by omega) (by omega)).mpr (by omega)
    have w2 : mi M 19 ≤ Int32.ofNat k := by rw [m19]; exact w
    have e1 : f_X6_execute_L60 (n1 + 1) C (Int32.ofNat (k + 0)) (Int32.ofNat k) = (Int32.ofNat k, C) := by rw [f_X6_execute_L60, if_pos w]
    have e2 : f_X7_execute_L38 (n2 + 1) M (Int32.ofNat k) = f_X7_ends M (Int32.ofNat (k + 0)) := by
      rw [f_X7_execute_L38, if_pos w2, nm_eq, m19]
    rw [e1, e2]
    refine ⟨⟨fun _ => trivial, fun h9 => absurd w h9⟩, GF_r C, Or.inl ⟨rfl, n, t, M, lT, lR, m15, fun _ _ _ => rfl, fun _ _ _ => rfl, rfl, fun ho => ⟨fun _ => ?_, fun h9 => absurd w2 h9⟩⟩⟩
    rw [m19]
    exact ho
  | succ m ih =>
    intro n1 n2 k s e n t C M hp hn1 hn2 h5 lT lR he b1 b2 b3 m19 m15
    obtain ⟨n1, rfl⟩ : ∃ q, n1 = q + 1 := ⟨n1 - 1, by omega⟩
    obtain ⟨n2, rfl⟩ : ∃ q, n2 = q + 1 := ⟨n2 - 1, by omega⟩
    obtain ⟨p1, ⟨v, p2, p3, p4⟩, p5, p6⟩ := hp
    have w : ¬ Int32.ofNat (k + (m + 1)) ≤ Int32.ofNat k := by
      rw [le_ofN (by omega) (by omega)]
      omega
    have w2 : ¬ mi M 19 ≤ Int32.ofNat k := by rw [m19]; exact w
    obtain ⟨r1, r2, r3, r4, r5, r6, r7⟩ := rcC (s := s) ⟨hty, by omega, b1, b2, b3⟩ hT
    obtain ⟨i1, i2, i3⟩ := pc_ind T ty s (ba C 181) (fun _ => 0)
    rw [i1, if_pos p5] at r2
    rw [i2] at r3
    have r6' := r6 v p1 p2
    have hv6 := (vb_in p2).2
    have lT1 := Ti_Fg lT r5 (by omega)
    have hne : ¬ (f_X4_readCommand C).1 = 0 := by rw [r2]; decide
    have r4' : ∀ j, j < cnt (kByt.getD (2 + v) []) → ma M 7 (5 * k + 1 + j) = ba (f_X4_readCommand C).2 181 j := by
      intro j hj
      rw [r4 j, p4 j hj, i3 (by rw [i1]; exact p5) v p2 j hj]
    have em : 5 * Int32.ofNat k = Int32.ofNat (5 * k) := by
      rw [Int32.ofNat_mul]
      rfl
    have g1 := GF_179 r5
    have ef : f_X6_execute_L60 (n1 + 1) C (Int32.ofNat (k + (m + 1))) (Int32.ofNat k) = if (f_X3_obey 16 (f_X4_readCommand C).2 (Int32.ofNat v)).1 = 0 then f_X6_execute_L60 n1 (sbi (f_X3_obey 16 (f_X4_readCommand C).2 (Int32.ofNat v)).2 179 2 (bi (f_X3_obey 16 (f_X4_readCommand C).2 (Int32.ofNat v)).2 179 2 + 1)) (Int32.ofNat (k + (m + 1))) (Int32.ofNat (k + 1)) else (Int32.ofNat k, (f_X3_obey 16 (f_X4_readCommand C).2 (Int32.ofNat v)).2) := by
      rw [f_X6_execute_L60, if_neg w, nm_eq, if_neg hne, r6', nm_eq, oad1]
      split <;> rfl
    have eo : ok_X3_obey 16 (f_X4_readCommand C).2 (Int32.ofNat v) → ((f_X3_obey 16 (f_X4_readCommand C).2 (Int32.ofNat v)).1 = 0 → ok_X6_execute_L60 n1 (sbi (f_X3_obey 16 (f_X4_readCommand C).2 (Int32.ofNat v)).2 179 2 (bi (f_X3_obey 16 (f_X4_readCommand C).2 (Int32.ofNat v)).2 179 2 + 1)) (Int32.ofNat (k + (m + 1))) (Int32.ofNat (k + 1))) → ok_X6_execute_L60 (n1 + 1) C (Int32.ofNat (k + (m + 1))) (Int32.ofNat k) := by
      intro o1 o2
      refine ⟨fun h9 => absurd h9 w, fun _ => ⟨r1, ?_⟩⟩
      intro z hz
      rw [hz]
      refine ⟨fun h9 => absurd h9 hne, fun _ => ?_⟩
      rw [r6', oad1]
      refine ⟨o1, ?_⟩
      intro y hy
      rw [hy]
      refine ⟨fun h0 => ?_, fun _ => trivial⟩
      intro D hD
      rw [hD]
      exact o2 h0
    have em1 : f_X7_execute_L38 (n2 + 1) M (Int32.ofNat k) = if mi (f_X7_does M (Int32.ofNat (5 * k))).2 15 = 0 then f_X7_execute_L38 n2 (f_X7_does M (Int32.ofNat (5 * k))).2 (Int32.ofNat (k + 1)) else (0, mcp (smi (smi (f_X7_does M (Int32.ofNat (5 * k))).2 8 (Int32.ofNat k)) 15 2) 1 0 0 0 124) := by
      have F := F_copies_M1_M0 (smi (smi (f_X7_does M (Int32.ofNat (5 * k))).2 8 (Int32.ofNat k)) 15 2) 0 0 (by omega) (by omega)
      rw [f_X7_execute_L38, if_neg w2, em, nm_eq, oad1]
      split
      · rfl
      · exact congrArg (fun v => ((0 : Int32), v)) F.1
    have om1 : ok_X7_does M (Int32.ofNat (5 * k)) → (mi (f_X7_does M (Int32.ofNat (5 * k))).2 15 = 0 → ok_X7_execute_L38 n2 (f_X7_does M (Int32.ofNat (5 * k))).2 (Int32.ofNat (k + 1))) → ok_X7_execute_L38 (n2 + 1) M (Int32.ofNat k) := by
      intro o1 o2
      refine ⟨fun h9 => absurd h9 w2, fun _ => ?_⟩
      rw [em, oad1]
      refine ⟨o1, ?_⟩
      intro z hz
      rw [hz]
      refine ⟨o2, fun _ => ?_⟩
      intro N1 h1 N2 h2
      exact (F_copies_M1_M0 N2 0 0 (by omega) (by omega)).2
    obtain ⟨q1, q2, q3, q4, q5⟩ := r3
    generalize f_X4_readCommand C = z1 at r1 r2 r4 r5 r6' lT1 hne r4' g1 ef eo q3 q4 q5
    obtain ⟨c1, c2, c3⟩ := obey_k lT1 lR (by omega) hv6 p3 r4' (by omega)
    rcases c3 with ⟨j, j1, j2, j3, j4⟩ | ⟨f0, n', t', R', x, j2, j3, j4, j5⟩
    · have hne15 : ¬ mi (f_X7_does M (Int32.ofNat (5 * k))).2 15 = 0 := by
        rw [j2, mi_smi, if_pos rfl, show (0 : Int32) = Int32.ofNat 0 from rfl, ofN_inj (by omega) (by omega)]
        omega
      rw [if_neg j3, j4] at ef
      rw [if_neg hne15] at em1
      rw [ef, em1]
      refine ⟨eo c1 (fun h9 => absurd h9 j3), g1, Or.inr ⟨k, by omega, rfl, om1 c2 (fun h9 => absurd h9 hne15), _, rfl, ?_, ?_, ?_, ?_⟩⟩
      · rw [mi_smi, if_neg (by decide), mi_smi, if_pos rfl]
      · rw [mi_smi, if_pos rfl]
      · intro i h1 h2 h3
        rw [mi_smi, if_neg h1, mi_smi, if_neg h3, j2, mi_smi, if_neg h1]
      · intro q i hq
        rw [ma_smi, ma_smi, j2, ma_smi]
    · have h15 : mi (f_X7_does M (Int32.ofNat (5 * k))).2 15 = 0 := by
        rw [j2, mi_rs, mi_smi, if_neg (by decide), mi_smi, if_pos rfl]
      rw [if_pos f0] at ef
      rw [if_pos h15] at em1
      generalize f_X3_obey 16 z1.2 (Int32.ofNat v) = z2 at c1 f0 j4 j5 ef eo
      generalize (f_X7_does M (Int32.ofNat (5 * k))).2 = N at h15 j2 em1 om1
      have nm0 : ma N 0 = R' := by rw [j2]; rfl
      have nmi : ∀ j, j ≠ 15 → j ≠ 10 → mi N j = mi M j := by
        intro i h1 h2
        rw [j2, mi_rs, mi_smi, if_neg h2, mi_smi, if_neg h1]
      have nma : ∀ q k, q ≠ 0 → ma N q k = ma M q k := by
        intro q i hq
        rw [j2, ma_rs _ _ hq, ma_smi, ma_smi]
      have b2' : bi z2.2 179 2 + 1 = Int32.ofNat ((pc T ty s (fun _ => 0)).2.1 + 1) := by
        rw [(j4.2 179 2 (by omega)).1, q4, oad1]
      rw [b2'] at ef eo
      have gg : Fg 179 182 z2.2 (sbi z2.2 179 2 (Int32.ofNat ((pc T ty s (fun _ => 0)).2.1 + 1))) := Fg_i (Fg_r _ _ _) _ _ (by omega) (by omega)
      have lT2 : Ti 0 n' 0 0 t' (sbi z2.2 179 2 (Int32.ofNat ((pc T ty s (fun _ => 0)).2.1 + 1))) 16 (ma N 0) := by
        rw [nm0]
        exact Ti_Fg j5 gg (by omega)
      rw [← nm0] at j3
      obtain ⟨k1, k2, k3⟩ := ih n1 n2 (k + 1) ((pc T ty s (fun _ => 0)).2.1 + 1) (e + 1) n' t' (sbi z2.2 179 2 (Int32.ofNat ((pc T ty s (fun _ => 0)).2.1 + 1))) N (HP_cong m (k + 1) _ (fun i _ => nma 7 i (by decide)) p6) (by omega) (by omega) (by omega) lT2 j3 (by omega) (by
        rw [bi_sbi, if_neg (by omega), (j4.2 179 1 (by omega)).1]
        exact q3) (by rw [bi_sbi, if_pos ⟨rfl, rfl⟩]) (fun i hi => by
        show ba z2.2 180 i = T i
        rw [(j4.2 180 i (by omega)).2.2]
        exact q5 i hi) (by
        rw [nmi 19 (by decide) (by decide), m19]
        exact congrArg Int32.ofNat (by omega)) h15
      have g3 : GF C (sbi z2.2 179 2 (Int32.ofNat ((pc T ty s (fun _ => 0)).2.1 + 1))) := GF_t g1 (GF_t (GF_16 j4) (GF_179 gg))
      have ek : k + 1 + m = k + (m + 1) := by omega
      rw [ek] at k1 k2 k3
      rw [ef, em1]
      refine ⟨eo c1 (fun _ => k1), GF_t g3 k2, ?_⟩
      rcases k3 with ⟨l1, n3, t3, M3, l2, l3, l4, l5, l6, l7, l8⟩ | ⟨i, l1, l2, l3, M3, l4, l5, l6, l7, l8⟩
      · refine Or.inl ⟨l1, n3, t3, M3, l2, ?_, l4, fun j h1 h2 => (l5 j h1 h2).trans (nmi j h1 h2), fun q i hq => (l6 q i hq).trans (nma q i hq), l7, fun ho => om1 c2 (fun _ => l8 ho)⟩
        rw [show e + (m + 1) = e + 1 + m by omega]
        exact l3
      · exact Or.inr ⟨i, l1, l2, om1 c2 (fun _ => l3), M3, l4, l5, l6, fun j h1 h2 h3 => (l7 j h1 h2 h3).trans (nmi j h1 h2), fun q i hq => (l8 q i hq).trans (nma q i hq)⟩
