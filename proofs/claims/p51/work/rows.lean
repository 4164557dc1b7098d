section
-- ===== PART A: goes FIRST, ahead of the names: the tables' words, and 'selects' of the private methods out of them =====
/-- a private method of a class that the tables say can be made, by its rows of tables_1 -/
def lw_okq (q : MethodName × Nat) : Prop := (q.1.cls ≠ "java/lang/invoke/MethodHandle" ∧ q.1.cls ≠ "java/lang/invoke/VarHandle") ∧ Cond.instantiable q.1.cls q.2 ∈ tables_1 ∧ Cond.privateMethod q.1 ∈ tables_1 ∧ Cond.instanceMethod q.1 ∈ tables_1
theorem lw_p0 : lw_okq (⟨"java/lang/Throwable", "fillInStackTrace", "(I)Ljava/lang/Throwable;"⟩, 6) := ⟨⟨by decide +kernel, by decide +kernel⟩, List.mem_of_getElem? (i := 355) (by decide +kernel), List.mem_of_getElem? (i := 353) (by decide +kernel), List.mem_of_getElem? (i := 354) (by decide +kernel)⟩
theorem lw_p1 : lw_okq (⟨"InkBank$Ledger", "argumentFault", "(IIII)I"⟩, 11) := ⟨⟨by decide +kernel, by decide +kernel⟩, List.mem_of_getElem? (i := 41) (by decide +kernel), List.mem_of_getElem? (i := 544) (by decide +kernel), List.mem_of_getElem? (i := 545) (by decide +kernel)⟩
theorem lw_p2 : lw_okq (⟨"InkBank$Ledger", "settleDue", "()I"⟩, 11) := ⟨⟨by decide +kernel, by decide +kernel⟩, List.mem_of_getElem? (i := 41) (by decide +kernel), List.mem_of_getElem? (i := 630) (by decide +kernel), List.mem_of_getElem? (i := 631) (by decide +kernel)⟩
theorem lw_p3 : lw_okq (⟨"InkBank$Ledger", "settle", "(I)Z"⟩, 11) := ⟨⟨by decide +kernel, by decide +kernel⟩, List.mem_of_getElem? (i := 41) (by decide +kernel), List.mem_of_getElem? (i := 635) (by decide +kernel), List.mem_of_getElem? (i := 636) (by decide +kernel)⟩
theorem lw_p4 : lw_okq (⟨"InkBank$Ledger", "collect", "(CII)V"⟩, 11) := ⟨⟨by decide +kernel, by decide +kernel⟩, List.mem_of_getElem? (i := 41) (by decide +kernel), List.mem_of_getElem? (i := 643) (by decide +kernel), List.mem_of_getElem? (i := 644) (by decide +kernel)⟩
theorem lw_p5 : lw_okq (⟨"InkBank$Ledger", "payInterest", "()V"⟩, 11) := ⟨⟨by decide +kernel, by decide +kernel⟩, List.mem_of_getElem? (i := 41) (by decide +kernel), List.mem_of_getElem? (i := 648) (by decide +kernel), List.mem_of_getElem? (i := 649) (by decide +kernel)⟩
theorem lw_p6 : lw_okq (⟨"InkBank$Accounts", "fullCharge", "(I)I"⟩, 5) := ⟨⟨by decide +kernel, by decide +kernel⟩, List.mem_of_getElem? (i := 47) (by decide +kernel), List.mem_of_getElem? (i := 656) (by decide +kernel), List.mem_of_getElem? (i := 657) (by decide +kernel)⟩
theorem lw_p7 : lw_okq (⟨"InkBank$Reader", "readSign", "(C)Z"⟩, 5) := ⟨⟨by decide +kernel, by decide +kernel⟩, List.mem_of_getElem? (i := 210) (by decide +kernel), List.mem_of_getElem? (i := 794) (by decide +kernel), List.mem_of_getElem? (i := 795) (by decide +kernel)⟩
theorem lw_p8 : lw_okq (⟨"InkBank$Reader", "readNumber", "(I)I"⟩, 5) := ⟨⟨by decide +kernel, by decide +kernel⟩, List.mem_of_getElem? (i := 210) (by decide +kernel), List.mem_of_getElem? (i := 798) (by decide +kernel), List.mem_of_getElem? (i := 799) (by decide +kernel)⟩
theorem lw_p9 : lw_okq (⟨"InkBank$Reader", "isDigitHere", "()Z"⟩, 5) := ⟨⟨by decide +kernel, by decide +kernel⟩, List.mem_of_getElem? (i := 210) (by decide +kernel), List.mem_of_getElem? (i := 802) (by decide +kernel), List.mem_of_getElem? (i := 803) (by decide +kernel)⟩
theorem lw_p10 : lw_okq (⟨"InkBank$Ledger", "faultOf", "(I[I)I"⟩, 11) := ⟨⟨by decide +kernel, by decide +kernel⟩, List.mem_of_getElem? (i := 41) (by decide +kernel), List.mem_of_getElem? (i := 817) (by decide +kernel), List.mem_of_getElem? (i := 818) (by decide +kernel)⟩
theorem lw_p11 : lw_okq (⟨"InkBank$Transfers", "positionOf", "(I)I"⟩, 7) := ⟨⟨by decide +kernel, by decide +kernel⟩, List.mem_of_getElem? (i := 80) (by decide +kernel), List.mem_of_getElem? (i := 852) (by decide +kernel), List.mem_of_getElem? (i := 853) (by decide +kernel)⟩
theorem lw_p12 : lw_okq (⟨"InkBank", "requireAccount", "(I)V"⟩, 10) := ⟨⟨by decide +kernel, by decide +kernel⟩, List.mem_of_getElem? (i := 33) (by decide +kernel), List.mem_of_getElem? (i := 869) (by decide +kernel), List.mem_of_getElem? (i := 870) (by decide +kernel)⟩
theorem lw_p13 : lw_okq (⟨"InkBank$Accounts", "rankOf", "(I)I"⟩, 5) := ⟨⟨by decide +kernel, by decide +kernel⟩, List.mem_of_getElem? (i := 47) (by decide +kernel), List.mem_of_getElem? (i := 882) (by decide +kernel), List.mem_of_getElem? (i := 883) (by decide +kernel)⟩
theorem lw_p14 : lw_okq (⟨"InkBank", "requireTransfer", "(I)I"⟩, 10) := ⟨⟨by decide +kernel, by decide +kernel⟩, List.mem_of_getElem? (i := 33) (by decide +kernel), List.mem_of_getElem? (i := 898) (by decide +kernel), List.mem_of_getElem? (i := 899) (by decide +kernel)⟩
theorem lw_p15 : lw_okq (⟨"InkBank", "requireMovement", "(I)I"⟩, 10) := ⟨⟨by decide +kernel, by decide +kernel⟩, List.mem_of_getElem? (i := 33) (by decide +kernel), List.mem_of_getElem? (i := 935) (by decide +kernel), List.mem_of_getElem? (i := 936) (by decide +kernel)⟩
def lw_privs_1 : List (MethodName × Nat) := [(⟨"java/lang/Throwable", "fillInStackTrace", "(I)Ljava/lang/Throwable;"⟩, 6), (⟨"InkBank$Ledger", "argumentFault", "(IIII)I"⟩, 11), (⟨"InkBank$Ledger", "settleDue", "()I"⟩, 11), (⟨"InkBank$Ledger", "settle", "(I)Z"⟩, 11), (⟨"InkBank$Ledger", "collect", "(CII)V"⟩, 11), (⟨"InkBank$Ledger", "payInterest", "()V"⟩, 11), (⟨"InkBank$Accounts", "fullCharge", "(I)I"⟩, 5), (⟨"InkBank$Reader", "readSign", "(C)Z"⟩, 5), (⟨"InkBank$Reader", "readNumber", "(I)I"⟩, 5), (⟨"InkBank$Reader", "isDigitHere", "()Z"⟩, 5), (⟨"InkBank$Ledger", "faultOf", "(I[I)I"⟩, 11), (⟨"InkBank$Transfers", "positionOf", "(I)I"⟩, 7), (⟨"InkBank", "requireAccount", "(I)V"⟩, 10), (⟨"InkBank$Accounts", "rankOf", "(I)I"⟩, 5), (⟨"InkBank", "requireTransfer", "(I)I"⟩, 10), (⟨"InkBank", "requireMovement", "(I)I"⟩, 10)]
theorem lw_r1 : ∀ q ∈ lw_privs_1, lw_okq q := List.forall_mem_cons.mpr ⟨lw_p0, List.forall_mem_cons.mpr ⟨lw_p1, List.forall_mem_cons.mpr ⟨lw_p2, List.forall_mem_cons.mpr ⟨lw_p3, List.forall_mem_cons.mpr ⟨lw_p4, List.forall_mem_cons.mpr ⟨lw_p5, List.forall_mem_cons.mpr ⟨lw_p6, List.forall_mem_cons.mpr ⟨lw_p7, List.forall_mem_cons.mpr ⟨lw_p8, List.forall_mem_cons.mpr ⟨lw_p9, List.forall_mem_cons.mpr ⟨lw_p10, List.forall_mem_cons.mpr ⟨lw_p11, List.forall_mem_cons.mpr ⟨lw_p12, List.forall_mem_cons.mpr ⟨lw_p13, List.forall_mem_cons.mpr ⟨lw_p14, List.forall_mem_cons.mpr ⟨lw_p15, fun _ h => absurd h List.not_mem_nil⟩⟩⟩⟩⟩⟩⟩⟩⟩⟩⟩⟩⟩⟩⟩⟩
theorem lw_p16 : lw_okq (⟨"InkBank", "fillSums", "()V"⟩, 10) := ⟨⟨by decide +kernel, by decide +kernel⟩, List.mem_of_getElem? (i := 33) (by decide +kernel), List.mem_of_getElem? (i := 1317) (by decide +kernel), List.mem_of_getElem? (i := 1318) (by decide +kernel)⟩
def lw_privs_2 : List (MethodName × Nat) := [(⟨"InkBank", "fillSums", "()V"⟩, 10)]
theorem lw_r2 : ∀ q ∈ lw_privs_2, lw_okq q := List.forall_mem_cons.mpr ⟨lw_p16, fun _ h => absurd h List.not_mem_nil⟩
def lw_privs : List (MethodName × Nat) := lw_privs_1 ++ (lw_privs_2)
def lw_tbl : List Cond := k2_sels lw_privs ++ tables_1
theorem lw_privs_ok : ∀ q ∈ lw_privs, lw_okq q := by
  show ∀ q ∈ lw_privs_1 ++ (lw_privs_2), lw_okq q
  exact List.forall_mem_append.mpr ⟨lw_r1, lw_r2⟩
/-- the streams that the claim lets the run draw from -/
abbrev lw_cs : List Choice := [Jvm.Choice.named "NaN.bits"]
theorem lw_bits : nanBits ∈ lw_cs := by first | decide | exact List.mem_cons_self | simp [lw_cs, nanBits]
end
section
/-! ===== BEGIN words of one list among another's, by their places ===== -/
theorem goodIn_r {big : List Cond} (ws : List Cond) (ps : List Nat) (hp : ws = ps.filterMap (fun i => big[i]?)) (h : ws.all goodWord = true) : GoodIn big ws := by
  intro w hw
  have h1 := List.all_eq_true.mp h w hw
  rw [hp] at hw
  obtain ⟨i, -, hi⟩ := List.mem_filterMap.mp hw
  have hm : w ∈ big := by first | exact List.mem_of_getElem? hi | exact List.getElem?_mem hi
  exact ⟨hm, good_of_word h1⟩
theorem goodIn_app {big a b : List Cond} (ha : GoodIn big a) (hb : GoodIn big b) : GoodIn big (a ++ b) := fun w h => (List.mem_append.mp h).elim (ha w) (hb w)
theorem goodIn_ca {big a b : List Cond} {c : Cond} (ha : GoodIn big (c :: a)) (hb : GoodIn big b) : GoodIn big (c :: (a ++ b)) := fun w h => (List.mem_cons.mp h).elim (fun e => ha w (List.mem_cons.mpr (Or.inl e))) (fun h => (List.mem_append.mp h).elim (fun h => ha w (List.mem_cons.mpr (Or.inr h))) (hb w))
theorem goodIn_sub {big ws : List Cond} (hm : ∀ w ∈ ws, w ∈ big) (h : ws.all goodWord = true) : GoodIn big ws := fun w hw => ⟨hm w hw, good_of_word (List.all_eq_true.mp h w hw)⟩
/-! ===== END ===== -/

/-! ===== BEGIN new T[n][m]: the outer array a place, the inner ones among the pooled ===== -/
/-- f, but v at every address of l -/
def vr_up {α : Type} (f : Nat → α) (l : List Nat) (v : α) : Nat → α := fun a => if a ∈ l then v else f a
theorem vr_up_in {α : Type} {f : Nat → α} {l : List Nat} {v : α} {a : Nat} (h : a ∈ l) : vr_up f l v a = v := if_pos h
theorem vr_up_ne {α : Type} {f : Nat → α} {l : List Nat} {v : α} {a : Nat} (h : a ∉ l) : vr_up f l v a = f a := if_neg h
theorem vr_rows {L l : List Nat} {f : Nat → va_E} {e : va_E} (h : ∀ a, a ∈ l → a ∉ L) : va_pl L f ++ l.map (fun a => (a, e)) = va_pl (L ++ l) (vr_up f l e) := by
  unfold va_pl
  rw [List.map_append]
  congr 1
  · apply List.map_congr_left
    intro a ha
    rw [vr_up_ne (fun q => h a q ha)]
  · apply List.map_congr_left
    intro a ha
    rw [vr_up_in ha]
theorem vr_lay {X rows : va_W} {x : Nat × va_E} {pl : va_W} {D : va_G} {cl : List vw_C} {H : Heap} (hP : va_P D cl (((X ++ pl) ++ [x]) ++ rows) H) : va_P D cl ((X ++ [x]) ++ (pl ++ rows)) H := by
  rw [List.append_assoc (X ++ pl)] at hP
  have h := va_P.swap hP
  rw [← List.append_assoc X] at h
  have h2 := va_P.swap h
  rw [List.append_assoc (X ++ [x])] at h2
  exact h2
theorem vr_layD {X rows : va_W} {x : Nat × va_E} {pl : va_W} {A : Nat → Prop} (hD : va_D A (((X ++ pl) ++ [x]) ++ rows)) : va_D A ((X ++ [x]) ++ (pl ++ rows)) := by
  rw [List.append_assoc (X ++ pl)] at hD
  have h := va_D.swap hD
  rw [← List.append_assoc X] at h
  have h2 := va_D.swap h
  rw [List.append_assoc (X ++ [x])] at h2
  exact h2
theorem vr_outer (c : ClassId) (N h0 : Nat) : ∀ i : Nat, Jvm.Free.Multi.outerC c N h0 i = arrV c N (fun j => va_rf (if j < i then some (h0 + 1 + j) else none))
  | 0 => by
    show ({ cls := c, slots := Array.replicate N .null, vm := .none } : Cell) = _
    rw [arrV_new]
    refine congrArg (arrV c N) (funext fun j => ?_)
    simp [va_rf]
  | i + 1 => by
    show (Jvm.Free.Multi.outerC c N h0 i).setSlot i (.ref (h0 + 1 + i)) = _
    rw [vr_outer c N h0 i, arrV_store]
    refine congrArg (arrV c N) (funext fun j => ?_)
    by_cases e : j = i
    · subst e
      simp [updV, va_rf]
    · by_cases h : j < i
      · simp [updV, e, h, Nat.lt_succ_of_lt h]
      · simp [updV, e, h, show ¬ j < i + 1 by omega]
section VGM
variable {p : Program} {l : Launch} {e : Env} {R : Room} {s : State} {m : MethodId} {args : Array Value} {below : List Frame} {meth : Method} {c : Code} {H : Heap} {locs : List Loc} {cells slots : Nat} {Q : State → Prop}
variable {cc : ByteArray} {pc : Nat} {ls : Array Slot} {rest : List Value} {D : va_G} {cl : List vw_C} {A : Nat → Prop} {a : Nat} {tys : List (ClassId × FieldType)} {ws : va_W} {H0 : Heap}
theorem va_mna {X : va_W} {L : List Nat} {f : Nat → va_E} {cc : ByteArray} (hexec : p.tables.exec = Jvm.exec) (hb : c.code = cc) {own : String} {index : Nat} {ty : FieldType} {cy : ClassId} (hown : s.vm.findClass own = some m.cls) (hclink : (Cond.classLink own index ("[" ++ (FieldType.array ty).toString)).before args s = true) (hover : (Cond.arrayOver (.array ty)).before args s = true) (harr : (Cond.arrayClass ty).before args s = true) (hcy : s.vm.findClass (FieldType.array ty).toString = some cy)
    (hK : va_K D cl tys s) (hP : va_P D cl (X ++ va_pl L f) H) (hD : va_D A (X ++ va_pl L f)) (hS : va_S A H0 H locs) (hA : ∀ q, H0.size ≤ q → A q) {n k : Int32} {N' K' : Nat} {z : vp_A} (hn : ¬ n < 0) (hk : ¬ k < 0) (hN : n.toNatClampNeg = N') (hM : k.toNatClampNeg = K')
    (hb1 : N' * 4 ≤ 536870912) (hb2 : K' * componentBytes ty ≤ 536870912) (hb3 : K' ≤ 536870912) (hdf : fits ty (defaultValue ty) = true) (hdd : (defaultValue ty).isDefault = true) (hcells : cells + (1 + N') ≤ R.cells) (hslots : slots + (N' + N' * K') ≤ R.slots) (hz : ∀ c : ClassId, Jvm.Free.Multi.innerC c K' (defaultValue ty) = vp_cell c z) (hdg : decode cc pc = .ok (.multianewarray index 2, 4))
    (kk : ∀ (q : Nat) (r : Nat → Nat) (cA : ClassId) (H1 : Heap), (∀ i j : Nat, i < N' → j < N' → r i = r j → i = j) → (∀ i : Nat, i < N' → r i ∉ L) → va_K D cl (tys ++ [(cA, .array ty)]) s →
      va_P D cl ((X ++ [(q, .inl (cA, N', .inr (.inr (.inr (.inr (fun i => if i < N' then some (r i) else none))))))]) ++ va_pl (L ++ (List.range N').map r) (vr_up f ((List.range N').map r) (.inl (cy, z)))) H1 → va_D A ((X ++ [(q, .inl (cA, N', .inr (.inr (.inr (.inr (fun i => if i < N' then some (r i) else none))))))]) ++ va_pl (L ++ (List.range N').map r) (vr_up f ((List.range N').map r) (.inl (cy, z)))) → va_S A H0 H1 locs →
      W p l e R s m args below meth c H1 locs (cells + 1 + N') (slots + N' + N' * K') Q (F0 m (pc + 4) ls (.ref q :: rest))) : W p l e R s m args below meth c H locs cells slots Q (F0 m pc ls (.int k :: .int n :: rest)) := by
  subst hN
  subst hM
  intro T hT Xs
  obtain ⟨vm₁, cA, comp, -, fA, fC, hO, -, X', step⟩ := Xs.multianewarray2F hexec hown hclink hover harr (g := F0 m pc ls (.int k :: .int n :: rest)) rfl (by rw [hb]; exact hdg) rfl hn hk hb1 hb2 hb3 hdf hdd hcells hslots
  have ec : some cy = some comp := hcy.symm.trans fC
  cases ec
  generalize hF : Jvm.Free.Multi.fill (T.setVm vm₁) cA cy n.toNatClampNeg k.toNatClampNeg (defaultValue ty) n.toNatClampNeg = F at X' step
  have hTh : (T.setVm vm₁).heap = H := hT
  obtain ⟨f1, f2, -, -⟩ := Jvm.Free.Multi.fill_facts (T.setVm vm₁) cA cy n.toNatClampNeg k.toNatClampNeg (defaultValue ty) n.toNatClampNeg
  rw [hF, hTh] at f1 f2
  have hold : ∀ x : Nat, x < H.size → F.heap[x]? = H[x]? := fun x hx => by
    have := Jvm.Free.Multi.fill_old (T.setVm vm₁) cA cy n.toNatClampNeg k.toNatClampNeg (defaultValue ty) (a := x) (by rw [hTh]; exact hx) n.toNatClampNeg
    rw [hF, hTh] at this
    exact this
  have hrow : ∀ j : Nat, j < n.toNatClampNeg → F.heap[H.size + 1 + j]? = some (vp_cell cy z) := fun j hj => by
    have := Jvm.Free.Multi.fill_inner (T.setVm vm₁) cA cy n.toNatClampNeg k.toNatClampNeg (defaultValue ty) n.toNatClampNeg j hj
    rw [hF, hTh, hz] at this
    exact this
  have hout : Jvm.Free.Multi.outerC cA n.toNatClampNeg H.size n.toNatClampNeg = vp_cell cA (n.toNatClampNeg, .inr (.inr (.inr (.inr (fun i => if i < n.toNatClampNeg then some (H.size + 1 + i) else none))))) := by
    rw [vp_cell_q]
    exact vr_outer cA n.toNatClampNeg H.size n.toNatClampNeg
  rw [hout] at f2
  have hlt : ∀ a, a ∈ L → a < H.size := fun a ha => by
    obtain ⟨k9, hk9⟩ := va_pl_get (X := X) (f := f) ha
    exact (hP k9 _ hk9).lt
  have hnl : ∀ i : Nat, i < n.toNatClampNeg → H.size + 1 + i ∉ L := fun i _ h => by
    have := hlt _ h
    omega
  have hnm : ∀ a, a ∈ (List.range n.toNatClampNeg).map (fun i => H.size + 1 + i) → a ∉ L := fun a ha h => by
    obtain ⟨i, -, rfl⟩ := List.mem_map.mp ha
    have := hlt _ h
    omega
  have hP0 : va_P D cl (X ++ va_pl L f) F.heap := hP.kept (fun k9 x hx => hold x.1 ((hP k9 x hx).lt))
  have hP1 : va_P D cl ((X ++ va_pl L f) ++ [(H.size, .inl (cA, n.toNatClampNeg, .inr (.inr (.inr (.inr (fun i => if i < n.toNatClampNeg then some (H.size + 1 + i) else none))))))]) F.heap := hP0.app (fun k9 x hx => by
    have h0 : k9 < 1 := (List.getElem?_eq_some_iff.mp hx).1
    rw [show k9 = 0 by omega] at hx
    cases hx
    exact f2)
  have hP2 : va_P D cl (((X ++ va_pl L f) ++ [(H.size, .inl (cA, n.toNatClampNeg, .inr (.inr (.inr (.inr (fun i => if i < n.toNatClampNeg then some (H.size + 1 + i) else none))))))]) ++ ((List.range n.toNatClampNeg).map (fun i => H.size + 1 + i)).map (fun a => (a, .inl (cy, z)))) F.heap := hP1.app (fun k9 x hx => by
    obtain ⟨a, ha, rfl⟩ := List.mem_map.mp (List.mem_of_getElem? hx)
    obtain ⟨i, hi, rfl⟩ := List.mem_map.mp ha
    exact hrow i (List.mem_range.mp hi))
  have hD2 : va_D A (((X ++ va_pl L f) ++ [(H.size, .inl (cA, n.toNatClampNeg, .inr (.inr (.inr (.inr (fun i => if i < n.toNatClampNeg then some (H.size + 1 + i) else none))))))]) ++ ((List.range n.toNatClampNeg).map (fun i => H.size + 1 + i)).map (fun a => (a, .inl (cy, z)))) := by
    have hD1 := hD.push (e := .inl (cA, n.toNatClampNeg, .inr (.inr (.inr (.inr (fun i => if i < n.toNatClampNeg then some (H.size + 1 + i) else none)))))) hP rfl (hA _ hS.1)
    generalize hW1 : (X ++ va_pl L f) ++ [(H.size, .inl (cA, n.toNatClampNeg, .inr (.inr (.inr (.inr (fun i => if i < n.toNatClampNeg then some (H.size + 1 + i) else none))))))] = W1 at hD1 hP1 ⊢
    have hle : ∀ (k9 : Nat) (x : Nat × va_E), W1[k9]? = some x → x.1 ≤ H.size := fun k9 x hx => by
      rw [← hW1] at hx
      by_cases hl : k9 < (X ++ va_pl L f).length
      · rw [List.getElem?_append_left hl] at hx
        exact Nat.le_of_lt ((hP k9 x hx).lt)
      · rw [List.getElem?_append_right (by omega)] at hx
        have h0 : k9 - (X ++ va_pl L f).length < 1 := (List.getElem?_eq_some_iff.mp hx).1
        rw [show k9 - (X ++ va_pl L f).length = 0 by omega] at hx
        cases hx
        exact Nat.le_refl _
    have hr : ∀ (k9 : Nat) (x : Nat × va_E), (((List.range n.toNatClampNeg).map (fun i => H.size + 1 + i)).map (fun a => ((a, .inl (cy, z)) : Nat × va_E)))[k9]? = some x → x.1 = H.size + 1 + k9 := fun k9 x hx => by
      rw [List.getElem?_map, List.getElem?_map] at hx
      by_cases h9 : k9 < n.toNatClampNeg
      · rw [List.getElem?_range h9] at hx
        cases hx
        rfl
      · have hn0 : (List.range n.toNatClampNeg)[k9]? = none := List.getElem?_eq_none (by rw [List.length_range]; omega)
        rw [hn0] at hx
        cases hx
    refine ⟨fun i j x y hi hj hxy => ?_, fun k9 x hx => ?_⟩
    · by_cases h1 : i < W1.length <;> by_cases h2 : j < W1.length
      · rw [List.getElem?_append_left h1] at hi
        rw [List.getElem?_append_left h2] at hj
        exact hD1.1 i j x y hi hj hxy
      · rw [List.getElem?_append_left h1] at hi
        rw [List.getElem?_append_right (by omega)] at hj
        have := hle _ _ hi
        have := hr _ _ hj
        omega
      · rw [List.getElem?_append_right (by omega)] at hi
        rw [List.getElem?_append_left h2] at hj
        have := hle _ _ hj
        have := hr _ _ hi
        omega
      · rw [List.getElem?_append_right (by omega)] at hi hj
        have := hr _ _ hi
        have := hr _ _ hj
        omega
    · by_cases h1 : k9 < W1.length
      · rw [List.getElem?_append_left h1] at hx
        exact hD1.2 k9 x hx
      · rw [List.getElem?_append_right (by omega)] at hx
        have := hr _ _ hx
        exact hA _ (by have := hS.1; omega)
  have hAr : ArrOfT s cA (.array ty) := fun N9 z9 => by
    obtain ⟨-, k9, hk9, cm9, hkk9⟩ := (hO 0 0 0).1
    exact ⟨(fun q hq => by cases hq), k9, hk9, cm9, hkk9⟩
  have hK2 : va_K D cl (tys ++ [(cA, .array ty)]) s := ⟨hK.1, fun k9 x hx => by
    by_cases hl : k9 < tys.length
    · rw [List.getElem?_append_left hl] at hx
      exact hK.2 k9 x hx
    · rw [List.getElem?_append_right (by omega)] at hx
      have h0 : k9 - tys.length < 1 := (List.getElem?_eq_some_iff.mp hx).1
      rw [show k9 - tys.length = 0 by omega] at hx
      cases hx
      exact ⟨hAr, fA⟩⟩
  obtain ⟨t, a1, b1⟩ := kk H.size (fun i => H.size + 1 + i) cA F.heap (fun i j _ _ h => by have h9 : H.size + 1 + i = H.size + 1 + j := h; omega) hnl hK2 (by rw [← vr_rows hnm]; exact vr_lay hP2) (by rw [← vr_rows hnm]; exact vr_layD hD2) ⟨by rw [f1]; have := hS.1; omega, fun x h1 h2 => (hold x (Nat.lt_of_lt_of_le h1 hS.1)).trans (hS.2.1 x h1 h2), hS.2.2⟩ F rfl X'
  refine ⟨t, step t ?_, b1⟩
  have e : T.heap.size = H.size := by rw [hT]
  rw [e]
  exact a1
end VGM
/-! ===== END ===== -/

/-! ===== BEGIN exceptions that leave a method, and their catching by the caller (launches without stack traces) ===== -/
section VXA
/-! The laws vx_back, vx_callV, vx_callS, vx_callSW, vx_throw0, vx_throwS follow proofs of the library, with one case more: JvmDerived/Free/Laws.lean (Back.of_free), Shelf42/LK1.lean (callV, callS), Shelf/KitTraced.lean (throwNew0V, throwNewS). -/
/-- where a method has thrown q: the class by its name, the cell, what was written, the world -/
def vx_T (XC : String → State → State → Prop) (st : State) (q : Addr) (t : State) (mc ms : Nat) (free : Addr → Prop) : Prop :=
  ∃ (E : String) (ce : Cell) (L : List Loc), XC E st t ∧ t.heap[q]? = some ce ∧ ce.vm = .none ∧ st.vm.findClass E = some ce.cls ∧ st.WarmedH t.vm ∧ st.sameButNew ({ t with vm := st.vm } : State) L mc ms ∧ ∀ z ∈ L, free z.base
def vx_Q (Qc : Array Value → State → Outcome → State → Prop) (XC : String → State → State → Prop) (mc ms : Nat) (free : Addr → Prop) : Array Value → State → Outcome → State → Prop := fun a st o t =>
  (Qc a st o t ∧ ∃ L, FrameEnd st o t L mc ms ∧ ∀ q ∈ L, free q.base) ∨ ∃ q, o = .threw q ∧ vx_T XC st q t mc ms free
/-- a callee that returns or throws -/
def vx_Met (l : Launch) (y : MethodName) (ws : List Cond) (rm : Room) (Pc : Array Value → State → Prop) (Qc : Array Value → State → Outcome → State → Prop) (XC : String → State → State → Prop) (mc ms : Nat) (free : Addr → Prop) : Prop :=
  MetFree l y (headSpec ws rm) Pc (fun _ _ _ _ _ => True) (vx_Q Qc XC mc ms free)
def vx_Post (XC : String → State → State → Prop) (mc ms : Nat) (free : Addr → Prop) : Pt → Array Value → Addr → Pt → Prop := fun A a q B =>
  ∃ (g : JFrame) (mk : MethodId) (t : State) (L : List Loc) (E : String) (ce : Cell), B.U.heap = t.heap ∧ B.U.vm = t.vm ∧ XC E (A.U.calling g mk a) t ∧ t.heap[q]? = some ce ∧ ce.vm = .none ∧ A.U.vm.findClass E = some ce.cls ∧ B.locs = A.locs ++ L ∧ (∀ z ∈ L, free z.base) ∧ B.cells = A.cells + mc ∧ B.slots = A.slots + ms
def vx_Back (l : Launch) (R : Room) (p : Program) (e : Env) (below : List Frame) (s : State) (sargs : Array Value) (y : MethodName) (len W9 : Nat)
    (Pre : Pt → Array Value → Prop) (Post : Pt → Array Value → Option Value → Pt → Prop) (PostX : Pt → Array Value → Addr → Pt → Prop) : Prop :=
  ∀ (m : MethodId) (meth : Method) (c : Code) (A : Pt) (g : JFrame) (ig : Instr) (mk : MethodId) (a : Array Value),
    Stand p l e R s m sargs below meth c A.U A.locs A.cells A.slots → g.method = m → g.locals.size = c.maxLocals → decode c.code g.pc = .ok (ig, len) →
    2 * g.monitorRoom + (g.stack.map fun v => v.category).sum ≤ W9 → A.U.methodNamed? y = some mk → Pre A a →
    (∃ (v : Option Value) (B : Pt), Stand p l e R s m sargs below meth c B.U B.locs B.cells B.slots ∧ Post A a v B ∧
      Steps p.tables e below (doInvoke e (A.U.setTop g) [] mk a).1 (B.U.setTop { g with pc := g.pc + len, stack := v.toList ++ g.stack })) ∨
    (∃ (q : Addr) (B : Pt), Stand p l e R s m sargs below meth c B.U B.locs B.cells B.slots ∧ PostX A a q B ∧
      Steps p.tables e below (doInvoke e (A.U.setTop g) [] mk a).1 ((B.U.setTop g).pushFrame (.throwing q)))
section Payer
variable {l : Launch} {R : Room} {p : Program} {e : Env} {below : List Frame} {s : State} {sargs : Array Value} {y : MethodName} {len W9 : Nat}
theorem vx_back {ws : List Cond} {rm : Room} {Pc : Array Value → State → Prop} {Qc : Array Value → State → Outcome → State → Prop} {XC : String → State → State → Prop} {mc ms : Nat} {free : Addr → Prop} {bytes : ByteArray} {maxL : Nat} {ret : Option FieldType}
    (hM : vx_Met l y ws rm Pc Qc XC mc ms free) (hblind : FrameBlind Pc) (hrc : rm.cells = mc) (hrs : rm.slots = ms)
    (hframes : rm.frames + 1 ≤ R.frames) (hlocals : W9 + (maxL + 11) + rm.locals ≤ R.locals)
    (hws : ∀ w ∈ ws, ∀ a' U, s.WarmedH U.vm → w.before a' U = true) (hcode : Cond.code y bytes maxL ret ∈ ws) (hinit : ∀ a' U, s.WarmedH U.vm → (Cond.initialized y.cls).before a' U = true) :
    vx_Back l R p e below s sargs y len W9 (PreOf R mc ms Pc) (PostOf Qc mc ms free) (vx_Post XC mc ms free) := by
  intro m meth c A g ig mk a X hg hsize hdg hW hn hp
  have h1 : (headSpec ws rm).pre.before a A.U = true := atoms_intro fun w hw => hws w hw _ _ X.warmed
  have h2 : (Cond.code y bytes maxL ret).before a A.U = true := hws _ hcode _ _ X.warmed
  have h3 : (Cond.initialized y.cls).before a A.U = true := hinit _ _ X.warmed
  have h4 : A.cells + (headSpec ws rm).room.cells ≤ R.cells := by rw [show (headSpec ws rm).room.cells = mc from hrc]; exact hp.1
  have h5 : A.slots + (headSpec ws rm).room.slots ≤ R.slots := by rw [show (headSpec ws rm).room.slots = ms from hrs]; exact hp.2.1
  have hPc : Pc a (A.U.calling g mk a) := hblind _ _ _ _ hp.2.2
  obtain ⟨U, Ls, c0, s0⟩ := A
  dsimp only [Pt.U, Pt.locs, Pt.cells, Pt.slots] at h1 h2 h3 h4 h5 X hn hPc ⊢
  obtain ⟨methY, cY, hmY, hcY, -, hlY, -, -, -, -⟩ := Cond.code_spec hn h2
  obtain ⟨kY, hkY, -⟩ := className_of_methodNamed hn
  have hinitY : kY.init = .initialized := Cond.initialized_spec (findClass_of_methodNamed hn) hkY h3
  have h : At U g.method c below := by rw [hg]; exact X.here
  have hlocals9 : W9 + (maxL + 11) + (headSpec ws rm).room.locals ≤ R.locals := hlocals
  have happ : (headSpec ws rm).appliesLoose y e.platform (U.calling g mk a) = true :=
    Spec.appliesLoose_calling (g := g) h hdg hn hkY hinitY
      (X.room_calling (g := g) (R' := (headSpec ws rm).room) hsize hmY hcY hframes (by rw [hlY]; omega) h4 h5) h1
  obtain ⟨mid, hmid⟩ := h.above
  have hfr : (U.setTop g).frames = (.java g :: mid) ++ below := by rw [State.frames_setTop' g h.top, hmid]; rfl
  obtain ⟨o, s₂, hsteps, -, hend, hq⟩ := Steps.callFree hM p X.admits X.cas X.clock (acts := []) hfr happ hPc trivial
  have hq' : vx_Q Qc XC mc ms free a (U.calling g mk a) o s₂ := hq
  rw [State.frames_setTop' g h.top] at hend
  obtain ⟨g₀, hg0⟩ := Option.isSome_iff_exists.mp h.top
  obtain ⟨r, hr⟩ := State.topJava?_eq_some.mp hg0
  have hr' : (({ U with heap := s₂.heap, slotsUsed := s₂.slotsUsed } : State).setVm s₂.vm).frames = .java g₀ :: r := hr
  rcases hq' with ⟨hqc, L, hfe, hL⟩ | ⟨q, rfl, E, ce, L, hx, hce, hcv, hcl, hW₂, hsm, hL⟩
  · obtain ⟨⟨v, rfl⟩, hW₂, e2, q2, q3, q4, q5, q6⟩ := id hfe
    have e3 : s₂ = ({ (U.calling g mk a).setFrames s₂.frames with heap := s₂.heap, slotsUsed := s₂.slotsUsed } : State).setVm s₂.vm := by
      have : s₂ = ({ s₂ with vm := (U.calling g mk a).vm } : State).setVm s₂.vm := rfl
      rw [e2] at this
      exact this
    obtain ⟨c₂, i₂, len₂, hc₂, hd₂, hf₂⟩ := hend
    have hW' : U.WarmedH s₂.vm := hW₂
    have hcc : c₂ = c := by
      have h1 : s₂.code? g.method = U.code? g.method := by
        rw [State.code?_eq, State.code?_eq, hW'.alike.method?]
      exact Option.some.inj (hc₂.symm.trans (h1.trans h.code))
    subst hcc
    have hlen : len₂ = len := by rw [hdg] at hd₂; cases hd₂; rfl
    subst hlen
    have hs₂ : s₂ = (({ U with heap := s₂.heap, slotsUsed := s₂.slotsUsed } : State).setVm s₂.vm).setTop { g with pc := g.pc + len₂, stack := v.toList ++ g.stack } := by
      refine e3.trans ?_
      rw [hf₂, State.calling_eq h.top, State.setFrames_setFrames, State.setTop_of_frames _ hr', hr]
      rfl
    have hsame : U.sameButNew ({ U with heap := s₂.heap, slotsUsed := s₂.slotsUsed } : State) L mc ms := by
      refine ⟨?_, q2, q3, q4, q5, q6⟩
      obtain ⟨t, ht, -⟩ := State.frames_cons hr
      show ({ U with heap := s₂.heap, slotsUsed := s₂.slotsUsed } : State) = { U.setFrames U.frames with heap := s₂.heap, slotsUsed := s₂.slotsUsed }
      rw [State.setFrames_self ht]
    subst hg
    refine Or.inl ⟨v, ⟨(({ U with heap := s₂.heap, slotsUsed := s₂.slotsUsed } : State).setVm s₂.vm), Ls ++ L, c0 + mc, s0 + ms⟩,
      ⟨X.admits, X.cas, X.clock, X.frames, X.room, X.hears, X.method, X.code, (X.here.setHeapUsed s₂.heap s₂.slotsUsed).setVm hW'.alike, X.tail, State.WarmedH.trans X.warmed hW', X.limits, X.bytes, X.same.trans (hsame.setVm s.vm)⟩,
      ⟨g, mk, s₂, L, rfl, rfl, hqc, rfl, hL, rfl, rfl⟩, ?_⟩
    show Steps p.tables e below _ ((({ U with heap := s₂.heap, slotsUsed := s₂.slotsUsed } : State).setVm s₂.vm).setTop { g with pc := g.pc + len₂, stack := v.toList ++ g.stack })
    rw [← hs₂]
    exact hsteps
  · obtain ⟨e2, q2, q3, q4, q5, q6⟩ := id hsm
    have e3 : s₂ = ({ (U.calling g mk a).setFrames s₂.frames with heap := s₂.heap, slotsUsed := s₂.slotsUsed } : State).setVm s₂.vm := by
      have : s₂ = ({ s₂ with vm := (U.calling g mk a).vm } : State).setVm s₂.vm := rfl
      rw [e2] at this
      exact this
    have hf₂ : s₂.frames = .throwing q :: .java g :: U.frames.tail := hend
    have hW' : U.WarmedH s₂.vm := hW₂
    have hs₂ : s₂ = ((({ U with heap := s₂.heap, slotsUsed := s₂.slotsUsed } : State).setVm s₂.vm).setTop g).pushFrame (.throwing q) := by
      refine e3.trans ?_
      rw [hf₂, State.calling_eq h.top, State.setFrames_setFrames, State.pushFrame, State.frames_setTop _ hr', State.setTop_of_frames _ hr', State.setFrames_setFrames, hr]
      rfl
    have hsame : U.sameButNew ({ U with heap := s₂.heap, slotsUsed := s₂.slotsUsed } : State) L mc ms := by
      refine ⟨?_, q2, q3, q4, q5, q6⟩
      obtain ⟨t, ht, -⟩ := State.frames_cons hr
      show ({ U with heap := s₂.heap, slotsUsed := s₂.slotsUsed } : State) = { U.setFrames U.frames with heap := s₂.heap, slotsUsed := s₂.slotsUsed }
      rw [State.setFrames_self ht]
    subst hg
    refine Or.inr ⟨q, ⟨(({ U with heap := s₂.heap, slotsUsed := s₂.slotsUsed } : State).setVm s₂.vm), Ls ++ L, c0 + mc, s0 + ms⟩,
      ⟨X.admits, X.cas, X.clock, X.frames, X.room, X.hears, X.method, X.code, (X.here.setHeapUsed s₂.heap s₂.slotsUsed).setVm hW'.alike, X.tail, State.WarmedH.trans X.warmed hW', X.limits, X.bytes, X.same.trans (hsame.setVm s.vm)⟩,
      ⟨g, mk, s₂, L, E, ce, rfl, rfl, hx, hce, hcv, hcl, rfl, hL, rfl, rfl⟩, ?_⟩
    show Steps p.tables e below _ (((({ U with heap := s₂.heap, slotsUsed := s₂.slotsUsed } : State).setVm s₂.vm).setTop g).pushFrame (.throwing q))
    rw [← hs₂]
    exact hsteps
end Payer
section Calls
variable {p : Program} {l : Launch} {e : Env} {R : Room} {s : State} {m : MethodId} {args : Array Value} {below : List Frame} {meth : Method} {c : Code} {T : State} {locs : List Loc} {cells slots : Nat}
theorem vx_callV (X : Stand p l e R s m args below meth c T locs cells slots) (hexec : p.tables.exec = Jvm.exec) {own C : String} {index : Nat} {y : MethodName} {bytes : ByteArray} {maxL : Nat} {ret : Option FieldType}
    (hown : s.vm.findClass own = some m.cls) (hlink : (Cond.methodLink own index y).before args s = true) (hinst : (Cond.instanceMethod y).before args s = true) (hsel : (Cond.selects C y y).before args s = true)
    (hcode : (Cond.code y bytes maxL ret).before args s = true) (hy : y.cls ≠ "java/lang/invoke/MethodHandle" ∧ y.cls ≠ "java/lang/invoke/VarHandle")
    {W9 : Nat} {Pre : Pt → Array Value → Prop} {Post : Pt → Array Value → Option Value → Pt → Prop} {PostX : Pt → Array Value → Addr → Pt → Prop} (hK : vx_Back l R p e below s args y 3 W9 Pre Post PostX)
    {b : Addr} {cellB : Cell} (hcell : T.heap[b]? = some cellB) (hobj : cellB.vm.isStatics = false) (hcls : s.vm.findClass C = some cellB.cls)
    {g : JFrame} (hg : g.method = m) (hsize : g.locals.size = c.maxLocals) {argsL rest : List Value} (hlen : ∀ sig, parseMethodDescriptor y.desc = some sig → argsL.length = sig.parameters.length)
    (hstack : g.stack = argsL.reverse ++ .ref b :: rest) (hW : 2 * g.monitorRoom + (rest.map fun v => v.category).sum ≤ W9) (hdg : decode c.code g.pc = .ok (.invokevirtual index, 3))
    (hpre : ∀ vm₁, s.WarmedH vm₁ → Pre ⟨T.setVm vm₁, locs, cells, slots⟩ (Value.ref b :: argsL).toArray) :
    (∃ (v : Option Value) (vm₁ : Vm) (B : Pt), s.WarmedH vm₁ ∧ Stand p l e R s m args below meth c B.U B.locs B.cells B.slots ∧ Post ⟨T.setVm vm₁, locs, cells, slots⟩ (Value.ref b :: argsL).toArray v B ∧
      ∀ target, Steps p.tables e below (B.U.setTop { g with pc := g.pc + 3, stack := v.toList ++ rest }) target → Steps p.tables e below (T.setTop g) target) ∨
    (∃ (q : Addr) (vm₁ : Vm) (B : Pt), s.WarmedH vm₁ ∧ Stand p l e R s m args below meth c B.U B.locs B.cells B.slots ∧ PostX ⟨T.setVm vm₁, locs, cells, slots⟩ (Value.ref b :: argsL).toArray q B ∧
      Steps p.tables e below (T.setTop g) ((B.U.setTop { g with stack := rest }).pushFrame (.throwing q))) := by
  obtain ⟨mk, methM, hnamed, hmethM, hstM, habM⟩ := Cond.instanceMethod_spec hinst
  obtain ⟨methM', cM, hmethM', -, -, -, -, -, -, hsigM⟩ := Cond.code_spec hnamed hcode
  cases hmethM.symm.trans hmethM'
  obtain ⟨c2, r2, m2, q1, q2, q3, q4, kP, hkP, hkPi⟩ := Cond.selects_spec hsel
  cases hcls.symm.trans q1
  cases (State.methodFound?_of_named hnamed hy).symm.trans q2
  cases hnamed.symm.trans q3
  have hselP : selectMethod e.platform s.vm cellB.cls mk = .method mk := by rw [Launch.admits_selectMethod X.admits]; exact q4
  obtain ⟨vm₁, X₁, hstep₁⟩ := X.invokevirtual hexec hown hlink hnamed hmethM hstM hkP hkPi hy (a := b) (cell := cellB) hcell
    (fun z h => by rw [h] at hobj; cases hobj) hselP hmethM habM hkP hkPi (g := g) hg (argsL := argsL) (rest := rest) (hlen _ hsigM) hstack hdg
  rcases hK m meth c ⟨T.setVm vm₁, locs, cells, slots⟩ { g with stack := rest } (.invokevirtual index) mk (Value.ref b :: argsL).toArray X₁ hg hsize hdg hW (X₁.named hnamed) (hpre vm₁ X₁.warmed) with ⟨v, B, X', hpost, hsteps⟩ | ⟨q, B, X', hpost, hsteps⟩
  · exact Or.inl ⟨v, vm₁, B, X₁.warmed, X', hpost, fun target h => hstep₁ _ fun acts => by rw [doInvoke_state]; exact hsteps.trans h⟩
  · exact Or.inr ⟨q, vm₁, B, X₁.warmed, X', hpost, hstep₁ _ fun acts => by rw [doInvoke_state]; exact hsteps⟩
theorem vx_callS (X : Stand p l e R s m args below meth c T locs cells slots) (hexec : p.tables.exec = Jvm.exec) {own : String} {index : Nat} {y : MethodName} {bytes : ByteArray} {maxL : Nat} {ret : Option FieldType}
    (hown : s.vm.findClass own = some m.cls) (hlink : (Cond.methodLink own index y).before args s = true) (hstat : (Cond.static y).before args s = true) (hinit : (Cond.initialized y.cls).before args s = true)
    (hcode : (Cond.code y bytes maxL ret).before args s = true) (hy : y.cls ≠ "java/lang/invoke/MethodHandle" ∧ y.cls ≠ "java/lang/invoke/VarHandle")
    {W9 : Nat} {Pre : Pt → Array Value → Prop} {Post : Pt → Array Value → Option Value → Pt → Prop} {PostX : Pt → Array Value → Addr → Pt → Prop} (hK : vx_Back l R p e below s args y 3 W9 Pre Post PostX)
    {g : JFrame} (hg : g.method = m) (hsize : g.locals.size = c.maxLocals) {argsL rest : List Value} (hlen : ∀ sig, parseMethodDescriptor y.desc = some sig → argsL.length = sig.parameters.length)
    (hstack : g.stack = argsL.reverse ++ rest) (hW : 2 * g.monitorRoom + (rest.map fun v => v.category).sum ≤ W9) (hdg : decode c.code g.pc = .ok (.invokestatic index, 3))
    (hpre : ∀ vm₁, s.WarmedH vm₁ → Pre ⟨T.setVm vm₁, locs, cells, slots⟩ argsL.toArray) :
    (∃ (v : Option Value) (vm₁ : Vm) (B : Pt), s.WarmedH vm₁ ∧ Stand p l e R s m args below meth c B.U B.locs B.cells B.slots ∧ Post ⟨T.setVm vm₁, locs, cells, slots⟩ argsL.toArray v B ∧
      ∀ target, Steps p.tables e below (B.U.setTop { g with pc := g.pc + 3, stack := v.toList ++ rest }) target → Steps p.tables e below (T.setTop g) target) ∨
    (∃ (q : Addr) (vm₁ : Vm) (B : Pt), s.WarmedH vm₁ ∧ Stand p l e R s m args below meth c B.U B.locs B.cells B.slots ∧ PostX ⟨T.setVm vm₁, locs, cells, slots⟩ argsL.toArray q B ∧
      Steps p.tables e below (T.setTop g) ((B.U.setTop { g with stack := rest }).pushFrame (.throwing q))) := by
  obtain ⟨mk, hnamed⟩ := Cond.code_named hcode
  obtain ⟨methM, cM, hmethM, -, -, -, -, -, -, hsigM⟩ := Cond.code_spec hnamed hcode
  have hstatic : methM.isStatic = true := Cond.static_spec hnamed hmethM hstat
  obtain ⟨kP, hkP, -⟩ := className_of_methodNamed hnamed
  have hinitP : kP.init = .initialized := Cond.initialized_spec (findClass_of_methodNamed hnamed) hkP hinit
  obtain ⟨vm₁, X₁, hstep₁⟩ := X.invokestatic hexec hown hlink hnamed hmethM hstatic hkP hinitP hy (g := g) hg (argsL := argsL) (rest := rest) (hlen _ hsigM) hstack hdg
  rcases hK m meth c ⟨T.setVm vm₁, locs, cells, slots⟩ { g with stack := rest } (.invokestatic index) mk argsL.toArray X₁ hg hsize hdg hW (X₁.named hnamed) (hpre vm₁ X₁.warmed) with ⟨v, B, X', hpost, hsteps⟩ | ⟨q, B, X', hpost, hsteps⟩
  · exact Or.inl ⟨v, vm₁, B, X₁.warmed, X', hpost, fun target h => hstep₁ _ fun acts => by rw [doInvoke_state]; exact hsteps.trans h⟩
  · exact Or.inr ⟨q, vm₁, B, X₁.warmed, X', hpost, hstep₁ _ fun acts => by rw [doInvoke_state]; exact hsteps⟩
end Calls
theorem vx_cls {s : State} {T : State} {vm₁ : Vm} {E : String} {k : ClassId} (hW : s.WarmedH vm₁) (h : (T.setVm vm₁).vm.findClass E = some k) : s.vm.findClass E = some k := by
  have h1 : vm₁.findClass E = some k := h
  rw [hW.alike.findClass] at h1
  exact h1
/-- the method's frame g, with q thrown over it -/
def vx_W (p : Program) (l : Launch) (e : Env) (R : Room) (s : State) (m : MethodId) (args : Array Value) (below : List Frame) (meth : Method) (c : Code) (H : Heap) (locs : List Loc) (cells slots : Nat) (Q : State → Prop) (g : JFrame) (q : Addr) : Prop :=
  ∀ T : State, T.heap = H → Stand p l e R s m args below meth c T locs cells slots → ∃ t, Steps p.tables e below ((T.setTop g).pushFrame (.throwing q)) t ∧ Q t
def vx_Run (p : Program) (l : Launch) (e : Env) (R : Room) (s : State) (m : MethodId) (args : Array Value) (below : List Frame) (meth : Method) (c : Code) (H : Heap) (locs : List Loc) (cells slots mc ms : Nat) (g : JFrame) (rest : List Value) (Qa : State → Outcome → State → Prop) (XC : String → State → State → Prop) (free : Addr → Prop) : Prop :=
  ∀ T : State, T.heap = H → Stand p l e R s m args below meth c T locs cells slots →
    (∃ (v : Option Value) (st₀ t T' : State) (L : List Loc), st₀.heap = H ∧ Stand p l e R s m args below meth c T' (locs ++ L) (cells + mc) (slots + ms) ∧ (∀ q ∈ L, free q.base) ∧ T'.heap = t.heap ∧ T'.vm = t.vm ∧ Qa st₀ (.returned v) t ∧
      Goes p e below T g T' { g with pc := g.pc + 3, stack := v.toList ++ rest }) ∨
    (∃ (q : Addr) (st₀ t T' : State) (L : List Loc) (E : String) (ce : Cell), st₀.heap = H ∧ Stand p l e R s m args below meth c T' (locs ++ L) (cells + mc) (slots + ms) ∧ (∀ z ∈ L, free z.base) ∧ T'.heap = t.heap ∧ T'.vm = t.vm ∧ XC E st₀ t ∧ t.heap[q]? = some ce ∧ ce.vm = .none ∧ s.vm.findClass E = some ce.cls ∧
      Steps p.tables e below (T.setTop g) ((T'.setTop { g with stack := rest }).pushFrame (.throwing q)))
def vx_X {S : Type} (px : S → Prop) (B : String → S → State → Prop) (A : Nat → Prop) : String → State → State → Prop := fun E st t => ∃ u : S, px u ∧ B E u t ∧ va_F A st t
section Runs
variable {p : Program} {l : Launch} {e : Env} {R : Room} {s : State} {m : MethodId} {args : Array Value} {below : List Frame} {meth : Method} {c : Code} {H : Heap} {locs : List Loc} {cells slots : Nat}
variable {y : MethodName} {bytes cc : ByteArray} {maxL nL mc ms n index : Nat} {ret : Option FieldType} {ws : List Cond} {rm : Room} {Pc : Array Value → State → Prop} {Qc : Array Value → State → Outcome → State → Prop} {XC : String → State → State → Prop} {free : Addr → Prop} {Ts : List Cond} {own C : String} {b : Addr} {As rest : List Value} {g : JFrame}
theorem vx_callBack (cb : CallB R s args own index y bytes maxL ret ws rm mc ms n) (hM : vx_Met l y ws rm Pc Qc XC mc ms free) (hbl : FrameBlind Pc) : vx_Back l R p e below s args y 3 8 (PreOf R mc ms Pc) (PostOf Qc mc ms free) (vx_Post XC mc ms free) := by
  obtain ⟨hrc, hrs, hfr, hlo, hws, hcw, -, hini, -⟩ := cb
  exact vx_back (bytes := bytes) (maxL := maxL) (ret := ret) hM hbl hrc hrs hfr hlo hws hcw (fun a' U hW => word_at hW (Or.inl (by first | rfl | simp [Cond.onTables, Cond.keeps, Cond.steady])) hini)
theorem vx_runV (S : CallFix p m c cc nL s args Ts own) (hM : vx_Met l y ws rm Pc Qc XC mc ms free) (cw : CallW R s args own C index y bytes maxL ret ws rm mc ms n) (hp : PreV s H C b Pc As)
    (hg : g.method = m) (hn : As.length = n) (hsize : g.locals.size = nL) (hstack : g.stack = As.reverse ++ .ref b :: rest) (hW : 2 * g.monitorRoom + (rest.map fun v => v.category).sum ≤ 8) (hdg : decode cc g.pc = .ok (.invokevirtual index, 3)) (hf : cells + mc ≤ R.cells ∧ slots + ms ≤ R.slots) :
    vx_Run p l e R s m args below meth c H locs cells slots mc ms g rest (Qc (Value.ref b :: As).toArray) XC free := by
  have hK : vx_Back l R p e below s args y 3 8 (PreOf R mc ms Pc) (PostOf Qc mc ms free) (vx_Post XC mc ms free) := vx_callBack cw.1 hM hp.1
  obtain ⟨⟨-, -, -, -, -, -, hcode, -, hy, hlen, hl⟩, hin, hse⟩ := cw
  obtain ⟨hx, hb, hml, ho, -⟩ := S
  obtain ⟨-, ⟨cellB, hcB, hoB, hclB⟩, hPc⟩ := hp
  intro T hT X
  rcases vx_callV X hx (C := C) (bytes := bytes) (maxL := maxL) (ret := ret) ho hl hin hse hcode hy hK (by rw [hT]; exact hcB) hoB hclB hg (hsize.trans hml.symm) (argsL := As) (rest := rest) (fun sig h => hn.trans (hlen sig h)) hstack hW (by rw [hb]; exact hdg)
    (fun vm₁ hW₁ => ⟨hf.1, hf.2, hPc (T.setVm vm₁) hT hW₁⟩) with ⟨v, vm₁, ⟨U', l2, c2, s2⟩, hW₁, X', ⟨g', mk, t, L, e1, e2, hq, h1, hL, h2, h3⟩, st⟩ | ⟨q, vm₁, ⟨U', l2, c2, s2⟩, hW₁, X', ⟨g', mk, t, L, E, ce, e1, e2, hq, hce, hcv, hcl, h1, hL, h2, h3⟩, st⟩
  · dsimp only [Pt.U, Pt.locs, Pt.cells, Pt.slots] at X' e1 e2 h1 h2 h3 st
    subst h1; subst h2; subst h3
    exact Or.inl ⟨v, (T.setVm vm₁).calling g' mk (Value.ref b :: As).toArray, t, U', L, hT, X', hL, e1, e2, hq, st⟩
  · dsimp only [Pt.U, Pt.locs, Pt.cells, Pt.slots] at X' e1 e2 h1 h2 h3 st hcl
    subst h1; subst h2; subst h3
    exact Or.inr ⟨q, (T.setVm vm₁).calling g' mk (Value.ref b :: As).toArray, t, U', L, E, ce, hT, X', hL, e1, e2, hq, hce, hcv, vx_cls hW₁ hcl, st⟩
theorem vx_runS (S : CallFix p m c cc nL s args Ts own) (hM : vx_Met l y ws rm Pc Qc XC mc ms free) (cw : CallB R s args own index y bytes maxL ret ws rm mc ms n ∧ (Cond.static y).before args s = true) (hp : PreS s H Pc As)
    (hg : g.method = m) (hn : As.length = n) (hsize : g.locals.size = nL) (hstack : g.stack = As.reverse ++ rest) (hW : 2 * g.monitorRoom + (rest.map fun v => v.category).sum ≤ 8) (hdg : decode cc g.pc = .ok (.invokestatic index, 3)) (hf : cells + mc ≤ R.cells ∧ slots + ms ≤ R.slots) :
    vx_Run p l e R s m args below meth c H locs cells slots mc ms g rest (Qc As.toArray) XC free := by
  have hK : vx_Back l R p e below s args y 3 8 (PreOf R mc ms Pc) (PostOf Qc mc ms free) (vx_Post XC mc ms free) := vx_callBack cw.1 hM hp.1
  obtain ⟨⟨-, -, -, -, -, -, hcode, hini, hy, hlen, hl⟩, hstt⟩ := cw
  obtain ⟨hx, hb, hml, ho, -⟩ := S
  intro T hT X
  rcases vx_callS X hx (bytes := bytes) (maxL := maxL) (ret := ret) ho hl hstt hini hcode hy hK hg (hsize.trans hml.symm) (argsL := As) (rest := rest) (fun sig h => hn.trans (hlen sig h)) hstack hW (by rw [hb]; exact hdg)
    (fun vm₁ hW₁ => ⟨hf.1, hf.2, hp.2 (T.setVm vm₁) hT hW₁⟩) with ⟨v, vm₁, ⟨U', l2, c2, s2⟩, hW₁, X', ⟨g', mk, t, L, e1, e2, hq, h1, hL, h2, h3⟩, st⟩ | ⟨q, vm₁, ⟨U', l2, c2, s2⟩, hW₁, X', ⟨g', mk, t, L, E, ce, e1, e2, hq, hce, hcv, hcl, h1, hL, h2, h3⟩, st⟩
  · dsimp only [Pt.U, Pt.locs, Pt.cells, Pt.slots] at X' e1 e2 h1 h2 h3 st
    subst h1; subst h2; subst h3
    exact Or.inl ⟨v, (T.setVm vm₁).calling g' mk As.toArray, t, U', L, hT, X', hL, e1, e2, hq, st⟩
  · dsimp only [Pt.U, Pt.locs, Pt.cells, Pt.slots] at X' e1 e2 h1 h2 h3 st hcl
    subst h1; subst h2; subst h3
    exact Or.inr ⟨q, (T.setVm vm₁).calling g' mk As.toArray, t, U', L, E, ce, hT, X', hL, e1, e2, hq, hce, hcv, vx_cls hW₁ hcl, st⟩
end Runs
section Rows
variable {p : Program} {l : Launch} {e : Env} {R : Room} {s : State} {m : MethodId} {args : Array Value} {below : List Frame} {meth : Method} {c : Code} {H : Heap} {locs : List Loc} {cells slots : Nat} {Q : State → Prop}
variable {mc ms : Nat} {free : Addr → Prop} {A0 A1 : Nat → Prop} {H0 : Heap} {a : Array Value} {pc : Nat} {ls : Array Slot} {st0 rest : List Value}
theorem vx_keep {st₀ t T' : State} {L : List Loc} (h0 : st₀.heap = H) (e1 : T'.heap = t.heap) (hS : va_S A0 H0 H locs) (hA : ∀ q, q < H.size → A1 q → A0 q) (hf : ∀ q, free q → A0 q) (hL : ∀ q ∈ L, free q.base) (hF : va_F A1 st₀ t) :
    H.size ≤ T'.heap.size ∧ (∀ q : Nat, q < H.size → ¬ A1 q → T'.heap[q]? = H[q]?) ∧ va_S A0 H0 T'.heap (locs ++ L) := by
  obtain ⟨hz, hk⟩ := hF
  rw [h0] at hz hk
  exact ⟨by rw [e1]; exact hz, fun q h1 h2 => by rw [e1]; exact hk q h1 h2,
    ⟨Nat.le_trans hS.1 (by rw [e1]; exact hz), fun q h1 h2 => by rw [e1, hk q (Nat.lt_of_lt_of_le h1 hS.1) (fun z => h2 (hA q (Nat.lt_of_lt_of_le h1 hS.1) z))]; exact hS.2.1 q h1 h2, fun q hq => by
      rcases List.mem_append.mp hq with h | h
      · exact hS.2.2 q h
      · exact hf _ (hL q h)⟩⟩
theorem vx_calli {S SX : Type} {post : Int32 → S → Prop} {px : SX → Prop} {B : S → State → Prop} {BX : String → SX → State → Prop} {AX : Nat → Prop} (hr : vx_Run p l e R s m args below meth c H locs cells slots mc ms (F0 m pc ls st0) rest (va_Qi post B A1 a) (vx_X px BX AX) free) (hS : va_S A0 H0 H locs) (hA : ∀ q, q < H.size → A1 q → A0 q) (hf : ∀ q, free q → A0 q) (hAX : ∀ q, q < H.size → AX q → A0 q)
    (kx : ∀ (E : String) (ce : Cell) (q9 : Addr) (u : SX) (t : State) (H1 : Heap) (locs1 : List Loc), t.heap = H1 → s.vm.Alike t.vm → px u → BX E u t → H.size ≤ H1.size → (∀ q : Nat, q < H.size → ¬ AX q → H1[q]? = H[q]?) → va_S A0 H0 H1 locs1 → H1[q9]? = some ce → ce.vm = .none → s.vm.findClass E = some ce.cls → vx_W p l e R s m args below meth c H1 locs1 (cells + mc) (slots + ms) Q (F0 m pc ls rest) q9)
    (kk : ∀ (r : Int32) (u : S) (t : State) (H1 : Heap) (locs1 : List Loc), t.heap = H1 → s.vm.Alike t.vm → post r u → B u t → H.size ≤ H1.size → (∀ q : Nat, q < H.size → ¬ A1 q → H1[q]? = H[q]?) → va_S A0 H0 H1 locs1 → W p l e R s m args below meth c H1 locs1 (cells + mc) (slots + ms) Q (F0 m (pc + 3) ls (.int r :: rest))) : W p l e R s m args below meth c H locs cells slots Q (F0 m pc ls st0) := by
  intro T hT X
  rcases hr T hT X with ⟨v, st₀, t, T', L, h0, X', hL, e1, e2, ⟨⟨r, u, hv, hp, hb⟩, hF⟩, st⟩ | ⟨q, st₀, t, T', L, E, ce, h0, X', hL, e1, e2, ⟨u, hp, hb, hF⟩, hce, hcv, hcl, st⟩
  · cases hv
    obtain ⟨k1, k2, k3⟩ := vx_keep h0 e1 hS hA hf hL hF
    obtain ⟨t2, a1, b1⟩ := kk r u t T'.heap (locs ++ L) e1.symm (by rw [← e2]; exact X'.warmed.alike) hp hb k1 k2 k3 T' rfl X'
    exact ⟨t2, st t2 a1, b1⟩
  · obtain ⟨k1, k2, k3⟩ := vx_keep h0 e1 hS hAX hf hL hF
    obtain ⟨t2, a1, b1⟩ := kx E ce q u t T'.heap (locs ++ L) e1.symm (by rw [← e2]; exact X'.warmed.alike) hp hb k1 k2 k3 (by rw [e1]; exact hce) hcv hcl T' rfl X'
    exact ⟨t2, st.trans a1, b1⟩
theorem vx_calll {S SX : Type} {post : Int64 → S → Prop} {px : SX → Prop} {B : S → State → Prop} {BX : String → SX → State → Prop} {AX : Nat → Prop} (hr : vx_Run p l e R s m args below meth c H locs cells slots mc ms (F0 m pc ls st0) rest (va_Ql post B A1 a) (vx_X px BX AX) free) (hS : va_S A0 H0 H locs) (hA : ∀ q, q < H.size → A1 q → A0 q) (hf : ∀ q, free q → A0 q) (hAX : ∀ q, q < H.size → AX q → A0 q)
    (kx : ∀ (E : String) (ce : Cell) (q9 : Addr) (u : SX) (t : State) (H1 : Heap) (locs1 : List Loc), t.heap = H1 → s.vm.Alike t.vm → px u → BX E u t → H.size ≤ H1.size → (∀ q : Nat, q < H.size → ¬ AX q → H1[q]? = H[q]?) → va_S A0 H0 H1 locs1 → H1[q9]? = some ce → ce.vm = .none → s.vm.findClass E = some ce.cls → vx_W p l e R s m args below meth c H1 locs1 (cells + mc) (slots + ms) Q (F0 m pc ls rest) q9)
    (kk : ∀ (r : Int64) (u : S) (t : State) (H1 : Heap) (locs1 : List Loc), t.heap = H1 → s.vm.Alike t.vm → post r u → B u t → H.size ≤ H1.size → (∀ q : Nat, q < H.size → ¬ A1 q → H1[q]? = H[q]?) → va_S A0 H0 H1 locs1 → W p l e R s m args below meth c H1 locs1 (cells + mc) (slots + ms) Q (F0 m (pc + 3) ls (.long r :: rest))) : W p l e R s m args below meth c H locs cells slots Q (F0 m pc ls st0) := by
  intro T hT X
  rcases hr T hT X with ⟨v, st₀, t, T', L, h0, X', hL, e1, e2, ⟨⟨r, u, hv, hp, hb⟩, hF⟩, st⟩ | ⟨q, st₀, t, T', L, E, ce, h0, X', hL, e1, e2, ⟨u, hp, hb, hF⟩, hce, hcv, hcl, st⟩
  · cases hv
    obtain ⟨k1, k2, k3⟩ := vx_keep h0 e1 hS hA hf hL hF
    obtain ⟨t2, a1, b1⟩ := kk r u t T'.heap (locs ++ L) e1.symm (by rw [← e2]; exact X'.warmed.alike) hp hb k1 k2 k3 T' rfl X'
    exact ⟨t2, st t2 a1, b1⟩
  · obtain ⟨k1, k2, k3⟩ := vx_keep h0 e1 hS hAX hf hL hF
    obtain ⟨t2, a1, b1⟩ := kx E ce q u t T'.heap (locs ++ L) e1.symm (by rw [← e2]; exact X'.warmed.alike) hp hb k1 k2 k3 (by rw [e1]; exact hce) hcv hcl T' rfl X'
    exact ⟨t2, st.trans a1, b1⟩
theorem vx_callf {S SX : Type} {post : UInt32 → S → Prop} {px : SX → Prop} {B : S → State → Prop} {BX : String → SX → State → Prop} {AX : Nat → Prop} (hr : vx_Run p l e R s m args below meth c H locs cells slots mc ms (F0 m pc ls st0) rest (va_Qf post B A1 a) (vx_X px BX AX) free) (hS : va_S A0 H0 H locs) (hA : ∀ q, q < H.size → A1 q → A0 q) (hf : ∀ q, free q → A0 q) (hAX : ∀ q, q < H.size → AX q → A0 q)
    (kx : ∀ (E : String) (ce : Cell) (q9 : Addr) (u : SX) (t : State) (H1 : Heap) (locs1 : List Loc), t.heap = H1 → s.vm.Alike t.vm → px u → BX E u t → H.size ≤ H1.size → (∀ q : Nat, q < H.size → ¬ AX q → H1[q]? = H[q]?) → va_S A0 H0 H1 locs1 → H1[q9]? = some ce → ce.vm = .none → s.vm.findClass E = some ce.cls → vx_W p l e R s m args below meth c H1 locs1 (cells + mc) (slots + ms) Q (F0 m pc ls rest) q9)
    (kk : ∀ (r : UInt32) (u : S) (t : State) (H1 : Heap) (locs1 : List Loc), t.heap = H1 → s.vm.Alike t.vm → post r u → B u t → H.size ≤ H1.size → (∀ q : Nat, q < H.size → ¬ A1 q → H1[q]? = H[q]?) → va_S A0 H0 H1 locs1 → W p l e R s m args below meth c H1 locs1 (cells + mc) (slots + ms) Q (F0 m (pc + 3) ls (.float r :: rest))) : W p l e R s m args below meth c H locs cells slots Q (F0 m pc ls st0) := by
  intro T hT X
  rcases hr T hT X with ⟨v, st₀, t, T', L, h0, X', hL, e1, e2, ⟨⟨r, u, hv, hp, hb⟩, hF⟩, st⟩ | ⟨q, st₀, t, T', L, E, ce, h0, X', hL, e1, e2, ⟨u, hp, hb, hF⟩, hce, hcv, hcl, st⟩
  · cases hv
    obtain ⟨k1, k2, k3⟩ := vx_keep h0 e1 hS hA hf hL hF
    obtain ⟨t2, a1, b1⟩ := kk r u t T'.heap (locs ++ L) e1.symm (by rw [← e2]; exact X'.warmed.alike) hp hb k1 k2 k3 T' rfl X'
    exact ⟨t2, st t2 a1, b1⟩
  · obtain ⟨k1, k2, k3⟩ := vx_keep h0 e1 hS hAX hf hL hF
    obtain ⟨t2, a1, b1⟩ := kx E ce q u t T'.heap (locs ++ L) e1.symm (by rw [← e2]; exact X'.warmed.alike) hp hb k1 k2 k3 (by rw [e1]; exact hce) hcv hcl T' rfl X'
    exact ⟨t2, st.trans a1, b1⟩
theorem vx_calld {S SX : Type} {post : UInt64 → S → Prop} {px : SX → Prop} {B : S → State → Prop} {BX : String → SX → State → Prop} {AX : Nat → Prop} (hr : vx_Run p l e R s m args below meth c H locs cells slots mc ms (F0 m pc ls st0) rest (va_Qd post B A1 a) (vx_X px BX AX) free) (hS : va_S A0 H0 H locs) (hA : ∀ q, q < H.size → A1 q → A0 q) (hf : ∀ q, free q → A0 q) (hAX : ∀ q, q < H.size → AX q → A0 q)
    (kx : ∀ (E : String) (ce : Cell) (q9 : Addr) (u : SX) (t : State) (H1 : Heap) (locs1 : List Loc), t.heap = H1 → s.vm.Alike t.vm → px u → BX E u t → H.size ≤ H1.size → (∀ q : Nat, q < H.size → ¬ AX q → H1[q]? = H[q]?) → va_S A0 H0 H1 locs1 → H1[q9]? = some ce → ce.vm = .none → s.vm.findClass E = some ce.cls → vx_W p l e R s m args below meth c H1 locs1 (cells + mc) (slots + ms) Q (F0 m pc ls rest) q9)
    (kk : ∀ (r : UInt64) (u : S) (t : State) (H1 : Heap) (locs1 : List Loc), t.heap = H1 → s.vm.Alike t.vm → post r u → B u t → H.size ≤ H1.size → (∀ q : Nat, q < H.size → ¬ A1 q → H1[q]? = H[q]?) → va_S A0 H0 H1 locs1 → W p l e R s m args below meth c H1 locs1 (cells + mc) (slots + ms) Q (F0 m (pc + 3) ls (.double r :: rest))) : W p l e R s m args below meth c H locs cells slots Q (F0 m pc ls st0) := by
  intro T hT X
  rcases hr T hT X with ⟨v, st₀, t, T', L, h0, X', hL, e1, e2, ⟨⟨r, u, hv, hp, hb⟩, hF⟩, st⟩ | ⟨q, st₀, t, T', L, E, ce, h0, X', hL, e1, e2, ⟨u, hp, hb, hF⟩, hce, hcv, hcl, st⟩
  · cases hv
    obtain ⟨k1, k2, k3⟩ := vx_keep h0 e1 hS hA hf hL hF
    obtain ⟨t2, a1, b1⟩ := kk r u t T'.heap (locs ++ L) e1.symm (by rw [← e2]; exact X'.warmed.alike) hp hb k1 k2 k3 T' rfl X'
    exact ⟨t2, st t2 a1, b1⟩
  · obtain ⟨k1, k2, k3⟩ := vx_keep h0 e1 hS hAX hf hL hF
    obtain ⟨t2, a1, b1⟩ := kx E ce q u t T'.heap (locs ++ L) e1.symm (by rw [← e2]; exact X'.warmed.alike) hp hb k1 k2 k3 (by rw [e1]; exact hce) hcv hcl T' rfl X'
    exact ⟨t2, st.trans a1, b1⟩
theorem vx_callv {S SX : Type} {post : S → Prop} {px : SX → Prop} {B : S → State → Prop} {BX : String → SX → State → Prop} {AX : Nat → Prop} (hr : vx_Run p l e R s m args below meth c H locs cells slots mc ms (F0 m pc ls st0) rest (va_Qv post B A1 a) (vx_X px BX AX) free) (hS : va_S A0 H0 H locs) (hA : ∀ q, q < H.size → A1 q → A0 q) (hf : ∀ q, free q → A0 q) (hAX : ∀ q, q < H.size → AX q → A0 q)
    (kx : ∀ (E : String) (ce : Cell) (q9 : Addr) (u : SX) (t : State) (H1 : Heap) (locs1 : List Loc), t.heap = H1 → s.vm.Alike t.vm → px u → BX E u t → H.size ≤ H1.size → (∀ q : Nat, q < H.size → ¬ AX q → H1[q]? = H[q]?) → va_S A0 H0 H1 locs1 → H1[q9]? = some ce → ce.vm = .none → s.vm.findClass E = some ce.cls → vx_W p l e R s m args below meth c H1 locs1 (cells + mc) (slots + ms) Q (F0 m pc ls rest) q9)
    (kk : ∀ (u : S) (t : State) (H1 : Heap) (locs1 : List Loc), t.heap = H1 → s.vm.Alike t.vm → post u → B u t → H.size ≤ H1.size → (∀ q : Nat, q < H.size → ¬ A1 q → H1[q]? = H[q]?) → va_S A0 H0 H1 locs1 → W p l e R s m args below meth c H1 locs1 (cells + mc) (slots + ms) Q (F0 m (pc + 3) ls (rest))) : W p l e R s m args below meth c H locs cells slots Q (F0 m pc ls st0) := by
  intro T hT X
  rcases hr T hT X with ⟨v, st₀, t, T', L, h0, X', hL, e1, e2, ⟨⟨u, hv, hp, hb⟩, hF⟩, st⟩ | ⟨q, st₀, t, T', L, E, ce, h0, X', hL, e1, e2, ⟨u, hp, hb, hF⟩, hce, hcv, hcl, st⟩
  · cases hv
    obtain ⟨k1, k2, k3⟩ := vx_keep h0 e1 hS hA hf hL hF
    obtain ⟨t2, a1, b1⟩ := kk u t T'.heap (locs ++ L) e1.symm (by rw [← e2]; exact X'.warmed.alike) hp hb k1 k2 k3 T' rfl X'
    exact ⟨t2, st t2 a1, b1⟩
  · obtain ⟨k1, k2, k3⟩ := vx_keep h0 e1 hS hAX hf hL hF
    obtain ⟨t2, a1, b1⟩ := kx E ce q u t T'.heap (locs ++ L) e1.symm (by rw [← e2]; exact X'.warmed.alike) hp hb k1 k2 k3 (by rw [e1]; exact hce) hcv hcl T' rfl X'
    exact ⟨t2, st.trans a1, b1⟩
/-- caught by the row x of this method's table; the rows ahead don't take it -/
theorem vx_catch {own name : String} {E : String} {ce : Cell} {q : Addr} (hown : s.vm.findClass own = some m.cls) (pre : List ExceptionTableEntry) (x : ExceptionTableEntry) (suf : List ExceptionTableEntry) (hsplit : c.exceptionTable.toList = pre ++ x :: suf)
    (hpass : ∀ z ∈ pre, covers z pc = false ∨ (z.catchType ≠ 0 ∧ ∃ nm : String, (Cond.classLink own z.catchType nm).before args s = true ∧ va_Nc E nm s)) (hx : covers x pc = true) (h0 : x.catchType ≠ 0)
    (hlink : (Cond.classLink own x.catchType name).before args s = true) (hcast : (Cond.castable E name).before args s = true) (hcell : H[q]? = some ce) (hv : ce.vm = .none) (hcl : s.vm.findClass E = some ce.cls)
    (kk : W p l e R s m args below meth c H locs cells slots Q (F0 m x.handlerPc ls [.ref q])) : vx_W p l e R s m args below meth c H locs cells slots Q (F0 m pc ls rest) q := by
  intro T hT X
  have hpl : e.platform.magicAccessors = ({} : Platform).magicAccessors := by rw [X.admits.platform]
  obtain ⟨c3, c4, hc3, hc4, hasg⟩ := Cond.castable_spec hcast
  cases Option.some.inj (hc3.symm.trans hcl)
  obtain ⟨c5, hc5, hcl5⟩ := Cond.classLink_spec hown hlink e.platform hpl
  cases Option.some.inj (hc4.symm.trans hc5)
  obtain ⟨vm', X', st⟩ := X.thenCaughtThrough q (g := F0 m pc ls rest) rfl (Steps.refl _) (by rw [hT]; exact hcell) (by rw [hv]; rfl) (by obtain ⟨k9, h9, -⟩ := Vm.findClass_spec hcl; exact ⟨k9, h9⟩) pre x suf hsplit
    (fun z hz => by
      rcases hpass z hz with h | ⟨hz0, nm, hl1, hn1⟩
      · exact Or.inl h
      · obtain ⟨c6, hc6, hcl6⟩ := Cond.classLink_spec hown hl1 e.platform hpl
        obtain ⟨a8, b8, h1, h2, h3⟩ := hn1
        cases Option.some.inj (h1.symm.trans hcl)
        cases Option.some.inj (h2.symm.trans hc6)
        exact Or.inr ⟨hz0, _, hcl6, h3⟩) hx (Or.inr ⟨h0, c4, hcl5, hasg⟩)
  obtain ⟨t, a1, b1⟩ := kk (T.setVm vm') hT X'
  exact ⟨t, st.trans a1, b1⟩
end Rows
section Ends
variable {p : Program} {l : Launch} {e : Env} {R : Room} {s : State} {m : MethodId} {args : Array Value} {below : List Frame} {meth : Method} {c : Code} {H : Heap} {locs : List Loc} {cells slots : Nat} {Q : State → Prop}
variable {mc ms : Nat} {free : Addr → Prop} {A0 A1 : Nat → Prop} {H0 : Heap} {a : Array Value} {ls : Array Slot} {st0 rest : List Value}
variable {Qc : Array Value → State → Outcome → State → Prop} {XC : String → State → State → Prop}
/-- what a body that may throw owes at its end -/
def vx_MQ (below : List Frame) (Qc : Array Value → State → Outcome → State → Prop) (XC : String → State → State → Prop) (a : Array Value) (s : State) (mc ms : Nat) (free : Addr → Prop) : State → Prop := fun t =>
  ∃ o, t.status = .running ∧ Ended t below o ∧ vx_Q Qc XC mc ms free a s o t
theorem vx_ret {g : JFrame} {mc ms : Nat} (k : W p l e R s m args below meth c H locs cells slots (MQ below Qc args s mc ms free) g) : W p l e R s m args below meth c H locs cells slots (vx_MQ below Qc XC args s mc ms free) g := by
  intro T hT X
  obtain ⟨t, a1, o, b1, b2, b3, b4⟩ := k T hT X
  exact ⟨t, a1, o, b1, b2, Or.inl ⟨b3, b4⟩⟩
/-- not caught here: it goes on to the caller -/
theorem vx_widen {g : JFrame} {q : Addr} {k n : Nat} (h1 : cells ≤ k) (h2 : slots ≤ n) (kk : vx_W p l e R s m args below meth c H locs k n Q g q) : vx_W p l e R s m args below meth c H locs cells slots Q g q := fun T hT X => kk T hT (stand_widen X h1 h2)
theorem vx_out {pc : Nat} {E : String} {ce : Cell} {q : Addr} {mc ms : Nat} (hout : ∀ x ∈ c.exceptionTable.toList, covers x pc = false) (hlocks : meth.locks = false) (hcell : H[q]? = some ce) (hv : ce.vm = .none) (hcl : s.vm.findClass E = some ce.cls)
    (hx : ∀ t : State, t.heap = H → s.vm.Alike t.vm → XC E s t) (hf : ∀ z ∈ locs, free z.base) (hc : cells ≤ mc) (hs : slots ≤ ms) :
    vx_W p l e R s m args below meth c H locs cells slots (vx_MQ below Qc XC args s mc ms free) (F0 m pc ls rest) q := by
  intro T hT X
  obtain ⟨st1, hrun, hend, hW, hsm⟩ := X.leaveThrown q (g := F0 m pc ls rest) rfl rfl rfl hout hlocks
  have hcell9 : (T.setFrames (.throwing q :: below)).heap[q]? = some ce := by
    show T.heap[q]? = some ce
    rw [hT]; exact hcell
  exact ⟨_, st1, .threw q, hrun, hend, Or.inr ⟨q, rfl, E, ce, locs, hx _ hT hW.alike, hcell9, hv, hcl, hW, hsm.mono hc hs, hf⟩⟩
theorem vx_frame {U : State} {k n : Nat} (h : s.sameButNew ({ U with vm := s.vm } : State) locs k n) : s.heap.size ≤ U.heap.size ∧ ∀ q : Nat, q < s.heap.size → (∀ z ∈ locs, z.base ≠ q) → U.heap[q]? = s.heap[q]? := by
  obtain ⟨-, h2, -, -, -, h6⟩ := h
  refine ⟨h2, fun q hq hz => ?_⟩
  obtain ⟨c9, e1, e2, e3, e4⟩ := h6 q _ (Array.getElem?_eq_getElem hq)
  have hs : c9.slots = (s.heap[q]).slots := Array.ext_getElem? fun i => e4 i fun hm => hz _ hm rfl
  have h9 : c9 = s.heap[q] := by
    rw [hs] at e2
    exact e2
  have e5 : U.heap[q]? = some c9 := e1
  rw [e5, h9, Array.getElem?_eq_getElem hq]
/-- the words of a throw but the four that speak of the heap -/
def vx_no (w : Cond) : Bool := decide (w ≠ .isRef (.static Bundle.tN "UNASSIGNED_STACK" Bundle.steD)) && decide (w ≠ .isRef (.static Bundle.tN "SUPPRESSED_SENTINEL" Bundle.listD)) && decide (w ≠ .laysStatic Bundle.tN "UNASSIGNED_STACK" Bundle.steD) && decide (w ≠ .laysStatic Bundle.tN "SUPPRESSED_SENTINEL" Bundle.listD)
def vx_at0 (own : String) (ic : Nat) (X : String) (names : List String) : List Cond := (Bundle.ownAtoms0 own ic X names).filter vx_no
def vx_atS (own : String) (ic : Nat) (X : String) (names : List String) : List Cond := (Bundle.ownAtoms own ic X names).filter vx_no
/-- a word that the tables alone decide, or a good one -/
def vx_ot (w : Cond) : Bool := w.onTables || goodWord w
theorem vx_ot_at {args a' : Array Value} {s U : State} {w : Cond} (hW : s.WarmedH U.vm) (hvm : s.vm = U.vm) (hg : vx_ot w = true) (h : w.before args s = true) : w.before a' U = true := by
  simp only [vx_ot, Bool.or_eq_true] at hg
  rcases hg with hg | hg
  · exact va_tabs hg hvm h
  · exact word_at hW (good_of_word hg) h
/-- a list's words: the good ones out of the method's own list, the others by premises of their own -/
theorem vx_hat {args : Array Value} {s : State} {L B : List Cond} (h1 : ∀ w ∈ L.filter goodWord, w.before args s = true) (h2 : ∀ w ∈ L.filter (fun w => !goodWord w), w ∈ B) (h3 : ∀ w ∈ B, w.before args s = true) : ∀ w ∈ L, w.before args s = true := by
  intro w hw
  by_cases g : goodWord w = true
  · exact h1 w (List.mem_filter.mpr ⟨hw, g⟩)
  · refine h3 w (h2 w (List.mem_filter.mpr ⟨hw, ?_⟩))
    show (!goodWord w) = true
    cases hgw : goodWord w
    · rfl
    · exact absurd hgw g
theorem vx_c {args : Array Value} {s : State} {w : Cond} {B : List Cond} (h : w.before args s = true) (t : ∀ w ∈ B, w.before args s = true) : ∀ w' ∈ w :: B, w'.before args s = true := fun w' h' => (List.mem_cons.mp h').elim (fun e => by rw [e]; exact h) (t w')
theorem vx_n {args : Array Value} {s : State} : ∀ w ∈ ([] : List Cond), w.before args s = true := fun _ h => nomatch h
theorem vx_own {args : Array Value} {s : State} {L : List Cond} (h1 : ∀ w ∈ L.filter vx_no, w.before args s = true)
    (hU : (Cond.isRef (.static Bundle.tN "UNASSIGNED_STACK" Bundle.steD)).before args s = true) (hN : (Cond.isRef (.static Bundle.tN "SUPPRESSED_SENTINEL" Bundle.listD)).before args s = true)
    (lU : (Cond.laysStatic Bundle.tN "UNASSIGNED_STACK" Bundle.steD).before args s = true) (lN : (Cond.laysStatic Bundle.tN "SUPPRESSED_SENTINEL" Bundle.listD).before args s = true) : ∀ w ∈ L, w.before args s = true := by
  intro w hw
  by_cases e1 : w = .isRef (.static Bundle.tN "UNASSIGNED_STACK" Bundle.steD)
  · rw [e1]; exact hU
  · by_cases e2 : w = .isRef (.static Bundle.tN "SUPPRESSED_SENTINEL" Bundle.listD)
    · rw [e2]; exact hN
    · by_cases e3 : w = .laysStatic Bundle.tN "UNASSIGNED_STACK" Bundle.steD
      · rw [e3]; exact lU
      · by_cases e4 : w = .laysStatic Bundle.tN "SUPPRESSED_SENTINEL" Bundle.listD
        · rw [e4]; exact lN
        · exact h1 w (List.mem_filter.mpr ⟨hw, by unfold vx_no; rw [decide_eq_true e1, decide_eq_true e2, decide_eq_true e3, decide_eq_true e4]; rfl⟩)
/-- where a static field lies, its class's statics cell in H -/
def vx_L (C n d : String) (A : Nat → Prop) (U : State) (H : Heap) : Prop := ∃ (c : ClassId) (k : Class) (i : Nat) (f : Field) (a : Nat) (cell : Cell), U.vm.findClass C = some c ∧ U.fieldFound? C n d = some (c, k, i, f) ∧ f.isStatic = true ∧ k.statics = some a ∧ H[a]? = some cell ∧ cell.vm.isStatics = true ∧ cell.cls = c ∧ f.slot < cell.slots.size ∧ k.staticTypes[f.slot]? = some f.type ∧ ¬ A a
theorem vx_L.moved {C n d : String} {A : Nat → Prop} {u U : State} {H : Heap} (hvm : u.vm.Alike U.vm) (h : vx_L C n d A u H) : vx_L C n d A U H := by
  obtain ⟨c, k, i, f, a, cell, h1, h2, h3, h4, h5, h6, h7, h8, h9, h10⟩ := h
  obtain ⟨k', hi', he⟩ := State.fieldFound?_setVm hvm h2
  exact ⟨c, k', i, f, a, cell, by rw [hvm.findClass]; exact h1, hi', h3, by rw [he]; exact h4, h5, h6, h7, h8, by rw [he]; exact h9, h10⟩
theorem vx_L.kept {C n d : String} {A : Nat → Prop} {U : State} {H H1 : Heap} (h : vx_L C n d A U H) (hq : ∀ a : Nat, a < H.size → ¬ A a → H1[a]? = H[a]?) : vx_L C n d A U H1 := by
  obtain ⟨c, k, i, f, a, cell, h1, h2, h3, h4, h5, h6, h7, h8, h9, h10⟩ := h
  exact ⟨c, k, i, f, a, cell, h1, h2, h3, h4, by rw [hq a (Array.getElem?_eq_some_iff.mp h5).1 h10]; exact h5, h6, h7, h8, h9, h10⟩
theorem vx_L.narrow {C n d : String} {A B : Nat → Prop} {U : State} {H : Heap} (h : vx_L C n d A U H) (hAB : ∀ q, B q → A q) : vx_L C n d B U H := by
  obtain ⟨c, k, i, f, a, cell, h1, h2, h3, h4, h5, h6, h7, h8, h9, h10⟩ := h
  exact ⟨c, k, i, f, a, cell, h1, h2, h3, h4, h5, h6, h7, h8, h9, fun z => h10 (hAB _ z)⟩
theorem vx_L.word {C n d : String} {A : Nat → Prop} {s : State} {args : Array Value} (h : vx_L C n d A s s.heap) : (Cond.laysStatic C n d).before args s = true := by
  obtain ⟨c, k, i, f, a, cell, h1, h2, h3, h4, h5, h6, h7, h8, h9, -⟩ := h
  show (Cond.laysStatic C n d).holds args s none s [] = true
  exact Cond.laysStatic_of h1 h2 h3 h4 h5 h6 h7 h8 h9
/-- .. and what it holds: null or some reference -/
def vx_Zq (C n d : String) (A : Nat → Prop) (U : State) (H : Heap) : Prop := va_Zq C n d A U H ∧ vx_L C n d A U H
theorem vx_Zq.moved {C n d : String} {A : Nat → Prop} {u U : State} {H : Heap} (hvm : u.vm.Alike U.vm) (h : vx_Zq C n d A u H) : vx_Zq C n d A U H := ⟨va_Zq.moved hvm h.1, vx_L.moved hvm h.2⟩
theorem vx_Zq.kept {C n d : String} {A : Nat → Prop} {U : State} {H H1 : Heap} (h : vx_Zq C n d A U H) (hq : ∀ a : Nat, a < H.size → ¬ A a → H1[a]? = H[a]?) : vx_Zq C n d A U H1 := ⟨va_Zq.kept h.1 hq, vx_L.kept h.2 hq⟩
theorem vx_Zq.narrow {C n d : String} {A B : Nat → Prop} {U : State} {H : Heap} (h : vx_Zq C n d A U H) (hAB : ∀ q, B q → A q) : vx_Zq C n d B U H := ⟨va_Zq.narrow h.1 hAB, vx_L.narrow h.2 hAB⟩
theorem vx_Zqof {args : Array Value} {s : State} {C n d : String} {A : Nat → Prop} (hl : (Cond.laysStatic C n d).before args s = true) (hini : (Cond.initialized C).before args s = true) (h : (Cond.isRef (.static C n d)).before args s = true) (hA : ∀ a : Nat, a < s.heap.size → ¬ A a) : vx_Zq C n d A s s.heap := by
  refine ⟨va_Zqof hl hini h hA, ?_⟩
  obtain ⟨c, k, i, f, a, cell, h1, h2, h3, h4, h5, h6, h7, h8, h9⟩ := Cond.laysStatic_spec hl
  exact ⟨c, k, i, f, a, cell, h1, h2, h3, h4, h5, h6, h7, h8, h9, hA a (Array.getElem?_eq_some_iff.mp h5).1⟩
theorem vx_isRef {C n d : String} {v : Value} {A : Nat → Prop} {s : State} {args : Array Value} (h : va_Z C n d v A s s.heap) (hv : v.isRef = true) : (Cond.isRef (.static C n d)).before args s = true := by
  obtain ⟨cf, kf, fi, f, a, cell, h1, h2, h3, h4, h5, h6, h7, -⟩ := h
  have he : (Term.static C n d).eval args s none [] s = some v := by
    simp [Term.eval, State.fieldNamed?, h1, h2, h4, h5, h6, h7]
  simp only [Cond.before, Cond.holds, Cond.value, he]
  cases v <;> simp_all [Value.isRef]
theorem vx_isRefq {C n d : String} {A : Nat → Prop} {s : State} {args : Array Value} (h : va_Zq C n d A s s.heap) : (Cond.isRef (.static C n d)).before args s = true := by
  rcases h with h | ⟨t, h⟩
  · exact vx_isRef h rfl
  · exact vx_isRef h rfl
/-- the same frame, seen from here: as if the method were called anew in this heap -/
theorem vx_rebase {T : State} (X : Stand p l e R s m args below meth c T locs cells slots) {R' : Room} (hf : R'.frames ≤ R.frames) (hl : R'.locals ≤ R.locals) (hc : cells + R'.cells ≤ R.cells) (hs : slots + R'.slots ≤ R.slots) :
    Stand p l e R' ((T.setVm s.vm).setFrames (.invoking m args :: below)) m args below meth c T [] 0 0 := by
  have htop : (T.setVm s.vm).topJava?.isSome := X.here.top
  have hF : ((T.setVm s.vm).setFrames (.invoking m args :: below)).frames = .invoking m args :: below := State.frames_setFrames _ (State.cur_lt_of_top htop)
  obtain ⟨g₀, hg0⟩ := Option.isSome_iff_exists.mp htop
  obtain ⟨r, hr⟩ := State.topJava?_eq_some.mp hg0
  have hl9 : e.platform.stackLimits (T.setVm s.vm).me = e.platform.stackLimits s.me := X.limits
  have hb9 : (T.setVm s.vm).me.stackBytes = s.me.stackBytes := X.bytes
  refine ⟨X.admits, X.cas, X.clock, hF, ?_, X.hears, X.method, X.code, X.here, X.tail, X.warmed, ?_, ?_, ?_⟩
  · have h := X.room
    have hU : ((T.setVm s.vm).setFrames (.invoking m args :: below)).localsInUse = s.localsInUse := by
      rw [State.localsInUse_invoking hF (meth := meth) (c := c) X.method X.code, State.localsInUse_invoking X.frames X.method X.code]
    simp only [State.hasRoom, Bool.and_eq_true, decide_eq_true_eq] at h ⊢
    obtain ⟨⟨⟨⟨h1, h2, h3, h4, h5, h6⟩, h7⟩, h8⟩, h9⟩ := h
    rw [X.frames, List.length_cons] at h2 h3
    have q1 := X.heapSize
    have q2 := X.used
    simp only [hF, hU, List.length_cons, State.stackLimits_setFrames, State.stackBytes_setFrames, hl9, hb9]
    refine ⟨⟨⟨⟨by omega, by omega, by omega, by omega, by omega, h6⟩, ?_⟩, ?_⟩, X.book⟩
    · show T.heap.size + R'.cells ≤ e.platform.maxCells
      omega
    · show T.slotsUsed + R'.slots ≤ e.platform.maxSlots
      omega
  · rw [State.stackLimits_setFrames]; rfl
  · rw [State.stackBytes_setFrames]; rfl
  · refine ⟨?_, Nat.le_refl _, Nat.le_refl _, ?_, ?_, fun a c9 h9 => ⟨c9, h9, rfl, rfl, fun _ _ => rfl⟩⟩
    · obtain ⟨t, ht, -⟩ := State.frames_cons hr
      show T.setVm s.vm = { ((T.setVm s.vm).setFrames (.invoking m args :: below)).setFrames (T.setVm s.vm).frames with heap := T.heap, slotsUsed := T.slotsUsed }
      rw [State.setFrames_setFrames, State.setFrames_self ht]
      rfl
    · show T.slotsUsed = T.slotsUsed + ((T.heap.toList.drop T.heap.size).map (·.slots.size)).sum
      rw [List.drop_eq_nil_of_le (Nat.le_of_eq Array.length_toList)]
      rfl
    · show ((T.heap.toList.drop T.heap.size).map (·.slots.size)).sum ≤ 0
      rw [List.drop_eq_nil_of_le (Nat.le_of_eq Array.length_toList)]
      exact Nat.le_refl _
/-- 'throw new E()': new; dup; invokespecial; athrow -/
theorem vx_throw0 {cc : ByteArray} {pc : Nat} (hexec : p.tables.exec = Jvm.exec) (hb : c.code = cc) (hl : l.stackTraces = false) {own cls : String} {names : List String} {ik ic mc ms : Nat} {A : Nat → Prop}
    (hown : s.vm.findClass own = some m.cls) (hcls : Bundle.fit cls = true) (hnames : ∀ n ∈ names, Bundle.fit n = true)
    (hk : (Cond.classLink own ik cls).before args s = true) (hini : (Cond.initialized cls).before args s = true) (hat : ∀ w ∈ vx_at0 own ic cls names, w.before args s = true)
    (hgood : ∀ w ∈ Cond.classLink own ik cls :: Cond.initialized cls :: vx_at0 own ic cls names, vx_ot w = true)
    (hU : vx_Zq Bundle.tN "UNASSIGNED_STACK" Bundle.steD A s s.heap) (hN : vx_Zq Bundle.tN "SUPPRESSED_SENTINEL" Bundle.listD A s s.heap) (hS : va_S A s.heap H locs) (hsize : ls.size = c.maxLocals)
    (d0 : decode cc pc = .ok (.new ik, 3)) (d3 : decode cc (pc + 3) = .ok (.dup, 1)) (d4 : decode cc (pc + 4) = .ok (.invokespecial ic, 3)) (d7 : decode cc (pc + 7) = .ok (.athrow, 1))
    (hout : ∀ x ∈ c.exceptionTable.toList, covers x (pc + 7) = false)
    (hRframes : names.length + 3 < R.frames) (hRlocals : (rest.map fun v => v.category).sum + (13 * (names.length + 1) + 42) ≤ R.locals) (hRcells : cells + 1 ≤ R.cells) (hRslots : slots + 6 ≤ R.slots) (hlocks : meth.locks = false)
    (hx : ∀ t : State, s.vm.Alike t.vm → H.size ≤ t.heap.size → (∀ q : Nat, q < H.size → t.heap[q]? = H[q]?) → XC cls s t)
    (hf : ∀ z ∈ locs, free z.base) (hc : cells + 1 ≤ mc) (hs : slots + 6 ≤ ms) :
    W p l e R s m args below meth c H locs cells slots (vx_MQ below Qc XC args s mc ms free) (F0 m pc ls rest) := by
  intro T hT X
  have htr : e.platform.stackTraces = false := (show e.platform.stackTraces = l.stackTraces by rw [X.admits.platform]).trans hl
  have Y := vx_rebase X (R' := { frames := R.frames, locals := R.locals, cells := 1, slots := 6 }) (Nat.le_refl _) (Nat.le_refl _) hRcells hRslots
  obtain ⟨s', hA⟩ : ∃ z, z = (T.setVm s.vm).setFrames (.invoking m args :: below) := ⟨_, rfl⟩
  rw [← hA] at Y
  have hvm : s'.vm = s.vm := by rw [hA]; rfl
  have hhp : s'.heap = H := by rw [hA]; exact hT
  have hW0 : s.WarmedH s'.vm := by rw [hvm]; exact State.WarmedH.refl s
  have hat' : ∀ w ∈ vx_at0 own ic cls names, w.before args s' = true := fun w hw => vx_ot_at hW0 hvm.symm (hgood w (List.mem_cons_of_mem _ (List.mem_cons_of_mem _ hw))) (hat w hw)
  have hk' : (Cond.classLink own ik cls).before args s' = true := vx_ot_at hW0 hvm.symm (hgood _ List.mem_cons_self) hk
  have hini' : (Cond.initialized cls).before args s' = true := vx_ot_at hW0 hvm.symm (hgood _ (List.mem_cons_of_mem _ List.mem_cons_self)) hini
  have hU' : vx_Zq Bundle.tN "UNASSIGNED_STACK" Bundle.steD A s' s'.heap := by rw [hhp]; exact vx_Zq.moved hW0.alike (hU.kept hS.2.1)
  have hN' : vx_Zq Bundle.tN "SUPPRESSED_SENTINEL" Bundle.listD A s' s'.heap := by rw [hhp]; exact vx_Zq.moved hW0.alike (hN.kept hS.2.1)
  have h : ∀ w ∈ Bundle.ownAtoms0 own ic cls names, w.before args s' = true := vx_own hat' (vx_isRefq hU'.1) (vx_isRefq hN'.1) hU'.2.word hN'.2.word
  have hown' : s'.vm.findClass own = some m.cls := by rw [hvm]; exact hown
  have hins : (Cond.instantiable cls 6).before args s' = true := h _ (by simp [Bundle.ownAtoms0])
  obtain ⟨vm₁, cX, kX, hfX, hkX, -, -, X₁, st1⟩ := Y.newCold hexec (own := own) (C := cls) (index := ik) (n := 6) hown' hk' hins hini'
    (g := F0 m pc ls rest) rfl (by rw [hb]; exact d0) (Nat.le_refl _) (Nat.le_refl _)
  generalize hT1 : (T.setVm vm₁).pushCell { cls := cX, slots := kX.instanceTypes.map defaultValue, vm := .none } = T1 at X₁ st1
  have hcat : (Value.ref T.heap.size).category = 1 := rfl
  have hcellA : T1.heap[T.heap.size]? = some (freshCell cX kX) := by rw [← hT1]; exact State.heap_pushCell_size _ _
  have d3' : decode c.code (pc + 3) = .ok (.dup, 1) := by rw [hb]; exact d3
  obtain ⟨U, hsteps, hrun, hend, hW, hsame, ce, hce, hO⟩ := X₁.ctorThrow0 hexec htr (own := own) (cls := cls) (names := names) (ic := ic) hown' hcls hnames h (fun x hx => nomatch hx) hfX hkX hcellA (by rw [hhp, hT]; exact Nat.le_refl _)
    (g := { method := m, pc := pc + 4, locals := ls, stack := .ref T.heap.size :: .ref T.heap.size :: rest, locked := none }) rfl hsize rfl rfl (rest := rest) rfl
    (by rw [hb]; exact d4) (by rw [hb]; exact d7) hout hRframes (by simp only [List.map_cons, List.sum_cons, hcat]; omega) hlocks
  obtain ⟨f1, f2⟩ := vx_frame hsame
  rw [hhp] at f1 f2
  have hWs : s.WarmedH U.vm := State.WarmedH.trans hW0 hW
  have hcl : s.vm.findClass cls = some ce.cls := by
    have h9 := hO.cls
    rw [hvm] at h9
    exact h9
  have hall : s.sameButNew ({ U with vm := s.vm } : State) locs mc ms := by
    subst hA
    obtain ⟨e1, e2⟩ := hsame
    rw [State.setFrames_setFrames] at e1
    have h2 : (T.setVm s.vm).sameButNew ({ U with vm := s.vm } : State) [] (0 + 1) (0 + 6) := ⟨e1, e2⟩
    have h3 := X.same.trans h2
    rw [List.append_nil] at h3
    exact h3.mono hc hs
  refine ⟨U, ?_, .threw T.heap.size, hrun, hend, Or.inr ⟨T.heap.size, rfl, cls, ce, locs, hx U hWs.alike f1 (fun q hq => f2 q hq (fun z hz => nomatch hz)), hce, hO.vm, hcl, hWs, hall, hf⟩⟩
  refine st1 _ ?_
  show Steps p.tables e below (T1.setTop { method := m, pc := pc + 3, locals := ls, stack := .ref T.heap.size :: rest, locked := none }) _
  jvm_step X₁.here [X₁.here.top, hexec, d3', Value.category]
  exact hsteps
/-- 'throw new E("text")': new; dup; ldc; invokespecial; athrow -/
theorem vx_throwS {cc : ByteArray} {pc : Nat} (hexec : p.tables.exec = Jvm.exec) (hb : c.code = cc) (hl : l.stackTraces = false) {own cls text : String} {names : List String} {ik is ic mc ms sa : Nat} {A : Nat → Prop}
    (hown : s.vm.findClass own = some m.cls) (hcls : Bundle.fit cls = true) (hnames : ∀ n ∈ names, Bundle.fit n = true)
    (hk : (Cond.classLink own ik cls).before args s = true) (hini : (Cond.initialized cls).before args s = true) (hstr : vk_R own is text sa s) (hat : ∀ w ∈ vx_atS own ic cls names, w.before args s = true)
    (hgood : ∀ w ∈ Cond.classLink own ik cls :: Cond.initialized cls :: vx_atS own ic cls names, vx_ot w = true)
    (hU : vx_Zq Bundle.tN "UNASSIGNED_STACK" Bundle.steD A s s.heap) (hN : vx_Zq Bundle.tN "SUPPRESSED_SENTINEL" Bundle.listD A s s.heap) (hS : va_S A s.heap H locs) (hsize : ls.size = c.maxLocals)
    (d0 : decode cc pc = .ok (.new ik, 3)) (d3 : decode cc (pc + 3) = .ok (.dup, 1)) (d4 : decode cc (pc + 4) = .ok (.ldc is, 2)) (d6 : decode cc (pc + 6) = .ok (.invokespecial ic, 3)) (d9 : decode cc (pc + 9) = .ok (.athrow, 1))
    (hout : ∀ x ∈ c.exceptionTable.toList, covers x (pc + 9) = false)
    (hRframes : names.length + 3 < R.frames) (hRlocals : (rest.map fun v => v.category).sum + (13 * (names.length + 1) + 43) ≤ R.locals) (hRcells : cells + 1 ≤ R.cells) (hRslots : slots + 6 ≤ R.slots) (hlocks : meth.locks = false)
    (hx : ∀ t : State, s.vm.Alike t.vm → H.size ≤ t.heap.size → (∀ q : Nat, q < H.size → t.heap[q]? = H[q]?) → XC cls s t)
    (hf : ∀ z ∈ locs, free z.base) (hc : cells + 1 ≤ mc) (hs : slots + 6 ≤ ms) :
    W p l e R s m args below meth c H locs cells slots (vx_MQ below Qc XC args s mc ms free) (F0 m pc ls rest) := by
  intro T hT X
  have htr : e.platform.stackTraces = false := (show e.platform.stackTraces = l.stackTraces by rw [X.admits.platform]).trans hl
  have Y := vx_rebase X (R' := { frames := R.frames, locals := R.locals, cells := 1, slots := 6 }) (Nat.le_refl _) (Nat.le_refl _) hRcells hRslots
  obtain ⟨s', hA⟩ : ∃ z, z = (T.setVm s.vm).setFrames (.invoking m args :: below) := ⟨_, rfl⟩
  rw [← hA] at Y
  have hvm : s'.vm = s.vm := by rw [hA]; rfl
  have hhp : s'.heap = H := by rw [hA]; exact hT
  have hW0 : s.WarmedH s'.vm := by rw [hvm]; exact State.WarmedH.refl s
  have hat' : ∀ w ∈ vx_atS own ic cls names, w.before args s' = true := fun w hw => vx_ot_at hW0 hvm.symm (hgood w (List.mem_cons_of_mem _ (List.mem_cons_of_mem _ hw))) (hat w hw)
  have hk' : (Cond.classLink own ik cls).before args s' = true := vx_ot_at hW0 hvm.symm (hgood _ List.mem_cons_self) hk
  have hini' : (Cond.initialized cls).before args s' = true := vx_ot_at hW0 hvm.symm (hgood _ (List.mem_cons_of_mem _ List.mem_cons_self)) hini
  have hU' : vx_Zq Bundle.tN "UNASSIGNED_STACK" Bundle.steD A s' s'.heap := by rw [hhp]; exact vx_Zq.moved hW0.alike (hU.kept hS.2.1)
  have hN' : vx_Zq Bundle.tN "SUPPRESSED_SENTINEL" Bundle.listD A s' s'.heap := by rw [hhp]; exact vx_Zq.moved hW0.alike (hN.kept hS.2.1)
  have h : ∀ w ∈ Bundle.ownAtoms own ic cls names, w.before args s' = true := vx_own hat' (vx_isRefq hU'.1) (vx_isRefq hN'.1) hU'.2.word hN'.2.word
  have hown' : s'.vm.findClass own = some m.cls := by rw [hvm]; exact hown
  have hins : (Cond.instantiable cls 6).before args s' = true := h _ (by simp [Bundle.ownAtoms])
  obtain ⟨vm₁, cX, kX, hfX, hkX, -, -, X₁, st1⟩ := Y.newCold hexec (own := own) (C := cls) (index := ik) (n := 6) hown' hk' hins hini'
    (g := F0 m pc ls rest) rfl (by rw [hb]; exact d0) (Nat.le_refl _) (Nat.le_refl _)
  generalize hT1 : (T.setVm vm₁).pushCell { cls := cX, slots := kX.instanceTypes.map defaultValue, vm := .none } = T1 at X₁ st1
  have hcat : (Value.ref T.heap.size).category = 1 := rfl
  have hcellA : T1.heap[T.heap.size]? = some (freshCell cX kX) := by rw [← hT1]; exact State.heap_pushCell_size _ _
  have d3' : decode c.code (pc + 3) = .ok (.dup, 1) := by rw [hb]; exact d3
  have d4' : decode c.code (pc + 4) = .ok (.ldc is, 2) := by rw [hb]; exact d4
  have hstr' : vk_R own is text sa s' := vk_R.warm hW0 hstr
  obtain ⟨U, hsteps, hrun, hend, hW, hsame, ce, hce, hO⟩ := X₁.ctorThrowS hexec htr (own := own) (cls := cls) (names := names) (ic := ic) hown' hcls hnames h (fun x hx => nomatch hx) hfX hkX hcellA (by rw [hhp, hT]; exact Nat.le_refl _) (msg := .ref sa) rfl
    (g := { method := m, pc := pc + 6, locals := ls, stack := .ref sa :: .ref T.heap.size :: .ref T.heap.size :: rest, locked := none }) rfl hsize rfl rfl (rest := rest) rfl
    (by rw [hb]; exact d6) (by rw [hb]; exact d9) hout hRframes (by simp only [List.map_cons, List.sum_cons, hcat]; omega) hlocks
  obtain ⟨f1, f2⟩ := vx_frame hsame
  rw [hhp] at f1 f2
  have hWs : s.WarmedH U.vm := State.WarmedH.trans hW0 hW
  have hcl : s.vm.findClass cls = some ce.cls := by
    have h9 := hO.cls
    rw [hvm] at h9
    exact h9
  have hall : s.sameButNew ({ U with vm := s.vm } : State) locs mc ms := by
    subst hA
    obtain ⟨e1, e2⟩ := hsame
    rw [State.setFrames_setFrames] at e1
    have h2 : (T.setVm s.vm).sameButNew ({ U with vm := s.vm } : State) [] (0 + 1) (0 + 6) := ⟨e1, e2⟩
    have h3 := X.same.trans h2
    rw [List.append_nil] at h3
    exact h3.mono hc hs
  refine ⟨U, ?_, .threw T.heap.size, hrun, hend, Or.inr ⟨T.heap.size, rfl, cls, ce, locs, hx U hWs.alike f1 (fun q hq => f2 q hq (fun z hz => nomatch hz)), hce, hO.vm, hcl, hWs, hall, hf⟩⟩
  refine st1 _ ?_
  show Steps p.tables e below (T1.setTop { method := m, pc := pc + 3, locals := ls, stack := .ref T.heap.size :: rest, locked := none }) _
  jvm_step X₁.here [X₁.here.top, hexec, d3', Value.category]
  exact X₁.ldcString hexec (own := own) (text := text) (index := is) (a := sa) hown' hstr'.1 hstr'.2
    (g := { method := m, pc := pc + 4, locals := ls, stack := .ref T.heap.size :: .ref T.heap.size :: rest, locked := none }) rfl d4' _ hsteps
/-- 'throw new E("text")', the text by a wide index -/
theorem vx_throwSW {cc : ByteArray} {pc : Nat} (hexec : p.tables.exec = Jvm.exec) (hb : c.code = cc) (hl : l.stackTraces = false) {own cls text : String} {names : List String} {ik is ic mc ms sa : Nat} {A : Nat → Prop}
    (hown : s.vm.findClass own = some m.cls) (hcls : Bundle.fit cls = true) (hnames : ∀ n ∈ names, Bundle.fit n = true)
    (hk : (Cond.classLink own ik cls).before args s = true) (hini : (Cond.initialized cls).before args s = true) (hstr : vk_R own is text sa s) (hat : ∀ w ∈ vx_atS own ic cls names, w.before args s = true)
    (hgood : ∀ w ∈ Cond.classLink own ik cls :: Cond.initialized cls :: vx_atS own ic cls names, vx_ot w = true)
    (hU : vx_Zq Bundle.tN "UNASSIGNED_STACK" Bundle.steD A s s.heap) (hN : vx_Zq Bundle.tN "SUPPRESSED_SENTINEL" Bundle.listD A s s.heap) (hS : va_S A s.heap H locs) (hsize : ls.size = c.maxLocals)
    (d0 : decode cc pc = .ok (.new ik, 3)) (d3 : decode cc (pc + 3) = .ok (.dup, 1)) (d4 : decode cc (pc + 4) = .ok (.ldc_w is, 3)) (d7 : decode cc (pc + 7) = .ok (.invokespecial ic, 3)) (d10 : decode cc (pc + 10) = .ok (.athrow, 1))
    (hout : ∀ x ∈ c.exceptionTable.toList, covers x (pc + 10) = false)
    (hRframes : names.length + 3 < R.frames) (hRlocals : (rest.map fun v => v.category).sum + (13 * (names.length + 1) + 43) ≤ R.locals) (hRcells : cells + 1 ≤ R.cells) (hRslots : slots + 6 ≤ R.slots) (hlocks : meth.locks = false)
    (hx : ∀ t : State, s.vm.Alike t.vm → H.size ≤ t.heap.size → (∀ q : Nat, q < H.size → t.heap[q]? = H[q]?) → XC cls s t)
    (hf : ∀ z ∈ locs, free z.base) (hc : cells + 1 ≤ mc) (hs : slots + 6 ≤ ms) :
    W p l e R s m args below meth c H locs cells slots (vx_MQ below Qc XC args s mc ms free) (F0 m pc ls rest) := by
  intro T hT X
  have htr : e.platform.stackTraces = false := (show e.platform.stackTraces = l.stackTraces by rw [X.admits.platform]).trans hl
  have Y := vx_rebase X (R' := { frames := R.frames, locals := R.locals, cells := 1, slots := 6 }) (Nat.le_refl _) (Nat.le_refl _) hRcells hRslots
  obtain ⟨s', hA⟩ : ∃ z, z = (T.setVm s.vm).setFrames (.invoking m args :: below) := ⟨_, rfl⟩
  rw [← hA] at Y
  have hvm : s'.vm = s.vm := by rw [hA]; rfl
  have hhp : s'.heap = H := by rw [hA]; exact hT
  have hW0 : s.WarmedH s'.vm := by rw [hvm]; exact State.WarmedH.refl s
  have hat' : ∀ w ∈ vx_atS own ic cls names, w.before args s' = true := fun w hw => vx_ot_at hW0 hvm.symm (hgood w (List.mem_cons_of_mem _ (List.mem_cons_of_mem _ hw))) (hat w hw)
  have hk' : (Cond.classLink own ik cls).before args s' = true := vx_ot_at hW0 hvm.symm (hgood _ List.mem_cons_self) hk
  have hini' : (Cond.initialized cls).before args s' = true := vx_ot_at hW0 hvm.symm (hgood _ (List.mem_cons_of_mem _ List.mem_cons_self)) hini
  have hU' : vx_Zq Bundle.tN "UNASSIGNED_STACK" Bundle.steD A s' s'.heap := by rw [hhp]; exact vx_Zq.moved hW0.alike (hU.kept hS.2.1)
  have hN' : vx_Zq Bundle.tN "SUPPRESSED_SENTINEL" Bundle.listD A s' s'.heap := by rw [hhp]; exact vx_Zq.moved hW0.alike (hN.kept hS.2.1)
  have h : ∀ w ∈ Bundle.ownAtoms own ic cls names, w.before args s' = true := vx_own hat' (vx_isRefq hU'.1) (vx_isRefq hN'.1) hU'.2.word hN'.2.word
  have hown' : s'.vm.findClass own = some m.cls := by rw [hvm]; exact hown
  have hins : (Cond.instantiable cls 6).before args s' = true := h _ (by simp [Bundle.ownAtoms])
  obtain ⟨vm₁, cX, kX, hfX, hkX, -, -, X₁, st1⟩ := Y.newCold hexec (own := own) (C := cls) (index := ik) (n := 6) hown' hk' hins hini'
    (g := F0 m pc ls rest) rfl (by rw [hb]; exact d0) (Nat.le_refl _) (Nat.le_refl _)
  generalize hT1 : (T.setVm vm₁).pushCell { cls := cX, slots := kX.instanceTypes.map defaultValue, vm := .none } = T1 at X₁ st1
  have hcat : (Value.ref T.heap.size).category = 1 := rfl
  have hcellA : T1.heap[T.heap.size]? = some (freshCell cX kX) := by rw [← hT1]; exact State.heap_pushCell_size _ _
  have d3' : decode c.code (pc + 3) = .ok (.dup, 1) := by rw [hb]; exact d3
  have d4' : decode c.code (pc + 4) = .ok (.ldc_w is, 3) := by rw [hb]; exact d4
  have hstr' : vk_R own is text sa s' := vk_R.warm hW0 hstr
  obtain ⟨U, hsteps, hrun, hend, hW, hsame, ce, hce, hO⟩ := X₁.ctorThrowS hexec htr (own := own) (cls := cls) (names := names) (ic := ic) hown' hcls hnames h (fun x hx => nomatch hx) hfX hkX hcellA (by rw [hhp, hT]; exact Nat.le_refl _) (msg := .ref sa) rfl
    (g := { method := m, pc := pc + 7, locals := ls, stack := .ref sa :: .ref T.heap.size :: .ref T.heap.size :: rest, locked := none }) rfl hsize rfl rfl (rest := rest) rfl
    (by rw [hb]; exact d7) (by rw [hb]; exact d10) hout hRframes (by simp only [List.map_cons, List.sum_cons, hcat]; omega) hlocks
  obtain ⟨f1, f2⟩ := vx_frame hsame
  rw [hhp] at f1 f2
  have hWs : s.WarmedH U.vm := State.WarmedH.trans hW0 hW
  have hcl : s.vm.findClass cls = some ce.cls := by
    have h9 := hO.cls
    rw [hvm] at h9
    exact h9
  have hall : s.sameButNew ({ U with vm := s.vm } : State) locs mc ms := by
    subst hA
    obtain ⟨e1, e2⟩ := hsame
    rw [State.setFrames_setFrames] at e1
    have h2 : (T.setVm s.vm).sameButNew ({ U with vm := s.vm } : State) [] (0 + 1) (0 + 6) := ⟨e1, e2⟩
    have h3 := X.same.trans h2
    rw [List.append_nil] at h3
    exact h3.mono hc hs
  refine ⟨U, ?_, .threw T.heap.size, hrun, hend, Or.inr ⟨T.heap.size, rfl, cls, ce, locs, hx U hWs.alike f1 (fun q hq => f2 q hq (fun z hz => nomatch hz)), hce, hO.vm, hcl, hWs, hall, hf⟩⟩
  refine st1 _ ?_
  show Steps p.tables e below (T1.setTop { method := m, pc := pc + 3, locals := ls, stack := .ref T.heap.size :: rest, locked := none }) _
  jvm_step X₁.here [X₁.here.top, hexec, d3', Value.category]
  exact X₁.ldcStringW hexec (own := own) (text := text) (index := is) (a := sa) hown' hstr'.1 hstr'.2
    (g := { method := m, pc := pc + 4, locals := ls, stack := .ref T.heap.size :: .ref T.heap.size :: rest, locked := none }) rfl d4' _ hsteps
end Ends
section Bodies
variable {l : Launch}
theorem vx_ofW {y : MethodName} {ws ws' : List Cond} {rm : Room} {Pc : Array Value → State → Prop} {Qc : Array Value → State → Outcome → State → Prop} {XC : String → State → State → Prop} {mc ms : Nat} {free : Addr → Prop} {cc : ByteArray} {maxL : Nat} {ret : Option FieldType}
    (hy : plainName y.cls = true) (hw : ws = Cond.code y cc maxL ret :: ws')
    (body : ∀ p e s m args below meth c s₁, BodyLoose p l y (headSpec ws rm) cc maxL ret e s m args below meth c s₁ → c.maxLocals = maxL → (∀ x ∈ c.exceptionTable.toList, False) → Pc args s →
      W p l e (headSpec ws rm).room s m args below meth c s.heap [] 0 0 (vx_MQ below Qc XC args s mc ms free) (entryFrame m args maxL)) : vx_Met l y ws rm Pc Qc XC mc ms free := by
  refine MetFree.of_bodyS (code := cc) (maxLocals := maxL) (ret := ret) hy ?_ ?_
  · intro args s m h hn
    obtain ⟨meth, c, h1, h2, h3, h4, h5, h6, -, -⟩ := Cond.code_spec hn (atoms_spec (ws := ws) h _ (by rw [hw]; exact List.mem_cons_self))
    exact ⟨meth, c, h1, h2, h3, h4, h5, h6⟩
  · intro p e s m args below meth c s₁ B hml hP _
    have hh0 : s₁.heap = s.heap := by rw [B.state]; rfl
    have ht : ∀ x ∈ c.exceptionTable.toList, False := by
      obtain ⟨meth9, c9, h1, h2, -, -, -, -, h7, -⟩ := Cond.code_spec B.named (atoms_spec (ws := ws) B.pre _ (by rw [hw]; exact List.mem_cons_self))
      cases Option.some.inj (h1.symm.trans B.method)
      cases Option.some.inj (h2.symm.trans (Stand.of_body B).code)
      intro x hx
      rw [Array.isEmpty_iff.mp h7] at hx
      cases hx
    obtain ⟨t, a1, o, b1, b2, b3⟩ := body p e s m args below meth c s₁ B hml ht hP s₁ hh0 (Stand.of_body B)
    exact ⟨t, o, a1, b1, b2, b3⟩
/-- the table of a body with handlers -/
theorem vx_table {p : Program} {x y : MethodName} {S : Spec} {cc bytes : ByteArray} {maxL maxL' : Nat} {ret ret' : Option FieldType} {e : Env} {s s₁ : State} {m : MethodId} {args : Array Value} {below : List Frame} {meth : Method} {c : Code} {hh : List (Nat × Nat × Nat × Nat)}
    (B : BodyLoose p l y S cc maxL ret e s m args below meth c s₁) (h : (Cond.codeWith y bytes maxL' ret' hh).before args s = true) : c.exceptionTable.toList = tableOf hh := by
  obtain ⟨m9, meth9, c9, hn9, h1, h2, -, -, h6, -⟩ := Cond.codeWith_spec h
  cases Option.some.inj (hn9.symm.trans B.named)
  cases Option.some.inj (h1.symm.trans B.method)
  cases Option.some.inj (h2.symm.trans (Stand.of_body B).code)
  rw [← h6, table_eq]
end Bodies
end VXA
/-! ===== END ===== -/
/-! ===== BEGIN a static call of a method with an exception table ===== -/
section VXS
variable {p : Program} {l : Launch} {e : Env} {R : Room} {s : State} {m : MethodId} {args : Array Value} {below : List Frame} {meth : Method} {c : Code} {T : State} {H : Heap} {locs : List Loc} {cells slots : Nat}
abbrev vx_CSW (R : Room) (s : State) (args : Array Value) (own : String) (index : Nat) (y : MethodName) (bytes : ByteArray) (maxL : Nat) (ret : Option FieldType) (hh : List (Nat × Nat × Nat × Nat)) (ws : List Cond) (rm : Room) (mc ms n : Nat) : Prop :=
  (rm.cells = mc ∧ rm.slots = ms ∧ rm.frames + 1 ≤ R.frames ∧ 8 + (maxL + 11) + rm.locals ≤ R.locals ∧ (∀ w ∈ ws, ∀ (a' : Array Value) (U : State), s.WarmedH U.vm → w.before a' U = true) ∧ Cond.codeWith y bytes maxL ret hh ∈ ws) ∧
  (Cond.codeWith y bytes maxL ret hh).before args s = true ∧ (Cond.initialized y.cls).before args s = true ∧ (y.cls ≠ "java/lang/invoke/MethodHandle" ∧ y.cls ≠ "java/lang/invoke/VarHandle") ∧
  (∀ sig, parseMethodDescriptor y.desc = some sig → n = sig.parameters.length) ∧ (Cond.methodLink own index y).before args s = true ∧ (Cond.static y).before args s = true
theorem vx_cwSW {own : String} {index maxL mc ms : Nat} {y : MethodName} {bytes : ByteArray} {ret : Option FieldType} {hh : List (Nat × Nat × Nat × Nat)} {Ts ws ws' : List Cond} {rm : Room} (n : Nat) (ht : ∀ w ∈ Ts, w.before args s = true) (hT : GoodIn Ts (va_wsS own index y ws)) (hw : ws = Cond.codeWith y bytes maxL ret hh :: ws') (hrc : rm.cells = mc) (hrs : rm.slots = ms)
    (hd : y.cls ≠ "java/lang/invoke/MethodHandle" ∧ y.cls ≠ "java/lang/invoke/VarHandle" ∧ (parseMethodDescriptor y.desc).map (fun d => d.parameters.length) = some n) (hR : rm.frames + 1 ≤ R.frames ∧ 8 + (maxL + 11) + rm.locals ≤ R.locals) :
    vx_CSW R s args own index y bytes maxL ret hh ws rm mc ms n := by
  have ok : ∀ w ∈ va_wsS own index y ws, w.before args s = true := fun w h => ht w (hT w h).1
  have hG : GoodIn Ts ws := fun w h => hT w (by unfold va_wsS; exact List.mem_append_right _ h)
  have hc : Cond.codeWith y bytes maxL ret hh ∈ ws := by rw [hw]; exact List.mem_cons_self
  refine ⟨⟨hrc, hrs, hR.1, hR.2, pay_in ht hG, hc⟩, ht _ (hG _ hc).1, ok _ (by simp [va_wsS]), ⟨hd.1, hd.2.1⟩, fun sig h => ?_, ok _ (by simp [va_wsS]), ok _ (by simp [va_wsS])⟩
  have h2 := hd.2.2
  rw [h] at h2
  exact (Option.some.inj h2).symm
theorem vx_callSW (X : Stand p l e R s m args below meth c T locs cells slots) (hexec : p.tables.exec = Jvm.exec) {own : String} {index : Nat} {y : MethodName} {bytes : ByteArray} {maxL : Nat} {ret : Option FieldType} {hh : List (Nat × Nat × Nat × Nat)}
    (hown : s.vm.findClass own = some m.cls) (hlink : (Cond.methodLink own index y).before args s = true) (hstat : (Cond.static y).before args s = true) (hinit : (Cond.initialized y.cls).before args s = true)
    (hcode : (Cond.codeWith y bytes maxL ret hh).before args s = true) (hy : y.cls ≠ "java/lang/invoke/MethodHandle" ∧ y.cls ≠ "java/lang/invoke/VarHandle")
    {W9 : Nat} {Pre : Pt → Array Value → Prop} {Post : Pt → Array Value → Option Value → Pt → Prop} (hK : Back l R p e below s args y 3 W9 Pre Post)
    {g : JFrame} (hg : g.method = m) (hsize : g.locals.size = c.maxLocals) {argsL rest : List Value} (hlen : ∀ sig, parseMethodDescriptor y.desc = some sig → argsL.length = sig.parameters.length)
    (hstack : g.stack = argsL.reverse ++ rest) (hW : 2 * g.monitorRoom + (rest.map fun v => v.category).sum ≤ W9) (hdg : decode c.code g.pc = .ok (.invokestatic index, 3))
    (hpre : ∀ vm₁, s.WarmedH vm₁ → Pre ⟨T.setVm vm₁, locs, cells, slots⟩ argsL.toArray) :
    ∃ (v : Option Value) (vm₁ : Vm) (B : Pt), s.WarmedH vm₁ ∧ Stand p l e R s m args below meth c B.U B.locs B.cells B.slots ∧ Post ⟨T.setVm vm₁, locs, cells, slots⟩ argsL.toArray v B ∧
      ∀ target, Steps p.tables e below (B.U.setTop { g with pc := g.pc + 3, stack := v.toList ++ rest }) target → Steps p.tables e below (T.setTop g) target := by
  obtain ⟨mk, methM, cM, hnamed, hmethM, -, -, -, -, -, -, hsigM⟩ := Cond.codeWith_spec hcode
  have hstatic : methM.isStatic = true := Cond.static_spec hnamed hmethM hstat
  obtain ⟨kP, hkP, -⟩ := className_of_methodNamed hnamed
  have hinitP : kP.init = .initialized := Cond.initialized_spec (findClass_of_methodNamed hnamed) hkP hinit
  obtain ⟨vm₁, X₁, hstep₁⟩ := X.invokestatic hexec hown hlink hnamed hmethM hstatic hkP hinitP hy (g := g) hg (argsL := argsL) (rest := rest) (hlen _ hsigM) hstack hdg
  obtain ⟨v, B, X', hpost, hsteps⟩ := hK m meth c ⟨T.setVm vm₁, locs, cells, slots⟩ { g with stack := rest } (.invokestatic index) mk argsL.toArray X₁ hg hsize hdg hW (X₁.named hnamed) (hpre vm₁ X₁.warmed)
  exact ⟨v, vm₁, B, X₁.warmed, X', hpost, fun target h => hstep₁ _ fun acts => by rw [doInvoke_state]; exact hsteps.trans h⟩
theorem vx_runSW {y : MethodName} {bytes cc : ByteArray} {maxL nL mc ms n index : Nat} {ret : Option FieldType} {hh : List (Nat × Nat × Nat × Nat)} {ws : List Cond} {rm : Room} {Pc : Array Value → State → Prop} {Qc : Array Value → State → Outcome → State → Prop} {free : Addr → Prop} {Ts : List Cond} {own : String} {As rest : List Value} {g : JFrame}
    (S : CallFix p m c cc nL s args Ts own) (hM : Met l y ws rm Pc Qc mc ms free) (cw : vx_CSW R s args own index y bytes maxL ret hh ws rm mc ms n) (hp : PreS s H Pc As)
    (hg : g.method = m) (hn : As.length = n) (hsize : g.locals.size = nL) (hstack : g.stack = As.reverse ++ rest) (hW : 2 * g.monitorRoom + (rest.map fun v => v.category).sum ≤ 8) (hdg : decode cc g.pc = .ok (.invokestatic index, 3)) (hf : cells + mc ≤ R.cells ∧ slots + ms ≤ R.slots) :
    va_Run p l e R s m args below meth c H locs cells slots mc ms g rest (Qc As.toArray) (free) := by
  obtain ⟨⟨hrc, hrs, hfr, hlo, hws, hcw⟩, hcode, hini, hy, hlen, hl, hstt⟩ := cw
  have hK : Back l R p e below s args y 3 8 (PreOf R mc ms Pc) (PostOf Qc mc ms free) := va_backW (hh := hh) (bytes := bytes) (maxL := maxL) (ret := ret) hM hp.1 hrc hrs hfr hlo hws hcw (fun a' U hW => word_at hW (Or.inl (by first | rfl | simp [Cond.onTables, Cond.keeps, Cond.steady])) hini)
  obtain ⟨hx, hb, hml, ho, -⟩ := S
  intro T hT X
  obtain ⟨v, vm₁, ⟨U', l2, c2, s2⟩, hW₁, X', ⟨g', mk, t, L, e1, e2, hq, h1, hL, h2, h3⟩, st⟩ := vx_callSW X hx (hh := hh) (bytes := bytes) (maxL := maxL) (ret := ret) ho hl hstt hini hcode hy hK hg (hsize.trans hml.symm) (argsL := As) (rest := rest) (fun sig h => hn.trans (hlen sig h)) hstack hW (by rw [hb]; exact hdg)
    (fun vm₁ hW₁ => ⟨hf.1, hf.2, hp.2 (T.setVm vm₁) hT hW₁⟩)
  dsimp only [Pt.U, Pt.locs, Pt.cells, Pt.slots] at X' e1 e2 h1 h2 h3 st
  subst h1; subst h2; subst h3
  exact ⟨v, (T.setVm vm₁).calling g' mk As.toArray, t, U', L, hT, X', hL, e1, e2, hq, st⟩
/-- not caught here, past rows that name other classes: it goes on to the caller -/
theorem vx_outP {p : Program} {l : Launch} {e : Env} {R : Room} {s : State} {m : MethodId} {args : Array Value} {below : List Frame} {meth : Method} {c : Code} {H : Heap} {locs : List Loc} {cells slots : Nat} {free : Addr → Prop} {ls : Array Slot} {rest : List Value} {Qc : Array Value → State → Outcome → State → Prop} {XC : String → State → State → Prop}
    {pc : Nat} {own E : String} {ce : Cell} {q : Addr} {mc ms : Nat} (hown : s.vm.findClass own = some m.cls) (hlocks : meth.locks = false)
    (hpass : ∀ z ∈ c.exceptionTable.toList, covers z pc = false ∨ (z.catchType ≠ 0 ∧ ∃ nm : String, (Cond.classLink own z.catchType nm).before args s = true ∧ va_Nc E nm s)) (hcell : H[q]? = some ce) (hv : ce.vm = .none) (hcl : s.vm.findClass E = some ce.cls)
    (hx : ∀ t : State, t.heap = H → s.vm.Alike t.vm → XC E s t) (hf : ∀ z ∈ locs, free z.base) (hc : cells ≤ mc) (hs : slots ≤ ms) :
    vx_W p l e R s m args below meth c H locs cells slots (vx_MQ below Qc XC args s mc ms free) (F0 m pc ls rest) q := by
  intro T hT X
  have hpl : e.platform.magicAccessors = ({} : Platform).magicAccessors := by rw [X.admits.platform]
  obtain ⟨vm', hW', X', st⟩ := X.outThrough hlocks q (g := F0 m pc ls rest) rfl rfl rfl (cell := ce) (by rw [hT]; exact hcell) (by rw [hv]; rfl)
    (by obtain ⟨k9, h9, -⟩ := Vm.findClass_spec hcl; exact ⟨k9, h9⟩) (fun z hz => by
      rcases hpass z hz with h | ⟨hz0, nm, hl1, hn1⟩
      · exact Or.inl h
      · obtain ⟨c6, hc6, hcl6⟩ := Cond.classLink_spec hown hl1 e.platform hpl
        obtain ⟨a8, b8, h1, h2, h3⟩ := hn1
        cases Option.some.inj (h1.symm.trans hcl)
        cases Option.some.inj (h2.symm.trans hc6)
        exact Or.inr ⟨hz0, _, hcl6, h3⟩)
  obtain ⟨g₀, hfr⟩ := X'.frames_eq
  have hcell9 : ((T.setVm vm').setFrames (.throwing q :: below)).heap[q]? = some ce := by
    show T.heap[q]? = some ce
    rw [hT]; exact hcell
  have hend : Ended ((T.setVm vm').setFrames (.throwing q :: below)) below (.threw q) := State.frames_setFrames _ (State.cur_lt_of_frames hfr)
  refine ⟨(T.setVm vm').setFrames (.throwing q :: below), ?_, .threw q, X'.here.running, hend, Or.inr ⟨q, rfl, E, ce, locs, hx _ hT (X'.ends _).1.alike, hcell9, hv, hcl, (X'.ends _).1, (X'.ends _).2.mono hc hs, hf⟩⟩
  rw [X.pushThrowing_eq]
  exact st
/-- a thing of a world lies in the heap -/
theorem vx_lt {D : va_G} {cl : List vw_C} {ws : va_W} {H1 : Heap} (h : va_P D cl ws H1) {k : Nat} {q : Nat × va_E} (hk : ws[k]? = some q) : q.1 < H1.size := (h k q hk).lt
end VXS
/-! ===== END ===== -/
/-! ===== BEGIN methods with a table of their own: called by a name, returning or throwing ===== -/
section VXH
/-! vx_backW, vx_callVX, vx_callSX, vx_callVW, vx_runVW, vx_runVX, vx_runSX, vx_ofWH follow the same proofs as their sisters above (Free/Laws.lean, Shelf42/LK1.lean); vx_outP calls Shelf42/NT130.lean (outThrough). -/
section
variable {l : Launch} {R : Room} {p : Program} {e : Env} {below : List Frame} {s : State} {sargs : Array Value} {y : MethodName} {len W9 : Nat}
theorem vx_backW {ws : List Cond} {rm : Room} {Pc : Array Value → State → Prop} {Qc : Array Value → State → Outcome → State → Prop} {XC : String → State → State → Prop} {mc ms : Nat} {free : Addr → Prop} {bytes : ByteArray} {maxL : Nat} {ret : Option FieldType} {hh : List (Nat × Nat × Nat × Nat)}
    (hM : vx_Met l y ws rm Pc Qc XC mc ms free) (hblind : FrameBlind Pc) (hrc : rm.cells = mc) (hrs : rm.slots = ms)
    (hframes : rm.frames + 1 ≤ R.frames) (hlocals : W9 + (maxL + 11) + rm.locals ≤ R.locals)
    (hws : ∀ w ∈ ws, ∀ a' U, s.WarmedH U.vm → w.before a' U = true) (hcode : Cond.codeWith y bytes maxL ret hh ∈ ws) (hinit : ∀ a' U, s.WarmedH U.vm → (Cond.initialized y.cls).before a' U = true) :
    vx_Back l R p e below s sargs y len W9 (PreOf R mc ms Pc) (PostOf Qc mc ms free) (vx_Post XC mc ms free) := by
  intro m meth c A g ig mk a X hg hsize hdg hW hn hp
  have h1 : (headSpec ws rm).pre.before a A.U = true := atoms_intro fun w hw => hws w hw _ _ X.warmed
  have h2 : (Cond.codeWith y bytes maxL ret hh).before a A.U = true := hws _ hcode _ _ X.warmed
  have h3 : (Cond.initialized y.cls).before a A.U = true := hinit _ _ X.warmed
  have h4 : A.cells + (headSpec ws rm).room.cells ≤ R.cells := by rw [show (headSpec ws rm).room.cells = mc from hrc]; exact hp.1
  have h5 : A.slots + (headSpec ws rm).room.slots ≤ R.slots := by rw [show (headSpec ws rm).room.slots = ms from hrs]; exact hp.2.1
  have hPc : Pc a (A.U.calling g mk a) := hblind _ _ _ _ hp.2.2
  obtain ⟨U, Ls, c0, s0⟩ := A
  dsimp only [Pt.U, Pt.locs, Pt.cells, Pt.slots] at h1 h2 h3 h4 h5 X hn hPc ⊢
  obtain ⟨m9, methY, cY, hn9, hmY, hcY, -, hlY, -⟩ := Cond.codeWith_spec h2
  cases Option.some.inj (hn9.symm.trans hn)
  obtain ⟨kY, hkY, -⟩ := className_of_methodNamed hn
  have hinitY : kY.init = .initialized := Cond.initialized_spec (findClass_of_methodNamed hn) hkY h3
  have h : At U g.method c below := by rw [hg]; exact X.here
  have hlocals9 : W9 + (maxL + 11) + (headSpec ws rm).room.locals ≤ R.locals := hlocals
  have happ : (headSpec ws rm).appliesLoose y e.platform (U.calling g mk a) = true :=
    Spec.appliesLoose_calling (g := g) h hdg hn hkY hinitY
      (X.room_calling (g := g) (R' := (headSpec ws rm).room) hsize hmY hcY hframes (by rw [hlY]; omega) h4 h5) h1
  obtain ⟨mid, hmid⟩ := h.above
  have hfr : (U.setTop g).frames = (.java g :: mid) ++ below := by rw [State.frames_setTop' g h.top, hmid]; rfl
  obtain ⟨o, s₂, hsteps, -, hend, hq⟩ := Steps.callFree hM p X.admits X.cas X.clock (acts := []) hfr happ hPc trivial
  have hq' : vx_Q Qc XC mc ms free a (U.calling g mk a) o s₂ := hq
  rw [State.frames_setTop' g h.top] at hend
  obtain ⟨g₀, hg0⟩ := Option.isSome_iff_exists.mp h.top
  obtain ⟨r, hr⟩ := State.topJava?_eq_some.mp hg0
  have hr' : (({ U with heap := s₂.heap, slotsUsed := s₂.slotsUsed } : State).setVm s₂.vm).frames = .java g₀ :: r := hr
  rcases hq' with ⟨hqc, L, hfe, hL⟩ | ⟨q, rfl, E, ce, L, hx, hce, hcv, hcl, hW₂, hsm, hL⟩
  · obtain ⟨⟨v, rfl⟩, hW₂, e2, q2, q3, q4, q5, q6⟩ := id hfe
    have e3 : s₂ = ({ (U.calling g mk a).setFrames s₂.frames with heap := s₂.heap, slotsUsed := s₂.slotsUsed } : State).setVm s₂.vm := by
      have : s₂ = ({ s₂ with vm := (U.calling g mk a).vm } : State).setVm s₂.vm := rfl
      rw [e2] at this
      exact this
    obtain ⟨c₂, i₂, len₂, hc₂, hd₂, hf₂⟩ := hend
    have hW' : U.WarmedH s₂.vm := hW₂
    have hcc : c₂ = c := by
      have h1 : s₂.code? g.method = U.code? g.method := by
        rw [State.code?_eq, State.code?_eq, hW'.alike.method?]
      exact Option.some.inj (hc₂.symm.trans (h1.trans h.code))
    subst hcc
    have hlen : len₂ = len := by rw [hdg] at hd₂; cases hd₂; rfl
    subst hlen
    have hs₂ : s₂ = (({ U with heap := s₂.heap, slotsUsed := s₂.slotsUsed } : State).setVm s₂.vm).setTop { g with pc := g.pc + len₂, stack := v.toList ++ g.stack } := by
      refine e3.trans ?_
      rw [hf₂, State.calling_eq h.top, State.setFrames_setFrames, State.setTop_of_frames _ hr', hr]
      rfl
    have hsame : U.sameButNew ({ U with heap := s₂.heap, slotsUsed := s₂.slotsUsed } : State) L mc ms := by
      refine ⟨?_, q2, q3, q4, q5, q6⟩
      obtain ⟨t, ht, -⟩ := State.frames_cons hr
      show ({ U with heap := s₂.heap, slotsUsed := s₂.slotsUsed } : State) = { U.setFrames U.frames with heap := s₂.heap, slotsUsed := s₂.slotsUsed }
      rw [State.setFrames_self ht]
    subst hg
    refine Or.inl ⟨v, ⟨(({ U with heap := s₂.heap, slotsUsed := s₂.slotsUsed } : State).setVm s₂.vm), Ls ++ L, c0 + mc, s0 + ms⟩,
      ⟨X.admits, X.cas, X.clock, X.frames, X.room, X.hears, X.method, X.code, (X.here.setHeapUsed s₂.heap s₂.slotsUsed).setVm hW'.alike, X.tail, State.WarmedH.trans X.warmed hW', X.limits, X.bytes, X.same.trans (hsame.setVm s.vm)⟩,
      ⟨g, mk, s₂, L, rfl, rfl, hqc, rfl, hL, rfl, rfl⟩, ?_⟩
    show Steps p.tables e below _ ((({ U with heap := s₂.heap, slotsUsed := s₂.slotsUsed } : State).setVm s₂.vm).setTop { g with pc := g.pc + len₂, stack := v.toList ++ g.stack })
    rw [← hs₂]
    exact hsteps
  · obtain ⟨e2, q2, q3, q4, q5, q6⟩ := id hsm
    have e3 : s₂ = ({ (U.calling g mk a).setFrames s₂.frames with heap := s₂.heap, slotsUsed := s₂.slotsUsed } : State).setVm s₂.vm := by
      have : s₂ = ({ s₂ with vm := (U.calling g mk a).vm } : State).setVm s₂.vm := rfl
      rw [e2] at this
      exact this
    have hf₂ : s₂.frames = .throwing q :: .java g :: U.frames.tail := hend
    have hW' : U.WarmedH s₂.vm := hW₂
    have hs₂ : s₂ = ((({ U with heap := s₂.heap, slotsUsed := s₂.slotsUsed } : State).setVm s₂.vm).setTop g).pushFrame (.throwing q) := by
      refine e3.trans ?_
      rw [hf₂, State.calling_eq h.top, State.setFrames_setFrames, State.pushFrame, State.frames_setTop _ hr', State.setTop_of_frames _ hr', State.setFrames_setFrames, hr]
      rfl
    have hsame : U.sameButNew ({ U with heap := s₂.heap, slotsUsed := s₂.slotsUsed } : State) L mc ms := by
      refine ⟨?_, q2, q3, q4, q5, q6⟩
      obtain ⟨t, ht, -⟩ := State.frames_cons hr
      show ({ U with heap := s₂.heap, slotsUsed := s₂.slotsUsed } : State) = { U.setFrames U.frames with heap := s₂.heap, slotsUsed := s₂.slotsUsed }
      rw [State.setFrames_self ht]
    subst hg
    refine Or.inr ⟨q, ⟨(({ U with heap := s₂.heap, slotsUsed := s₂.slotsUsed } : State).setVm s₂.vm), Ls ++ L, c0 + mc, s0 + ms⟩,
      ⟨X.admits, X.cas, X.clock, X.frames, X.room, X.hears, X.method, X.code, (X.here.setHeapUsed s₂.heap s₂.slotsUsed).setVm hW'.alike, X.tail, State.WarmedH.trans X.warmed hW', X.limits, X.bytes, X.same.trans (hsame.setVm s.vm)⟩,
      ⟨g, mk, s₂, L, E, ce, rfl, rfl, hx, hce, hcv, hcl, rfl, hL, rfl, rfl⟩, ?_⟩
    show Steps p.tables e below _ (((({ U with heap := s₂.heap, slotsUsed := s₂.slotsUsed } : State).setVm s₂.vm).setTop g).pushFrame (.throwing q))
    rw [← hs₂]
    exact hsteps
end
variable {p : Program} {l : Launch} {e : Env} {R : Room} {s : State} {m : MethodId} {args : Array Value} {below : List Frame} {meth : Method} {c : Code} {T : State} {H : Heap} {locs : List Loc} {cells slots : Nat}
theorem vx_callVX (X : Stand p l e R s m args below meth c T locs cells slots) (hexec : p.tables.exec = Jvm.exec) {own C : String} {index : Nat} {y : MethodName} {bytes : ByteArray} {maxL : Nat} {ret : Option FieldType} {hh : List (Nat × Nat × Nat × Nat)}
    (hown : s.vm.findClass own = some m.cls) (hlink : (Cond.methodLink own index y).before args s = true) (hinst : (Cond.instanceMethod y).before args s = true) (hsel : (Cond.selects C y y).before args s = true)
    (hcode : (Cond.codeWith y bytes maxL ret hh).before args s = true) (hy : y.cls ≠ "java/lang/invoke/MethodHandle" ∧ y.cls ≠ "java/lang/invoke/VarHandle")
    {W9 : Nat} {Pre : Pt → Array Value → Prop} {Post : Pt → Array Value → Option Value → Pt → Prop} {PostX : Pt → Array Value → Addr → Pt → Prop} (hK : vx_Back l R p e below s args y 3 W9 Pre Post PostX)
    {b : Addr} {cellB : Cell} (hcell : T.heap[b]? = some cellB) (hobj : cellB.vm.isStatics = false) (hcls : s.vm.findClass C = some cellB.cls)
    {g : JFrame} (hg : g.method = m) (hsize : g.locals.size = c.maxLocals) {argsL rest : List Value} (hlen : ∀ sig, parseMethodDescriptor y.desc = some sig → argsL.length = sig.parameters.length)
    (hstack : g.stack = argsL.reverse ++ .ref b :: rest) (hW : 2 * g.monitorRoom + (rest.map fun v => v.category).sum ≤ W9) (hdg : decode c.code g.pc = .ok (.invokevirtual index, 3))
    (hpre : ∀ vm₁, s.WarmedH vm₁ → Pre ⟨T.setVm vm₁, locs, cells, slots⟩ (Value.ref b :: argsL).toArray) :
    (∃ (v : Option Value) (vm₁ : Vm) (B : Pt), s.WarmedH vm₁ ∧ Stand p l e R s m args below meth c B.U B.locs B.cells B.slots ∧ Post ⟨T.setVm vm₁, locs, cells, slots⟩ (Value.ref b :: argsL).toArray v B ∧
      ∀ target, Steps p.tables e below (B.U.setTop { g with pc := g.pc + 3, stack := v.toList ++ rest }) target → Steps p.tables e below (T.setTop g) target) ∨
    (∃ (q : Addr) (vm₁ : Vm) (B : Pt), s.WarmedH vm₁ ∧ Stand p l e R s m args below meth c B.U B.locs B.cells B.slots ∧ PostX ⟨T.setVm vm₁, locs, cells, slots⟩ (Value.ref b :: argsL).toArray q B ∧
      Steps p.tables e below (T.setTop g) ((B.U.setTop { g with stack := rest }).pushFrame (.throwing q))) := by
  obtain ⟨mk, methM, hnamed, hmethM, hstM, habM⟩ := Cond.instanceMethod_spec hinst
  obtain ⟨m8, methM', cM, hn8, hmethM', -, -, -, -, -, -, hsigM⟩ := Cond.codeWith_spec hcode
  cases Option.some.inj (hn8.symm.trans hnamed)
  cases hmethM.symm.trans hmethM'
  obtain ⟨c2, r2, m2, q1, q2, q3, q4, kP, hkP, hkPi⟩ := Cond.selects_spec hsel
  cases hcls.symm.trans q1
  cases (State.methodFound?_of_named hnamed hy).symm.trans q2
  cases hnamed.symm.trans q3
  have hselP : selectMethod e.platform s.vm cellB.cls mk = .method mk := by rw [Launch.admits_selectMethod X.admits]; exact q4
  obtain ⟨vm₁, X₁, hstep₁⟩ := X.invokevirtual hexec hown hlink hnamed hmethM hstM hkP hkPi hy (a := b) (cell := cellB) hcell
    (fun z h => by rw [h] at hobj; cases hobj) hselP hmethM habM hkP hkPi (g := g) hg (argsL := argsL) (rest := rest) (hlen _ hsigM) hstack hdg
  rcases hK m meth c ⟨T.setVm vm₁, locs, cells, slots⟩ { g with stack := rest } (.invokevirtual index) mk (Value.ref b :: argsL).toArray X₁ hg hsize hdg hW (X₁.named hnamed) (hpre vm₁ X₁.warmed) with ⟨v, B, X', hpost, hsteps⟩ | ⟨q, B, X', hpost, hsteps⟩
  · exact Or.inl ⟨v, vm₁, B, X₁.warmed, X', hpost, fun target h => hstep₁ _ fun acts => by rw [doInvoke_state]; exact hsteps.trans h⟩
  · exact Or.inr ⟨q, vm₁, B, X₁.warmed, X', hpost, hstep₁ _ fun acts => by rw [doInvoke_state]; exact hsteps⟩
theorem vx_callSX (X : Stand p l e R s m args below meth c T locs cells slots) (hexec : p.tables.exec = Jvm.exec) {own : String} {index : Nat} {y : MethodName} {bytes : ByteArray} {maxL : Nat} {ret : Option FieldType} {hh : List (Nat × Nat × Nat × Nat)}
    (hown : s.vm.findClass own = some m.cls) (hlink : (Cond.methodLink own index y).before args s = true) (hstat : (Cond.static y).before args s = true) (hinit : (Cond.initialized y.cls).before args s = true)
    (hcode : (Cond.codeWith y bytes maxL ret hh).before args s = true) (hy : y.cls ≠ "java/lang/invoke/MethodHandle" ∧ y.cls ≠ "java/lang/invoke/VarHandle")
    {W9 : Nat} {Pre : Pt → Array Value → Prop} {Post : Pt → Array Value → Option Value → Pt → Prop} {PostX : Pt → Array Value → Addr → Pt → Prop} (hK : vx_Back l R p e below s args y 3 W9 Pre Post PostX)
    {g : JFrame} (hg : g.method = m) (hsize : g.locals.size = c.maxLocals) {argsL rest : List Value} (hlen : ∀ sig, parseMethodDescriptor y.desc = some sig → argsL.length = sig.parameters.length)
    (hstack : g.stack = argsL.reverse ++ rest) (hW : 2 * g.monitorRoom + (rest.map fun v => v.category).sum ≤ W9) (hdg : decode c.code g.pc = .ok (.invokestatic index, 3))
    (hpre : ∀ vm₁, s.WarmedH vm₁ → Pre ⟨T.setVm vm₁, locs, cells, slots⟩ argsL.toArray) :
    (∃ (v : Option Value) (vm₁ : Vm) (B : Pt), s.WarmedH vm₁ ∧ Stand p l e R s m args below meth c B.U B.locs B.cells B.slots ∧ Post ⟨T.setVm vm₁, locs, cells, slots⟩ argsL.toArray v B ∧
      ∀ target, Steps p.tables e below (B.U.setTop { g with pc := g.pc + 3, stack := v.toList ++ rest }) target → Steps p.tables e below (T.setTop g) target) ∨
    (∃ (q : Addr) (vm₁ : Vm) (B : Pt), s.WarmedH vm₁ ∧ Stand p l e R s m args below meth c B.U B.locs B.cells B.slots ∧ PostX ⟨T.setVm vm₁, locs, cells, slots⟩ argsL.toArray q B ∧
      Steps p.tables e below (T.setTop g) ((B.U.setTop { g with stack := rest }).pushFrame (.throwing q))) := by
  obtain ⟨mk, methM, cM, hnamed, hmethM, -, -, -, -, -, -, hsigM⟩ := Cond.codeWith_spec hcode
  have hstatic : methM.isStatic = true := Cond.static_spec hnamed hmethM hstat
  obtain ⟨kP, hkP, -⟩ := className_of_methodNamed hnamed
  have hinitP : kP.init = .initialized := Cond.initialized_spec (findClass_of_methodNamed hnamed) hkP hinit
  obtain ⟨vm₁, X₁, hstep₁⟩ := X.invokestatic hexec hown hlink hnamed hmethM hstatic hkP hinitP hy (g := g) hg (argsL := argsL) (rest := rest) (hlen _ hsigM) hstack hdg
  rcases hK m meth c ⟨T.setVm vm₁, locs, cells, slots⟩ { g with stack := rest } (.invokestatic index) mk argsL.toArray X₁ hg hsize hdg hW (X₁.named hnamed) (hpre vm₁ X₁.warmed) with ⟨v, B, X', hpost, hsteps⟩ | ⟨q, B, X', hpost, hsteps⟩
  · exact Or.inl ⟨v, vm₁, B, X₁.warmed, X', hpost, fun target h => hstep₁ _ fun acts => by rw [doInvoke_state]; exact hsteps.trans h⟩
  · exact Or.inr ⟨q, vm₁, B, X₁.warmed, X', hpost, hstep₁ _ fun acts => by rw [doInvoke_state]; exact hsteps⟩
theorem vx_callVW (X : Stand p l e R s m args below meth c T locs cells slots) (hexec : p.tables.exec = Jvm.exec) {own C : String} {index : Nat} {y : MethodName} {bytes : ByteArray} {maxL : Nat} {ret : Option FieldType} {hh : List (Nat × Nat × Nat × Nat)}
    (hown : s.vm.findClass own = some m.cls) (hlink : (Cond.methodLink own index y).before args s = true) (hinst : (Cond.instanceMethod y).before args s = true) (hsel : (Cond.selects C y y).before args s = true)
    (hcode : (Cond.codeWith y bytes maxL ret hh).before args s = true) (hy : y.cls ≠ "java/lang/invoke/MethodHandle" ∧ y.cls ≠ "java/lang/invoke/VarHandle")
    {W9 : Nat} {Pre : Pt → Array Value → Prop} {Post : Pt → Array Value → Option Value → Pt → Prop} (hK : Back l R p e below s args y 3 W9 Pre Post)
    {b : Addr} {cellB : Cell} (hcell : T.heap[b]? = some cellB) (hobj : cellB.vm.isStatics = false) (hcls : s.vm.findClass C = some cellB.cls)
    {g : JFrame} (hg : g.method = m) (hsize : g.locals.size = c.maxLocals) {argsL rest : List Value} (hlen : ∀ sig, parseMethodDescriptor y.desc = some sig → argsL.length = sig.parameters.length)
    (hstack : g.stack = argsL.reverse ++ .ref b :: rest) (hW : 2 * g.monitorRoom + (rest.map fun v => v.category).sum ≤ W9) (hdg : decode c.code g.pc = .ok (.invokevirtual index, 3))
    (hpre : ∀ vm₁, s.WarmedH vm₁ → Pre ⟨T.setVm vm₁, locs, cells, slots⟩ (Value.ref b :: argsL).toArray) :
    ∃ (v : Option Value) (vm₁ : Vm) (B : Pt), s.WarmedH vm₁ ∧ Stand p l e R s m args below meth c B.U B.locs B.cells B.slots ∧ Post ⟨T.setVm vm₁, locs, cells, slots⟩ (Value.ref b :: argsL).toArray v B ∧
      ∀ target, Steps p.tables e below (B.U.setTop { g with pc := g.pc + 3, stack := v.toList ++ rest }) target → Steps p.tables e below (T.setTop g) target := by
  obtain ⟨mk, methM, hnamed, hmethM, hstM, habM⟩ := Cond.instanceMethod_spec hinst
  obtain ⟨m8, methM', cM, hn8, hmethM', -, -, -, -, -, -, hsigM⟩ := Cond.codeWith_spec hcode
  cases Option.some.inj (hn8.symm.trans hnamed)
  cases hmethM.symm.trans hmethM'
  obtain ⟨c2, r2, m2, q1, q2, q3, q4, kP, hkP, hkPi⟩ := Cond.selects_spec hsel
  cases hcls.symm.trans q1
  cases (State.methodFound?_of_named hnamed hy).symm.trans q2
  cases hnamed.symm.trans q3
  have hselP : selectMethod e.platform s.vm cellB.cls mk = .method mk := by rw [Launch.admits_selectMethod X.admits]; exact q4
  obtain ⟨vm₁, X₁, hstep₁⟩ := X.invokevirtual hexec hown hlink hnamed hmethM hstM hkP hkPi hy (a := b) (cell := cellB) hcell
    (fun z h => by rw [h] at hobj; cases hobj) hselP hmethM habM hkP hkPi (g := g) hg (argsL := argsL) (rest := rest) (hlen _ hsigM) hstack hdg
  obtain ⟨v, B, X', hpost, hsteps⟩ := hK m meth c ⟨T.setVm vm₁, locs, cells, slots⟩ { g with stack := rest } (.invokevirtual index) mk (Value.ref b :: argsL).toArray X₁ hg hsize hdg hW (X₁.named hnamed) (hpre vm₁ X₁.warmed)
  exact ⟨v, vm₁, B, X₁.warmed, X', hpost, fun target h => hstep₁ _ fun acts => by rw [doInvoke_state]; exact hsteps.trans h⟩
abbrev vx_CVW (R : Room) (s : State) (args : Array Value) (own C : String) (index : Nat) (y : MethodName) (bytes : ByteArray) (maxL : Nat) (ret : Option FieldType) (hh : List (Nat × Nat × Nat × Nat)) (ws : List Cond) (rm : Room) (mc ms n : Nat) : Prop :=
  (rm.cells = mc ∧ rm.slots = ms ∧ rm.frames + 1 ≤ R.frames ∧ 8 + (maxL + 11) + rm.locals ≤ R.locals ∧ (∀ w ∈ ws, ∀ (a' : Array Value) (U : State), s.WarmedH U.vm → w.before a' U = true) ∧ Cond.codeWith y bytes maxL ret hh ∈ ws) ∧
  (Cond.codeWith y bytes maxL ret hh).before args s = true ∧ (Cond.initialized y.cls).before args s = true ∧ (y.cls ≠ "java/lang/invoke/MethodHandle" ∧ y.cls ≠ "java/lang/invoke/VarHandle") ∧
  (∀ sig, parseMethodDescriptor y.desc = some sig → n = sig.parameters.length) ∧ (Cond.methodLink own index y).before args s = true ∧ (Cond.instanceMethod y).before args s = true ∧ (Cond.selects C y y).before args s = true
theorem vx_cwVW {own C : String} {index maxL mc ms : Nat} {y : MethodName} {bytes : ByteArray} {ret : Option FieldType} {hh : List (Nat × Nat × Nat × Nat)} {Ts ws ws' : List Cond} {rm : Room} (n : Nat) (ht : ∀ w ∈ Ts, w.before args s = true) (hT : GoodIn Ts (wsV own index C y ws)) (hw : ws = Cond.codeWith y bytes maxL ret hh :: ws') (hrc : rm.cells = mc) (hrs : rm.slots = ms)
    (hd : y.cls = C ∧ y.cls ≠ "java/lang/invoke/MethodHandle" ∧ y.cls ≠ "java/lang/invoke/VarHandle" ∧ (parseMethodDescriptor y.desc).map (fun d => d.parameters.length) = some n) (hR : rm.frames + 1 ≤ R.frames ∧ 8 + (maxL + 11) + rm.locals ≤ R.locals) :
    vx_CVW R s args own C index y bytes maxL ret hh ws rm mc ms n := by
  obtain ⟨hC, hd⟩ := hd
  subst hC
  have ok : ∀ w ∈ wsV own index y.cls y ws, w.before args s = true := fun w h => ht w (hT w h).1
  have hG : GoodIn Ts ws := fun w h => hT w (by unfold wsV; exact List.mem_append_right _ h)
  have hc : Cond.codeWith y bytes maxL ret hh ∈ ws := by rw [hw]; exact List.mem_cons_self
  refine ⟨⟨hrc, hrs, hR.1, hR.2, pay_in ht hG, hc⟩, ht _ (hG _ hc).1, ok _ (by simp [wsV]), ⟨hd.1, hd.2.1⟩, fun sig h => ?_, ok _ (by simp [wsV]), ok _ (by simp [wsV]), ok _ (by simp [wsV])⟩
  have h2 := hd.2.2
  rw [h] at h2
  exact (Option.some.inj h2).symm
theorem vx_runVW {y : MethodName} {bytes cc : ByteArray} {maxL nL mc ms n index : Nat} {ret : Option FieldType} {hh : List (Nat × Nat × Nat × Nat)} {ws : List Cond} {rm : Room} {Pc : Array Value → State → Prop} {Qc : Array Value → State → Outcome → State → Prop} {free : Addr → Prop} {Ts : List Cond} {own C : String} {b : Addr} {As rest : List Value} {g : JFrame}
    (S : CallFix p m c cc nL s args Ts own) (hM : Met l y ws rm Pc Qc mc ms free) (cw : vx_CVW R s args own C index y bytes maxL ret hh ws rm mc ms n) (hp : PreV s H C b Pc As)
    (hg : g.method = m) (hn : As.length = n) (hsize : g.locals.size = nL) (hstack : g.stack = As.reverse ++ .ref b :: rest) (hW : 2 * g.monitorRoom + (rest.map fun v => v.category).sum ≤ 8) (hdg : decode cc g.pc = .ok (.invokevirtual index, 3)) (hf : cells + mc ≤ R.cells ∧ slots + ms ≤ R.slots) :
    va_Run p l e R s m args below meth c H locs cells slots mc ms g rest (Qc (Value.ref b :: As).toArray) free := by
  obtain ⟨⟨hrc, hrs, hfr, hlo, hws, hcw⟩, hcode, hini, hy, hlen, hl, hin, hse⟩ := cw
  have hK : Back l R p e below s args y 3 8 (PreOf R mc ms Pc) (PostOf Qc mc ms free) := va_backW (hh := hh) (bytes := bytes) (maxL := maxL) (ret := ret) hM hp.1 hrc hrs hfr hlo hws hcw (fun a' U hW => word_at hW (Or.inl (by first | rfl | simp [Cond.onTables, Cond.keeps, Cond.steady])) hini)
  obtain ⟨hx, hb, hml, ho, -⟩ := S
  obtain ⟨-, ⟨cellB, hcB, hoB, hclB⟩, hPc⟩ := hp
  intro T hT X
  obtain ⟨v, vm₁, ⟨U', l2, c2, s2⟩, hW₁, X', ⟨g', mk, t, L, e1, e2, hq, h1, hL, h2, h3⟩, st⟩ := vx_callVW X hx (C := C) (hh := hh) (bytes := bytes) (maxL := maxL) (ret := ret) ho hl hin hse hcode hy hK (by rw [hT]; exact hcB) hoB hclB hg (hsize.trans hml.symm) (argsL := As) (rest := rest) (fun sig h => hn.trans (hlen sig h)) hstack hW (by rw [hb]; exact hdg)
    (fun vm₁ hW₁ => ⟨hf.1, hf.2, hPc (T.setVm vm₁) hT hW₁⟩)
  dsimp only [Pt.U, Pt.locs, Pt.cells, Pt.slots] at X' e1 e2 h1 h2 h3 st
  subst h1; subst h2; subst h3
  exact ⟨v, (T.setVm vm₁).calling g' mk (Value.ref b :: As).toArray, t, U', L, hT, X', hL, e1, e2, hq, st⟩
section
variable {y : MethodName} {bytes cc : ByteArray} {maxL nL mc ms n index : Nat} {ret : Option FieldType} {ws : List Cond} {rm : Room} {Pc : Array Value → State → Prop} {Qc : Array Value → State → Outcome → State → Prop} {XC : String → State → State → Prop} {free : Addr → Prop} {Ts : List Cond} {own C : String} {b : Addr} {As rest : List Value} {g : JFrame}
theorem vx_runVX {hh : List (Nat × Nat × Nat × Nat)} (S : CallFix p m c cc nL s args Ts own) (hM : vx_Met l y ws rm Pc Qc XC mc ms free) (cw : vx_CVW R s args own C index y bytes maxL ret hh ws rm mc ms n) (hp : PreV s H C b Pc As)
    (hg : g.method = m) (hn : As.length = n) (hsize : g.locals.size = nL) (hstack : g.stack = As.reverse ++ .ref b :: rest) (hW : 2 * g.monitorRoom + (rest.map fun v => v.category).sum ≤ 8) (hdg : decode cc g.pc = .ok (.invokevirtual index, 3)) (hf : cells + mc ≤ R.cells ∧ slots + ms ≤ R.slots) :
    vx_Run p l e R s m args below meth c H locs cells slots mc ms g rest (Qc (Value.ref b :: As).toArray) XC free := by
  obtain ⟨⟨hrc, hrs, hfr, hlo, hws, hcw⟩, hcode, hini, hy, hlen, hl, hin, hse⟩ := cw
  have hK : vx_Back l R p e below s args y 3 8 (PreOf R mc ms Pc) (PostOf Qc mc ms free) (vx_Post XC mc ms free) := vx_backW (hh := hh) (bytes := bytes) (maxL := maxL) (ret := ret) hM hp.1 hrc hrs hfr hlo hws hcw (fun a' U hW => word_at hW (Or.inl (by first | rfl | simp [Cond.onTables, Cond.keeps, Cond.steady])) hini)
  obtain ⟨hx, hb, hml, ho, -⟩ := S
  obtain ⟨-, ⟨cellB, hcB, hoB, hclB⟩, hPc⟩ := hp
  intro T hT X
  rcases vx_callVX X hx (C := C) (hh := hh) (bytes := bytes) (maxL := maxL) (ret := ret) ho hl hin hse hcode hy hK (by rw [hT]; exact hcB) hoB hclB hg (hsize.trans hml.symm) (argsL := As) (rest := rest) (fun sig h => hn.trans (hlen sig h)) hstack hW (by rw [hb]; exact hdg)
    (fun vm₁ hW₁ => ⟨hf.1, hf.2, hPc (T.setVm vm₁) hT hW₁⟩) with ⟨v, vm₁, ⟨U', l2, c2, s2⟩, hW₁, X', ⟨g', mk, t, L, e1, e2, hq, h1, hL, h2, h3⟩, st⟩ | ⟨q, vm₁, ⟨U', l2, c2, s2⟩, hW₁, X', ⟨g', mk, t, L, E, ce, e1, e2, hq, hce, hcv, hcl, h1, hL, h2, h3⟩, st⟩
  · dsimp only [Pt.U, Pt.locs, Pt.cells, Pt.slots] at X' e1 e2 h1 h2 h3 st
    subst h1; subst h2; subst h3
    exact Or.inl ⟨v, (T.setVm vm₁).calling g' mk (Value.ref b :: As).toArray, t, U', L, hT, X', hL, e1, e2, hq, st⟩
  · dsimp only [Pt.U, Pt.locs, Pt.cells, Pt.slots] at X' e1 e2 h1 h2 h3 st hcl
    subst h1; subst h2; subst h3
    exact Or.inr ⟨q, (T.setVm vm₁).calling g' mk (Value.ref b :: As).toArray, t, U', L, E, ce, hT, X', hL, e1, e2, hq, hce, hcv, vx_cls hW₁ hcl, st⟩
theorem vx_runSX {hh : List (Nat × Nat × Nat × Nat)} (S : CallFix p m c cc nL s args Ts own) (hM : vx_Met l y ws rm Pc Qc XC mc ms free) (cw : vx_CSW R s args own index y bytes maxL ret hh ws rm mc ms n) (hp : PreS s H Pc As)
    (hg : g.method = m) (hn : As.length = n) (hsize : g.locals.size = nL) (hstack : g.stack = As.reverse ++ rest) (hW : 2 * g.monitorRoom + (rest.map fun v => v.category).sum ≤ 8) (hdg : decode cc g.pc = .ok (.invokestatic index, 3)) (hf : cells + mc ≤ R.cells ∧ slots + ms ≤ R.slots) :
    vx_Run p l e R s m args below meth c H locs cells slots mc ms g rest (Qc As.toArray) XC free := by
  obtain ⟨⟨hrc, hrs, hfr, hlo, hws, hcw⟩, hcode, hini, hy, hlen, hl, hstt⟩ := cw
  have hK : vx_Back l R p e below s args y 3 8 (PreOf R mc ms Pc) (PostOf Qc mc ms free) (vx_Post XC mc ms free) := vx_backW (hh := hh) (bytes := bytes) (maxL := maxL) (ret := ret) hM hp.1 hrc hrs hfr hlo hws hcw (fun a' U hW => word_at hW (Or.inl (by first | rfl | simp [Cond.onTables, Cond.keeps, Cond.steady])) hini)
  obtain ⟨hx, hb, hml, ho, -⟩ := S
  intro T hT X
  rcases vx_callSX X hx (hh := hh) (bytes := bytes) (maxL := maxL) (ret := ret) ho hl hstt hini hcode hy hK hg (hsize.trans hml.symm) (argsL := As) (rest := rest) (fun sig h => hn.trans (hlen sig h)) hstack hW (by rw [hb]; exact hdg)
    (fun vm₁ hW₁ => ⟨hf.1, hf.2, hp.2 (T.setVm vm₁) hT hW₁⟩) with ⟨v, vm₁, ⟨U', l2, c2, s2⟩, hW₁, X', ⟨g', mk, t, L, e1, e2, hq, h1, hL, h2, h3⟩, st⟩ | ⟨q, vm₁, ⟨U', l2, c2, s2⟩, hW₁, X', ⟨g', mk, t, L, E, ce, e1, e2, hq, hce, hcv, hcl, h1, hL, h2, h3⟩, st⟩
  · dsimp only [Pt.U, Pt.locs, Pt.cells, Pt.slots] at X' e1 e2 h1 h2 h3 st
    subst h1; subst h2; subst h3
    exact Or.inl ⟨v, (T.setVm vm₁).calling g' mk As.toArray, t, U', L, hT, X', hL, e1, e2, hq, st⟩
  · dsimp only [Pt.U, Pt.locs, Pt.cells, Pt.slots] at X' e1 e2 h1 h2 h3 st hcl
    subst h1; subst h2; subst h3
    exact Or.inr ⟨q, (T.setVm vm₁).calling g' mk As.toArray, t, U', L, E, ce, hT, X', hL, e1, e2, hq, hce, hcv, vx_cls hW₁ hcl, st⟩
end
end VXH
theorem vx_ofWH {l : Launch} {y : MethodName} {ws ws' : List Cond} {rm : Room} {Pc : Array Value → State → Prop} {Qc : Array Value → State → Outcome → State → Prop} {XC : String → State → State → Prop} {mc ms : Nat} {free : Addr → Prop} {cc : ByteArray} {maxL : Nat} {ret : Option FieldType} {hh : List (Nat × Nat × Nat × Nat)}
    (hy : plainName y.cls = true) (hw : ws = Cond.codeWith y cc maxL ret hh :: ws')
    (body : ∀ p e s m args below meth c s₁, BodyLoose p l y (headSpec ws rm) cc maxL ret e s m args below meth c s₁ → c.maxLocals = maxL → Pc args s →
      W p l e (headSpec ws rm).room s m args below meth c s.heap [] 0 0 (vx_MQ below Qc XC args s mc ms free) (entryFrame m args maxL)) : vx_Met l y ws rm Pc Qc XC mc ms free := by
  refine MetFree.of_bodyS (code := cc) (maxLocals := maxL) (ret := ret) hy ?_ ?_
  · intro args s m h hn
    obtain ⟨m9, meth, c, hn9, h1, h2, h3, h4, -, h5, h6, -⟩ := Cond.codeWith_spec (atoms_spec (ws := ws) h _ (by rw [hw]; exact List.mem_cons_self))
    cases hn.symm.trans hn9
    exact ⟨meth, c, h1, h2, h3, h4, h5, h6⟩
  · intro p e s m args below meth c s₁ B hml hP _
    have hh0 : s₁.heap = s.heap := by rw [B.state]; rfl
    obtain ⟨t, a1, o, b1, b2, b3⟩ := body p e s m args below meth c s₁ B hml hP s₁ hh0 (Stand.of_body B)
    exact ⟨t, o, a1, b1, b2, b3⟩
/-! ===== END ===== -/

/-! ===== BEGIN what the machine throws by itself, no traces kept ===== -/
section VXM
set_option maxHeartbeats 1000000 in
/-- the machine throws cls with the message text, no traces kept: from its note over the frame g to 'throwing' over the same frame (follows the proofs of Stand.vmThrowsMessage, Shelf/KitTracedVmS.lean, and Stand.throwsMessageColdBareV, StandMessageColdV.lean, without the step out of the frame) -/
theorem vx_vmAt {p : Program} {l : Launch} {e : Env} {R : Room} {s : State} {m₀ : MethodId} {args : Array Value} {below : List Frame} {meth : Method} {c : Code} {W : State} {locs : List Loc} {cells slots : Nat}
    (X : Stand p l e R s m₀ args below meth c W locs cells slots) (hexec : p.tables.exec = Jvm.exec) (htr : e.platform.stackTraces = false) {cls : String} {names : List String} {text : String}
    (hcls : Bundle.fit cls = true) (hnames : ∀ n ∈ names, Bundle.fit n = true) (hsoe : (cls == "java/lang/StackOverflowError") = false) (hoom : (cls == "java/lang/OutOfMemoryError") = false)
    (h : ∀ a ∈ Bundle.messageArmAtoms cls names, a.before args s = true)
    (hlocs : ∀ x ∈ locs, ∀ cell, s.heap[x.base]? = some cell → cell.vm.isStatics = false)
    (htext : (text == notModelled) = false) (hlimit : ¬ (stringBytes (stringToUtf16 text)).size > e.platform.arrayLengthLimit) (hheap : ¬ (stringBytes (stringToUtf16 text)).size * componentBytes .byte > e.platform.maxHeapBytes)
    {g : JFrame} (hg : g.method = m₀) (hsize : g.locals.size = c.maxLocals)
    (hRframes : names.length + 4 < R.frames) (hRlocals : 2 * g.monitorRoom + (g.stack.map fun v => v.category).sum + 10240 ≤ R.locals) (hshort : 13 * names.length + 55 ≤ 10240)
    (hRcells : cells + 3 ≤ R.cells) (hRslots : slots + ((stringBytes (stringToUtf16 text)).size + 4 + 6) ≤ R.slots) (hlocks : meth.locks = false) :
    ∃ (S : State) (q : Addr) (ce : Cell), (∀ target, Steps p.tables e below ((S.setTop g).pushFrame (.throwing q)) target → Steps p.tables e below ((W.setTop g).pushFrame (.throwNew cls (some text) none)) target) ∧
      Stand p l e R s m₀ args below meth c S locs (cells + 3) (slots + ((stringBytes (stringToUtf16 text)).size + 4 + 6)) ∧ S.heap[q]? = some ce ∧ s.vm.findClass cls = some ce.cls ∧ ce.vm = .none := by
  have howns : e.platform.frameOwnsMonitors = true := by rw [X.admits.platform]
  have hfin : e.platform.finalization = false := by rw [X.admits.platform]
  have hpl : e.platform.magicAccessors = ({} : Platform).magicAccessors := by rw [X.admits.platform]
  have a : ∀ x, x ∈ Bundle.messageArmAtoms cls names → x.holds args s none s [] = true := fun x hx => h x hx
  obtain ⟨T, Z0, L, -, Y⟩ := ThrowableC.of_atoms (args := args) howns hfin hpl (fun x hx => h x (by simp [Bundle.messageArmAtoms, hx]))
  obtain ⟨Z, M, LZ, LM, hnZ⟩ := Init0T.ofS_atoms (args := args) hpl L Y (fun x hx => h x (by simp [Bundle.messageArmAtoms, hx]))
  obtain ⟨P1, Ps, hlen, L1, hL, hP1m, hlink1, hlink⟩ := Bundle.chainS (args := args) hpl hnZ names cls hcls hnames (fun x hx => h x (by simp [Bundle.messageArmAtoms, hx]))
  obtain ⟨Zs, LZs, hn4, hfitv, hfitc⟩ := StringT.of_atoms (args := args) (fun x hx => h x (by simp [Bundle.messageArmAtoms, hx]))
  have hfound : s.vm.findClass cls = some P1.m.cls := findClass_of_methodNamed hP1m
  obtain ⟨c1, kX, hc1, hk, hord, -, -, hn6⟩ := Cond.instantiable_spec (a (.instantiable cls 6) (by simp [Bundle.messageArmAtoms]))
  cases Option.some.inj (hc1.symm.trans hfound)
  have hinit := Cond.initialized_spec hfound hk (a (.initialized cls) (by simp [Bundle.messageArmAtoms]))
  have hctor : kX.findMethod "<init>" "(Ljava/lang/String;)V" = some P1.m.idx := findMethod_of_methodNamed hP1m hk
  have hsel0 : selectMethod e.platform s.vm P1.m.cls T.fill0 = .method T.fill0 := by
    obtain ⟨c2, r2, m2, q1, q2, q3, q4, -⟩ := Cond.selects_spec (a (.selects cls Bundle.tFill0 Bundle.tFill0) (by simp [Bundle.messageArmAtoms]))
    cases Option.some.inj (q1.symm.trans hfound)
    cases Option.some.inj (q2.symm.trans (State.methodFound?_of_named Y.fill0 (by decide)))
    cases Option.some.inj (q3.symm.trans Y.fill0)
    rw [Launch.admits_selectMethod X.admits]; exact q4
  have hselF : selectMethod e.platform s.vm P1.m.cls T.fill = .method T.fill := by
    obtain ⟨c2, r2, m2, q1, q2, q3, q4, -⟩ := Cond.selects_spec (a (.selects cls Bundle.tFill Bundle.tFill) (by simp [Bundle.messageArmAtoms]))
    cases Option.some.inj (q1.symm.trans hfound)
    cases Option.some.inj (q2.symm.trans (State.methodFound?_of_named Y.fill (by decide)))
    cases Option.some.inj (q3.symm.trans Y.fill)
    rw [Launch.admits_selectMethod X.admits]; exact q4
  obtain ⟨cellS0, hcS0, hiss⟩ := Y.statics
  obtain ⟨u0, hu0⟩ := Cond.staticRefV Y.unassigned L.unassignedStatic L.statics hcS0 hiss (a (.isRef (.static Bundle.tN "UNASSIGNED_STACK" Bundle.steD)) (by simp [Bundle.messageArmAtoms]))
  obtain ⟨sen, hsen⟩ := Cond.staticRefV Y.sentinel L.sentinelStatic L.statics hcS0 hiss (a (.isRef (.static Bundle.tN "SUPPRESSED_SENTINEL" Bundle.listD)) (by simp [Bundle.messageArmAtoms]))
  obtain ⟨ci198, i198, fB, hk198, hg198, ha198, hsB, -, hnB, htB, hffB⟩ := Cond.ownField (t := .object "java/lang/Object") Y.found L.cls (by decide +kernel) (a (.fieldLink Bundle.tN 198 Bundle.tN "backtrace" "Ljava/lang/Object;") (by simp [Bundle.messageArmAtoms])) (a (.lays Bundle.tN Bundle.tN "backtrace" "Ljava/lang/Object;") (by simp [Bundle.messageArmAtoms])) e.platform hpl
  obtain ⟨cellS, hcS', heS, -, hkeep⟩ := X.same.2.2.2.2.2 T.aS cellS0 hcS0
  have hcellS : W.heap[T.aS]? = some cellS := hcS'
  have hout' : ∀ i, (⟨T.aS, i⟩ : Loc) ∉ locs := fun i hmem => by
    have := hlocs _ hmem cellS0 hcS0
    rw [hiss] at this; cases this
  have hknownS : cellS.vm ≠ .unknown := by
    rw [heS]; intro hu
    rw [show cellS0.vm = .unknown from hu] at hiss
    cases hiss
  have hvU : cellS.slots[T.fUnassigned.slot]? = some u0.v := by rw [hkeep _ (hout' _)]; exact hu0
  have hvSen : cellS.slots[T.fSentinel.slot]? = some sen.v := by rw [hkeep _ (hout' _)]; exact hsen
  obtain ⟨iM, hffM⟩ := Y.msg
  obtain ⟨tyC, dC, hdC, hdnC⟩ := Cond.laysAt hfound hk Y.cause (a (.lays cls Bundle.tN "cause" "Ljava/lang/Throwable;") (by simp [Bundle.messageArmAtoms]))
  obtain ⟨tyS, dS, hdS, hdnS⟩ := Cond.laysAt hfound hk Y.stack (a (.lays cls Bundle.tN "stackTrace" Bundle.steD) (by simp [Bundle.messageArmAtoms]))
  obtain ⟨tyP, dP, hdP, hdnP⟩ := Cond.laysAt hfound hk Y.supp (a (.lays cls Bundle.tN "suppressedExceptions" Bundle.listD) (by simp [Bundle.messageArmAtoms]))
  obtain ⟨tyM, dM, hdM, hdnM⟩ := Cond.laysAt hfound hk hffM (a (.lays cls Bundle.tN "detailMessage" "Ljava/lang/String;") (by simp [Bundle.messageArmAtoms]))
  obtain ⟨tyB, dB, hdB, hdnB⟩ := Cond.laysAt hfound hk hffB (a (.lays cls Bundle.tN "backtrace" "Ljava/lang/Object;") (by simp [Bundle.messageArmAtoms]))
  have bC := Cond.laysApart hdB hdC hdnB hdnC (by rw [hnB, Y.causeName]; decide)
  have bS := Cond.laysApart hdB hdS hdnB hdnS (by rw [hnB, Y.stackName]; decide)
  have bP := Cond.laysApart hdB hdP hdnB hdnP (by rw [hnB, Y.suppName]; decide)
  have hbk : ((preparedCellV T.toThrowableT (freshCell P1.m.cls kX) (W.heap.size + 2) u0 sen).withEntry W.cur).slots[fB.slot]? = some .null := by
    have := fresh_default (c := P1.m.cls) tyB
    rw [htB] at this
    simpa [preparedCellV, Cell.setSlot, Cell.withEntry, Array.getElem?_setIfInBounds, bC, bS, bP, bC.symm, bS.symm, bP.symm, defaultValue] using this
  have tkC := Takes.of_laid (v := .ref (W.heap.size + 2)) hk hord tyC (by rw [Y.causeType]; rfl)
  have tkS := Takes.of_laid (v := u0.v) hk hord tyS (by rw [Y.stackType]; exact fits_refV_array _ u0)
  have tkP := Takes.of_laid (v := sen.v) hk hord tyP (by rw [Y.suppType]; exact fits_refV_object _ sen)
  have tkM := Takes.of_laid (v := .ref (W.heap.size + 1)) hk hord tyM (by rw [Y.msgType]; rfl)
  have hskip : SkipFacts T e.platform s (fun u => u) u0 ((preparedCellV T.toThrowableT (freshCell P1.m.cls kX) (W.heap.size + 2) u0 sen).withEntry W.cur) := ⟨{ ci198 := ci198, i198 := i198, fBack := fB }, ⟨hk198, hg198, ha198, hsB⟩, hbk, fun _ _ => rfl⟩
  have h0 : At W g.method c below := by rw [hg]; exact X.here
  obtain ⟨hbeyond, hfreeW⟩ := X.vmMayThrow hsize (.throwNew cls (some text) none) (fun f hf => by cases hf) rfl hRlocals
  have hfr' : W.frames.length + Ps.length + 4 < (e.platform.stackLimits W.me).1 := by have := X.framesAbove hRframes; omega
  have hwd' : (stackUse (.java g :: W.frames.tail)).2 + 13 * Ps.length + 55 ≤ (e.platform.stackLimits W.me).2 := by have := X.stackAbove hsize (K := 13 * Ps.length + 55) (by omega); omega
  have hslots : W.slotsUsed + (stringBytes (stringToUtf16 text)).size + Zs.kS.instanceTypes.size + kX.instanceTypes.size ≤ e.platform.maxSlots := by
    have := X.slotsAbove hRslots
    rw [hn4, hn6]
    omega
  obtain ⟨vm', hW', st⟩ := Steps.vmThrowsMessageColdByV p (s₀ := s) (S := W) (g := g) h0 hexec T L Z LZ M LM X.warmed (t := W.cur) rfl Zs LZs P1 L1 Ps hL hlink1 hlink hsoe hoom hfound hk hinit hord hctor
    (Launch.admits_hotImplicitExceptions X.admits) hbeyond hfreeW htext hlimit hheap (X.cellsAbove hRcells) hslots (hfitv _) (hfitc _)
    (Nn := fun u => u) heapOnly_id (fun _ _ => rfl) (fun _ => rfl) (fun u x y => setCell_twice _ _ _ _) (fun _ => Nat.le_refl _) (cN := ((preparedCellV T.toThrowableT (freshCell P1.m.cls kX) (W.heap.size + 2) u0 sen).withEntry W.cur))
    hsel0 hcellS hknownS hvU tkS (fun _ hu => hu) (fun _ hu => hu) rfl rfl rfl (by simp [preparedCellV, Cell.setSlot, Cell.withEntry]) hskip (fun _ _ hA hW _ hroom _ hrest => L.nativeOff p htr hA hW hroom hrest) hselF hvSen tkC tkP tkM Y.objLocals rfl hfr' hwd'
  rw [plainBareV_eq T.toThrowableT (W.heap.size + 2) u0 sen (.ref (W.heap.size + 1)) W.cur rfl rfl] at st
  obtain ⟨-, -, w3, w4, -, -, -⟩ := withThrown_facts e.platform W Zs text P1.m.cls kX
  have X3 := ((X.pushed (bytesOf Zs.cB (stringToUtf16 text))).pushed (stringAt Zs.cS Zs.kS Zs.fv Zs.fc (stringToUtf16 text) W.heap.size)).pushed (freshCell P1.m.cls kX)
  rw [← withString_eq] at X3
  have X4 := X3.noted hW'
  have ha : (W.heap.size + 2) < ((withThrown W Zs text P1.m.cls kX).setVm vm').heap.size := by show _ < (withThrown W Zs text P1.m.cls kX).heap.size; rw [w3]; omega
  have hcell : ((withThrown W Zs text P1.m.cls kX).setVm vm').heap[(W.heap.size + 2)]? = some (freshCell P1.m.cls kX) := w4
  have X5 := ((((X4.stored hcell T.fCause.slot (.ref (W.heap.size + 2))).storedAgain ha T.fStack.slot u0.v).storedAgain ha T.fSupp.slot sen.v).storedAgain ha T.fStack.slot u0.v).storedAgain ha T.fMsg.slot (.ref (W.heap.size + 1))
  obtain ⟨g₁, hfrM⟩ := X5.frames_eq
  have hU : ((((withThrown W Zs text P1.m.cls kX).setVm vm').setCell (W.heap.size + 2) (plainBareV T.toThrowableT (freshCell P1.m.cls kX) (W.heap.size + 2) u0 sen (.ref (W.heap.size + 1)))).setTop g).pushFrame (.throwing (W.heap.size + 2)) = (((withThrown W Zs text P1.m.cls kX).setVm vm').setCell (W.heap.size + 2) (plainBareV T.toThrowableT (freshCell P1.m.cls kX) (W.heap.size + 2) u0 sen (.ref (W.heap.size + 1)))).setFrames (.throwing (W.heap.size + 2) :: .java g :: below) := by
    rw [State.pushFrame, State.frames_setTop _ hfrM, State.setTop_of_frames _ hfrM, State.setFrames_setFrames]
  have b1 : (bytesOf Zs.cB (stringToUtf16 text)).slots.size = (stringBytes (stringToUtf16 text)).size := by
    rw [(Cell.writeAll_facts _ _).2.2]; simp [bytes0]
  have b2 : (stringAt Zs.cS Zs.kS Zs.fv Zs.fc (stringToUtf16 text) W.heap.size).slots.size = 4 := by simp [string0, Cell.setSlot, hn4]
  have b3 : (freshCell P1.m.cls kX).slots.size = 6 := by simp [hn6]
  rw [b1, b2, b3] at X5
  have e9 : slots + (stringBytes (stringToUtf16 text)).size + 4 + 6 = slots + ((stringBytes (stringToUtf16 text)).size + 4 + 6) := by omega
  rw [e9] at X5
  simp only [List.append_assoc, List.cons_append, List.nil_append] at X5
  refine ⟨((withThrown W Zs text P1.m.cls kX).setVm vm').setCell (W.heap.size + 2) (plainBareV T.toThrowableT (freshCell P1.m.cls kX) (W.heap.size + 2) u0 sen (.ref (W.heap.size + 1))), W.heap.size + 2, _, fun target ht => st _ (by rw [X.tail, ← hU]; exact ht),
    X5.forget (fun y hy => ?_), heapAt_setCell_self _ ha, hfound, rfl⟩
  simp only [List.mem_cons, List.not_mem_nil, or_false] at hy
  have hge : s.heap.size ≤ W.heap.size := X.same.2.1
  rcases hy with rfl | rfl | rfl | rfl | rfl <;> exact Nat.le_trans hge (Nat.le_add_right _ 2)
set_option maxHeartbeats 1000000 in
/-- the machine throws NullPointerException, no traces kept: from its note over the frame g to 'throwing' over the same frame (follows the proof of Stand.vmThrowsNpe, Shelf42/KT2.lean; throwsNpeColdBareVAt, Shelf42/NT91.lean, called) -/
theorem vx_npeAt {p : Program} {l : Launch} {e : Env} {R : Room} {s : State} {m₀ : MethodId} {args : Array Value} {below : List Frame} {meth : Method} {c : Code} {W : State} {locs : List Loc} {cells slots : Nat}
    (X : Stand p l e R s m₀ args below meth c W locs cells slots) (hexec : p.tables.exec = Jvm.exec) (htr : e.platform.stackTraces = false) {n : Nat}
    (h : ∀ a ∈ Bundle.npeArmAtoms n, a.before args s = true)
    (hlocs : ∀ x ∈ locs, ∀ cell, s.heap[x.base]? = some cell → cell.vm.isStatics = false)
    {g : JFrame} (hg : g.method = m₀) (hsize : g.locals.size = c.maxLocals)
    (hRframes : 7 < R.frames) (hRlocals : 2 * g.monitorRoom + (g.stack.map fun v => v.category).sum + 10240 ≤ R.locals)
    (hRcells : cells + 1 ≤ R.cells) (hRslots : slots + n ≤ R.slots) (hlocks : meth.locks = false) :
    ∃ (S : State) (q : Addr) (ce : Cell), (∀ target, Steps p.tables e below ((S.setTop g).pushFrame (.throwing q)) target → Steps p.tables e below ((W.setTop g).pushFrame (.throwNew "java/lang/NullPointerException" none none)) target) ∧
      Stand p l e R s m₀ args below meth c S locs (cells + 1) (slots + n) ∧ S.heap[q]? = some ce ∧ s.vm.findClass "java/lang/NullPointerException" = some ce.cls ∧ ce.vm = .none := by
  have howns : e.platform.frameOwnsMonitors = true := by rw [X.admits.platform]
  have hfin : e.platform.finalization = false := by rw [X.admits.platform]
  have hpl : e.platform.magicAccessors = ({} : Platform).magicAccessors := by rw [X.admits.platform]
  have hpl2 : e.platform.arrayCloneIsPublic = true := by rw [X.admits.platform]
  have a' : ∀ x, x ∈ Bundle.npeArmAtoms n → x.holds args s none s [] = true := fun x hx => h x hx
  obtain ⟨T, Z, L, LZ, Y⟩ := ThrowableC.of_atoms (args := args) howns hfin hpl (fun x hx => h x (by simp [Bundle.npeArmAtoms, hx]))
  obtain ⟨N, LN, hcN, hnNF, hordN, hffS⟩ := NpeC.of_atoms (args := args) hpl hpl2 L Y (fun x hx => h x (by simp [Bundle.npeArmAtoms, hx]))
  obtain ⟨P1, L1, hP1m, hP1s⟩ := PassC.of_atoms (args := args) (s := s) hpl (X := Bundle.nN) (Y := Bundle.rN) (by decide) (by decide) LibCode.NullPointerException.Init0.at_0 LibCode.NullPointerException.Init0.at_1 LibCode.NullPointerException.Init0.at_4 (fun x hx => h x (by simp [Bundle.npeArmAtoms, hx]))
  obtain ⟨PR, LR, hPRm, hPRs⟩ := PassC.of_atoms (args := args) (s := s) hpl (X := Bundle.rN) (Y := Bundle.eN) (by decide) (by decide) LibCode.RuntimeException.Init0.at_0 LibCode.RuntimeException.Init0.at_1 LibCode.RuntimeException.Init0.at_4 (fun x hx => h x (by simp [Bundle.npeArmAtoms, hx]))
  obtain ⟨PE, LEx, hPEm, hPEs⟩ := PassC.of_atoms (args := args) (s := s) hpl (X := Bundle.eN) (Y := Bundle.tN) (by decide) (by decide) LibCode.Exception.Init0.at_0 LibCode.Exception.Init0.at_1 LibCode.Exception.Init0.at_4 (fun x hx => h x (by simp [Bundle.npeArmAtoms, hx]))
  have hfound : s.vm.findClass Bundle.nN = some P1.m.cls := findClass_of_methodNamed hP1m
  have ecls : N.cN = P1.m.cls := Option.some.inj (hcN.symm.trans hfound)
  have hk : s.vm.classes[P1.m.cls]? = some N.kN := by rw [← ecls]; exact LN.cls
  have hinit := Cond.initialized_spec hfound hk (a' (.initialized Bundle.nN) (by simp [Bundle.npeArmAtoms]))
  have hctor : N.kN.findMethod "<init>" "()V" = some P1.m.idx := findMethod_of_methodNamed hP1m hk
  obtain ⟨c1, k1, hc1, hk1, -, -, -, hn⟩ := Cond.instantiable_spec (a' (.instantiable Bundle.nN n) (by simp [Bundle.npeArmAtoms]))
  cases Option.some.inj (hc1.symm.trans hfound)
  cases Option.some.inj (hk1.symm.trans hk)
  have hfsz : (freshCell P1.m.cls N.kN).slots.size = n := by simp [hn]
  have hlink1 : P1.sup = PR.m := Option.some.inj (hP1s.symm.trans hPRm)
  have hlinkR : PR.sup = PE.m := Option.some.inj (hPRs.symm.trans hPEm)
  have hlinkE : PE.sup = Z.m T.toThrowableT := Option.some.inj (hPEs.symm.trans Y.init0)
  have hLs : ∀ P, P ∈ [PR, PE] → P.Links0 e.platform s := fun P hP => by
    simp only [List.mem_cons, List.not_mem_nil, or_false] at hP
    rcases hP with rfl | rfl
    · exact LR
    · exact LEx
  have hsel0 : selectMethod e.platform s.vm P1.m.cls T.fill0 = .method T.fill0 := by
    obtain ⟨c2, r2, m2, q1, q2, q3, q4, -⟩ := Cond.selects_spec (a' (.selects Bundle.nN Bundle.tFill0 Bundle.tFill0) (by simp [Bundle.npeArmAtoms]))
    cases Option.some.inj (q1.symm.trans hfound)
    cases Option.some.inj (q2.symm.trans (State.methodFound?_of_named Y.fill0 (by decide)))
    cases Option.some.inj (q3.symm.trans Y.fill0)
    rw [Launch.admits_selectMethod X.admits]; exact q4
  have hselF : selectMethod e.platform s.vm P1.m.cls T.fill = .method N.fill := by
    obtain ⟨c2, r2, m2, q1, q2, q3, q4, -⟩ := Cond.selects_spec (a' (.selects Bundle.nN Bundle.tFill Bundle.nFill) (by simp [Bundle.npeArmAtoms]))
    cases Option.some.inj (q1.symm.trans hfound)
    cases Option.some.inj (q2.symm.trans (State.methodFound?_of_named Y.fill (by decide)))
    cases Option.some.inj (q3.symm.trans hnNF)
    rw [Launch.admits_selectMethod X.admits]; exact q4
  obtain ⟨cellS0, hcS0, hiss⟩ := Y.statics
  obtain ⟨u0, hu0⟩ := Cond.staticRefV Y.unassigned L.unassignedStatic L.statics hcS0 hiss (a' (.isRef (.static Bundle.tN "UNASSIGNED_STACK" Bundle.steD)) (by simp [Bundle.npeArmAtoms]))
  obtain ⟨sen, hsen⟩ := Cond.staticRefV Y.sentinel L.sentinelStatic L.statics hcS0 hiss (a' (.isRef (.static Bundle.tN "SUPPRESSED_SENTINEL" Bundle.listD)) (by simp [Bundle.npeArmAtoms]))
  obtain ⟨ci198, i198, fB, hk198, hg198, ha198, hsB, -, hnB, htB, hffB⟩ := Cond.ownField (t := .object "java/lang/Object") Y.found L.cls (by decide +kernel) (a' (.fieldLink Bundle.tN 198 Bundle.tN "backtrace" Bundle.objD) (by simp [Bundle.npeArmAtoms])) (a' (.lays Bundle.tN Bundle.tN "backtrace" Bundle.objD) (by simp [Bundle.npeArmAtoms])) e.platform hpl
  obtain ⟨cellS, hcS', heS, -, hkeep⟩ := X.same.2.2.2.2.2 T.aS cellS0 hcS0
  have hcellS : W.heap[T.aS]? = some cellS := hcS'
  have hout' : ∀ i, (⟨T.aS, i⟩ : Loc) ∉ locs := fun i hmem => by
    have := hlocs _ hmem cellS0 hcS0
    rw [hiss] at this; cases this
  have hknownS : cellS.vm ≠ .unknown := by
    rw [heS]; intro hu
    rw [show cellS0.vm = .unknown from hu] at hiss
    cases hiss
  have hvU : cellS.slots[T.fUnassigned.slot]? = some u0.v := by rw [hkeep _ (hout' _)]; exact hu0
  have hvSen : cellS.slots[T.fSentinel.slot]? = some sen.v := by rw [hkeep _ (hout' _)]; exact hsen
  obtain ⟨tyC, dC, hdC, hdnC⟩ := Cond.laysAt hfound hk Y.cause (a' (.lays Bundle.nN Bundle.tN "cause" "Ljava/lang/Throwable;") (by simp [Bundle.npeArmAtoms]))
  obtain ⟨tyS, dS, hdS, hdnS⟩ := Cond.laysAt hfound hk Y.stack (a' (.lays Bundle.nN Bundle.tN "stackTrace" Bundle.steD) (by simp [Bundle.npeArmAtoms]))
  obtain ⟨tyP, dP, hdP, hdnP⟩ := Cond.laysAt hfound hk Y.supp (a' (.lays Bundle.nN Bundle.tN "suppressedExceptions" Bundle.listD) (by simp [Bundle.npeArmAtoms]))
  obtain ⟨tyX, dX, hdX, hdnX⟩ := Cond.laysAt hfound hk hffS (a' (.lays Bundle.nN Bundle.nN "extendedMessageState" "I") (by simp [Bundle.npeArmAtoms, Bundle.npeAtoms]))
  obtain ⟨hnX, htX⟩ := State.fieldFound?_type hffS (t := .int) (by decide +kernel)
  have xC := Cond.laysApart hdC hdX hdnC hdnX (by rw [hnX, Y.causeName]; decide)
  have xS := Cond.laysApart hdS hdX hdnS hdnX (by rw [hnX, Y.stackName]; decide)
  have xP := Cond.laysApart hdP hdX hdnP hdnX (by rw [hnX, Y.suppName]; decide)
  have hv0 : (freshCell P1.m.cls N.kN).slots[N.fState.slot]? = some (.int 0) := by
    have := fresh_default (c := P1.m.cls) tyX
    rw [htX] at this; exact this
  obtain ⟨tyB, dB, hdB, hdnB⟩ := Cond.laysAt hfound hk hffB (a' (.lays Bundle.nN Bundle.tN "backtrace" Bundle.objD) (by simp [Bundle.npeArmAtoms]))
  have bC := Cond.laysApart hdB hdC hdnB hdnC (by rw [hnB, Y.causeName]; decide)
  have bS := Cond.laysApart hdB hdS hdnB hdnS (by rw [hnB, Y.stackName]; decide)
  have bP := Cond.laysApart hdB hdP hdnB hdnP (by rw [hnB, Y.suppName]; decide)
  have bX := Cond.laysApart hdB hdX hdnB hdnX (by rw [hnB, hnX]; decide)
  have hbk : ((npeCell N.toNpeT (preparedCellV T.toThrowableT (freshCell P1.m.cls N.kN) W.heap.size u0 sen) W.cur).withEntry W.cur).slots[fB.slot]? = some .null := by
    have := fresh_default (c := P1.m.cls) tyB
    rw [htB] at this
    simpa [npeCell, preparedCellV, Cell.setSlot, Cell.withEntry, Array.getElem?_setIfInBounds, bC, bS, bP, bX, bC.symm, bS.symm, bP.symm, bX.symm, defaultValue] using this
  have tkC := Takes.of_laid (v := .ref W.heap.size) hk hordN tyC (by rw [Y.causeType]; rfl)
  have tkS := Takes.of_laid (v := u0.v) hk hordN tyS (by rw [Y.stackType]; exact fits_refV_array _ u0)
  have tkP := Takes.of_laid (v := sen.v) hk hordN tyP (by rw [Y.suppType]; exact fits_refV_object _ sen)
  have tkX := Takes.of_laid (v := .int 1) hk hordN tyX (by rw [htX]; rfl)
  have hskip : SkipFacts T e.platform s (fun u => u) u0 ((npeCell N.toNpeT (preparedCellV T.toThrowableT (freshCell P1.m.cls N.kN) W.heap.size u0 sen) W.cur).withEntry W.cur) := ⟨{ ci198 := ci198, i198 := i198, fBack := fB }, ⟨hk198, hg198, ha198, hsB⟩, hbk, fun _ _ => rfl⟩
  obtain ⟨vm', X3, st, -⟩ := X.throwsNpeColdBareVAt hexec hg hsize T L Z LZ N LN P1 L1 [PR, PE] hLs hlink1 ⟨hlinkR, hlinkE, trivial⟩ hfound hk hinit hordN hctor hsel0 hselF hcellS hknownS hvU hvSen
    hv0 xC xS xP tkC tkS tkP tkX Y.objLocals hskip (fun _ _ hA hW _ hroom _ hrest => L.nativeOff p htr hA hW hroom hrest) (by simpa using hRframes) hRlocals (by simp) hRcells (by rw [hn]; exact hRslots)
  have hlt : W.heap.size < ((W.pushCell (freshCell P1.m.cls N.kN)).setVm vm').heap.size := by
    show W.heap.size < (W.pushCell (freshCell P1.m.cls N.kN)).heap.size
    rw [State.heap_size_pushCell]; omega
  rw [hfsz] at X3
  obtain ⟨g₁, hfrM⟩ := X3.frames_eq
  have hU : ((((W.pushCell (freshCell P1.m.cls N.kN)).setVm vm').setCell W.heap.size (npeBareV T.toThrowableT N.toNpeT (freshCell P1.m.cls N.kN) W.heap.size u0 sen)).setTop g).pushFrame (.throwing W.heap.size) = (((W.pushCell (freshCell P1.m.cls N.kN)).setVm vm').setCell W.heap.size (npeBareV T.toThrowableT N.toNpeT (freshCell P1.m.cls N.kN) W.heap.size u0 sen)).setFrames (.throwing W.heap.size :: .java g :: below) := by
    rw [State.pushFrame, State.frames_setTop _ hfrM, State.setTop_of_frames _ hfrM, State.setFrames_setFrames]
  refine ⟨_, W.heap.size, _, fun target ht => st.trans (by rw [← hU]; exact ht), X3.forget (fun y hy => ?_), heapAt_setCell_self _ hlt, hfound, rfl⟩
  simp only [List.mem_cons, List.not_mem_nil, or_false] at hy
  have hge : s.heap.size ≤ W.heap.size := X.same.2.1
  rcases hy with rfl | rfl | rfl | rfl | rfl <;> exact hge
/-- the words of a machine's NullPointerException, but the four that speak of the heap -/
def vx_atN (n : Nat) : List Cond := (Bundle.npeArmAtoms n).filter vx_no
/-- the words of a machine's throw with a message, but the four that speak of the heap -/
def vx_atM (X : String) (names : List String) : List Cond := (Bundle.messageArmAtoms X names).filter vx_no
section
variable {p : Program} {l : Launch} {e : Env} {R : Room} {s : State} {m : MethodId} {args : Array Value} {below : List Frame} {meth : Method} {c : Code} {H : Heap} {locs : List Loc} {cells slots : Nat}
/-- a frame seen from a rebased start, seen from the first start again -/
theorem vx_back9 {T S : State} {R' : Room} {k n : Nat} (X : Stand p l e R s m args below meth c T locs cells slots) (Y : Stand p l e R' ((T.setVm s.vm).setFrames (.invoking m args :: below)) m args below meth c T [] 0 0) (Z : Stand p l e R' ((T.setVm s.vm).setFrames (.invoking m args :: below)) m args below meth c S [] k n) :
    Stand p l e R s m args below meth c S locs (cells + k) (slots + n) := by
  have hW0 : s.WarmedH ((T.setVm s.vm).setFrames (.invoking m args :: below)).vm := State.WarmedH.refl s
  refine { admits := X.admits, cas := X.cas, clock := X.clock, frames := X.frames, room := X.room, hears := X.hears, method := X.method, code := X.code, here := Z.here, tail := Z.tail, warmed := State.WarmedH.trans hW0 Z.warmed, limits := Z.limits.trans (Y.limits.symm.trans X.limits), bytes := Z.bytes.trans (Y.bytes.symm.trans X.bytes), same := ?_ }
  obtain ⟨e1, e2⟩ := Z.same
  rw [State.setFrames_setFrames] at e1
  have h2 : (T.setVm s.vm).sameButNew (S.setVm s.vm) [] k n := ⟨e1, e2⟩
  have h3 := X.same.trans h2
  rw [List.append_nil] at h3
  exact h3
/-- from the machine's note that E is thrown here with this text -/
def vx_Note (p : Program) (l : Launch) (e : Env) (R : Room) (s : State) (m : MethodId) (args : Array Value) (below : List Frame) (meth : Method) (c : Code) (H : Heap) (locs : List Loc) (cells slots : Nat) (Q : State → Prop) (g : JFrame) (E text : String) : Prop :=
  ∀ T : State, T.heap = H → Stand p l e R s m args below meth c T locs cells slots → ∃ t, Steps p.tables e below ((T.setTop g).pushFrame (.throwNew E (some text) none)) t ∧ Q t
theorem vx_vm {pc : Nat} {ls : Array Slot} {rest : List Value} {Q : State → Prop} (hexec : p.tables.exec = Jvm.exec) (hl : l.stackTraces = false) {cls text : String} {names : List String} {nb : Nat} {A : Nat → Prop}
    (hcls : Bundle.fit cls = true) (hnames : ∀ n ∈ names, Bundle.fit n = true) (hsoe : (cls == "java/lang/StackOverflowError") = false) (hoom : (cls == "java/lang/OutOfMemoryError") = false)
    (hat : ∀ w ∈ vx_atM cls names, w.before args s = true) (hgood : ∀ w ∈ vx_atM cls names, vx_ot w = true)
    (hU : vx_Zq Bundle.tN "UNASSIGNED_STACK" Bundle.steD A s s.heap) (hN : vx_Zq Bundle.tN "SUPPRESSED_SENTINEL" Bundle.listD A s s.heap) (hS : va_S A s.heap H locs) (hsize : ls.size = c.maxLocals)
    (htext : (text == notModelled) = false) (hnb : (stringBytes (stringToUtf16 text)).size ≤ nb) (hnb1 : nb ≤ 1000)
    (hRframes : names.length + 4 < R.frames) (hRlocals : (rest.map fun v => v.category).sum + 10240 ≤ R.locals) (hshort : 13 * names.length + 55 ≤ 10240) (hRcells : cells + 3 ≤ R.cells) (hRslots : slots + (nb + 10) ≤ R.slots) (hlocks : meth.locks = false)
    (k : ∀ (H1 : Heap) (q9 : Addr) (ce : Cell), H.size ≤ H1.size → (∀ q : Nat, q < H.size → H1[q]? = H[q]?) → va_S A s.heap H1 locs → H1[q9]? = some ce → ce.vm = .none → s.vm.findClass cls = some ce.cls → vx_W p l e R s m args below meth c H1 locs (cells + 3) (slots + (nb + 10)) Q (F0 m pc ls rest) q9) :
    vx_Note p l e R s m args below meth c H locs cells slots Q (F0 m pc ls rest) cls text := by
  intro T hT X
  have htr : e.platform.stackTraces = false := (show e.platform.stackTraces = l.stackTraces by rw [X.admits.platform]).trans hl
  have Y := vx_rebase X (R' := { frames := R.frames, locals := R.locals, cells := 3, slots := nb + 10 }) (Nat.le_refl _) (Nat.le_refl _) hRcells hRslots
  have hhp : ((T.setVm s.vm).setFrames (.invoking m args :: below)).heap = H := hT
  have hW0 : s.WarmedH ((T.setVm s.vm).setFrames (.invoking m args :: below)).vm := State.WarmedH.refl s
  have hat' : ∀ w ∈ vx_atM cls names, w.before args ((T.setVm s.vm).setFrames (.invoking m args :: below)) = true := fun w hw => vx_ot_at hW0 rfl (hgood w hw) (hat w hw)
  have hU' : vx_Zq Bundle.tN "UNASSIGNED_STACK" Bundle.steD A ((T.setVm s.vm).setFrames (.invoking m args :: below)) ((T.setVm s.vm).setFrames (.invoking m args :: below)).heap := by rw [hhp]; exact vx_Zq.moved hW0.alike (hU.kept hS.2.1)
  have hN' : vx_Zq Bundle.tN "SUPPRESSED_SENTINEL" Bundle.listD A ((T.setVm s.vm).setFrames (.invoking m args :: below)) ((T.setVm s.vm).setFrames (.invoking m args :: below)).heap := by rw [hhp]; exact vx_Zq.moved hW0.alike (hN.kept hS.2.1)
  obtain ⟨S, q, ce, st, Z, hce, hcl', hv⟩ := vx_vmAt Y hexec htr (cls := cls) (names := names) (text := text) hcls hnames hsoe hoom (vx_own hat' (vx_isRefq hU'.1) (vx_isRefq hN'.1) hU'.2.word hN'.2.word) (fun x hx => nomatch hx) htext
    (by rw [Launch.admits_arrayLengthLimit X.admits]; omega) (by rw [Launch.admits_maxHeapBytes X.admits]; simp only [componentBytes]; omega)
    (g := F0 m pc ls rest) rfl hsize hRframes (by show 2 * 0 + (rest.map fun v => v.category).sum + 10240 ≤ R.locals; omega) hshort (by show 0 + 3 ≤ 3; omega) (by show 0 + (_ + 4 + 6) ≤ nb + 10; omega) hlocks
  obtain ⟨f1, f2⟩ := vx_frame Z.same
  have f1' : H.size ≤ S.heap.size := by rw [← hT]; exact f1
  have f2' : ∀ q : Nat, q < H.size → S.heap[q]? = H[q]? := fun q hq => by
    rw [← hT]
    exact f2 q (by rw [← hT] at hq; exact hq) (fun z hz => nomatch hz)
  have X5 := vx_back9 X Y Z
  have X6 : Stand p l e R s m args below meth c S locs (cells + 3) (slots + (nb + 10)) := { X5 with same := X5.same.mono (by omega) (by omega) }
  obtain ⟨t, a1, b1⟩ := k S.heap q ce f1' f2' ⟨Nat.le_trans hS.1 f1', fun q h1 h2 => (f2' q (Nat.lt_of_lt_of_le h1 hS.1)).trans (hS.2.1 q h1 h2), hS.2.2⟩ hce hv hcl' S rfl X6
  exact ⟨t, st t a1, b1⟩
/-- from the machine's note that NullPointerException is thrown here -/
def vx_NoteN (p : Program) (l : Launch) (e : Env) (R : Room) (s : State) (m : MethodId) (args : Array Value) (below : List Frame) (meth : Method) (c : Code) (H : Heap) (locs : List Loc) (cells slots : Nat) (Q : State → Prop) (g : JFrame) : Prop :=
  ∀ T : State, T.heap = H → Stand p l e R s m args below meth c T locs cells slots → ∃ t, Steps p.tables e below ((T.setTop g).pushFrame (.throwNew "java/lang/NullPointerException" none none)) t ∧ Q t
theorem vx_npe {pc : Nat} {ls : Array Slot} {rest : List Value} {Q : State → Prop} (hexec : p.tables.exec = Jvm.exec) (hl : l.stackTraces = false) {nb : Nat} {A : Nat → Prop}
    (hat : ∀ w ∈ vx_atN nb, w.before args s = true) (hgood : ∀ w ∈ vx_atN nb, vx_ot w = true)
    (hU : vx_Zq Bundle.tN "UNASSIGNED_STACK" Bundle.steD A s s.heap) (hN : vx_Zq Bundle.tN "SUPPRESSED_SENTINEL" Bundle.listD A s s.heap) (hS : va_S A s.heap H locs) (hsize : ls.size = c.maxLocals)
    (hRframes : 7 < R.frames) (hRlocals : (rest.map fun v => v.category).sum + 10240 ≤ R.locals) (hRcells : cells + 1 ≤ R.cells) (hRslots : slots + nb ≤ R.slots) (hlocks : meth.locks = false)
    (k : ∀ (H1 : Heap) (q9 : Addr) (ce : Cell), H.size ≤ H1.size → (∀ q : Nat, q < H.size → H1[q]? = H[q]?) → va_S A s.heap H1 locs → H1[q9]? = some ce → ce.vm = .none → s.vm.findClass "java/lang/NullPointerException" = some ce.cls → vx_W p l e R s m args below meth c H1 locs (cells + 1) (slots + nb) Q (F0 m pc ls rest) q9) :
    vx_NoteN p l e R s m args below meth c H locs cells slots Q (F0 m pc ls rest) := by
  intro T hT X
  have htr : e.platform.stackTraces = false := (show e.platform.stackTraces = l.stackTraces by rw [X.admits.platform]).trans hl
  have Y := vx_rebase X (R' := { frames := R.frames, locals := R.locals, cells := 1, slots := nb }) (Nat.le_refl _) (Nat.le_refl _) hRcells hRslots
  have hhp : ((T.setVm s.vm).setFrames (.invoking m args :: below)).heap = H := hT
  have hW0 : s.WarmedH ((T.setVm s.vm).setFrames (.invoking m args :: below)).vm := State.WarmedH.refl s
  have hat' : ∀ w ∈ vx_atN nb, w.before args ((T.setVm s.vm).setFrames (.invoking m args :: below)) = true := fun w hw => vx_ot_at hW0 rfl (hgood w hw) (hat w hw)
  have hU' : vx_Zq Bundle.tN "UNASSIGNED_STACK" Bundle.steD A ((T.setVm s.vm).setFrames (.invoking m args :: below)) ((T.setVm s.vm).setFrames (.invoking m args :: below)).heap := by rw [hhp]; exact vx_Zq.moved hW0.alike (hU.kept hS.2.1)
  have hN' : vx_Zq Bundle.tN "SUPPRESSED_SENTINEL" Bundle.listD A ((T.setVm s.vm).setFrames (.invoking m args :: below)) ((T.setVm s.vm).setFrames (.invoking m args :: below)).heap := by rw [hhp]; exact vx_Zq.moved hW0.alike (hN.kept hS.2.1)
  obtain ⟨S, q, ce, st, Z, hce, hcl', hv⟩ := vx_npeAt Y hexec htr (n := nb) (vx_own hat' (vx_isRefq hU'.1) (vx_isRefq hN'.1) hU'.2.word hN'.2.word) (fun x hx => nomatch hx)
    (g := F0 m pc ls rest) rfl hsize hRframes (by show 2 * 0 + (rest.map fun v => v.category).sum + 10240 ≤ R.locals; omega) (by show 0 + 1 ≤ 1; omega) (by show 0 + nb ≤ nb; omega) hlocks
  obtain ⟨f1, f2⟩ := vx_frame Z.same
  have f1' : H.size ≤ S.heap.size := by rw [← hT]; exact f1
  have f2' : ∀ q : Nat, q < H.size → S.heap[q]? = H[q]? := fun q hq => by
    rw [← hT]
    exact f2 q (by rw [← hT] at hq; exact hq) (fun z hz => nomatch hz)
  have X5 := vx_back9 X Y Z
  have X6 : Stand p l e R s m args below meth c S locs (cells + 1) (slots + nb) := { X5 with same := X5.same.mono (by omega) (by omega) }
  obtain ⟨t, a1, b1⟩ := k S.heap q ce f1' f2' ⟨Nat.le_trans hS.1 f1', fun q h1 h2 => (f2' q (Nat.lt_of_lt_of_le h1 hS.1)).trans (hS.2.1 q h1 h2), hS.2.2⟩ hce hv hcl' S rfl X6
  exact ⟨t, st t a1, b1⟩
variable {Q : State → Prop} {cc : ByteArray} {pc : Nat} {ls : Array Slot} {rest : List Value}
theorem vx_idivZ (hexec : p.tables.exec = Jvm.exec) (hb : c.code = cc) {a b : Int32} (h0 : b = 0) (d : decode cc pc = .ok (.idiv, 1)) (k : vx_Note p l e R s m args below meth c H locs cells slots Q (F0 m pc ls rest) "java/lang/ArithmeticException" "/ by zero") :
    W p l e R s m args below meth c H locs cells slots Q (F0 m pc ls (.int b :: .int a :: rest)) := by
  intro T hT X
  obtain ⟨t, st, q⟩ := k T hT X
  exact ⟨t, X.idivZero hexec (g := F0 m pc ls (.int b :: .int a :: rest)) rfl (a := a) (rest := rest) (by rw [h0]) (by rw [hb]; exact d) t st, q⟩
theorem vx_iremZ (hexec : p.tables.exec = Jvm.exec) (hb : c.code = cc) {a b : Int32} (h0 : b = 0) (d : decode cc pc = .ok (.irem, 1)) (k : vx_Note p l e R s m args below meth c H locs cells slots Q (F0 m pc ls rest) "java/lang/ArithmeticException" "/ by zero") :
    W p l e R s m args below meth c H locs cells slots Q (F0 m pc ls (.int b :: .int a :: rest)) := by
  intro T hT X
  obtain ⟨t, st, q⟩ := k T hT X
  exact ⟨t, X.iremZero hexec (g := F0 m pc ls (.int b :: .int a :: rest)) rfl (a := a) (rest := rest) (by rw [h0]) (by rw [hb]; exact d) t st, q⟩
theorem vx_ldivZ (hexec : p.tables.exec = Jvm.exec) (hb : c.code = cc) {a b : Int64} (h0 : b = 0) (d : decode cc pc = .ok (.ldiv, 1)) (k : vx_Note p l e R s m args below meth c H locs cells slots Q (F0 m pc ls rest) "java/lang/ArithmeticException" "/ by zero") :
    W p l e R s m args below meth c H locs cells slots Q (F0 m pc ls (.long b :: .long a :: rest)) := by
  intro T hT X
  obtain ⟨t, st, q⟩ := k T hT X
  exact ⟨t, X.ldivZero hexec (g := F0 m pc ls (.long b :: .long a :: rest)) rfl (a := a) (rest := rest) (by rw [h0]) (by rw [hb]; exact d) t st, q⟩
theorem vx_lremZ (hexec : p.tables.exec = Jvm.exec) (hb : c.code = cc) {a b : Int64} (h0 : b = 0) (d : decode cc pc = .ok (.lrem, 1)) (k : vx_Note p l e R s m args below meth c H locs cells slots Q (F0 m pc ls rest) "java/lang/ArithmeticException" "/ by zero") :
    W p l e R s m args below meth c H locs cells slots Q (F0 m pc ls (.long b :: .long a :: rest)) := by
  intro T hT X
  obtain ⟨t, st, q⟩ := k T hT X
  exact ⟨t, X.lremZero hexec (g := F0 m pc ls (.long b :: .long a :: rest)) rfl (a := a) (rest := rest) (by rw [h0]) (by rw [hb]; exact d) t st, q⟩
theorem vx_ialdZ {D : va_G} {cl : List vw_C} {ws : va_W} {tys : List (ClassId × FieldType)} {a : Nat} (hexec : p.tables.exec = Jvm.exec) (hb : c.code = cc) (hK : va_K D cl tys s) (hP : va_P D cl ws H) (q0 t0 : Nat) {cA : ClassId} {n : Nat} {f : Nat → Int32} (ha : ws[q0]? = some (a, .inl (cA, n, .inl f))) (ht : tys[t0]? = some (cA, .int)) {i : Int32} (hout : ¬ vp_in i n) (hdg : decode cc pc = .ok (.iaload, 1))
    (k : ∀ tx : String, tx = (toString "Index " ++ toString i ++ toString " out of bounds for length " ++ toString n : String) → vx_Note p l e R s m args below meth c H locs cells slots Q (F0 m pc ls rest) "java/lang/ArrayIndexOutOfBoundsException" tx) : W p l e R s m args below meth c H locs cells slots Q (F0 m pc ls (.int i :: .ref a :: rest)) := by
  intro T hT X
  obtain ⟨t, st, q⟩ := k _ rfl T hT X
  refine ⟨t, ?_, q⟩
  have h1 := X.ialoadOut hexec (by rw [hT]; exact hP q0 _ ha) ((hK.2 t0 _ ht).1 n (fun j => .int (f j))) (j := i) (by show (i < 0 ∨ (arrV _ _ _).slots.size ≤ _); rw [arrV_size]; exact Classical.byContradiction hout) (g := F0 m pc ls (.int i :: .ref a :: rest)) rfl (rest := rest) rfl (by rw [hb]; exact hdg) t
  simp only [arrV_size] at h1
  exact h1 st
theorem vx_iastZ {D : va_G} {cl : List vw_C} {ws : va_W} {tys : List (ClassId × FieldType)} {a : Nat} (hexec : p.tables.exec = Jvm.exec) (hb : c.code = cc) (hK : va_K D cl tys s) (hP : va_P D cl ws H) (q0 t0 : Nat) {cA : ClassId} {n : Nat} {f : Nat → Int32} (ha : ws[q0]? = some (a, .inl (cA, n, .inl f))) (ht : tys[t0]? = some (cA, .int)) {i : Int32} {x : Int32} (hout : ¬ vp_in i n) (hdg : decode cc pc = .ok (.iastore, 1))
    (k : ∀ tx : String, tx = (toString "Index " ++ toString i ++ toString " out of bounds for length " ++ toString n : String) → vx_Note p l e R s m args below meth c H locs cells slots Q (F0 m pc ls rest) "java/lang/ArrayIndexOutOfBoundsException" tx) : W p l e R s m args below meth c H locs cells slots Q (F0 m pc ls (.int x :: .int i :: .ref a :: rest)) := by
  intro T hT X
  obtain ⟨t, st, q⟩ := k _ rfl T hT X
  refine ⟨t, ?_, q⟩
  have h1 := X.iastoreOut hexec (by rw [hT]; exact hP q0 _ ha) ((hK.2 t0 _ ht).1 n (fun j => .int (f j))) (j := i) (by show (i < 0 ∨ (arrV _ _ _).slots.size ≤ _); rw [arrV_size]; exact Classical.byContradiction hout) (g := F0 m pc ls (.int x :: .int i :: .ref a :: rest)) rfl (rest := rest) rfl (by rw [hb]; exact hdg) t
  simp only [arrV_size] at h1
  exact h1 st
theorem vx_baldZ {D : va_G} {cl : List vw_C} {ws : va_W} {tys : List (ClassId × FieldType)} {a : Nat} (hexec : p.tables.exec = Jvm.exec) (hb : c.code = cc) (hK : va_K D cl tys s) (hP : va_P D cl ws H) (q0 t0 : Nat) {cA : ClassId} {n : Nat} {f : Nat → Int32} (ha : ws[q0]? = some (a, .inl (cA, n, .inl f))) (ht : tys[t0]? = some (cA, .byte)) {i : Int32} (hout : ¬ vp_in i n) (hdg : decode cc pc = .ok (.baload, 1))
    (k : ∀ tx : String, tx = (toString "Index " ++ toString i ++ toString " out of bounds for length " ++ toString n : String) → vx_Note p l e R s m args below meth c H locs cells slots Q (F0 m pc ls rest) "java/lang/ArrayIndexOutOfBoundsException" tx) : W p l e R s m args below meth c H locs cells slots Q (F0 m pc ls (.int i :: .ref a :: rest)) := by
  intro T hT X
  obtain ⟨t, st, q⟩ := k _ rfl T hT X
  refine ⟨t, ?_, q⟩
  have h1 := X.baloadOut hexec (by rw [hT]; exact hP q0 _ ha) ((hK.2 t0 _ ht).1 n (fun j => .int (f j))) (j := i) (by show (i < 0 ∨ (arrV _ _ _).slots.size ≤ _); rw [arrV_size]; exact Classical.byContradiction hout) (g := F0 m pc ls (.int i :: .ref a :: rest)) rfl (rest := rest) rfl (by rw [hb]; exact hdg) t
  simp only [arrV_size] at h1
  exact h1 st
theorem vx_bastZ {D : va_G} {cl : List vw_C} {ws : va_W} {tys : List (ClassId × FieldType)} {a : Nat} (hexec : p.tables.exec = Jvm.exec) (hb : c.code = cc) (hK : va_K D cl tys s) (hP : va_P D cl ws H) (q0 t0 : Nat) {cA : ClassId} {n : Nat} {f : Nat → Int32} (ha : ws[q0]? = some (a, .inl (cA, n, .inl f))) (ht : tys[t0]? = some (cA, .byte)) {i : Int32} {x : Int32} (hout : ¬ vp_in i n) (hdg : decode cc pc = .ok (.bastore, 1))
    (k : ∀ tx : String, tx = (toString "Index " ++ toString i ++ toString " out of bounds for length " ++ toString n : String) → vx_Note p l e R s m args below meth c H locs cells slots Q (F0 m pc ls rest) "java/lang/ArrayIndexOutOfBoundsException" tx) : W p l e R s m args below meth c H locs cells slots Q (F0 m pc ls (.int x :: .int i :: .ref a :: rest)) := by
  intro T hT X
  obtain ⟨t, st, q⟩ := k _ rfl T hT X
  refine ⟨t, ?_, q⟩
  have h1 := X.bastoreOut hexec (by rw [hT]; exact hP q0 _ ha) ((hK.2 t0 _ ht).1 n (fun j => .int (f j))) (j := i) (by show (i < 0 ∨ (arrV _ _ _).slots.size ≤ _); rw [arrV_size]; exact Classical.byContradiction hout) (g := F0 m pc ls (.int x :: .int i :: .ref a :: rest)) rfl (rest := rest) rfl (by rw [hb]; exact hdg) t
  simp only [arrV_size] at h1
  exact h1 st
theorem vx_zaldZ {D : va_G} {cl : List vw_C} {ws : va_W} {tys : List (ClassId × FieldType)} {a : Nat} (hexec : p.tables.exec = Jvm.exec) (hb : c.code = cc) (hK : va_K D cl tys s) (hP : va_P D cl ws H) (q0 t0 : Nat) {cA : ClassId} {n : Nat} {f : Nat → Int32} (ha : ws[q0]? = some (a, .inl (cA, n, .inl f))) (ht : tys[t0]? = some (cA, .boolean)) {i : Int32} (hout : ¬ vp_in i n) (hdg : decode cc pc = .ok (.baload, 1))
    (k : ∀ tx : String, tx = (toString "Index " ++ toString i ++ toString " out of bounds for length " ++ toString n : String) → vx_Note p l e R s m args below meth c H locs cells slots Q (F0 m pc ls rest) "java/lang/ArrayIndexOutOfBoundsException" tx) : W p l e R s m args below meth c H locs cells slots Q (F0 m pc ls (.int i :: .ref a :: rest)) := by
  intro T hT X
  obtain ⟨t, st, q⟩ := k _ rfl T hT X
  refine ⟨t, ?_, q⟩
  have h1 := X.baloadOut hexec (by rw [hT]; exact hP q0 _ ha) ((hK.2 t0 _ ht).1 n (fun j => .int (f j))) (j := i) (by show (i < 0 ∨ (arrV _ _ _).slots.size ≤ _); rw [arrV_size]; exact Classical.byContradiction hout) (g := F0 m pc ls (.int i :: .ref a :: rest)) rfl (rest := rest) rfl (by rw [hb]; exact hdg) t
  simp only [arrV_size] at h1
  exact h1 st
theorem vx_zastZ {D : va_G} {cl : List vw_C} {ws : va_W} {tys : List (ClassId × FieldType)} {a : Nat} (hexec : p.tables.exec = Jvm.exec) (hb : c.code = cc) (hK : va_K D cl tys s) (hP : va_P D cl ws H) (q0 t0 : Nat) {cA : ClassId} {n : Nat} {f : Nat → Int32} (ha : ws[q0]? = some (a, .inl (cA, n, .inl f))) (ht : tys[t0]? = some (cA, .boolean)) {i : Int32} {x : Int32} (hout : ¬ vp_in i n) (hdg : decode cc pc = .ok (.bastore, 1))
    (k : ∀ tx : String, tx = (toString "Index " ++ toString i ++ toString " out of bounds for length " ++ toString n : String) → vx_Note p l e R s m args below meth c H locs cells slots Q (F0 m pc ls rest) "java/lang/ArrayIndexOutOfBoundsException" tx) : W p l e R s m args below meth c H locs cells slots Q (F0 m pc ls (.int x :: .int i :: .ref a :: rest)) := by
  intro T hT X
  obtain ⟨t, st, q⟩ := k _ rfl T hT X
  refine ⟨t, ?_, q⟩
  have h1 := X.bastoreOut hexec (by rw [hT]; exact hP q0 _ ha) ((hK.2 t0 _ ht).1 n (fun j => .int (f j))) (j := i) (by show (i < 0 ∨ (arrV _ _ _).slots.size ≤ _); rw [arrV_size]; exact Classical.byContradiction hout) (g := F0 m pc ls (.int x :: .int i :: .ref a :: rest)) rfl (rest := rest) rfl (by rw [hb]; exact hdg) t
  simp only [arrV_size] at h1
  exact h1 st
theorem vx_caldZ {D : va_G} {cl : List vw_C} {ws : va_W} {tys : List (ClassId × FieldType)} {a : Nat} (hexec : p.tables.exec = Jvm.exec) (hb : c.code = cc) (hK : va_K D cl tys s) (hP : va_P D cl ws H) (q0 t0 : Nat) {cA : ClassId} {n : Nat} {f : Nat → Int32} (ha : ws[q0]? = some (a, .inl (cA, n, .inl f))) (ht : tys[t0]? = some (cA, .char)) {i : Int32} (hout : ¬ vp_in i n) (hdg : decode cc pc = .ok (.caload, 1))
    (k : ∀ tx : String, tx = (toString "Index " ++ toString i ++ toString " out of bounds for length " ++ toString n : String) → vx_Note p l e R s m args below meth c H locs cells slots Q (F0 m pc ls rest) "java/lang/ArrayIndexOutOfBoundsException" tx) : W p l e R s m args below meth c H locs cells slots Q (F0 m pc ls (.int i :: .ref a :: rest)) := by
  intro T hT X
  obtain ⟨t, st, q⟩ := k _ rfl T hT X
  refine ⟨t, ?_, q⟩
  have h1 := X.caloadOut hexec (by rw [hT]; exact hP q0 _ ha) ((hK.2 t0 _ ht).1 n (fun j => .int (f j))) (j := i) (by show (i < 0 ∨ (arrV _ _ _).slots.size ≤ _); rw [arrV_size]; exact Classical.byContradiction hout) (g := F0 m pc ls (.int i :: .ref a :: rest)) rfl (rest := rest) rfl (by rw [hb]; exact hdg) t
  simp only [arrV_size] at h1
  exact h1 st
theorem vx_castZ {D : va_G} {cl : List vw_C} {ws : va_W} {tys : List (ClassId × FieldType)} {a : Nat} (hexec : p.tables.exec = Jvm.exec) (hb : c.code = cc) (hK : va_K D cl tys s) (hP : va_P D cl ws H) (q0 t0 : Nat) {cA : ClassId} {n : Nat} {f : Nat → Int32} (ha : ws[q0]? = some (a, .inl (cA, n, .inl f))) (ht : tys[t0]? = some (cA, .char)) {i : Int32} {x : Int32} (hout : ¬ vp_in i n) (hdg : decode cc pc = .ok (.castore, 1))
    (k : ∀ tx : String, tx = (toString "Index " ++ toString i ++ toString " out of bounds for length " ++ toString n : String) → vx_Note p l e R s m args below meth c H locs cells slots Q (F0 m pc ls rest) "java/lang/ArrayIndexOutOfBoundsException" tx) : W p l e R s m args below meth c H locs cells slots Q (F0 m pc ls (.int x :: .int i :: .ref a :: rest)) := by
  intro T hT X
  obtain ⟨t, st, q⟩ := k _ rfl T hT X
  refine ⟨t, ?_, q⟩
  have h1 := X.castoreOut hexec (by rw [hT]; exact hP q0 _ ha) ((hK.2 t0 _ ht).1 n (fun j => .int (f j))) (j := i) (by show (i < 0 ∨ (arrV _ _ _).slots.size ≤ _); rw [arrV_size]; exact Classical.byContradiction hout) (g := F0 m pc ls (.int x :: .int i :: .ref a :: rest)) rfl (rest := rest) rfl (by rw [hb]; exact hdg) t
  simp only [arrV_size] at h1
  exact h1 st
theorem vx_saldZ {D : va_G} {cl : List vw_C} {ws : va_W} {tys : List (ClassId × FieldType)} {a : Nat} (hexec : p.tables.exec = Jvm.exec) (hb : c.code = cc) (hK : va_K D cl tys s) (hP : va_P D cl ws H) (q0 t0 : Nat) {cA : ClassId} {n : Nat} {f : Nat → Int32} (ha : ws[q0]? = some (a, .inl (cA, n, .inl f))) (ht : tys[t0]? = some (cA, .short)) {i : Int32} (hout : ¬ vp_in i n) (hdg : decode cc pc = .ok (.saload, 1))
    (k : ∀ tx : String, tx = (toString "Index " ++ toString i ++ toString " out of bounds for length " ++ toString n : String) → vx_Note p l e R s m args below meth c H locs cells slots Q (F0 m pc ls rest) "java/lang/ArrayIndexOutOfBoundsException" tx) : W p l e R s m args below meth c H locs cells slots Q (F0 m pc ls (.int i :: .ref a :: rest)) := by
  intro T hT X
  obtain ⟨t, st, q⟩ := k _ rfl T hT X
  refine ⟨t, ?_, q⟩
  have h1 := X.saloadOut hexec (by rw [hT]; exact hP q0 _ ha) ((hK.2 t0 _ ht).1 n (fun j => .int (f j))) (j := i) (by show (i < 0 ∨ (arrV _ _ _).slots.size ≤ _); rw [arrV_size]; exact Classical.byContradiction hout) (g := F0 m pc ls (.int i :: .ref a :: rest)) rfl (rest := rest) rfl (by rw [hb]; exact hdg) t
  simp only [arrV_size] at h1
  exact h1 st
theorem vx_sastZ {D : va_G} {cl : List vw_C} {ws : va_W} {tys : List (ClassId × FieldType)} {a : Nat} (hexec : p.tables.exec = Jvm.exec) (hb : c.code = cc) (hK : va_K D cl tys s) (hP : va_P D cl ws H) (q0 t0 : Nat) {cA : ClassId} {n : Nat} {f : Nat → Int32} (ha : ws[q0]? = some (a, .inl (cA, n, .inl f))) (ht : tys[t0]? = some (cA, .short)) {i : Int32} {x : Int32} (hout : ¬ vp_in i n) (hdg : decode cc pc = .ok (.sastore, 1))
    (k : ∀ tx : String, tx = (toString "Index " ++ toString i ++ toString " out of bounds for length " ++ toString n : String) → vx_Note p l e R s m args below meth c H locs cells slots Q (F0 m pc ls rest) "java/lang/ArrayIndexOutOfBoundsException" tx) : W p l e R s m args below meth c H locs cells slots Q (F0 m pc ls (.int x :: .int i :: .ref a :: rest)) := by
  intro T hT X
  obtain ⟨t, st, q⟩ := k _ rfl T hT X
  refine ⟨t, ?_, q⟩
  have h1 := X.sastoreOut hexec (by rw [hT]; exact hP q0 _ ha) ((hK.2 t0 _ ht).1 n (fun j => .int (f j))) (j := i) (by show (i < 0 ∨ (arrV _ _ _).slots.size ≤ _); rw [arrV_size]; exact Classical.byContradiction hout) (g := F0 m pc ls (.int x :: .int i :: .ref a :: rest)) rfl (rest := rest) rfl (by rw [hb]; exact hdg) t
  simp only [arrV_size] at h1
  exact h1 st
theorem vx_laldZ {D : va_G} {cl : List vw_C} {ws : va_W} {tys : List (ClassId × FieldType)} {a : Nat} (hexec : p.tables.exec = Jvm.exec) (hb : c.code = cc) (hK : va_K D cl tys s) (hP : va_P D cl ws H) (q0 t0 : Nat) {cA : ClassId} {n : Nat} {f : Nat → Int64} (ha : ws[q0]? = some (a, .inl (cA, n, .inr (.inl f)))) (ht : tys[t0]? = some (cA, .long)) {i : Int32} (hout : ¬ vp_in i n) (hdg : decode cc pc = .ok (.laload, 1))
    (k : ∀ tx : String, tx = (toString "Index " ++ toString i ++ toString " out of bounds for length " ++ toString n : String) → vx_Note p l e R s m args below meth c H locs cells slots Q (F0 m pc ls rest) "java/lang/ArrayIndexOutOfBoundsException" tx) : W p l e R s m args below meth c H locs cells slots Q (F0 m pc ls (.int i :: .ref a :: rest)) := by
  intro T hT X
  obtain ⟨t, st, q⟩ := k _ rfl T hT X
  refine ⟨t, ?_, q⟩
  have h1 := X.laloadOut hexec (by rw [hT]; exact hP q0 _ ha) ((hK.2 t0 _ ht).1 n (fun j => .long (f j))) (j := i) (by show (i < 0 ∨ (arrV _ _ _).slots.size ≤ _); rw [arrV_size]; exact Classical.byContradiction hout) (g := F0 m pc ls (.int i :: .ref a :: rest)) rfl (rest := rest) rfl (by rw [hb]; exact hdg) t
  simp only [arrV_size] at h1
  exact h1 st
theorem vx_lastZ {D : va_G} {cl : List vw_C} {ws : va_W} {tys : List (ClassId × FieldType)} {a : Nat} (hexec : p.tables.exec = Jvm.exec) (hb : c.code = cc) (hK : va_K D cl tys s) (hP : va_P D cl ws H) (q0 t0 : Nat) {cA : ClassId} {n : Nat} {f : Nat → Int64} (ha : ws[q0]? = some (a, .inl (cA, n, .inr (.inl f)))) (ht : tys[t0]? = some (cA, .long)) {i : Int32} {x : Int64} (hout : ¬ vp_in i n) (hdg : decode cc pc = .ok (.lastore, 1))
    (k : ∀ tx : String, tx = (toString "Index " ++ toString i ++ toString " out of bounds for length " ++ toString n : String) → vx_Note p l e R s m args below meth c H locs cells slots Q (F0 m pc ls rest) "java/lang/ArrayIndexOutOfBoundsException" tx) : W p l e R s m args below meth c H locs cells slots Q (F0 m pc ls (.long x :: .int i :: .ref a :: rest)) := by
  intro T hT X
  obtain ⟨t, st, q⟩ := k _ rfl T hT X
  refine ⟨t, ?_, q⟩
  have h1 := X.lastoreOut hexec (by rw [hT]; exact hP q0 _ ha) ((hK.2 t0 _ ht).1 n (fun j => .long (f j))) (j := i) (by show (i < 0 ∨ (arrV _ _ _).slots.size ≤ _); rw [arrV_size]; exact Classical.byContradiction hout) (g := F0 m pc ls (.long x :: .int i :: .ref a :: rest)) rfl (rest := rest) rfl (by rw [hb]; exact hdg) t
  simp only [arrV_size] at h1
  exact h1 st
theorem vx_faldZ {D : va_G} {cl : List vw_C} {ws : va_W} {tys : List (ClassId × FieldType)} {a : Nat} (hexec : p.tables.exec = Jvm.exec) (hb : c.code = cc) (hK : va_K D cl tys s) (hP : va_P D cl ws H) (q0 t0 : Nat) {cA : ClassId} {n : Nat} {f : Nat → UInt32} (ha : ws[q0]? = some (a, .inl (cA, n, .inr (.inr (.inl f))))) (ht : tys[t0]? = some (cA, .float)) {i : Int32} (hout : ¬ vp_in i n) (hdg : decode cc pc = .ok (.faload, 1))
    (k : ∀ tx : String, tx = (toString "Index " ++ toString i ++ toString " out of bounds for length " ++ toString n : String) → vx_Note p l e R s m args below meth c H locs cells slots Q (F0 m pc ls rest) "java/lang/ArrayIndexOutOfBoundsException" tx) : W p l e R s m args below meth c H locs cells slots Q (F0 m pc ls (.int i :: .ref a :: rest)) := by
  intro T hT X
  obtain ⟨t, st, q⟩ := k _ rfl T hT X
  refine ⟨t, ?_, q⟩
  have h1 := X.faloadOut hexec (by rw [hT]; exact hP q0 _ ha) ((hK.2 t0 _ ht).1 n (fun j => .float (f j))) (j := i) (by show (i < 0 ∨ (arrV _ _ _).slots.size ≤ _); rw [arrV_size]; exact Classical.byContradiction hout) (g := F0 m pc ls (.int i :: .ref a :: rest)) rfl (rest := rest) rfl (by rw [hb]; exact hdg) t
  simp only [arrV_size] at h1
  exact h1 st
theorem vx_fastZ {D : va_G} {cl : List vw_C} {ws : va_W} {tys : List (ClassId × FieldType)} {a : Nat} (hexec : p.tables.exec = Jvm.exec) (hb : c.code = cc) (hK : va_K D cl tys s) (hP : va_P D cl ws H) (q0 t0 : Nat) {cA : ClassId} {n : Nat} {f : Nat → UInt32} (ha : ws[q0]? = some (a, .inl (cA, n, .inr (.inr (.inl f))))) (ht : tys[t0]? = some (cA, .float)) {i : Int32} {x : UInt32} (hout : ¬ vp_in i n) (hdg : decode cc pc = .ok (.fastore, 1))
    (k : ∀ tx : String, tx = (toString "Index " ++ toString i ++ toString " out of bounds for length " ++ toString n : String) → vx_Note p l e R s m args below meth c H locs cells slots Q (F0 m pc ls rest) "java/lang/ArrayIndexOutOfBoundsException" tx) : W p l e R s m args below meth c H locs cells slots Q (F0 m pc ls (.float x :: .int i :: .ref a :: rest)) := by
  intro T hT X
  obtain ⟨t, st, q⟩ := k _ rfl T hT X
  refine ⟨t, ?_, q⟩
  have h1 := X.fastoreOut hexec (by rw [hT]; exact hP q0 _ ha) ((hK.2 t0 _ ht).1 n (fun j => .float (f j))) (j := i) (by show (i < 0 ∨ (arrV _ _ _).slots.size ≤ _); rw [arrV_size]; exact Classical.byContradiction hout) (g := F0 m pc ls (.float x :: .int i :: .ref a :: rest)) rfl (rest := rest) rfl (by rw [hb]; exact hdg) t
  simp only [arrV_size] at h1
  exact h1 st
theorem vx_daldZ {D : va_G} {cl : List vw_C} {ws : va_W} {tys : List (ClassId × FieldType)} {a : Nat} (hexec : p.tables.exec = Jvm.exec) (hb : c.code = cc) (hK : va_K D cl tys s) (hP : va_P D cl ws H) (q0 t0 : Nat) {cA : ClassId} {n : Nat} {f : Nat → UInt64} (ha : ws[q0]? = some (a, .inl (cA, n, .inr (.inr (.inr (.inl f)))))) (ht : tys[t0]? = some (cA, .double)) {i : Int32} (hout : ¬ vp_in i n) (hdg : decode cc pc = .ok (.daload, 1))
    (k : ∀ tx : String, tx = (toString "Index " ++ toString i ++ toString " out of bounds for length " ++ toString n : String) → vx_Note p l e R s m args below meth c H locs cells slots Q (F0 m pc ls rest) "java/lang/ArrayIndexOutOfBoundsException" tx) : W p l e R s m args below meth c H locs cells slots Q (F0 m pc ls (.int i :: .ref a :: rest)) := by
  intro T hT X
  obtain ⟨t, st, q⟩ := k _ rfl T hT X
  refine ⟨t, ?_, q⟩
  have h1 := X.daloadOut hexec (by rw [hT]; exact hP q0 _ ha) ((hK.2 t0 _ ht).1 n (fun j => .double (f j))) (j := i) (by show (i < 0 ∨ (arrV _ _ _).slots.size ≤ _); rw [arrV_size]; exact Classical.byContradiction hout) (g := F0 m pc ls (.int i :: .ref a :: rest)) rfl (rest := rest) rfl (by rw [hb]; exact hdg) t
  simp only [arrV_size] at h1
  exact h1 st
theorem vx_dastZ {D : va_G} {cl : List vw_C} {ws : va_W} {tys : List (ClassId × FieldType)} {a : Nat} (hexec : p.tables.exec = Jvm.exec) (hb : c.code = cc) (hK : va_K D cl tys s) (hP : va_P D cl ws H) (q0 t0 : Nat) {cA : ClassId} {n : Nat} {f : Nat → UInt64} (ha : ws[q0]? = some (a, .inl (cA, n, .inr (.inr (.inr (.inl f)))))) (ht : tys[t0]? = some (cA, .double)) {i : Int32} {x : UInt64} (hout : ¬ vp_in i n) (hdg : decode cc pc = .ok (.dastore, 1))
    (k : ∀ tx : String, tx = (toString "Index " ++ toString i ++ toString " out of bounds for length " ++ toString n : String) → vx_Note p l e R s m args below meth c H locs cells slots Q (F0 m pc ls rest) "java/lang/ArrayIndexOutOfBoundsException" tx) : W p l e R s m args below meth c H locs cells slots Q (F0 m pc ls (.double x :: .int i :: .ref a :: rest)) := by
  intro T hT X
  obtain ⟨t, st, q⟩ := k _ rfl T hT X
  refine ⟨t, ?_, q⟩
  have h1 := X.dastoreOut hexec (by rw [hT]; exact hP q0 _ ha) ((hK.2 t0 _ ht).1 n (fun j => .double (f j))) (j := i) (by show (i < 0 ∨ (arrV _ _ _).slots.size ≤ _); rw [arrV_size]; exact Classical.byContradiction hout) (g := F0 m pc ls (.double x :: .int i :: .ref a :: rest)) rfl (rest := rest) rfl (by rw [hb]; exact hdg) t
  simp only [arrV_size] at h1
  exact h1 st
theorem vx_arraylengthN (hexec : p.tables.exec = Jvm.exec) (hb : c.code = cc) (hdg : decode cc pc = .ok (.arraylength, 1)) (k : vx_NoteN p l e R s m args below meth c H locs cells slots Q (F0 m pc ls rest)) : W p l e R s m args below meth c H locs cells slots Q (F0 m pc ls (.null :: rest)) := by
  intro T hT X
  obtain ⟨t, st, q⟩ := k T hT X
  exact ⟨t, X.arraylengthNull hexec (g := F0 m pc ls (.null :: rest)) rfl (rest := rest) rfl (by rw [hb]; exact hdg) t st, q⟩
theorem vx_ialoadN (hexec : p.tables.exec = Jvm.exec) (hb : c.code = cc) {i : Int32} (hdg : decode cc pc = .ok (.iaload, 1)) (k : vx_NoteN p l e R s m args below meth c H locs cells slots Q (F0 m pc ls rest)) : W p l e R s m args below meth c H locs cells slots Q (F0 m pc ls (.int i :: .null :: rest)) := by
  intro T hT X
  obtain ⟨t, st, q⟩ := k T hT X
  exact ⟨t, X.ialoadNull hexec (g := F0 m pc ls (.int i :: .null :: rest)) rfl (rest := rest) rfl (by rw [hb]; exact hdg) t st, q⟩
theorem vx_laloadN (hexec : p.tables.exec = Jvm.exec) (hb : c.code = cc) {i : Int32} (hdg : decode cc pc = .ok (.laload, 1)) (k : vx_NoteN p l e R s m args below meth c H locs cells slots Q (F0 m pc ls rest)) : W p l e R s m args below meth c H locs cells slots Q (F0 m pc ls (.int i :: .null :: rest)) := by
  intro T hT X
  obtain ⟨t, st, q⟩ := k T hT X
  exact ⟨t, X.laloadNull hexec (g := F0 m pc ls (.int i :: .null :: rest)) rfl (rest := rest) rfl (by rw [hb]; exact hdg) t st, q⟩
theorem vx_faloadN (hexec : p.tables.exec = Jvm.exec) (hb : c.code = cc) {i : Int32} (hdg : decode cc pc = .ok (.faload, 1)) (k : vx_NoteN p l e R s m args below meth c H locs cells slots Q (F0 m pc ls rest)) : W p l e R s m args below meth c H locs cells slots Q (F0 m pc ls (.int i :: .null :: rest)) := by
  intro T hT X
  obtain ⟨t, st, q⟩ := k T hT X
  exact ⟨t, X.faloadNull hexec (g := F0 m pc ls (.int i :: .null :: rest)) rfl (rest := rest) rfl (by rw [hb]; exact hdg) t st, q⟩
theorem vx_daloadN (hexec : p.tables.exec = Jvm.exec) (hb : c.code = cc) {i : Int32} (hdg : decode cc pc = .ok (.daload, 1)) (k : vx_NoteN p l e R s m args below meth c H locs cells slots Q (F0 m pc ls rest)) : W p l e R s m args below meth c H locs cells slots Q (F0 m pc ls (.int i :: .null :: rest)) := by
  intro T hT X
  obtain ⟨t, st, q⟩ := k T hT X
  exact ⟨t, X.daloadNull hexec (g := F0 m pc ls (.int i :: .null :: rest)) rfl (rest := rest) rfl (by rw [hb]; exact hdg) t st, q⟩
theorem vx_aaloadN (hexec : p.tables.exec = Jvm.exec) (hb : c.code = cc) {i : Int32} (hdg : decode cc pc = .ok (.aaload, 1)) (k : vx_NoteN p l e R s m args below meth c H locs cells slots Q (F0 m pc ls rest)) : W p l e R s m args below meth c H locs cells slots Q (F0 m pc ls (.int i :: .null :: rest)) := by
  intro T hT X
  obtain ⟨t, st, q⟩ := k T hT X
  exact ⟨t, X.aaloadNull hexec (g := F0 m pc ls (.int i :: .null :: rest)) rfl (rest := rest) rfl (by rw [hb]; exact hdg) t st, q⟩
theorem vx_baloadN (hexec : p.tables.exec = Jvm.exec) (hb : c.code = cc) {i : Int32} (hdg : decode cc pc = .ok (.baload, 1)) (k : vx_NoteN p l e R s m args below meth c H locs cells slots Q (F0 m pc ls rest)) : W p l e R s m args below meth c H locs cells slots Q (F0 m pc ls (.int i :: .null :: rest)) := by
  intro T hT X
  obtain ⟨t, st, q⟩ := k T hT X
  exact ⟨t, X.baloadNull hexec (g := F0 m pc ls (.int i :: .null :: rest)) rfl (rest := rest) rfl (by rw [hb]; exact hdg) t st, q⟩
theorem vx_caloadN (hexec : p.tables.exec = Jvm.exec) (hb : c.code = cc) {i : Int32} (hdg : decode cc pc = .ok (.caload, 1)) (k : vx_NoteN p l e R s m args below meth c H locs cells slots Q (F0 m pc ls rest)) : W p l e R s m args below meth c H locs cells slots Q (F0 m pc ls (.int i :: .null :: rest)) := by
  intro T hT X
  obtain ⟨t, st, q⟩ := k T hT X
  exact ⟨t, X.caloadNull hexec (g := F0 m pc ls (.int i :: .null :: rest)) rfl (rest := rest) rfl (by rw [hb]; exact hdg) t st, q⟩
theorem vx_saloadN (hexec : p.tables.exec = Jvm.exec) (hb : c.code = cc) {i : Int32} (hdg : decode cc pc = .ok (.saload, 1)) (k : vx_NoteN p l e R s m args below meth c H locs cells slots Q (F0 m pc ls rest)) : W p l e R s m args below meth c H locs cells slots Q (F0 m pc ls (.int i :: .null :: rest)) := by
  intro T hT X
  obtain ⟨t, st, q⟩ := k T hT X
  exact ⟨t, X.saloadNull hexec (g := F0 m pc ls (.int i :: .null :: rest)) rfl (rest := rest) rfl (by rw [hb]; exact hdg) t st, q⟩
theorem vx_iastoreN (hexec : p.tables.exec = Jvm.exec) (hb : c.code = cc) {x : Int32} {i : Int32} (hdg : decode cc pc = .ok (.iastore, 1)) (k : vx_NoteN p l e R s m args below meth c H locs cells slots Q (F0 m pc ls rest)) : W p l e R s m args below meth c H locs cells slots Q (F0 m pc ls (.int x :: .int i :: .null :: rest)) := by
  intro T hT X
  obtain ⟨t, st, q⟩ := k T hT X
  exact ⟨t, X.iastoreNull hexec (g := F0 m pc ls (.int x :: .int i :: .null :: rest)) rfl (rest := rest) rfl (by rw [hb]; exact hdg) t st, q⟩
theorem vx_lastoreN (hexec : p.tables.exec = Jvm.exec) (hb : c.code = cc) {x : Int64} {i : Int32} (hdg : decode cc pc = .ok (.lastore, 1)) (k : vx_NoteN p l e R s m args below meth c H locs cells slots Q (F0 m pc ls rest)) : W p l e R s m args below meth c H locs cells slots Q (F0 m pc ls (.long x :: .int i :: .null :: rest)) := by
  intro T hT X
  obtain ⟨t, st, q⟩ := k T hT X
  exact ⟨t, X.lastoreNull hexec (g := F0 m pc ls (.long x :: .int i :: .null :: rest)) rfl (rest := rest) rfl (by rw [hb]; exact hdg) t st, q⟩
theorem vx_fastoreN (hexec : p.tables.exec = Jvm.exec) (hb : c.code = cc) {x : UInt32} {i : Int32} (hdg : decode cc pc = .ok (.fastore, 1)) (k : vx_NoteN p l e R s m args below meth c H locs cells slots Q (F0 m pc ls rest)) : W p l e R s m args below meth c H locs cells slots Q (F0 m pc ls (.float x :: .int i :: .null :: rest)) := by
  intro T hT X
  obtain ⟨t, st, q⟩ := k T hT X
  exact ⟨t, X.fastoreNull hexec (g := F0 m pc ls (.float x :: .int i :: .null :: rest)) rfl (rest := rest) rfl (by rw [hb]; exact hdg) t st, q⟩
theorem vx_dastoreN (hexec : p.tables.exec = Jvm.exec) (hb : c.code = cc) {x : UInt64} {i : Int32} (hdg : decode cc pc = .ok (.dastore, 1)) (k : vx_NoteN p l e R s m args below meth c H locs cells slots Q (F0 m pc ls rest)) : W p l e R s m args below meth c H locs cells slots Q (F0 m pc ls (.double x :: .int i :: .null :: rest)) := by
  intro T hT X
  obtain ⟨t, st, q⟩ := k T hT X
  exact ⟨t, X.dastoreNull hexec (g := F0 m pc ls (.double x :: .int i :: .null :: rest)) rfl (rest := rest) rfl (by rw [hb]; exact hdg) t st, q⟩
theorem vx_bastoreN (hexec : p.tables.exec = Jvm.exec) (hb : c.code = cc) {x : Int32} {i : Int32} (hdg : decode cc pc = .ok (.bastore, 1)) (k : vx_NoteN p l e R s m args below meth c H locs cells slots Q (F0 m pc ls rest)) : W p l e R s m args below meth c H locs cells slots Q (F0 m pc ls (.int x :: .int i :: .null :: rest)) := by
  intro T hT X
  obtain ⟨t, st, q⟩ := k T hT X
  exact ⟨t, X.bastoreNull hexec (g := F0 m pc ls (.int x :: .int i :: .null :: rest)) rfl (rest := rest) rfl (by rw [hb]; exact hdg) t st, q⟩
theorem vx_castoreN (hexec : p.tables.exec = Jvm.exec) (hb : c.code = cc) {x : Int32} {i : Int32} (hdg : decode cc pc = .ok (.castore, 1)) (k : vx_NoteN p l e R s m args below meth c H locs cells slots Q (F0 m pc ls rest)) : W p l e R s m args below meth c H locs cells slots Q (F0 m pc ls (.int x :: .int i :: .null :: rest)) := by
  intro T hT X
  obtain ⟨t, st, q⟩ := k T hT X
  exact ⟨t, X.castoreNull hexec (g := F0 m pc ls (.int x :: .int i :: .null :: rest)) rfl (rest := rest) rfl (by rw [hb]; exact hdg) t st, q⟩
theorem vx_sastoreN (hexec : p.tables.exec = Jvm.exec) (hb : c.code = cc) {x : Int32} {i : Int32} (hdg : decode cc pc = .ok (.sastore, 1)) (k : vx_NoteN p l e R s m args below meth c H locs cells slots Q (F0 m pc ls rest)) : W p l e R s m args below meth c H locs cells slots Q (F0 m pc ls (.int x :: .int i :: .null :: rest)) := by
  intro T hT X
  obtain ⟨t, st, q⟩ := k T hT X
  exact ⟨t, X.sastoreNull hexec (g := F0 m pc ls (.int x :: .int i :: .null :: rest)) rfl (rest := rest) rfl (by rw [hb]; exact hdg) t st, q⟩
theorem vx_invokeN {own C : String} {index maxL : Nat} {y : MethodName} {bytes : ByteArray} {ret : Option FieldType} (hexec : p.tables.exec = Jvm.exec) (hb : c.code = cc) (hown : s.vm.findClass own = some m.cls) (hlink : (Cond.methodLink own index y).before args s = true) (hinst : (Cond.instanceMethod y).before args s = true) (hcode : (Cond.code y bytes maxL ret).before args s = true) (hsel : (Cond.selects C y y).before args s = true)
    (hx : y.cls ≠ "java/lang/invoke/MethodHandle" ∧ y.cls ≠ "java/lang/invoke/VarHandle") {As : List Value} (hlen : (parseMethodDescriptor y.desc).map (fun d => d.parameters.length) = some As.length) (hdg : decode cc pc = .ok (.invokevirtual index, 3))
    (k : vx_NoteN p l e R s m args below meth c H locs cells slots Q (F0 m pc ls rest)) {st0 : List Value} (hst : st0 = As.reverse ++ .null :: rest) : W p l e R s m args below meth c H locs cells slots Q (F0 m pc ls st0) := by
  intro T hT X
  obtain ⟨r0, r, hn, hrm, hstR, hsigR⟩ := va_Decl.of hinst hcode
  obtain ⟨c2, r2, m2, q1, q2, q3, q4, kP, hkP, hkPi⟩ := Cond.selects_spec hsel
  cases hn.symm.trans q3
  have hl9 : As.length = r.sig.parameters.length := by
    rw [hsigR] at hlen
    exact (Option.some.inj hlen).symm
  obtain ⟨vm', X1, st1⟩ := X.invokevirtualNull hexec hown hlink hn hrm hstR hkP hkPi hx (g := F0 m pc ls st0) rfl (argsL := As) (rest := rest) hl9 hst (by rw [hb]; exact hdg)
  obtain ⟨t, st, q⟩ := k (T.setVm vm') hT X1
  exact ⟨t, st1 t st, q⟩
theorem vx_newarrayZ {atype : ArrayType} (hexec : p.tables.exec = Jvm.exec) (hb : c.code = cc) {n : Int32} (h0 : n < 0) (hdg : decode cc pc = .ok (.newarray atype, 2)) (k : ∀ tx : String, tx = toString n → vx_Note p l e R s m args below meth c H locs cells slots Q (F0 m pc ls rest) "java/lang/NegativeArraySizeException" tx) : W p l e R s m args below meth c H locs cells slots Q (F0 m pc ls (.int n :: rest)) := by
  intro T hT X
  obtain ⟨t, st, q⟩ := k _ rfl T hT X
  exact ⟨t, X.newarrayNegative hexec (g := F0 m pc ls (.int n :: rest)) rfl h0 (rest := rest) rfl (by rw [hb]; exact hdg) t st, q⟩
end
end VXM
/-! ===== END ===== -/
end
section
def RX0 : String := "InkBank$Accounts"
def TX0 : u_T := fun k => match k with
  | 0 => ("InkBank$Accounts", "count", "I", false)
  | 1 => ("InkBank$Accounts", "kinds", "[I", true)
  | 2 => ("InkBank$Accounts", "balances", "[I", true)
  | 3 => ("InkBank$Accounts", "limits", "[I", true)
  | _ => ("InkBank$Accounts", "touched", "[Z", true)
def tyX0 : Nat → FieldType := fun k => match k with
  | 0 => .int
  | 1 => .array .int
  | 2 => .array .int
  | 3 => .array .int
  | _ => .array .boolean
abbrev wsX00 : List Cond := u_ws RX0 TX0 5
theorem nmX0 : ∀ a, a < 5 → ∀ b, b < 5 → a ≠ b → (TX0 a).2.1 ≠ (TX0 b).2.1 := by decide +kernel
theorem tyX0_ok : ∀ k, k < 5 → parseFieldDescriptor (TX0 k).2.2.1 = some (tyX0 k) := by decide +kernel
abbrev cX0_init : ByteArray := prog_2_method_1_code
def yX0_init : MethodName := ⟨RX0, "<init>", "()V"⟩
abbrev cX0_copyFrom : ByteArray := prog_2_method_2_code
def yX0_copyFrom : MethodName := ⟨RX0, "copyFrom", "(LInkBank$Accounts;)V"⟩
abbrev cX0_has : ByteArray := prog_2_method_3_code
def yX0_has : MethodName := ⟨RX0, "has", "(I)Z"⟩
abbrev cX0_add : ByteArray := prog_2_method_4_code
def yX0_add : MethodName := ⟨RX0, "add", "(I)I"⟩
abbrev cX0_changeLimit : ByteArray := prog_2_method_5_code
def yX0_changeLimit : MethodName := ⟨RX0, "changeLimit", "(II)I"⟩
abbrev cX0_available : ByteArray := prog_2_method_6_code
def yX0_available : MethodName := ⟨RX0, "available", "(I)I"⟩
abbrev cX0_forgetTouches : ByteArray := prog_2_method_7_code
def yX0_forgetTouches : MethodName := ⟨RX0, "forgetTouches", "()V"⟩
abbrev cX0_sum : ByteArray := prog_2_method_8_code
def yX0_sum : MethodName := ⟨RX0, "sum", "()J"⟩
abbrev cX0_interest : ByteArray := prog_2_method_9_code
def yX0_interest : MethodName := ⟨RX0, "interest", "(I)I"⟩
abbrev cX0_fullCharge : ByteArray := prog_2_method_10_code
def yX0_fullCharge : MethodName := ⟨RX0, "fullCharge", "(I)I"⟩
abbrev cX0_atRank : ByteArray := prog_2_method_11_code
def yX0_atRank : MethodName := ⟨RX0, "atRank", "(I)I"⟩
abbrev cX0_rankOf : ByteArray := prog_2_method_12_code
def yX0_rankOf : MethodName := ⟨RX0, "rankOf", "(I)I"⟩
def RX1 : String := "InkBank$History"
def TX1 : u_T := fun k => match k with
  | 0 => ("InkBank$History", "length", "I", false)
  | 1 => ("InkBank$History", "newest", "I", false)
  | _ => ("InkBank$History", "states", "[LInkBank$Ledger;", true)
def tyX1 : Nat → FieldType := fun k => match k with
  | 0 => .int
  | 1 => .int
  | _ => .array (.object "InkBank$Ledger")
abbrev wsX10 : List Cond := u_ws RX1 TX1 3
theorem nmX1 : ∀ a, a < 3 → ∀ b, b < 3 → a ≠ b → (TX1 a).2.1 ≠ (TX1 b).2.1 := by decide +kernel
theorem tyX1_ok : ∀ k, k < 3 → parseFieldDescriptor (TX1 k).2.2.1 = some (tyX1 k) := by decide +kernel
abbrev cX1_init : ByteArray := prog_3_method_1_code
def yX1_init : MethodName := ⟨RX1, "<init>", "()V"⟩
abbrev cX1_remember : ByteArray := prog_3_method_2_code
def yX1_remember : MethodName := ⟨RX1, "remember", "(LInkBank$Ledger;)V"⟩
def RX2 : String := "InkBank$Journal"
def TX2 : u_T := fun k => match k with
  | 0 => ("InkBank$Journal", "length", "I", false)
  | 1 => ("InkBank$Journal", "newest", "I", false)
  | 2 => ("InkBank$Journal", "kinds", "[C", true)
  | 3 => ("InkBank$Journal", "amounts", "[I", true)
  | _ => ("InkBank$Journal", "accounts", "[I", true)
def tyX2 : Nat → FieldType := fun k => match k with
  | 0 => .int
  | 1 => .int
  | 2 => .array .char
  | 3 => .array .int
  | _ => .array .int
abbrev wsX20 : List Cond := u_ws RX2 TX2 5
theorem nmX2 : ∀ a, a < 5 → ∀ b, b < 5 → a ≠ b → (TX2 a).2.1 ≠ (TX2 b).2.1 := by decide +kernel
theorem tyX2_ok : ∀ k, k < 5 → parseFieldDescriptor (TX2 k).2.2.1 = some (tyX2 k) := by decide +kernel
abbrev cX2_init : ByteArray := prog_4_method_1_code
def yX2_init : MethodName := ⟨RX2, "<init>", "()V"⟩
abbrev cX2_copyFrom : ByteArray := prog_4_method_2_code
def yX2_copyFrom : MethodName := ⟨RX2, "copyFrom", "(LInkBank$Journal;)V"⟩
abbrev cX2_slot : ByteArray := prog_4_method_3_code
def yX2_slot : MethodName := ⟨RX2, "slot", "(I)I"⟩
abbrev cX2_add : ByteArray := prog_4_method_4_code
def yX2_add : MethodName := ⟨RX2, "add", "(CII)V"⟩
def RX3 : String := "InkBank$Ledger"
def TX3 : u_T := fun k => match k with
  | 0 => ("InkBank$Ledger", "accounts", "LInkBank$Accounts;", true)
  | 1 => ("InkBank$Ledger", "transfers", "LInkBank$Transfers;", true)
  | 2 => ("InkBank$Ledger", "journal", "LInkBank$Journal;", true)
  | 3 => ("InkBank$Ledger", "today", "I", false)
  | 4 => ("InkBank$Ledger", "bank", "I", false)
  | 5 => ("InkBank$Ledger", "bounced", "I", false)
  | 6 => ("InkBank$Ledger", "deposited", "J", false)
  | 7 => ("InkBank$Ledger", "withdrawn", "J", false)
  | 8 => ("InkBank$Ledger", "transferred", "J", false)
  | 9 => ("InkBank$Ledger", "interest", "J", false)
  | _ => ("InkBank$Ledger", "charges", "J", false)
def tyX3 : Nat → FieldType := fun k => match k with
  | 0 => .object "InkBank$Accounts"
  | 1 => .object "InkBank$Transfers"
  | 2 => .object "InkBank$Journal"
  | 3 => .int
  | 4 => .int
  | 5 => .int
  | 6 => .long
  | 7 => .long
  | 8 => .long
  | 9 => .long
  | _ => .long
abbrev wsX30 : List Cond := u_ws RX3 TX3 11
theorem nmX3 : ∀ a, a < 11 → ∀ b, b < 11 → a ≠ b → (TX3 a).2.1 ≠ (TX3 b).2.1 := by decide +kernel
theorem tyX3_ok : ∀ k, k < 11 → parseFieldDescriptor (TX3 k).2.2.1 = some (tyX3 k) := by decide +kernel
abbrev cX3_init : ByteArray := prog_5_method_1_code
def yX3_init : MethodName := ⟨RX3, "<init>", "()V"⟩
abbrev cX3_copyFrom : ByteArray := prog_5_method_2_code
def yX3_copyFrom : MethodName := ⟨RX3, "copyFrom", "(LInkBank$Ledger;)V"⟩
abbrev cX3_openFault : ByteArray := prog_5_method_3_code
def yX3_openFault : MethodName := ⟨RX3, "openFault", "(I)I"⟩
abbrev cX3_payInFault : ByteArray := prog_5_method_4_code
def yX3_payInFault : MethodName := ⟨RX3, "payInFault", "(II)I"⟩
abbrev cX3_argumentFault : ByteArray := prog_5_method_5_code
def yX3_argumentFault : MethodName := ⟨RX3, "argumentFault", "(IIII)I"⟩
abbrev cX3_payIn : ByteArray := prog_5_method_6_code
def yX3_payIn : MethodName := ⟨RX3, "payIn", "(II)I"⟩
abbrev cX3_payOutFault : ByteArray := prog_5_method_7_code
def yX3_payOutFault : MethodName := ⟨RX3, "payOutFault", "(II)I"⟩
abbrev cX3_payOut : ByteArray := prog_5_method_8_code
def yX3_payOut : MethodName := ⟨RX3, "payOut", "(II)I"⟩
abbrev cX3_limitFault : ByteArray := prog_5_method_9_code
def yX3_limitFault : MethodName := ⟨RX3, "limitFault", "(II)I"⟩
abbrev cX3_sealFault : ByteArray := prog_5_method_10_code
def yX3_sealFault : MethodName := ⟨RX3, "sealFault", "(IIII)I"⟩
abbrev cX3_cancelFault : ByteArray := prog_5_method_11_code
def yX3_cancelFault : MethodName := ⟨RX3, "cancelFault", "(I)I"⟩
abbrev cX3_endDaysFault : ByteArray := prog_5_method_12_code
def yX3_endDaysFault : MethodName := ⟨RX3, "endDaysFault", "(I)I"⟩
abbrev cX3_balanceAfterFault : ByteArray := prog_5_method_13_code
def yX3_balanceAfterFault : MethodName := ⟨RX3, "balanceAfterFault", "(II)I"⟩
abbrev cX3_passDays : ByteArray := prog_5_method_14_code
def yX3_passDays : MethodName := ⟨RX3, "passDays", "(I)I"⟩
abbrev cX3_settleDue : ByteArray := prog_5_method_15_code
def yX3_settleDue : MethodName := ⟨RX3, "settleDue", "()I"⟩
abbrev cX3_settleDueBefore : ByteArray := prog_5_method_16_code
def yX3_settleDueBefore : MethodName := ⟨RX3, "settleDueBefore", "(I)V"⟩
abbrev cX3_covers : ByteArray := prog_5_method_17_code
def yX3_covers : MethodName := ⟨RX3, "covers", "(I)Z"⟩
abbrev cX3_settle : ByteArray := prog_5_method_18_code
def yX3_settle : MethodName := ⟨RX3, "settle", "(I)Z"⟩
abbrev cX3_collect : ByteArray := prog_5_method_19_code
def yX3_collect : MethodName := ⟨RX3, "collect", "(CII)V"⟩
abbrev cX3_payInterest : ByteArray := prog_5_method_20_code
def yX3_payInterest : MethodName := ⟨RX3, "payInterest", "()V"⟩
abbrev cX3_obey : ByteArray := prog_5_method_21_code
def yX3_obey : MethodName := ⟨RX3, "obey", "(I[I)I"⟩
abbrev cX3_faultOf : ByteArray := prog_5_method_22_code
def yX3_faultOf : MethodName := ⟨RX3, "faultOf", "(I[I)I"⟩
def RX4 : String := "InkBank$Reader"
def TX4 : u_T := fun k => match k with
  | 0 => ("InkBank$Reader", "text", "[C", true)
  | 1 => ("InkBank$Reader", "length", "I", false)
  | 2 => ("InkBank$Reader", "position", "I", false)
  | 3 => ("InkBank$Reader", "verb", "I", false)
  | _ => ("InkBank$Reader", "values", "[I", true)
def tyX4 : Nat → FieldType := fun k => match k with
  | 0 => .array .char
  | 1 => .int
  | 2 => .int
  | 3 => .int
  | _ => .array .int
abbrev wsX40 : List Cond := u_ws RX4 TX4 5
theorem nmX4 : ∀ a, a < 5 → ∀ b, b < 5 → a ≠ b → (TX4 a).2.1 ≠ (TX4 b).2.1 := by decide +kernel
theorem tyX4_ok : ∀ k, k < 5 → parseFieldDescriptor (TX4 k).2.2.1 = some (tyX4 k) := by decide +kernel
abbrev cX4_init : ByteArray := prog_6_method_1_code
def yX4_init : MethodName := ⟨RX4, "<init>", "()V"⟩
abbrev cX4_countCommands : ByteArray := prog_6_method_3_code
def yX4_countCommands : MethodName := ⟨RX4, "countCommands", "()I"⟩
abbrev cX4_readCommand : ByteArray := prog_6_method_4_code
def yX4_readCommand : MethodName := ⟨RX4, "readCommand", "()Z"⟩
abbrev cX4_formOf : ByteArray := prog_6_method_5_code
def yX4_formOf : MethodName := ⟨RX4, "formOf", "(I)Ljava/lang/String;"⟩
abbrev cX4_readSign : ByteArray := prog_6_method_6_code
def yX4_readSign : MethodName := ⟨RX4, "readSign", "(C)Z"⟩
abbrev cX4_readNumber : ByteArray := prog_6_method_7_code
def yX4_readNumber : MethodName := ⟨RX4, "readNumber", "(I)I"⟩
abbrev cX4_isDigitHere : ByteArray := prog_6_method_8_code
def yX4_isDigitHere : MethodName := ⟨RX4, "isDigitHere", "()Z"⟩
def RX5 : String := "InkBank$Transfers"
def TX5 : u_T := fun k => match k with
  | 0 => ("InkBank$Transfers", "count", "I", false)
  | 1 => ("InkBank$Transfers", "nextId", "I", false)
  | 2 => ("InkBank$Transfers", "ids", "[I", true)
  | 3 => ("InkBank$Transfers", "senders", "[I", true)
  | 4 => ("InkBank$Transfers", "receivers", "[I", true)
  | 5 => ("InkBank$Transfers", "amounts", "[I", true)
  | _ => ("InkBank$Transfers", "dueDays", "[I", true)
def tyX5 : Nat → FieldType := fun k => match k with
  | 0 => .int
  | 1 => .int
  | 2 => .array .int
  | 3 => .array .int
  | 4 => .array .int
  | 5 => .array .int
  | _ => .array .int
abbrev wsX50 : List Cond := u_ws RX5 TX5 7
theorem nmX5 : ∀ a, a < 7 → ∀ b, b < 7 → a ≠ b → (TX5 a).2.1 ≠ (TX5 b).2.1 := by decide +kernel
theorem tyX5_ok : ∀ k, k < 7 → parseFieldDescriptor (TX5 k).2.2.1 = some (tyX5 k) := by decide +kernel
abbrev cX5_init : ByteArray := prog_7_method_1_code
def yX5_init : MethodName := ⟨RX5, "<init>", "()V"⟩
abbrev cX5_copyFrom : ByteArray := prog_7_method_2_code
def yX5_copyFrom : MethodName := ⟨RX5, "copyFrom", "(LInkBank$Transfers;)V"⟩
abbrev cX5_copySlot : ByteArray := prog_7_method_3_code
def yX5_copySlot : MethodName := ⟨RX5, "copySlot", "(LInkBank$Transfers;II)V"⟩
abbrev cX5_find : ByteArray := prog_7_method_4_code
def yX5_find : MethodName := ⟨RX5, "find", "(I)I"⟩
abbrev cX5_add : ByteArray := prog_7_method_5_code
def yX5_add : MethodName := ⟨RX5, "add", "(IIII)I"⟩
abbrev cX5_remove : ByteArray := prog_7_method_6_code
def yX5_remove : MethodName := ⟨RX5, "remove", "(I)I"⟩
abbrev cX5_idAt : ByteArray := prog_7_method_7_code
def yX5_idAt : MethodName := ⟨RX5, "idAt", "(I)I"⟩
abbrev cX5_positionOf : ByteArray := prog_7_method_8_code
def yX5_positionOf : MethodName := ⟨RX5, "positionOf", "(I)I"⟩
abbrev cX5_net : ByteArray := prog_7_method_9_code
def yX5_net : MethodName := ⟨RX5, "net", "(I)I"⟩
abbrev cX5_connect : ByteArray := prog_7_method_10_code
def yX5_connect : MethodName := ⟨RX5, "connect", "(II)Z"⟩
def RX6 : String := "InkBank"
def TX6 : u_T := fun k => match k with
  | 0 => ("InkBank", "now", "LInkBank$Ledger;", true)
  | 1 => ("InkBank", "trial", "LInkBank$Ledger;", true)
  | 2 => ("InkBank", "snapshot", "LInkBank$Ledger;", true)
  | 3 => ("InkBank", "history", "LInkBank$History;", true)
  | 4 => ("InkBank", "reader", "LInkBank$Reader;", true)
  | 5 => ("InkBank", "statement", "Ljava/lang/StringBuilder;", true)
  | 6 => ("InkBank", "sums", "[[I", true)
  | 7 => ("InkBank", "saved", "Z", false)
  | 8 => ("InkBank", "malformedAt", "I", false)
  | _ => ("InkBank", "failedAt", "I", false)
def tyX6 : Nat → FieldType := fun k => match k with
  | 0 => .object "InkBank$Ledger"
  | 1 => .object "InkBank$Ledger"
  | 2 => .object "InkBank$Ledger"
  | 3 => .object "InkBank$History"
  | 4 => .object "InkBank$Reader"
  | 5 => .object "java/lang/StringBuilder"
  | 6 => .array (.array .int)
  | 7 => .boolean
  | 8 => .int
  | _ => .int
abbrev wsX60 : List Cond := u_ws RX6 TX6 10
theorem nmX6 : ∀ a, a < 10 → ∀ b, b < 10 → a ≠ b → (TX6 a).2.1 ≠ (TX6 b).2.1 := by decide +kernel
theorem tyX6_ok : ∀ k, k < 10 → parseFieldDescriptor (TX6 k).2.2.1 = some (tyX6 k) := by decide +kernel
abbrev cX6_init : ByteArray := prog_1_method_1_code
def yX6_init : MethodName := ⟨RX6, "<init>", "()V"⟩
abbrev cX6_open : ByteArray := prog_1_method_2_code
def yX6_open : MethodName := ⟨RX6, "open", "(I)I"⟩
abbrev cX6_deposit : ByteArray := prog_1_method_3_code
def yX6_deposit : MethodName := ⟨RX6, "deposit", "(II)I"⟩
abbrev cX6_withdraw : ByteArray := prog_1_method_4_code
def yX6_withdraw : MethodName := ⟨RX6, "withdraw", "(II)I"⟩
abbrev cX6_setLimit : ByteArray := prog_1_method_5_code
def yX6_setLimit : MethodName := ⟨RX6, "setLimit", "(II)I"⟩
abbrev cX6_accountCount : ByteArray := prog_1_method_6_code
def yX6_accountCount : MethodName := ⟨RX6, "accountCount", "()I"⟩
abbrev cX6_kindOf : ByteArray := prog_1_method_7_code
def yX6_kindOf : MethodName := ⟨RX6, "kindOf", "(I)I"⟩
abbrev cX6_balanceOf : ByteArray := prog_1_method_8_code
def yX6_balanceOf : MethodName := ⟨RX6, "balanceOf", "(I)I"⟩
abbrev cX6_limitOf : ByteArray := prog_1_method_9_code
def yX6_limitOf : MethodName := ⟨RX6, "limitOf", "(I)I"⟩
abbrev cX6_availableIn : ByteArray := prog_1_method_10_code
def yX6_availableIn : MethodName := ⟨RX6, "availableIn", "(I)I"⟩
abbrev cX6_wasTouched : ByteArray := prog_1_method_11_code
def yX6_wasTouched : MethodName := ⟨RX6, "wasTouched", "(I)Z"⟩
abbrev cX6_interestOf : ByteArray := prog_1_method_12_code
def yX6_interestOf : MethodName := ⟨RX6, "interestOf", "(I)I"⟩
abbrev cX6_accountAtRank : ByteArray := prog_1_method_13_code
def yX6_accountAtRank : MethodName := ⟨RX6, "accountAtRank", "(I)I"⟩
abbrev cX6_meanBalance : ByteArray := prog_1_method_14_code
def yX6_meanBalance : MethodName := ⟨RX6, "meanBalance", "()D"⟩
abbrev cX6_bankBalance : ByteArray := prog_1_method_15_code
def yX6_bankBalance : MethodName := ⟨RX6, "bankBalance", "()I"⟩
abbrev cX6_totalInk : ByteArray := prog_1_method_16_code
def yX6_totalInk : MethodName := ⟨RX6, "totalInk", "()J"⟩
abbrev cX6_totalInkByMovements : ByteArray := prog_1_method_17_code
def yX6_totalInkByMovements : MethodName := ⟨RX6, "totalInkByMovements", "()J"⟩
abbrev cX6_interestPaid : ByteArray := prog_1_method_19_code
def yX6_interestPaid : MethodName := ⟨RX6, "interestPaid", "()J"⟩
abbrev cX6_chargesPaid : ByteArray := prog_1_method_20_code
def yX6_chargesPaid : MethodName := ⟨RX6, "chargesPaid", "()J"⟩
abbrev cX6_endDays : ByteArray := prog_1_method_22_code
def yX6_endDays : MethodName := ⟨RX6, "endDays", "(I)I"⟩
abbrev cX6_balanceAfter : ByteArray := prog_1_method_23_code
def yX6_balanceAfter : MethodName := ⟨RX6, "balanceAfter", "(II)I"⟩
abbrev cX6_seal : ByteArray := prog_1_method_24_code
def yX6_seal : MethodName := ⟨RX6, "seal", "(IIII)I"⟩
abbrev cX6_cancel : ByteArray := prog_1_method_25_code
def yX6_cancel : MethodName := ⟨RX6, "cancel", "(I)I"⟩
abbrev cX6_transferCount : ByteArray := prog_1_method_26_code
def yX6_transferCount : MethodName := ⟨RX6, "transferCount", "()I"⟩
abbrev cX6_transferAt : ByteArray := prog_1_method_27_code
def yX6_transferAt : MethodName := ⟨RX6, "transferAt", "(I)I"⟩
abbrev cX6_senderOf : ByteArray := prog_1_method_28_code
def yX6_senderOf : MethodName := ⟨RX6, "senderOf", "(I)I"⟩
abbrev cX6_receiverOf : ByteArray := prog_1_method_29_code
def yX6_receiverOf : MethodName := ⟨RX6, "receiverOf", "(I)I"⟩
abbrev cX6_amountOf : ByteArray := prog_1_method_30_code
def yX6_amountOf : MethodName := ⟨RX6, "amountOf", "(I)I"⟩
abbrev cX6_daysUntilDue : ByteArray := prog_1_method_31_code
def yX6_daysUntilDue : MethodName := ⟨RX6, "daysUntilDue", "(I)I"⟩
abbrev cX6_wouldBounce : ByteArray := prog_1_method_32_code
def yX6_wouldBounce : MethodName := ⟨RX6, "wouldBounce", "(I)Z"⟩
abbrev cX6_bounceCount : ByteArray := prog_1_method_33_code
def yX6_bounceCount : MethodName := ⟨RX6, "bounceCount", "()I"⟩
abbrev cX6_netOf : ByteArray := prog_1_method_34_code
def yX6_netOf : MethodName := ⟨RX6, "netOf", "(I)I"⟩
abbrev cX6_netByTable : ByteArray := prog_1_method_35_code
def yX6_netByTable : MethodName := ⟨RX6, "netByTable", "(I)I"⟩
abbrev cX6_leadsTo : ByteArray := prog_1_method_36_code
def yX6_leadsTo : MethodName := ⟨RX6, "leadsTo", "(II)Z"⟩
abbrev cX6_journalLength : ByteArray := prog_1_method_37_code
def yX6_journalLength : MethodName := ⟨RX6, "journalLength", "()I"⟩
abbrev cX6_movementKind : ByteArray := prog_1_method_38_code
def yX6_movementKind : MethodName := ⟨RX6, "movementKind", "(I)C"⟩
abbrev cX6_movementAmount : ByteArray := prog_1_method_39_code
def yX6_movementAmount : MethodName := ⟨RX6, "movementAmount", "(I)I"⟩
abbrev cX6_movementAccount : ByteArray := prog_1_method_40_code
def yX6_movementAccount : MethodName := ⟨RX6, "movementAccount", "(I)I"⟩
abbrev cX6_writeStatement : ByteArray := prog_1_method_41_code
def yX6_writeStatement : MethodName := ⟨RX6, "writeStatement", "(I)I"⟩
abbrev cX6_statementAt : ByteArray := prog_1_method_42_code
def yX6_statementAt : MethodName := ⟨RX6, "statementAt", "(I)C"⟩
abbrev cX6_execute : ByteArray := prog_1_method_44_code
def yX6_execute : MethodName := ⟨RX6, "execute", "()I"⟩
abbrev cX6_errorPosition : ByteArray := prog_1_method_45_code
def yX6_errorPosition : MethodName := ⟨RX6, "errorPosition", "()I"⟩
abbrev cX6_failedCommand : ByteArray := prog_1_method_46_code
def yX6_failedCommand : MethodName := ⟨RX6, "failedCommand", "()I"⟩
abbrev cX6_save : ByteArray := prog_1_method_48_code
def yX6_save : MethodName := ⟨RX6, "save", "()I"⟩
abbrev cX6_restore : ByteArray := prog_1_method_49_code
def yX6_restore : MethodName := ⟨RX6, "restore", "()I"⟩
abbrev cX6_raise : ByteArray := prog_1_method_50_code
def yX6_raise : MethodName := ⟨RX6, "raise", "(I)V"⟩
abbrev cX6_requireAccount : ByteArray := prog_1_method_51_code
def yX6_requireAccount : MethodName := ⟨RX6, "requireAccount", "(I)V"⟩
abbrev cX6_requireTransfer : ByteArray := prog_1_method_52_code
def yX6_requireTransfer : MethodName := ⟨RX6, "requireTransfer", "(I)I"⟩
abbrev cX6_requireMovement : ByteArray := prog_1_method_53_code
def yX6_requireMovement : MethodName := ⟨RX6, "requireMovement", "(I)I"⟩
abbrev cX6_fillSums : ByteArray := prog_1_method_54_code
def yX6_fillSums : MethodName := ⟨RX6, "fillSums", "()V"⟩
abbrev cX6_isIn : ByteArray := prog_1_method_55_code
def yX6_isIn : MethodName := ⟨RX6, "isIn", "(III)Z"⟩
def RX7 : String := "InkBankModel"
def TX7 : u_T := fun k => match k with
  | _ => ("", "", "", false)
def tyX7 : Nat → FieldType := fun k => match k with
  | _ => .int
abbrev wsX70 : List Cond := u_ws RX7 TX7 0
theorem nmX7 : ∀ a, a < 0 → ∀ b, b < 0 → a ≠ b → (TX7 a).2.1 ≠ (TX7 b).2.1 := by decide +kernel
theorem tyX7_ok : ∀ k, k < 0 → parseFieldDescriptor (TX7 k).2.2.1 = some (tyX7 k) := by decide +kernel
def RJx145de : String := "java/io/Serializable"
def TJx145de : u_T := fun k => match k with
  | _ => ("", "", "", false)
def tyJx145de : Nat → FieldType := fun k => match k with
  | _ => .int
abbrev wsJx145de0 : List Cond := u_ws RJx145de TJx145de 0
theorem nmJx145de : ∀ a, a < 0 → ∀ b, b < 0 → a ≠ b → (TJx145de a).2.1 ≠ (TJx145de b).2.1 := by decide +kernel
theorem tyJx145de_ok : ∀ k, k < 0 → parseFieldDescriptor (TJx145de k).2.2.1 = some (tyJx145de k) := by decide +kernel
def RJ5 : String := "java/lang/AbstractStringBuilder"
def TJ5 : u_T := fun k => match k with
  | _ => ("", "", "", false)
def tyJ5 : Nat → FieldType := fun k => match k with
  | _ => .int
abbrev wsJ50 : List Cond := u_ws RJ5 TJ5 0
theorem nmJ5 : ∀ a, a < 0 → ∀ b, b < 0 → a ≠ b → (TJ5 a).2.1 ≠ (TJ5 b).2.1 := by decide +kernel
theorem tyJ5_ok : ∀ k, k < 0 → parseFieldDescriptor (TJ5 k).2.2.1 = some (tyJ5 k) := by decide +kernel
abbrev cJ5_init_d00df : ByteArray := prog_11_method_2_code
def yJ5_init_d00df : MethodName := ⟨RJ5, "<init>", "(I)V"⟩
abbrev cJ5_length_8abf5 : ByteArray := prog_11_method_6_code
def yJ5_length_8abf5 : MethodName := ⟨RJ5, "length", "()I"⟩
abbrev cJ5_ensureCapacityInternal_d00df : ByteArray := prog_11_method_9_code
def yJ5_ensureCapacityInternal_d00df : MethodName := ⟨RJ5, "ensureCapacityInternal", "(I)V"⟩
abbrev cJ5_newCapacity_0f7a4 : ByteArray := prog_11_method_10_code
def yJ5_newCapacity_0f7a4 : MethodName := ⟨RJ5, "newCapacity", "(I)I"⟩
abbrev cJ5_inflate_da8c8 : ByteArray := prog_11_method_11_code
def yJ5_inflate_da8c8 : MethodName := ⟨RJ5, "inflate", "()V"⟩
abbrev cJ5_setLength_d00df : ByteArray := prog_11_method_13_code
def yJ5_setLength_d00df : MethodName := ⟨RJ5, "setLength", "(I)V"⟩
abbrev cJ5_charAt_5068e : ByteArray := prog_11_method_14_code
def yJ5_charAt_5068e : MethodName := ⟨RJ5, "charAt", "(I)C"⟩
abbrev cJ5_append_cf1ce : ByteArray := prog_11_method_22_code
def yJ5_append_cf1ce : MethodName := ⟨RJ5, "append", "(Ljava/lang/String;)Ljava/lang/AbstractStringBuilder;"⟩
abbrev cJ5_appendNull_278bc : ByteArray := prog_11_method_26_code
def yJ5_appendNull_278bc : MethodName := ⟨RJ5, "appendNull", "()Ljava/lang/AbstractStringBuilder;"⟩
abbrev cJ5_append_3fe6f : ByteArray := prog_11_method_31_code
def yJ5_append_3fe6f : MethodName := ⟨RJ5, "append", "(C)Ljava/lang/AbstractStringBuilder;"⟩
abbrev cJ5_append_c97b9 : ByteArray := prog_11_method_32_code
def yJ5_append_c97b9 : MethodName := ⟨RJ5, "append", "(I)Ljava/lang/AbstractStringBuilder;"⟩
abbrev cJ5_getValue_6d5f1 : ByteArray := prog_11_method_64_code
def yJ5_getValue_6d5f1 : MethodName := ⟨RJ5, "getValue", "()[B"⟩
abbrev cJ5_isLatin1_aae02 : ByteArray := prog_11_method_68_code
def yJ5_isLatin1_aae02 : MethodName := ⟨RJ5, "isLatin1", "()Z"⟩
abbrev cJ5_inflateIfNeededFor_a7421 : ByteArray := prog_11_method_71_code
def yJ5_inflateIfNeededFor_a7421 : MethodName := ⟨RJ5, "inflateIfNeededFor", "(Ljava/lang/String;)V"⟩
abbrev cJ5_putStringAt_47b60 : ByteArray := prog_11_method_73_code
def yJ5_putStringAt_47b60 : MethodName := ⟨RJ5, "putStringAt", "(ILjava/lang/String;)V"⟩
def RJx2cfe8 : String := "java/lang/Appendable"
def TJx2cfe8 : u_T := fun k => match k with
  | _ => ("", "", "", false)
def tyJx2cfe8 : Nat → FieldType := fun k => match k with
  | _ => .int
abbrev wsJx2cfe80 : List Cond := u_ws RJx2cfe8 TJx2cfe8 0
theorem nmJx2cfe8 : ∀ a, a < 0 → ∀ b, b < 0 → a ≠ b → (TJx2cfe8 a).2.1 ≠ (TJx2cfe8 b).2.1 := by decide +kernel
theorem tyJx2cfe8_ok : ∀ k, k < 0 → parseFieldDescriptor (TJx2cfe8 k).2.2.1 = some (tyJx2cfe8 k) := by decide +kernel
def RJx00060 : String := "java/lang/ArrayIndexOutOfBoundsException"
def TJx00060 : u_T := fun k => match k with
  | 0 => ("java/lang/Throwable", "backtrace", "Ljava/lang/Object;", false)
  | 1 => ("java/lang/Throwable", "detailMessage", "Ljava/lang/String;", false)
  | 2 => ("java/lang/Throwable", "cause", "Ljava/lang/Throwable;", false)
  | 3 => ("java/lang/Throwable", "stackTrace", "[Ljava/lang/StackTraceElement;", false)
  | 4 => ("java/lang/Throwable", "depth", "I", false)
  | _ => ("java/lang/Throwable", "suppressedExceptions", "Ljava/util/List;", false)
def tyJx00060 : Nat → FieldType := fun k => match k with
  | 0 => .object "java/lang/Object"
  | 1 => .object "java/lang/String"
  | 2 => .object "java/lang/Throwable"
  | 3 => .array (.object "java/lang/StackTraceElement")
  | 4 => .int
  | _ => .object "java/util/List"
abbrev wsJx000600 : List Cond := u_ws RJx00060 TJx00060 6
theorem nmJx00060 : ∀ a, a < 6 → ∀ b, b < 6 → a ≠ b → (TJx00060 a).2.1 ≠ (TJx00060 b).2.1 := by decide +kernel
theorem tyJx00060_ok : ∀ k, k < 6 → parseFieldDescriptor (TJx00060 k).2.2.1 = some (tyJx00060 k) := by decide +kernel
abbrev cJx00060_init_a7421 : ByteArray := prog_14_method_2_code
def yJx00060_init_a7421 : MethodName := ⟨RJx00060, "<init>", "(Ljava/lang/String;)V"⟩
abbrev cJx00060_init_d00df : ByteArray := prog_14_method_3_code
def yJx00060_init_d00df : MethodName := ⟨RJx00060, "<init>", "(I)V"⟩
def RJx9f9b0 : String := "java/lang/CharSequence"
def TJx9f9b0 : u_T := fun k => match k with
  | _ => ("", "", "", false)
def tyJx9f9b0 : Nat → FieldType := fun k => match k with
  | _ => .int
abbrev wsJx9f9b00 : List Cond := u_ws RJx9f9b0 TJx9f9b0 0
theorem nmJx9f9b0 : ∀ a, a < 0 → ∀ b, b < 0 → a ≠ b → (TJx9f9b0 a).2.1 ≠ (TJx9f9b0 b).2.1 := by decide +kernel
theorem tyJx9f9b0_ok : ∀ k, k < 0 → parseFieldDescriptor (TJx9f9b0 k).2.2.1 = some (tyJx9f9b0 k) := by decide +kernel
def RJ11 : String := "java/lang/Character"
def TJ11 : u_T := fun k => match k with
  | _ => ("", "", "", false)
def tyJ11 : Nat → FieldType := fun k => match k with
  | _ => .int
abbrev wsJ110 : List Cond := u_ws RJ11 TJ11 0
theorem nmJ11 : ∀ a, a < 0 → ∀ b, b < 0 → a ≠ b → (TJ11 a).2.1 ≠ (TJ11 b).2.1 := by decide +kernel
theorem tyJ11_ok : ∀ k, k < 0 → parseFieldDescriptor (TJ11 k).2.2.1 = some (tyJ11 k) := by decide +kernel
abbrev cJ11_isValidCodePoint_9a6ad : ByteArray := prog_16_method_11_code
def yJ11_isValidCodePoint_9a6ad : MethodName := ⟨RJ11, "isValidCodePoint", "(I)Z"⟩
abbrev cJ11_highSurrogate_5068e : ByteArray := prog_16_method_28_code
def yJ11_highSurrogate_5068e : MethodName := ⟨RJ11, "highSurrogate", "(I)C"⟩
abbrev cJ11_lowSurrogate_5068e : ByteArray := prog_16_method_29_code
def yJ11_lowSurrogate_5068e : MethodName := ⟨RJ11, "lowSurrogate", "(I)C"⟩
def RJx8e188 : String := "java/lang/Cloneable"
def TJx8e188 : u_T := fun k => match k with
  | _ => ("", "", "", false)
def tyJx8e188 : Nat → FieldType := fun k => match k with
  | _ => .int
abbrev wsJx8e1880 : List Cond := u_ws RJx8e188 TJx8e188 0
theorem nmJx8e188 : ∀ a, a < 0 → ∀ b, b < 0 → a ≠ b → (TJx8e188 a).2.1 ≠ (TJx8e188 b).2.1 := by decide +kernel
theorem tyJx8e188_ok : ∀ k, k < 0 → parseFieldDescriptor (TJx8e188 k).2.2.1 = some (tyJx8e188 k) := by decide +kernel
def RJxb160c : String := "java/lang/Comparable"
def TJxb160c : u_T := fun k => match k with
  | _ => ("", "", "", false)
def tyJxb160c : Nat → FieldType := fun k => match k with
  | _ => .int
abbrev wsJxb160c0 : List Cond := u_ws RJxb160c TJxb160c 0
theorem nmJxb160c : ∀ a, a < 0 → ∀ b, b < 0 → a ≠ b → (TJxb160c a).2.1 ≠ (TJxb160c b).2.1 := by decide +kernel
theorem tyJxb160c_ok : ∀ k, k < 0 → parseFieldDescriptor (TJxb160c k).2.2.1 = some (tyJxb160c k) := by decide +kernel
def RJ6 : String := "java/lang/Integer"
def TJ6 : u_T := fun k => match k with
  | _ => ("", "", "", false)
def tyJ6 : Nat → FieldType := fun k => match k with
  | _ => .int
abbrev wsJ60 : List Cond := u_ws RJ6 TJ6 0
theorem nmJ6 : ∀ a, a < 0 → ∀ b, b < 0 → a ≠ b → (TJ6 a).2.1 ≠ (TJ6 b).2.1 := by decide +kernel
theorem tyJ6_ok : ∀ k, k < 0 → parseFieldDescriptor (TJ6 k).2.2.1 = some (tyJ6 k) := by decide +kernel
abbrev cJ6_getChars_ba4f3 : ByteArray := prog_23_method_12_code
def yJ6_getChars_ba4f3 : MethodName := ⟨RJ6, "getChars", "(II[B)I"⟩
abbrev cJ6_stringSize_0f7a4 : ByteArray := prog_23_method_13_code
def yJ6_stringSize_0f7a4 : MethodName := ⟨RJ6, "stringSize", "(I)I"⟩
def RJ9 : String := "java/lang/Math"
def TJ9 : u_T := fun k => match k with
  | _ => ("", "", "", false)
def tyJ9 : Nat → FieldType := fun k => match k with
  | _ => .int
abbrev wsJ90 : List Cond := u_ws RJ9 TJ9 0
theorem nmJ9 : ∀ a, a < 0 → ∀ b, b < 0 → a ≠ b → (TJ9 a).2.1 ≠ (TJ9 b).2.1 := by decide +kernel
theorem tyJ9_ok : ∀ k, k < 0 → parseFieldDescriptor (TJ9 k).2.2.1 = some (tyJ9 k) := by decide +kernel
abbrev cJ9_floorMod_7cf53 : ByteArray := prog_24_method_50_code
def yJ9_floorMod_7cf53 : MethodName := ⟨RJ9, "floorMod", "(II)I"⟩
abbrev cJ9_max_7cf53 : ByteArray := prog_24_method_65_code
def yJ9_max_7cf53 : MethodName := ⟨RJ9, "max", "(II)I"⟩
abbrev cJ9_min_7cf53 : ByteArray := prog_24_method_69_code
def yJ9_min_7cf53 : MethodName := ⟨RJ9, "min", "(II)I"⟩
def RJxd2413 : String := "java/lang/Number"
def TJxd2413 : u_T := fun k => match k with
  | _ => ("", "", "", false)
def tyJxd2413 : Nat → FieldType := fun k => match k with
  | _ => .int
abbrev wsJxd24130 : List Cond := u_ws RJxd2413 TJxd2413 0
theorem nmJxd2413 : ∀ a, a < 0 → ∀ b, b < 0 → a ≠ b → (TJxd2413 a).2.1 ≠ (TJxd2413 b).2.1 := by decide +kernel
theorem tyJxd2413_ok : ∀ k, k < 0 → parseFieldDescriptor (TJxd2413 k).2.2.1 = some (tyJxd2413 k) := by decide +kernel
def RJ0 : String := "java/lang/String"
def TJ0 : u_T := fun k => match k with
  | 0 => ("java/lang/String", "value", "[B", true)
  | 1 => ("java/lang/String", "coder", "B", true)
  | 2 => ("java/lang/String", "hash", "I", false)
  | _ => ("java/lang/String", "hashIsZero", "Z", false)
def tyJ0 : Nat → FieldType := fun k => match k with
  | 0 => .array .byte
  | 1 => .byte
  | 2 => .int
  | _ => .boolean
abbrev wsJ00 : List Cond := u_ws RJ0 TJ0 4
theorem nmJ0 : ∀ a, a < 4 → ∀ b, b < 4 → a ≠ b → (TJ0 a).2.1 ≠ (TJ0 b).2.1 := by decide +kernel
theorem tyJ0_ok : ∀ k, k < 4 → parseFieldDescriptor (TJ0 k).2.2.1 = some (tyJ0 k) := by decide +kernel
abbrev cJ0_init_81219 : ByteArray := prog_27_method_53_code
def yJ0_init_81219 : MethodName := ⟨RJ0, "<init>", "(Ljava/lang/StringBuilder;)V"⟩
abbrev cJ0_length_8abf5 : ByteArray := prog_27_method_54_code
def yJ0_length_8abf5 : MethodName := ⟨RJ0, "length", "()I"⟩
abbrev cJ0_isEmpty_aae02 : ByteArray := prog_27_method_55_code
def yJ0_isEmpty_aae02 : MethodName := ⟨RJ0, "isEmpty", "()Z"⟩
abbrev cJ0_charAt_5068e : ByteArray := prog_27_method_56_code
def yJ0_charAt_5068e : MethodName := ⟨RJ0, "charAt", "(I)C"⟩
abbrev cJ0_indexOf_0f7a4 : ByteArray := prog_27_method_79_code
def yJ0_indexOf_0f7a4 : MethodName := ⟨RJ0, "indexOf", "(I)I"⟩
abbrev cJ0_indexOf_7cf53 : ByteArray := prog_27_method_80_code
def yJ0_indexOf_7cf53 : MethodName := ⟨RJ0, "indexOf", "(II)I"⟩
abbrev cJ0_getBytes_840e7 : ByteArray := prog_27_method_147_code
def yJ0_getBytes_840e7 : MethodName := ⟨RJ0, "getBytes", "([BIB)V"⟩
abbrev cJ0_init_db425 : ByteArray := prog_27_method_150_code
def yJ0_init_db425 : MethodName := ⟨RJ0, "<init>", "(Ljava/lang/AbstractStringBuilder;Ljava/lang/Void;)V"⟩
abbrev cJ0_coder_7d493 : ByteArray := prog_27_method_152_code
def yJ0_coder_7d493 : MethodName := ⟨RJ0, "coder", "()B"⟩
abbrev cJ0_isLatin1_aae02 : ByteArray := prog_27_method_154_code
def yJ0_isLatin1_aae02 : MethodName := ⟨RJ0, "isLatin1", "()Z"⟩
abbrev cJ0_checkIndex_df160 : ByteArray := prog_27_method_155_code
def yJ0_checkIndex_df160 : MethodName := ⟨RJ0, "checkIndex", "(II)V"⟩
abbrev cJ0_checkBoundsOffCount_cabcc : ByteArray := prog_27_method_157_code
def yJ0_checkBoundsOffCount_cabcc : MethodName := ⟨RJ0, "checkBoundsOffCount", "(III)I"⟩
abbrev cJ0_checkBoundsBeginEnd_23922 : ByteArray := prog_27_method_158_code
def yJ0_checkBoundsBeginEnd_23922 : MethodName := ⟨RJ0, "checkBoundsBeginEnd", "(III)V"⟩
def RJ4 : String := "java/lang/StringBuilder"
def TJ4 : u_T := fun k => match k with
  | 0 => ("java/lang/AbstractStringBuilder", "value", "[B", false)
  | 1 => ("java/lang/AbstractStringBuilder", "coder", "B", false)
  | 2 => ("java/lang/AbstractStringBuilder", "maybeLatin1", "Z", false)
  | _ => ("java/lang/AbstractStringBuilder", "count", "I", false)
def tyJ4 : Nat → FieldType := fun k => match k with
  | 0 => .array .byte
  | 1 => .byte
  | 2 => .boolean
  | _ => .int
abbrev wsJ40 : List Cond := u_ws RJ4 TJ4 4
theorem nmJ4 : ∀ a, a < 4 → ∀ b, b < 4 → a ≠ b → (TJ4 a).2.1 ≠ (TJ4 b).2.1 := by decide +kernel
theorem tyJ4_ok : ∀ k, k < 4 → parseFieldDescriptor (TJ4 k).2.2.1 = some (tyJ4 k) := by decide +kernel
abbrev cJ4_init_da8c8 : ByteArray := prog_28_method_1_code
def yJ4_init_da8c8 : MethodName := ⟨RJ4, "<init>", "()V"⟩
abbrev cJ4_append_15ec4 : ByteArray := prog_28_method_7_code
def yJ4_append_15ec4 : MethodName := ⟨RJ4, "append", "(Ljava/lang/String;)Ljava/lang/StringBuilder;"⟩
abbrev cJ4_append_cf468 : ByteArray := prog_28_method_14_code
def yJ4_append_cf468 : MethodName := ⟨RJ4, "append", "(C)Ljava/lang/StringBuilder;"⟩
abbrev cJ4_append_bf812 : ByteArray := prog_28_method_15_code
def yJ4_append_bf812 : MethodName := ⟨RJ4, "append", "(I)Ljava/lang/StringBuilder;"⟩
abbrev cJ4_toString_0e30d : ByteArray := prog_28_method_42_code
def yJ4_toString_0e30d : MethodName := ⟨RJ4, "toString", "()Ljava/lang/String;"⟩
abbrev cJ4_charAt_5068e : ByteArray := prog_28_method_88_code
def yJ4_charAt_5068e : MethodName := ⟨RJ4, "charAt", "(I)C"⟩
abbrev cJ4_setLength_d00df : ByteArray := prog_28_method_89_code
def yJ4_setLength_d00df : MethodName := ⟨RJ4, "setLength", "(I)V"⟩
abbrev cJ4_length_8abf5 : ByteArray := prog_28_method_93_code
def yJ4_length_8abf5 : MethodName := ⟨RJ4, "length", "()I"⟩
def RJx7c733 : String := "java/lang/StringIndexOutOfBoundsException"
def TJx7c733 : u_T := fun k => match k with
  | 0 => ("java/lang/Throwable", "backtrace", "Ljava/lang/Object;", false)
  | 1 => ("java/lang/Throwable", "detailMessage", "Ljava/lang/String;", false)
  | 2 => ("java/lang/Throwable", "cause", "Ljava/lang/Throwable;", false)
  | 3 => ("java/lang/Throwable", "stackTrace", "[Ljava/lang/StackTraceElement;", false)
  | 4 => ("java/lang/Throwable", "depth", "I", false)
  | _ => ("java/lang/Throwable", "suppressedExceptions", "Ljava/util/List;", false)
def tyJx7c733 : Nat → FieldType := fun k => match k with
  | 0 => .object "java/lang/Object"
  | 1 => .object "java/lang/String"
  | 2 => .object "java/lang/Throwable"
  | 3 => .array (.object "java/lang/StackTraceElement")
  | 4 => .int
  | _ => .object "java/util/List"
abbrev wsJx7c7330 : List Cond := u_ws RJx7c733 TJx7c733 6
theorem nmJx7c733 : ∀ a, a < 6 → ∀ b, b < 6 → a ≠ b → (TJx7c733 a).2.1 ≠ (TJx7c733 b).2.1 := by decide +kernel
theorem tyJx7c733_ok : ∀ k, k < 6 → parseFieldDescriptor (TJx7c733 k).2.2.1 = some (tyJx7c733 k) := by decide +kernel
abbrev cJx7c733_init_d00df : ByteArray := prog_29_method_3_code
def yJx7c733_init_d00df : MethodName := ⟨RJx7c733, "<init>", "(I)V"⟩
def RJ1 : String := "java/lang/StringLatin1"
def TJ1 : u_T := fun k => match k with
  | _ => ("", "", "", false)
def tyJ1 : Nat → FieldType := fun k => match k with
  | _ => .int
abbrev wsJ10 : List Cond := u_ws RJ1 TJ1 0
theorem nmJ1 : ∀ a, a < 0 → ∀ b, b < 0 → a ≠ b → (TJ1 a).2.1 ≠ (TJ1 b).2.1 := by decide +kernel
theorem tyJ1_ok : ∀ k, k < 0 → parseFieldDescriptor (TJ1 k).2.2.1 = some (tyJ1 k) := by decide +kernel
abbrev cJ1_charAt_3b067 : ByteArray := prog_30_method_2_code
def yJ1_charAt_3b067 : MethodName := ⟨RJ1, "charAt", "([BI)C"⟩
abbrev cJ1_canEncode_fc78d : ByteArray := prog_30_method_3_code
def yJ1_canEncode_fc78d : MethodName := ⟨RJ1, "canEncode", "(C)Z"⟩
abbrev cJ1_canEncode_9a6ad : ByteArray := prog_30_method_4_code
def yJ1_canEncode_9a6ad : MethodName := ⟨RJ1, "canEncode", "(I)Z"⟩
abbrev cJ1_indexOf_4cfef : ByteArray := prog_30_method_22_code
def yJ1_indexOf_4cfef : MethodName := ⟨RJ1, "indexOf", "([BIII)I"⟩
abbrev cJ1_indexOfChar_4cfef : ByteArray := prog_30_method_23_code
def yJ1_indexOfChar_4cfef : MethodName := ⟨RJ1, "indexOfChar", "([BIII)I"⟩
abbrev cJ1_fillNull_b72d1 : ByteArray := prog_30_method_48_code
def yJ1_fillNull_b72d1 : MethodName := ⟨RJ1, "fillNull", "([BII)V"⟩
abbrev cJ1_inflate_0e8fd : ByteArray := prog_30_method_50_code
def yJ1_inflate_0e8fd : MethodName := ⟨RJ1, "inflate", "([BI[BII)V"⟩
def RJ2 : String := "java/lang/StringUTF16"
def TJ2 : u_T := fun k => match k with
  | _ => ("", "", "", false)
def tyJ2 : Nat → FieldType := fun k => match k with
  | _ => .int
abbrev wsJ20 : List Cond := u_ws RJ2 TJ2 0
theorem nmJ2 : ∀ a, a < 0 → ∀ b, b < 0 → a ≠ b → (TJ2 a).2.1 ≠ (TJ2 b).2.1 := by decide +kernel
theorem tyJ2_ok : ∀ k, k < 0 → parseFieldDescriptor (TJ2 k).2.2.1 = some (tyJ2 k) := by decide +kernel
abbrev cJ2_newBytesFor_77867 : ByteArray := prog_31_method_2_code
def yJ2_newBytesFor_77867 : MethodName := ⟨RJ2, "newBytesFor", "(I)[B"⟩
abbrev cJ2_newBytesLength_0f7a4 : ByteArray := prog_31_method_3_code
def yJ2_newBytesLength_0f7a4 : MethodName := ⟨RJ2, "newBytesLength", "(I)I"⟩
abbrev cJ2_putChar_b72d1 : ByteArray := prog_31_method_4_code
def yJ2_putChar_b72d1 : MethodName := ⟨RJ2, "putChar", "([BII)V"⟩
abbrev cJ2_getChar_3b067 : ByteArray := prog_31_method_5_code
def yJ2_getChar_3b067 : MethodName := ⟨RJ2, "getChar", "([BI)C"⟩
abbrev cJ2_length_9d52b : ByteArray := prog_31_method_6_code
def yJ2_length_9d52b : MethodName := ⟨RJ2, "length", "([B)I"⟩
abbrev cJ2_coderFromArrayLen_85cad : ByteArray := prog_31_method_15_code
def yJ2_coderFromArrayLen_85cad : MethodName := ⟨RJ2, "coderFromArrayLen", "([BI)B"⟩
abbrev cJ2_compress_39247 : ByteArray := prog_31_method_17_code
def yJ2_compress_39247 : MethodName := ⟨RJ2, "compress", "([BII)[B"⟩
abbrev cJ2_compress_5af95 : ByteArray := prog_31_method_22_code
def yJ2_compress_5af95 : MethodName := ⟨RJ2, "compress", "([BI[BII)I"⟩
abbrev cJ2_indexOf_4cfef : ByteArray := prog_31_method_40_code
def yJ2_indexOf_4cfef : MethodName := ⟨RJ2, "indexOf", "([BIII)I"⟩
abbrev cJ2_indexOfChar_4cfef : ByteArray := prog_31_method_47_code
def yJ2_indexOfChar_4cfef : MethodName := ⟨RJ2, "indexOfChar", "([BIII)I"⟩
abbrev cJ2_indexOfCharUnsafe_4cfef : ByteArray := prog_31_method_48_code
def yJ2_indexOfCharUnsafe_4cfef : MethodName := ⟨RJ2, "indexOfCharUnsafe", "([BIII)I"⟩
abbrev cJ2_indexOfSupplementary_4cfef : ByteArray := prog_31_method_49_code
def yJ2_indexOfSupplementary_4cfef : MethodName := ⟨RJ2, "indexOfSupplementary", "([BIII)I"⟩
abbrev cJ2_fillNull_b72d1 : ByteArray := prog_31_method_70_code
def yJ2_fillNull_b72d1 : MethodName := ⟨RJ2, "fillNull", "([BII)V"⟩
abbrev cJ2_putCharSB_b72d1 : ByteArray := prog_31_method_71_code
def yJ2_putCharSB_b72d1 : MethodName := ⟨RJ2, "putCharSB", "([BII)V"⟩
abbrev cJ2_getChars_46870 : ByteArray := prog_31_method_77_code
def yJ2_getChars_46870 : MethodName := ⟨RJ2, "getChars", "(III[B)I"⟩
abbrev cJ2_putCharsAt_cd4e5 : ByteArray := prog_31_method_81_code
def yJ2_putCharsAt_cd4e5 : MethodName := ⟨RJ2, "putCharsAt", "([BICCCC)I"⟩
abbrev cJ2_charAt_3b067 : ByteArray := prog_31_method_83_code
def yJ2_charAt_3b067 : MethodName := ⟨RJ2, "charAt", "([BI)C"⟩
abbrev cJ2_inflate_0e8fd : ByteArray := prog_31_method_86_code
def yJ2_inflate_0e8fd : MethodName := ⟨RJ2, "inflate", "([BI[BII)V"⟩
abbrev cJ2_getChars_ba4f3 : ByteArray := prog_31_method_89_code
def yJ2_getChars_ba4f3 : MethodName := ⟨RJ2, "getChars", "(II[B)I"⟩
abbrev cJ2_checkIndex_2214a : ByteArray := prog_31_method_91_code
def yJ2_checkIndex_2214a : MethodName := ⟨RJ2, "checkIndex", "(I[B)V"⟩
abbrev cJ2_checkBoundsBeginEnd_d044e : ByteArray := prog_31_method_93_code
def yJ2_checkBoundsBeginEnd_d044e : MethodName := ⟨RJ2, "checkBoundsBeginEnd", "(II[B)V"⟩
abbrev cJ2_checkBoundsOffCount_d044e : ByteArray := prog_31_method_94_code
def yJ2_checkBoundsOffCount_d044e : MethodName := ⟨RJ2, "checkBoundsOffCount", "(II[B)V"⟩
def RJ10 : String := "java/lang/System"
def TJ10 : u_T := fun k => match k with
  | _ => ("", "", "", false)
def tyJ10 : Nat → FieldType := fun k => match k with
  | _ => .int
abbrev wsJ100 : List Cond := u_ws RJ10 TJ10 0
theorem nmJ10 : ∀ a, a < 0 → ∀ b, b < 0 → a ≠ b → (TJ10 a).2.1 ≠ (TJ10 b).2.1 := by decide +kernel
theorem tyJ10_ok : ∀ k, k < 0 → parseFieldDescriptor (TJ10 k).2.2.1 = some (tyJ10 k) := by decide +kernel
def RJxfd54e : String := "java/lang/constant/Constable"
def TJxfd54e : u_T := fun k => match k with
  | _ => ("", "", "", false)
def tyJxfd54e : Nat → FieldType := fun k => match k with
  | _ => .int
abbrev wsJxfd54e0 : List Cond := u_ws RJxfd54e TJxfd54e 0
theorem nmJxfd54e : ∀ a, a < 0 → ∀ b, b < 0 → a ≠ b → (TJxfd54e a).2.1 ≠ (TJxfd54e b).2.1 := by decide +kernel
theorem tyJxfd54e_ok : ∀ k, k < 0 → parseFieldDescriptor (TJxfd54e k).2.2.1 = some (tyJxfd54e k) := by decide +kernel
def RJx3cf43 : String := "java/lang/constant/ConstantDesc"
def TJx3cf43 : u_T := fun k => match k with
  | _ => ("", "", "", false)
def tyJx3cf43 : Nat → FieldType := fun k => match k with
  | _ => .int
abbrev wsJx3cf430 : List Cond := u_ws RJx3cf43 TJx3cf43 0
theorem nmJx3cf43 : ∀ a, a < 0 → ∀ b, b < 0 → a ≠ b → (TJx3cf43 a).2.1 ≠ (TJx3cf43 b).2.1 := by decide +kernel
theorem tyJx3cf43_ok : ∀ k, k < 0 → parseFieldDescriptor (TJx3cf43 k).2.2.1 = some (tyJx3cf43 k) := by decide +kernel
def RJ7 : String := "java/util/Arrays"
def TJ7 : u_T := fun k => match k with
  | _ => ("", "", "", false)
def tyJ7 : Nat → FieldType := fun k => match k with
  | _ => .int
abbrev wsJ70 : List Cond := u_ws RJ7 TJ7 0
theorem nmJ7 : ∀ a, a < 0 → ∀ b, b < 0 → a ≠ b → (TJ7 a).2.1 ≠ (TJ7 b).2.1 := by decide +kernel
theorem tyJ7_ok : ∀ k, k < 0 → parseFieldDescriptor (TJ7 k).2.2.1 = some (tyJ7 k) := by decide +kernel
abbrev cJ7_rangeCheck_23922 : ByteArray := prog_37_method_30_code
def yJ7_rangeCheck_23922 : MethodName := ⟨RJ7, "rangeCheck", "(III)V"⟩
abbrev cJ7_fill_eb02e : ByteArray := prog_37_method_110_code
def yJ7_fill_eb02e : MethodName := ⟨RJ7, "fill", "([BIIB)V"⟩
abbrev cJ7_copyOf_9075b : ByteArray := prog_37_method_121_code
def yJ7_copyOf_9075b : MethodName := ⟨RJ7, "copyOf", "([BI)[B"⟩
abbrev cJ7_checkLength_df160 : ByteArray := prog_37_method_131_code
def yJ7_checkLength_df160 : MethodName := ⟨RJ7, "checkLength", "(II)V"⟩
abbrev cJ7_copyOfRange_39247 : ByteArray := prog_37_method_132_code
def yJ7_copyOfRange_39247 : MethodName := ⟨RJ7, "copyOfRange", "([BII)[B"⟩
abbrev cJ7_copyOfRangeByte_39247 : ByteArray := prog_37_method_133_code
def yJ7_copyOfRangeByte_39247 : MethodName := ⟨RJ7, "copyOfRangeByte", "([BII)[B"⟩
def RJ8 : String := "jdk/internal/util/ArraysSupport"
def TJ8 : u_T := fun k => match k with
  | _ => ("", "", "", false)
def tyJ8 : Nat → FieldType := fun k => match k with
  | _ => .int
abbrev wsJ80 : List Cond := u_ws RJ8 TJ8 0
theorem nmJ8 : ∀ a, a < 0 → ∀ b, b < 0 → a ≠ b → (TJ8 a).2.1 ≠ (TJ8 b).2.1 := by decide +kernel
theorem tyJ8_ok : ∀ k, k < 0 → parseFieldDescriptor (TJ8 k).2.2.1 = some (tyJ8 k) := by decide +kernel
abbrev cJ8_newLength_cabcc : ByteArray := prog_39_method_27_code
def yJ8_newLength_cabcc : MethodName := ⟨RJ8, "newLength", "(III)I"⟩
abbrev cJ8_hugeLength_7cf53 : ByteArray := prog_39_method_28_code
def yJ8_hugeLength_7cf53 : MethodName := ⟨RJ8, "hugeLength", "(II)I"⟩
def RJ3 : String := "jdk/internal/util/Preconditions"
def TJ3 : u_T := fun k => match k with
  | _ => ("", "", "", false)
def tyJ3 : Nat → FieldType := fun k => match k with
  | _ => .int
abbrev wsJ30 : List Cond := u_ws RJ3 TJ3 0
theorem nmJ3 : ∀ a, a < 0 → ∀ b, b < 0 → a ≠ b → (TJ3 a).2.1 ≠ (TJ3 b).2.1 := by decide +kernel
theorem tyJ3_ok : ∀ k, k < 0 → parseFieldDescriptor (TJ3 k).2.2.1 = some (tyJ3 k) := by decide +kernel
abbrev cJ3_checkIndex_8e157 : ByteArray := prog_40_method_11_code
def yJ3_checkIndex_8e157 : MethodName := ⟨RJ3, "checkIndex", "(IILjava/util/function/BiFunction;)I"⟩
abbrev cJ3_checkFromToIndex_8c36e : ByteArray := prog_40_method_12_code
def yJ3_checkFromToIndex_8c36e : MethodName := ⟨RJ3, "checkFromToIndex", "(IIILjava/util/function/BiFunction;)I"⟩
abbrev cJ3_checkFromIndexSize_8c36e : ByteArray := prog_40_method_13_code
def yJ3_checkFromIndexSize_8c36e : MethodName := ⟨RJ3, "checkFromIndexSize", "(IIILjava/util/function/BiFunction;)I"⟩
def RL : String := "InkBankLaw"
abbrev cL_cell : ByteArray := method_2_code
def yL_cell : MethodName := ⟨RL, "cell", "([II)I"⟩
abbrev cL_pick : ByteArray := method_3_code
def yL_pick : MethodName := ⟨RL, "pick", "([III)I"⟩
abbrev cL_told : ByteArray := method_4_code
def yL_told : MethodName := ⟨RL, "told", "(Z)I"⟩
abbrev cL_plain : ByteArray := method_5_code
def yL_plain : MethodName := ⟨RL, "plain", "(LInkBank;IIIII)I"⟩
abbrev cL_deed : ByteArray := method_6_code
def yL_deed : MethodName := ⟨RL, "deed", "(LInkBank;IIIII)I"⟩
abbrev cL_asked : ByteArray := method_7_code
def yL_asked : MethodName := ⟨RL, "asked", "(LInkBank;III)I"⟩
abbrev cL_ask : ByteArray := method_8_code
def yL_ask : MethodName := ⟨RL, "ask", "(LInkBank;III)I"⟩
abbrev cL_lay : ByteArray := method_9_code
def yL_lay : MethodName := ⟨RL, "lay", "(LInkBank;[I)V"⟩
abbrev cL_id : ByteArray := method_10_code
def yL_id : MethodName := ⟨RL, "id", "(LInkBank;I)I"⟩
abbrev cL_any : ByteArray := method_11_code
def yL_any : MethodName := ⟨RL, "any", "(LInkBank;[II)I"⟩
abbrev cL_interest : ByteArray := method_13_code
def yL_interest : MethodName := ⟨RL, "interest", "(IIIZ)I"⟩
abbrev cL_isLine : ByteArray := method_14_code
def yL_isLine : MethodName := ⟨RL, "isLine", "(LInkBank;ILjava/lang/String;)Z"⟩
abbrev cL_areAccountsRight : ByteArray := method_15_code
def yL_areAccountsRight : MethodName := ⟨RL, "areAccountsRight", "(LInkBank;)Z"⟩
abbrev cL_leads : ByteArray := method_16_code
def yL_leads : MethodName := ⟨RL, "leads", "(LInkBank;III)Z"⟩
abbrev cL_areTransfersRight : ByteArray := method_17_code
def yL_areTransfersRight : MethodName := ⟨RL, "areTransfersRight", "(LInkBank;II)Z"⟩
abbrev cL_arePredictionsRight : ByteArray := method_18_code
def yL_arePredictionsRight : MethodName := ⟨RL, "arePredictionsRight", "(LInkBank;I)Z"⟩
abbrev cL_isJournalRight : ByteArray := method_19_code
def yL_isJournalRight : MethodName := ⟨RL, "isJournalRight", "(LInkBank;)Z"⟩
abbrev cL_law : ByteArray := code
def yL_law : MethodName := ⟨RL, "law", "([I)Z"⟩
abbrev vwCl : List vw_C := [(RJ0, TJ0, 4), (RJ4, TJ4, 4), (RJx00060, TJx00060, 6), (RJx7c733, TJx7c733, 6), (RX0, TX0, 5), (RX1, TX1, 3), (RX2, TX2, 5), (RX3, TX3, 11), (RX4, TX4, 5), (RX5, TX5, 7), (RX6, TX6, 10)]
end
section
theorem dX0_init_0 : decode cX0_init 0 = .ok (.aload_n 0, 1) := by decide +kernel
theorem dX0_init_1 : decode cX0_init 1 = .ok (.invokespecial 3, 3) := by decide +kernel
theorem dX0_init_4 : decode cX0_init 4 = .ok (.aload_n 0, 1) := by decide +kernel
theorem dX0_init_5 : decode cX0_init 5 = .ok (.bipush 8, 2) := by decide +kernel
theorem dX0_init_7 : decode cX0_init 7 = .ok (.newarray .int, 2) := by decide +kernel
theorem dX0_init_9 : decode cX0_init 9 = .ok (.putfield 9, 3) := by decide +kernel
theorem dX0_init_12 : decode cX0_init 12 = .ok (.aload_n 0, 1) := by decide +kernel
theorem dX0_init_13 : decode cX0_init 13 = .ok (.bipush 8, 2) := by decide +kernel
theorem dX0_init_15 : decode cX0_init 15 = .ok (.newarray .int, 2) := by decide +kernel
theorem dX0_init_17 : decode cX0_init 17 = .ok (.putfield 15, 3) := by decide +kernel
theorem dX0_init_20 : decode cX0_init 20 = .ok (.aload_n 0, 1) := by decide +kernel
theorem dX0_init_21 : decode cX0_init 21 = .ok (.bipush 8, 2) := by decide +kernel
theorem dX0_init_23 : decode cX0_init 23 = .ok (.newarray .int, 2) := by decide +kernel
theorem dX0_init_25 : decode cX0_init 25 = .ok (.putfield 18, 3) := by decide +kernel
theorem dX0_init_28 : decode cX0_init 28 = .ok (.aload_n 0, 1) := by decide +kernel
theorem dX0_init_29 : decode cX0_init 29 = .ok (.bipush 8, 2) := by decide +kernel
theorem dX0_init_31 : decode cX0_init 31 = .ok (.newarray .boolean, 2) := by decide +kernel
theorem dX0_init_33 : decode cX0_init 33 = .ok (.putfield 21, 3) := by decide +kernel
theorem dX0_init_36 : decode cX0_init 36 = .ok (.return_, 1) := by decide +kernel
theorem dX0_copyFrom_0 : decode cX0_copyFrom 0 = .ok (.aload_n 0, 1) := by decide +kernel
theorem dX0_copyFrom_1 : decode cX0_copyFrom 1 = .ok (.aload_n 1, 1) := by decide +kernel
theorem dX0_copyFrom_2 : decode cX0_copyFrom 2 = .ok (.getfield 25, 3) := by decide +kernel
theorem dX0_copyFrom_5 : decode cX0_copyFrom 5 = .ok (.putfield 25, 3) := by decide +kernel
theorem dX0_copyFrom_8 : decode cX0_copyFrom 8 = .ok (.iconst 0, 1) := by decide +kernel
theorem dX0_copyFrom_9 : decode cX0_copyFrom 9 = .ok (.istore_n 2, 1) := by decide +kernel
theorem dX0_copyFrom_10 : decode cX0_copyFrom 10 = .ok (.iload_n 2, 1) := by decide +kernel
theorem dX0_copyFrom_11 : decode cX0_copyFrom 11 = .ok (.aload_n 0, 1) := by decide +kernel
theorem dX0_copyFrom_12 : decode cX0_copyFrom 12 = .ok (.getfield 25, 3) := by decide +kernel
theorem dX0_copyFrom_15 : decode cX0_copyFrom 15 = .ok (.if_icmp .ge 57, 3) := by decide +kernel
theorem dX0_copyFrom_18 : decode cX0_copyFrom 18 = .ok (.aload_n 0, 1) := by decide +kernel
theorem dX0_copyFrom_19 : decode cX0_copyFrom 19 = .ok (.getfield 9, 3) := by decide +kernel
theorem dX0_copyFrom_22 : decode cX0_copyFrom 22 = .ok (.iload_n 2, 1) := by decide +kernel
theorem dX0_copyFrom_23 : decode cX0_copyFrom 23 = .ok (.aload_n 1, 1) := by decide +kernel
theorem dX0_copyFrom_24 : decode cX0_copyFrom 24 = .ok (.getfield 9, 3) := by decide +kernel
theorem dX0_copyFrom_27 : decode cX0_copyFrom 27 = .ok (.iload_n 2, 1) := by decide +kernel
theorem dX0_copyFrom_28 : decode cX0_copyFrom 28 = .ok (.iaload, 1) := by decide +kernel
theorem dX0_copyFrom_29 : decode cX0_copyFrom 29 = .ok (.iastore, 1) := by decide +kernel
theorem dX0_copyFrom_30 : decode cX0_copyFrom 30 = .ok (.aload_n 0, 1) := by decide +kernel
theorem dX0_copyFrom_31 : decode cX0_copyFrom 31 = .ok (.getfield 15, 3) := by decide +kernel
theorem dX0_copyFrom_34 : decode cX0_copyFrom 34 = .ok (.iload_n 2, 1) := by decide +kernel
theorem dX0_copyFrom_35 : decode cX0_copyFrom 35 = .ok (.aload_n 1, 1) := by decide +kernel
theorem dX0_copyFrom_36 : decode cX0_copyFrom 36 = .ok (.getfield 15, 3) := by decide +kernel
theorem dX0_copyFrom_39 : decode cX0_copyFrom 39 = .ok (.iload_n 2, 1) := by decide +kernel
theorem dX0_copyFrom_40 : decode cX0_copyFrom 40 = .ok (.iaload, 1) := by decide +kernel
theorem dX0_copyFrom_41 : decode cX0_copyFrom 41 = .ok (.iastore, 1) := by decide +kernel
theorem dX0_copyFrom_42 : decode cX0_copyFrom 42 = .ok (.aload_n 0, 1) := by decide +kernel
theorem dX0_copyFrom_43 : decode cX0_copyFrom 43 = .ok (.getfield 18, 3) := by decide +kernel
theorem dX0_copyFrom_46 : decode cX0_copyFrom 46 = .ok (.iload_n 2, 1) := by decide +kernel
theorem dX0_copyFrom_47 : decode cX0_copyFrom 47 = .ok (.aload_n 1, 1) := by decide +kernel
theorem dX0_copyFrom_48 : decode cX0_copyFrom 48 = .ok (.getfield 18, 3) := by decide +kernel
theorem dX0_copyFrom_51 : decode cX0_copyFrom 51 = .ok (.iload_n 2, 1) := by decide +kernel
theorem dX0_copyFrom_52 : decode cX0_copyFrom 52 = .ok (.iaload, 1) := by decide +kernel
theorem dX0_copyFrom_53 : decode cX0_copyFrom 53 = .ok (.iastore, 1) := by decide +kernel
theorem dX0_copyFrom_54 : decode cX0_copyFrom 54 = .ok (.aload_n 0, 1) := by decide +kernel
theorem dX0_copyFrom_55 : decode cX0_copyFrom 55 = .ok (.getfield 21, 3) := by decide +kernel
theorem dX0_copyFrom_58 : decode cX0_copyFrom 58 = .ok (.iload_n 2, 1) := by decide +kernel
theorem dX0_copyFrom_59 : decode cX0_copyFrom 59 = .ok (.aload_n 1, 1) := by decide +kernel
theorem dX0_copyFrom_60 : decode cX0_copyFrom 60 = .ok (.getfield 21, 3) := by decide +kernel
theorem dX0_copyFrom_63 : decode cX0_copyFrom 63 = .ok (.iload_n 2, 1) := by decide +kernel
theorem dX0_copyFrom_64 : decode cX0_copyFrom 64 = .ok (.baload, 1) := by decide +kernel
theorem dX0_copyFrom_65 : decode cX0_copyFrom 65 = .ok (.bastore, 1) := by decide +kernel
theorem dX0_copyFrom_66 : decode cX0_copyFrom 66 = .ok (.iinc 2 1, 3) := by decide +kernel
theorem dX0_copyFrom_69 : decode cX0_copyFrom 69 = .ok (.goto (-59), 3) := by decide +kernel
theorem dX0_copyFrom_72 : decode cX0_copyFrom 72 = .ok (.return_, 1) := by decide +kernel
theorem dX0_has_0 : decode cX0_has 0 = .ok (.iload_n 1, 1) := by decide +kernel
theorem dX0_has_1 : decode cX0_has 1 = .ok (.ifCond .lt 15, 3) := by decide +kernel
theorem dX0_has_4 : decode cX0_has 4 = .ok (.iload_n 1, 1) := by decide +kernel
theorem dX0_has_5 : decode cX0_has 5 = .ok (.aload_n 0, 1) := by decide +kernel
theorem dX0_has_6 : decode cX0_has 6 = .ok (.getfield 25, 3) := by decide +kernel
theorem dX0_has_9 : decode cX0_has 9 = .ok (.if_icmp .ge 7, 3) := by decide +kernel
theorem dX0_has_12 : decode cX0_has 12 = .ok (.iconst 1, 1) := by decide +kernel
theorem dX0_has_13 : decode cX0_has 13 = .ok (.goto 4, 3) := by decide +kernel
theorem dX0_has_16 : decode cX0_has 16 = .ok (.iconst 0, 1) := by decide +kernel
theorem dX0_has_17 : decode cX0_has 17 = .ok (.ireturn, 1) := by decide +kernel
theorem dX0_add_0 : decode cX0_add 0 = .ok (.aload_n 0, 1) := by decide +kernel
theorem dX0_add_1 : decode cX0_add 1 = .ok (.getfield 25, 3) := by decide +kernel
theorem dX0_add_4 : decode cX0_add 4 = .ok (.istore_n 2, 1) := by decide +kernel
theorem dX0_add_5 : decode cX0_add 5 = .ok (.aload_n 0, 1) := by decide +kernel
theorem dX0_add_6 : decode cX0_add 6 = .ok (.getfield 9, 3) := by decide +kernel
theorem dX0_add_9 : decode cX0_add 9 = .ok (.iload_n 2, 1) := by decide +kernel
theorem dX0_add_10 : decode cX0_add 10 = .ok (.iload_n 1, 1) := by decide +kernel
theorem dX0_add_11 : decode cX0_add 11 = .ok (.iastore, 1) := by decide +kernel
theorem dX0_add_12 : decode cX0_add 12 = .ok (.aload_n 0, 1) := by decide +kernel
theorem dX0_add_13 : decode cX0_add 13 = .ok (.getfield 15, 3) := by decide +kernel
theorem dX0_add_16 : decode cX0_add 16 = .ok (.iload_n 2, 1) := by decide +kernel
theorem dX0_add_17 : decode cX0_add 17 = .ok (.iconst 0, 1) := by decide +kernel
theorem dX0_add_18 : decode cX0_add 18 = .ok (.iastore, 1) := by decide +kernel
theorem dX0_add_19 : decode cX0_add 19 = .ok (.aload_n 0, 1) := by decide +kernel
theorem dX0_add_20 : decode cX0_add 20 = .ok (.getfield 18, 3) := by decide +kernel
theorem dX0_add_23 : decode cX0_add 23 = .ok (.iload_n 2, 1) := by decide +kernel
theorem dX0_add_24 : decode cX0_add 24 = .ok (.iconst 0, 1) := by decide +kernel
theorem dX0_add_25 : decode cX0_add 25 = .ok (.iastore, 1) := by decide +kernel
theorem dX0_add_26 : decode cX0_add 26 = .ok (.aload_n 0, 1) := by decide +kernel
theorem dX0_add_27 : decode cX0_add 27 = .ok (.getfield 21, 3) := by decide +kernel
theorem dX0_add_30 : decode cX0_add 30 = .ok (.iload_n 2, 1) := by decide +kernel
theorem dX0_add_31 : decode cX0_add 31 = .ok (.iconst 0, 1) := by decide +kernel
theorem dX0_add_32 : decode cX0_add 32 = .ok (.bastore, 1) := by decide +kernel
theorem dX0_add_33 : decode cX0_add 33 = .ok (.aload_n 0, 1) := by decide +kernel
theorem dX0_add_34 : decode cX0_add 34 = .ok (.dup, 1) := by decide +kernel
theorem dX0_add_35 : decode cX0_add 35 = .ok (.getfield 25, 3) := by decide +kernel
theorem dX0_add_38 : decode cX0_add 38 = .ok (.iconst 1, 1) := by decide +kernel
theorem dX0_add_39 : decode cX0_add 39 = .ok (.iadd, 1) := by decide +kernel
theorem dX0_add_40 : decode cX0_add 40 = .ok (.putfield 25, 3) := by decide +kernel
theorem dX0_add_43 : decode cX0_add 43 = .ok (.iload_n 2, 1) := by decide +kernel
theorem dX0_add_44 : decode cX0_add 44 = .ok (.ireturn, 1) := by decide +kernel
theorem dX0_changeLimit_0 : decode cX0_changeLimit 0 = .ok (.aload_n 0, 1) := by decide +kernel
theorem dX0_changeLimit_1 : decode cX0_changeLimit 1 = .ok (.getfield 18, 3) := by decide +kernel
theorem dX0_changeLimit_4 : decode cX0_changeLimit 4 = .ok (.iload_n 1, 1) := by decide +kernel
theorem dX0_changeLimit_5 : decode cX0_changeLimit 5 = .ok (.iaload, 1) := by decide +kernel
theorem dX0_changeLimit_6 : decode cX0_changeLimit 6 = .ok (.istore_n 3, 1) := by decide +kernel
theorem dX0_changeLimit_7 : decode cX0_changeLimit 7 = .ok (.aload_n 0, 1) := by decide +kernel
theorem dX0_changeLimit_8 : decode cX0_changeLimit 8 = .ok (.getfield 18, 3) := by decide +kernel
theorem dX0_changeLimit_11 : decode cX0_changeLimit 11 = .ok (.iload_n 1, 1) := by decide +kernel
theorem dX0_changeLimit_12 : decode cX0_changeLimit 12 = .ok (.iload_n 2, 1) := by decide +kernel
theorem dX0_changeLimit_13 : decode cX0_changeLimit 13 = .ok (.iastore, 1) := by decide +kernel
theorem dX0_changeLimit_14 : decode cX0_changeLimit 14 = .ok (.iload_n 3, 1) := by decide +kernel
theorem dX0_changeLimit_15 : decode cX0_changeLimit 15 = .ok (.ireturn, 1) := by decide +kernel
theorem dX0_available_0 : decode cX0_available 0 = .ok (.aload_n 0, 1) := by decide +kernel
theorem dX0_available_1 : decode cX0_available 1 = .ok (.getfield 15, 3) := by decide +kernel
theorem dX0_available_4 : decode cX0_available 4 = .ok (.iload_n 1, 1) := by decide +kernel
theorem dX0_available_5 : decode cX0_available 5 = .ok (.iaload, 1) := by decide +kernel
theorem dX0_available_6 : decode cX0_available 6 = .ok (.aload_n 0, 1) := by decide +kernel
theorem dX0_available_7 : decode cX0_available 7 = .ok (.getfield 18, 3) := by decide +kernel
theorem dX0_available_10 : decode cX0_available 10 = .ok (.iload_n 1, 1) := by decide +kernel
theorem dX0_available_11 : decode cX0_available 11 = .ok (.iaload, 1) := by decide +kernel
theorem dX0_available_12 : decode cX0_available 12 = .ok (.iadd, 1) := by decide +kernel
theorem dX0_available_13 : decode cX0_available 13 = .ok (.ireturn, 1) := by decide +kernel
theorem dX0_forgetTouches_0 : decode cX0_forgetTouches 0 = .ok (.iconst 0, 1) := by decide +kernel
theorem dX0_forgetTouches_1 : decode cX0_forgetTouches 1 = .ok (.istore_n 1, 1) := by decide +kernel
theorem dX0_forgetTouches_2 : decode cX0_forgetTouches 2 = .ok (.iload_n 1, 1) := by decide +kernel
theorem dX0_forgetTouches_3 : decode cX0_forgetTouches 3 = .ok (.aload_n 0, 1) := by decide +kernel
theorem dX0_forgetTouches_4 : decode cX0_forgetTouches 4 = .ok (.getfield 25, 3) := by decide +kernel
theorem dX0_forgetTouches_7 : decode cX0_forgetTouches 7 = .ok (.if_icmp .ge 16, 3) := by decide +kernel
theorem dX0_forgetTouches_10 : decode cX0_forgetTouches 10 = .ok (.aload_n 0, 1) := by decide +kernel
theorem dX0_forgetTouches_11 : decode cX0_forgetTouches 11 = .ok (.getfield 21, 3) := by decide +kernel
theorem dX0_forgetTouches_14 : decode cX0_forgetTouches 14 = .ok (.iload_n 1, 1) := by decide +kernel
theorem dX0_forgetTouches_15 : decode cX0_forgetTouches 15 = .ok (.iconst 0, 1) := by decide +kernel
theorem dX0_forgetTouches_16 : decode cX0_forgetTouches 16 = .ok (.bastore, 1) := by decide +kernel
theorem dX0_forgetTouches_17 : decode cX0_forgetTouches 17 = .ok (.iinc 1 1, 3) := by decide +kernel
theorem dX0_forgetTouches_20 : decode cX0_forgetTouches 20 = .ok (.goto (-18), 3) := by decide +kernel
theorem dX0_forgetTouches_23 : decode cX0_forgetTouches 23 = .ok (.return_, 1) := by decide +kernel
theorem dX0_sum_0 : decode cX0_sum 0 = .ok (.lconst 0, 1) := by decide +kernel
theorem dX0_sum_1 : decode cX0_sum 1 = .ok (.lstore_n 1, 1) := by decide +kernel
theorem dX0_sum_2 : decode cX0_sum 2 = .ok (.iconst 0, 1) := by decide +kernel
theorem dX0_sum_3 : decode cX0_sum 3 = .ok (.istore_n 3, 1) := by decide +kernel
theorem dX0_sum_4 : decode cX0_sum 4 = .ok (.iload_n 3, 1) := by decide +kernel
theorem dX0_sum_5 : decode cX0_sum 5 = .ok (.aload_n 0, 1) := by decide +kernel
theorem dX0_sum_6 : decode cX0_sum 6 = .ok (.getfield 25, 3) := by decide +kernel
theorem dX0_sum_9 : decode cX0_sum 9 = .ok (.if_icmp .ge 19, 3) := by decide +kernel
theorem dX0_sum_12 : decode cX0_sum 12 = .ok (.lload_n 1, 1) := by decide +kernel
theorem dX0_sum_13 : decode cX0_sum 13 = .ok (.aload_n 0, 1) := by decide +kernel
theorem dX0_sum_14 : decode cX0_sum 14 = .ok (.getfield 15, 3) := by decide +kernel
theorem dX0_sum_17 : decode cX0_sum 17 = .ok (.iload_n 3, 1) := by decide +kernel
theorem dX0_sum_18 : decode cX0_sum 18 = .ok (.iaload, 1) := by decide +kernel
theorem dX0_sum_19 : decode cX0_sum 19 = .ok (.i2l, 1) := by decide +kernel
theorem dX0_sum_20 : decode cX0_sum 20 = .ok (.ladd, 1) := by decide +kernel
theorem dX0_sum_21 : decode cX0_sum 21 = .ok (.lstore_n 1, 1) := by decide +kernel
theorem dX0_sum_22 : decode cX0_sum 22 = .ok (.iinc 3 1, 3) := by decide +kernel
theorem dX0_sum_25 : decode cX0_sum 25 = .ok (.goto (-21), 3) := by decide +kernel
theorem dX0_sum_28 : decode cX0_sum 28 = .ok (.lload_n 1, 1) := by decide +kernel
theorem dX0_sum_29 : decode cX0_sum 29 = .ok (.lreturn, 1) := by decide +kernel
theorem dX0_interest_0 : decode cX0_interest 0 = .ok (.aload_n 0, 1) := by decide +kernel
theorem dX0_interest_1 : decode cX0_interest 1 = .ok (.getfield 15, 3) := by decide +kernel
theorem dX0_interest_4 : decode cX0_interest 4 = .ok (.iload_n 1, 1) := by decide +kernel
theorem dX0_interest_5 : decode cX0_interest 5 = .ok (.iaload, 1) := by decide +kernel
theorem dX0_interest_6 : decode cX0_interest 6 = .ok (.istore_n 2, 1) := by decide +kernel
theorem dX0_interest_7 : decode cX0_interest 7 = .ok (.iload_n 2, 1) := by decide +kernel
theorem dX0_interest_8 : decode cX0_interest 8 = .ok (.ifCond .ge 18, 3) := by decide +kernel
theorem dX0_interest_11 : decode cX0_interest 11 = .ok (.aload_n 0, 1) := by decide +kernel
theorem dX0_interest_12 : decode cX0_interest 12 = .ok (.iload_n 1, 1) := by decide +kernel
theorem dX0_interest_13 : decode cX0_interest 13 = .ok (.invokevirtual 29, 3) := by decide +kernel
theorem dX0_interest_16 : decode cX0_interest 16 = .ok (.aload_n 0, 1) := by decide +kernel
theorem dX0_interest_17 : decode cX0_interest 17 = .ok (.iload_n 1, 1) := by decide +kernel
theorem dX0_interest_18 : decode cX0_interest 18 = .ok (.invokevirtual 33, 3) := by decide +kernel
theorem dX0_interest_21 : decode cX0_interest 21 = .ok (.invokestatic 36, 3) := by decide +kernel
theorem dX0_interest_24 : decode cX0_interest 24 = .ok (.ineg, 1) := by decide +kernel
theorem dX0_interest_25 : decode cX0_interest 25 = .ok (.ireturn, 1) := by decide +kernel
theorem dX0_interest_26 : decode cX0_interest 26 = .ok (.iload_n 2, 1) := by decide +kernel
theorem dX0_interest_27 : decode cX0_interest 27 = .ok (.sipush 9999, 3) := by decide +kernel
theorem dX0_interest_30 : decode cX0_interest 30 = .ok (.invokestatic 36, 3) := by decide +kernel
theorem dX0_interest_33 : decode cX0_interest 33 = .ok (.bipush 100, 2) := by decide +kernel
theorem dX0_interest_35 : decode cX0_interest 35 = .ok (.idiv, 1) := by decide +kernel
theorem dX0_interest_36 : decode cX0_interest 36 = .ok (.istore_n 3, 1) := by decide +kernel
theorem dX0_interest_37 : decode cX0_interest 37 = .ok (.aload_n 0, 1) := by decide +kernel
theorem dX0_interest_38 : decode cX0_interest 38 = .ok (.getfield 9, 3) := by decide +kernel
theorem dX0_interest_41 : decode cX0_interest 41 = .ok (.iload_n 1, 1) := by decide +kernel
theorem dX0_interest_42 : decode cX0_interest 42 = .ok (.iaload, 1) := by decide +kernel
theorem dX0_interest_43 : decode cX0_interest 43 = .ok (.tableswitch 57 0 3 #[29, 31, 57, 40], 29) := by decide +kernel
theorem dX0_interest_72 : decode cX0_interest 72 = .ok (.iload_n 3, 1) := by decide +kernel
theorem dX0_interest_73 : decode cX0_interest 73 = .ok (.ireturn, 1) := by decide +kernel
theorem dX0_interest_74 : decode cX0_interest 74 = .ok (.iconst 3, 1) := by decide +kernel
theorem dX0_interest_75 : decode cX0_interest 75 = .ok (.iload_n 3, 1) := by decide +kernel
theorem dX0_interest_76 : decode cX0_interest 76 = .ok (.imul, 1) := by decide +kernel
theorem dX0_interest_77 : decode cX0_interest 77 = .ok (.bipush 30, 2) := by decide +kernel
theorem dX0_interest_79 : decode cX0_interest 79 = .ok (.invokestatic 36, 3) := by decide +kernel
theorem dX0_interest_82 : decode cX0_interest 82 = .ok (.ireturn, 1) := by decide +kernel
theorem dX0_interest_83 : decode cX0_interest 83 = .ok (.aload_n 0, 1) := by decide +kernel
theorem dX0_interest_84 : decode cX0_interest 84 = .ok (.getfield 21, 3) := by decide +kernel
theorem dX0_interest_87 : decode cX0_interest 87 = .ok (.iload_n 1, 1) := by decide +kernel
theorem dX0_interest_88 : decode cX0_interest 88 = .ok (.baload, 1) := by decide +kernel
theorem dX0_interest_89 : decode cX0_interest 89 = .ok (.ifCond .eq 7, 3) := by decide +kernel
theorem dX0_interest_92 : decode cX0_interest 92 = .ok (.iconst 0, 1) := by decide +kernel
theorem dX0_interest_93 : decode cX0_interest 93 = .ok (.goto 6, 3) := by decide +kernel
theorem dX0_interest_96 : decode cX0_interest 96 = .ok (.iconst 5, 1) := by decide +kernel
theorem dX0_interest_97 : decode cX0_interest 97 = .ok (.iload_n 3, 1) := by decide +kernel
theorem dX0_interest_98 : decode cX0_interest 98 = .ok (.imul, 1) := by decide +kernel
theorem dX0_interest_99 : decode cX0_interest 99 = .ok (.ireturn, 1) := by decide +kernel
theorem dX0_interest_100 : decode cX0_interest 100 = .ok (.iconst 0, 1) := by decide +kernel
theorem dX0_interest_101 : decode cX0_interest 101 = .ok (.ireturn, 1) := by decide +kernel
theorem dX0_fullCharge_0 : decode cX0_fullCharge 0 = .ok (.aload_n 0, 1) := by decide +kernel
theorem dX0_fullCharge_1 : decode cX0_fullCharge 1 = .ok (.getfield 9, 3) := by decide +kernel
theorem dX0_fullCharge_4 : decode cX0_fullCharge 4 = .ok (.iload_n 1, 1) := by decide +kernel
theorem dX0_fullCharge_5 : decode cX0_fullCharge 5 = .ok (.iaload, 1) := by decide +kernel
theorem dX0_fullCharge_6 : decode cX0_fullCharge 6 = .ok (.iconst 2, 1) := by decide +kernel
theorem dX0_fullCharge_7 : decode cX0_fullCharge 7 = .ok (.if_icmp .ne 5, 3) := by decide +kernel
theorem dX0_fullCharge_10 : decode cX0_fullCharge 10 = .ok (.iconst 5, 1) := by decide +kernel
theorem dX0_fullCharge_11 : decode cX0_fullCharge 11 = .ok (.ireturn, 1) := by decide +kernel
theorem dX0_fullCharge_12 : decode cX0_fullCharge 12 = .ok (.iconst 1, 1) := by decide +kernel
theorem dX0_fullCharge_13 : decode cX0_fullCharge 13 = .ok (.aload_n 0, 1) := by decide +kernel
theorem dX0_fullCharge_14 : decode cX0_fullCharge 14 = .ok (.getfield 15, 3) := by decide +kernel
theorem dX0_fullCharge_17 : decode cX0_fullCharge 17 = .ok (.iload_n 1, 1) := by decide +kernel
theorem dX0_fullCharge_18 : decode cX0_fullCharge 18 = .ok (.iaload, 1) := by decide +kernel
theorem dX0_fullCharge_19 : decode cX0_fullCharge 19 = .ok (.ineg, 1) := by decide +kernel
theorem dX0_fullCharge_20 : decode cX0_fullCharge 20 = .ok (.bipush 50, 2) := by decide +kernel
theorem dX0_fullCharge_22 : decode cX0_fullCharge 22 = .ok (.idiv, 1) := by decide +kernel
theorem dX0_fullCharge_23 : decode cX0_fullCharge 23 = .ok (.iconst 2, 1) := by decide +kernel
theorem dX0_fullCharge_24 : decode cX0_fullCharge 24 = .ok (.imul, 1) := by decide +kernel
theorem dX0_fullCharge_25 : decode cX0_fullCharge 25 = .ok (.invokestatic 42, 3) := by decide +kernel
theorem dX0_fullCharge_28 : decode cX0_fullCharge 28 = .ok (.ireturn, 1) := by decide +kernel
theorem dX0_atRank_0 : decode cX0_atRank 0 = .ok (.iconst 0, 1) := by decide +kernel
theorem dX0_atRank_1 : decode cX0_atRank 1 = .ok (.istore_n 2, 1) := by decide +kernel
theorem dX0_atRank_2 : decode cX0_atRank 2 = .ok (.iconst 0, 1) := by decide +kernel
theorem dX0_atRank_3 : decode cX0_atRank 3 = .ok (.istore_n 3, 1) := by decide +kernel
theorem dX0_atRank_4 : decode cX0_atRank 4 = .ok (.iload_n 3, 1) := by decide +kernel
theorem dX0_atRank_5 : decode cX0_atRank 5 = .ok (.aload_n 0, 1) := by decide +kernel
theorem dX0_atRank_6 : decode cX0_atRank 6 = .ok (.getfield 25, 3) := by decide +kernel
theorem dX0_atRank_9 : decode cX0_atRank 9 = .ok (.if_icmp .ge 20, 3) := by decide +kernel
theorem dX0_atRank_12 : decode cX0_atRank 12 = .ok (.aload_n 0, 1) := by decide +kernel
theorem dX0_atRank_13 : decode cX0_atRank 13 = .ok (.iload_n 3, 1) := by decide +kernel
theorem dX0_atRank_14 : decode cX0_atRank 14 = .ok (.invokevirtual 45, 3) := by decide +kernel
theorem dX0_atRank_17 : decode cX0_atRank 17 = .ok (.iload_n 1, 1) := by decide +kernel
theorem dX0_atRank_18 : decode cX0_atRank 18 = .ok (.if_icmp .ne 5, 3) := by decide +kernel
theorem dX0_atRank_21 : decode cX0_atRank 21 = .ok (.iload_n 3, 1) := by decide +kernel
theorem dX0_atRank_22 : decode cX0_atRank 22 = .ok (.istore_n 2, 1) := by decide +kernel
theorem dX0_atRank_23 : decode cX0_atRank 23 = .ok (.iinc 3 1, 3) := by decide +kernel
theorem dX0_atRank_26 : decode cX0_atRank 26 = .ok (.goto (-22), 3) := by decide +kernel
theorem dX0_atRank_29 : decode cX0_atRank 29 = .ok (.iload_n 2, 1) := by decide +kernel
theorem dX0_atRank_30 : decode cX0_atRank 30 = .ok (.ireturn, 1) := by decide +kernel
theorem dX0_rankOf_0 : decode cX0_rankOf 0 = .ok (.iconst 0, 1) := by decide +kernel
theorem dX0_rankOf_1 : decode cX0_rankOf 1 = .ok (.istore_n 2, 1) := by decide +kernel
theorem dX0_rankOf_2 : decode cX0_rankOf 2 = .ok (.iconst 0, 1) := by decide +kernel
theorem dX0_rankOf_3 : decode cX0_rankOf 3 = .ok (.istore_n 3, 1) := by decide +kernel
theorem dX0_rankOf_4 : decode cX0_rankOf 4 = .ok (.iload_n 3, 1) := by decide +kernel
theorem dX0_rankOf_5 : decode cX0_rankOf 5 = .ok (.aload_n 0, 1) := by decide +kernel
theorem dX0_rankOf_6 : decode cX0_rankOf 6 = .ok (.getfield 25, 3) := by decide +kernel
theorem dX0_rankOf_9 : decode cX0_rankOf 9 = .ok (.if_icmp .ge 71, 3) := by decide +kernel
theorem dX0_rankOf_12 : decode cX0_rankOf 12 = .ok (.aload_n 0, 1) := by decide +kernel
theorem dX0_rankOf_13 : decode cX0_rankOf 13 = .ok (.getfield 15, 3) := by decide +kernel
theorem dX0_rankOf_16 : decode cX0_rankOf 16 = .ok (.iload_n 3, 1) := by decide +kernel
theorem dX0_rankOf_17 : decode cX0_rankOf 17 = .ok (.iaload, 1) := by decide +kernel
theorem dX0_rankOf_18 : decode cX0_rankOf 18 = .ok (.aload_n 0, 1) := by decide +kernel
theorem dX0_rankOf_19 : decode cX0_rankOf 19 = .ok (.getfield 15, 3) := by decide +kernel
theorem dX0_rankOf_22 : decode cX0_rankOf 22 = .ok (.iload_n 1, 1) := by decide +kernel
theorem dX0_rankOf_23 : decode cX0_rankOf 23 = .ok (.iaload, 1) := by decide +kernel
theorem dX0_rankOf_24 : decode cX0_rankOf 24 = .ok (.if_icmp .le 7, 3) := by decide +kernel
theorem dX0_rankOf_27 : decode cX0_rankOf 27 = .ok (.iconst 1, 1) := by decide +kernel
theorem dX0_rankOf_28 : decode cX0_rankOf 28 = .ok (.goto 4, 3) := by decide +kernel
theorem dX0_rankOf_31 : decode cX0_rankOf 31 = .ok (.iconst 0, 1) := by decide +kernel
theorem dX0_rankOf_32 : decode cX0_rankOf 32 = .ok (.istore 4, 2) := by decide +kernel
theorem dX0_rankOf_34 : decode cX0_rankOf 34 = .ok (.aload_n 0, 1) := by decide +kernel
theorem dX0_rankOf_35 : decode cX0_rankOf 35 = .ok (.getfield 15, 3) := by decide +kernel
theorem dX0_rankOf_38 : decode cX0_rankOf 38 = .ok (.iload_n 3, 1) := by decide +kernel
theorem dX0_rankOf_39 : decode cX0_rankOf 39 = .ok (.iaload, 1) := by decide +kernel
theorem dX0_rankOf_40 : decode cX0_rankOf 40 = .ok (.aload_n 0, 1) := by decide +kernel
theorem dX0_rankOf_41 : decode cX0_rankOf 41 = .ok (.getfield 15, 3) := by decide +kernel
theorem dX0_rankOf_44 : decode cX0_rankOf 44 = .ok (.iload_n 1, 1) := by decide +kernel
theorem dX0_rankOf_45 : decode cX0_rankOf 45 = .ok (.iaload, 1) := by decide +kernel
theorem dX0_rankOf_46 : decode cX0_rankOf 46 = .ok (.if_icmp .ne 12, 3) := by decide +kernel
theorem dX0_rankOf_49 : decode cX0_rankOf 49 = .ok (.iload_n 3, 1) := by decide +kernel
theorem dX0_rankOf_50 : decode cX0_rankOf 50 = .ok (.iload_n 1, 1) := by decide +kernel
theorem dX0_rankOf_51 : decode cX0_rankOf 51 = .ok (.if_icmp .ge 7, 3) := by decide +kernel
theorem dX0_rankOf_54 : decode cX0_rankOf 54 = .ok (.iconst 1, 1) := by decide +kernel
theorem dX0_rankOf_55 : decode cX0_rankOf 55 = .ok (.goto 4, 3) := by decide +kernel
theorem dX0_rankOf_58 : decode cX0_rankOf 58 = .ok (.iconst 0, 1) := by decide +kernel
theorem dX0_rankOf_59 : decode cX0_rankOf 59 = .ok (.istore 5, 2) := by decide +kernel
theorem dX0_rankOf_61 : decode cX0_rankOf 61 = .ok (.iload 4, 2) := by decide +kernel
theorem dX0_rankOf_63 : decode cX0_rankOf 63 = .ok (.ifCond .ne 8, 3) := by decide +kernel
theorem dX0_rankOf_66 : decode cX0_rankOf 66 = .ok (.iload 5, 2) := by decide +kernel
theorem dX0_rankOf_68 : decode cX0_rankOf 68 = .ok (.ifCond .eq 6, 3) := by decide +kernel
theorem dX0_rankOf_71 : decode cX0_rankOf 71 = .ok (.iinc 2 1, 3) := by decide +kernel
theorem dX0_rankOf_74 : decode cX0_rankOf 74 = .ok (.iinc 3 1, 3) := by decide +kernel
theorem dX0_rankOf_77 : decode cX0_rankOf 77 = .ok (.goto (-73), 3) := by decide +kernel
theorem dX0_rankOf_80 : decode cX0_rankOf 80 = .ok (.iload_n 2, 1) := by decide +kernel
theorem dX0_rankOf_81 : decode cX0_rankOf 81 = .ok (.ireturn, 1) := by decide +kernel
theorem dX1_init_0 : decode cX1_init 0 = .ok (.aload_n 0, 1) := by decide +kernel
theorem dX1_init_1 : decode cX1_init 1 = .ok (.invokespecial 3, 3) := by decide +kernel
theorem dX1_init_4 : decode cX1_init 4 = .ok (.aload_n 0, 1) := by decide +kernel
theorem dX1_init_5 : decode cX1_init 5 = .ok (.bipush 8, 2) := by decide +kernel
theorem dX1_init_7 : decode cX1_init 7 = .ok (.anewarray 9, 3) := by decide +kernel
theorem dX1_init_10 : decode cX1_init 10 = .ok (.putfield 11, 3) := by decide +kernel
theorem dX1_init_13 : decode cX1_init 13 = .ok (.iconst 0, 1) := by decide +kernel
theorem dX1_init_14 : decode cX1_init 14 = .ok (.istore_n 1, 1) := by decide +kernel
theorem dX1_init_15 : decode cX1_init 15 = .ok (.iload_n 1, 1) := by decide +kernel
theorem dX1_init_16 : decode cX1_init 16 = .ok (.bipush 8, 2) := by decide +kernel
theorem dX1_init_18 : decode cX1_init 18 = .ok (.if_icmp .ge 22, 3) := by decide +kernel
theorem dX1_init_21 : decode cX1_init 21 = .ok (.aload_n 0, 1) := by decide +kernel
theorem dX1_init_22 : decode cX1_init 22 = .ok (.getfield 11, 3) := by decide +kernel
theorem dX1_init_25 : decode cX1_init 25 = .ok (.iload_n 1, 1) := by decide +kernel
theorem dX1_init_26 : decode cX1_init 26 = .ok (.new 9, 3) := by decide +kernel
theorem dX1_init_29 : decode cX1_init 29 = .ok (.dup, 1) := by decide +kernel
theorem dX1_init_30 : decode cX1_init 30 = .ok (.invokespecial 17, 3) := by decide +kernel
theorem dX1_init_33 : decode cX1_init 33 = .ok (.aastore, 1) := by decide +kernel
theorem dX1_init_34 : decode cX1_init 34 = .ok (.iinc 1 1, 3) := by decide +kernel
theorem dX1_init_37 : decode cX1_init 37 = .ok (.goto (-22), 3) := by decide +kernel
theorem dX1_init_40 : decode cX1_init 40 = .ok (.return_, 1) := by decide +kernel
theorem dX1_remember_0 : decode cX1_remember 0 = .ok (.aload_n 0, 1) := by decide +kernel
theorem dX1_remember_1 : decode cX1_remember 1 = .ok (.aload_n 0, 1) := by decide +kernel
theorem dX1_remember_2 : decode cX1_remember 2 = .ok (.getfield 18, 3) := by decide +kernel
theorem dX1_remember_5 : decode cX1_remember 5 = .ok (.iconst 1, 1) := by decide +kernel
theorem dX1_remember_6 : decode cX1_remember 6 = .ok (.iadd, 1) := by decide +kernel
theorem dX1_remember_7 : decode cX1_remember 7 = .ok (.bipush 8, 2) := by decide +kernel
theorem dX1_remember_9 : decode cX1_remember 9 = .ok (.invokestatic 22, 3) := by decide +kernel
theorem dX1_remember_12 : decode cX1_remember 12 = .ok (.putfield 18, 3) := by decide +kernel
theorem dX1_remember_15 : decode cX1_remember 15 = .ok (.aload_n 0, 1) := by decide +kernel
theorem dX1_remember_16 : decode cX1_remember 16 = .ok (.getfield 11, 3) := by decide +kernel
theorem dX1_remember_19 : decode cX1_remember 19 = .ok (.aload_n 0, 1) := by decide +kernel
theorem dX1_remember_20 : decode cX1_remember 20 = .ok (.getfield 18, 3) := by decide +kernel
theorem dX1_remember_23 : decode cX1_remember 23 = .ok (.aaload, 1) := by decide +kernel
theorem dX1_remember_24 : decode cX1_remember 24 = .ok (.aload_n 1, 1) := by decide +kernel
theorem dX1_remember_25 : decode cX1_remember 25 = .ok (.invokevirtual 28, 3) := by decide +kernel
theorem dX1_remember_28 : decode cX1_remember 28 = .ok (.aload_n 0, 1) := by decide +kernel
theorem dX1_remember_29 : decode cX1_remember 29 = .ok (.aload_n 0, 1) := by decide +kernel
theorem dX1_remember_30 : decode cX1_remember 30 = .ok (.getfield 32, 3) := by decide +kernel
theorem dX1_remember_33 : decode cX1_remember 33 = .ok (.iconst 1, 1) := by decide +kernel
theorem dX1_remember_34 : decode cX1_remember 34 = .ok (.iadd, 1) := by decide +kernel
theorem dX1_remember_35 : decode cX1_remember 35 = .ok (.bipush 8, 2) := by decide +kernel
theorem dX1_remember_37 : decode cX1_remember 37 = .ok (.invokestatic 35, 3) := by decide +kernel
theorem dX1_remember_40 : decode cX1_remember 40 = .ok (.putfield 32, 3) := by decide +kernel
theorem dX1_remember_43 : decode cX1_remember 43 = .ok (.return_, 1) := by decide +kernel
theorem dX2_init_0 : decode cX2_init 0 = .ok (.aload_n 0, 1) := by decide +kernel
theorem dX2_init_1 : decode cX2_init 1 = .ok (.invokespecial 3, 3) := by decide +kernel
theorem dX2_init_4 : decode cX2_init 4 = .ok (.aload_n 0, 1) := by decide +kernel
theorem dX2_init_5 : decode cX2_init 5 = .ok (.bipush 10, 2) := by decide +kernel
theorem dX2_init_7 : decode cX2_init 7 = .ok (.newarray .char, 2) := by decide +kernel
theorem dX2_init_9 : decode cX2_init 9 = .ok (.putfield 9, 3) := by decide +kernel
theorem dX2_init_12 : decode cX2_init 12 = .ok (.aload_n 0, 1) := by decide +kernel
theorem dX2_init_13 : decode cX2_init 13 = .ok (.bipush 10, 2) := by decide +kernel
theorem dX2_init_15 : decode cX2_init 15 = .ok (.newarray .int, 2) := by decide +kernel
theorem dX2_init_17 : decode cX2_init 17 = .ok (.putfield 15, 3) := by decide +kernel
theorem dX2_init_20 : decode cX2_init 20 = .ok (.aload_n 0, 1) := by decide +kernel
theorem dX2_init_21 : decode cX2_init 21 = .ok (.bipush 10, 2) := by decide +kernel
theorem dX2_init_23 : decode cX2_init 23 = .ok (.newarray .int, 2) := by decide +kernel
theorem dX2_init_25 : decode cX2_init 25 = .ok (.putfield 19, 3) := by decide +kernel
theorem dX2_init_28 : decode cX2_init 28 = .ok (.return_, 1) := by decide +kernel
theorem dX2_copyFrom_0 : decode cX2_copyFrom 0 = .ok (.aload_n 0, 1) := by decide +kernel
theorem dX2_copyFrom_1 : decode cX2_copyFrom 1 = .ok (.aload_n 1, 1) := by decide +kernel
theorem dX2_copyFrom_2 : decode cX2_copyFrom 2 = .ok (.getfield 22, 3) := by decide +kernel
theorem dX2_copyFrom_5 : decode cX2_copyFrom 5 = .ok (.putfield 22, 3) := by decide +kernel
theorem dX2_copyFrom_8 : decode cX2_copyFrom 8 = .ok (.aload_n 0, 1) := by decide +kernel
theorem dX2_copyFrom_9 : decode cX2_copyFrom 9 = .ok (.aload_n 1, 1) := by decide +kernel
theorem dX2_copyFrom_10 : decode cX2_copyFrom 10 = .ok (.getfield 26, 3) := by decide +kernel
theorem dX2_copyFrom_13 : decode cX2_copyFrom 13 = .ok (.putfield 26, 3) := by decide +kernel
theorem dX2_copyFrom_16 : decode cX2_copyFrom 16 = .ok (.iconst 0, 1) := by decide +kernel
theorem dX2_copyFrom_17 : decode cX2_copyFrom 17 = .ok (.istore_n 2, 1) := by decide +kernel
theorem dX2_copyFrom_18 : decode cX2_copyFrom 18 = .ok (.iload_n 2, 1) := by decide +kernel
theorem dX2_copyFrom_19 : decode cX2_copyFrom 19 = .ok (.bipush 10, 2) := by decide +kernel
theorem dX2_copyFrom_21 : decode cX2_copyFrom 21 = .ok (.if_icmp .ge 45, 3) := by decide +kernel
theorem dX2_copyFrom_24 : decode cX2_copyFrom 24 = .ok (.aload_n 0, 1) := by decide +kernel
theorem dX2_copyFrom_25 : decode cX2_copyFrom 25 = .ok (.getfield 9, 3) := by decide +kernel
theorem dX2_copyFrom_28 : decode cX2_copyFrom 28 = .ok (.iload_n 2, 1) := by decide +kernel
theorem dX2_copyFrom_29 : decode cX2_copyFrom 29 = .ok (.aload_n 1, 1) := by decide +kernel
theorem dX2_copyFrom_30 : decode cX2_copyFrom 30 = .ok (.getfield 9, 3) := by decide +kernel
theorem dX2_copyFrom_33 : decode cX2_copyFrom 33 = .ok (.iload_n 2, 1) := by decide +kernel
theorem dX2_copyFrom_34 : decode cX2_copyFrom 34 = .ok (.caload, 1) := by decide +kernel
theorem dX2_copyFrom_35 : decode cX2_copyFrom 35 = .ok (.castore, 1) := by decide +kernel
theorem dX2_copyFrom_36 : decode cX2_copyFrom 36 = .ok (.aload_n 0, 1) := by decide +kernel
theorem dX2_copyFrom_37 : decode cX2_copyFrom 37 = .ok (.getfield 15, 3) := by decide +kernel
theorem dX2_copyFrom_40 : decode cX2_copyFrom 40 = .ok (.iload_n 2, 1) := by decide +kernel
theorem dX2_copyFrom_41 : decode cX2_copyFrom 41 = .ok (.aload_n 1, 1) := by decide +kernel
theorem dX2_copyFrom_42 : decode cX2_copyFrom 42 = .ok (.getfield 15, 3) := by decide +kernel
theorem dX2_copyFrom_45 : decode cX2_copyFrom 45 = .ok (.iload_n 2, 1) := by decide +kernel
theorem dX2_copyFrom_46 : decode cX2_copyFrom 46 = .ok (.iaload, 1) := by decide +kernel
theorem dX2_copyFrom_47 : decode cX2_copyFrom 47 = .ok (.iastore, 1) := by decide +kernel
theorem dX2_copyFrom_48 : decode cX2_copyFrom 48 = .ok (.aload_n 0, 1) := by decide +kernel
theorem dX2_copyFrom_49 : decode cX2_copyFrom 49 = .ok (.getfield 19, 3) := by decide +kernel
theorem dX2_copyFrom_52 : decode cX2_copyFrom 52 = .ok (.iload_n 2, 1) := by decide +kernel
theorem dX2_copyFrom_53 : decode cX2_copyFrom 53 = .ok (.aload_n 1, 1) := by decide +kernel
theorem dX2_copyFrom_54 : decode cX2_copyFrom 54 = .ok (.getfield 19, 3) := by decide +kernel
theorem dX2_copyFrom_57 : decode cX2_copyFrom 57 = .ok (.iload_n 2, 1) := by decide +kernel
theorem dX2_copyFrom_58 : decode cX2_copyFrom 58 = .ok (.iaload, 1) := by decide +kernel
theorem dX2_copyFrom_59 : decode cX2_copyFrom 59 = .ok (.iastore, 1) := by decide +kernel
theorem dX2_copyFrom_60 : decode cX2_copyFrom 60 = .ok (.iinc 2 1, 3) := by decide +kernel
theorem dX2_copyFrom_63 : decode cX2_copyFrom 63 = .ok (.goto (-45), 3) := by decide +kernel
theorem dX2_copyFrom_66 : decode cX2_copyFrom 66 = .ok (.return_, 1) := by decide +kernel
theorem dX2_slot_0 : decode cX2_slot 0 = .ok (.aload_n 0, 1) := by decide +kernel
theorem dX2_slot_1 : decode cX2_slot 1 = .ok (.getfield 26, 3) := by decide +kernel
theorem dX2_slot_4 : decode cX2_slot 4 = .ok (.iload_n 1, 1) := by decide +kernel
theorem dX2_slot_5 : decode cX2_slot 5 = .ok (.isub, 1) := by decide +kernel
theorem dX2_slot_6 : decode cX2_slot 6 = .ok (.bipush 10, 2) := by decide +kernel
theorem dX2_slot_8 : decode cX2_slot 8 = .ok (.invokestatic 29, 3) := by decide +kernel
theorem dX2_slot_11 : decode cX2_slot 11 = .ok (.ireturn, 1) := by decide +kernel
theorem dX2_add_0 : decode cX2_add 0 = .ok (.iload_n 2, 1) := by decide +kernel
theorem dX2_add_1 : decode cX2_add 1 = .ok (.iconst 1, 1) := by decide +kernel
theorem dX2_add_2 : decode cX2_add 2 = .ok (.if_icmp .ge 4, 3) := by decide +kernel
theorem dX2_add_5 : decode cX2_add 5 = .ok (.return_, 1) := by decide +kernel
theorem dX2_add_6 : decode cX2_add 6 = .ok (.aload_n 0, 1) := by decide +kernel
theorem dX2_add_7 : decode cX2_add 7 = .ok (.aload_n 0, 1) := by decide +kernel
theorem dX2_add_8 : decode cX2_add 8 = .ok (.getfield 26, 3) := by decide +kernel
theorem dX2_add_11 : decode cX2_add 11 = .ok (.iconst 1, 1) := by decide +kernel
theorem dX2_add_12 : decode cX2_add 12 = .ok (.iadd, 1) := by decide +kernel
theorem dX2_add_13 : decode cX2_add 13 = .ok (.bipush 10, 2) := by decide +kernel
theorem dX2_add_15 : decode cX2_add 15 = .ok (.invokestatic 29, 3) := by decide +kernel
theorem dX2_add_18 : decode cX2_add 18 = .ok (.putfield 26, 3) := by decide +kernel
theorem dX2_add_21 : decode cX2_add 21 = .ok (.aload_n 0, 1) := by decide +kernel
theorem dX2_add_22 : decode cX2_add 22 = .ok (.getfield 9, 3) := by decide +kernel
theorem dX2_add_25 : decode cX2_add 25 = .ok (.aload_n 0, 1) := by decide +kernel
theorem dX2_add_26 : decode cX2_add 26 = .ok (.getfield 26, 3) := by decide +kernel
theorem dX2_add_29 : decode cX2_add 29 = .ok (.iload_n 1, 1) := by decide +kernel
theorem dX2_add_30 : decode cX2_add 30 = .ok (.castore, 1) := by decide +kernel
theorem dX2_add_31 : decode cX2_add 31 = .ok (.aload_n 0, 1) := by decide +kernel
theorem dX2_add_32 : decode cX2_add 32 = .ok (.getfield 15, 3) := by decide +kernel
theorem dX2_add_35 : decode cX2_add 35 = .ok (.aload_n 0, 1) := by decide +kernel
theorem dX2_add_36 : decode cX2_add 36 = .ok (.getfield 26, 3) := by decide +kernel
theorem dX2_add_39 : decode cX2_add 39 = .ok (.iload_n 2, 1) := by decide +kernel
theorem dX2_add_40 : decode cX2_add 40 = .ok (.iastore, 1) := by decide +kernel
theorem dX2_add_41 : decode cX2_add 41 = .ok (.aload_n 0, 1) := by decide +kernel
theorem dX2_add_42 : decode cX2_add 42 = .ok (.getfield 19, 3) := by decide +kernel
theorem dX2_add_45 : decode cX2_add 45 = .ok (.aload_n 0, 1) := by decide +kernel
theorem dX2_add_46 : decode cX2_add 46 = .ok (.getfield 26, 3) := by decide +kernel
theorem dX2_add_49 : decode cX2_add 49 = .ok (.iload_n 3, 1) := by decide +kernel
theorem dX2_add_50 : decode cX2_add 50 = .ok (.iastore, 1) := by decide +kernel
theorem dX2_add_51 : decode cX2_add 51 = .ok (.aload_n 0, 1) := by decide +kernel
theorem dX2_add_52 : decode cX2_add 52 = .ok (.aload_n 0, 1) := by decide +kernel
theorem dX2_add_53 : decode cX2_add 53 = .ok (.getfield 22, 3) := by decide +kernel
theorem dX2_add_56 : decode cX2_add 56 = .ok (.iconst 1, 1) := by decide +kernel
theorem dX2_add_57 : decode cX2_add 57 = .ok (.iadd, 1) := by decide +kernel
theorem dX2_add_58 : decode cX2_add 58 = .ok (.bipush 10, 2) := by decide +kernel
theorem dX2_add_60 : decode cX2_add 60 = .ok (.invokestatic 35, 3) := by decide +kernel
theorem dX2_add_63 : decode cX2_add 63 = .ok (.putfield 22, 3) := by decide +kernel
theorem dX2_add_66 : decode cX2_add 66 = .ok (.return_, 1) := by decide +kernel
theorem dX3_init_0 : decode cX3_init 0 = .ok (.aload_n 0, 1) := by decide +kernel
theorem dX3_init_1 : decode cX3_init 1 = .ok (.invokespecial 3, 3) := by decide +kernel
theorem dX3_init_4 : decode cX3_init 4 = .ok (.aload_n 0, 1) := by decide +kernel
theorem dX3_init_5 : decode cX3_init 5 = .ok (.new 9, 3) := by decide +kernel
theorem dX3_init_8 : decode cX3_init 8 = .ok (.dup, 1) := by decide +kernel
theorem dX3_init_9 : decode cX3_init 9 = .ok (.invokespecial 11, 3) := by decide +kernel
theorem dX3_init_12 : decode cX3_init 12 = .ok (.putfield 12, 3) := by decide +kernel
theorem dX3_init_15 : decode cX3_init 15 = .ok (.aload_n 0, 1) := by decide +kernel
theorem dX3_init_16 : decode cX3_init 16 = .ok (.new 18, 3) := by decide +kernel
theorem dX3_init_19 : decode cX3_init 19 = .ok (.dup, 1) := by decide +kernel
theorem dX3_init_20 : decode cX3_init 20 = .ok (.invokespecial 20, 3) := by decide +kernel
theorem dX3_init_23 : decode cX3_init 23 = .ok (.putfield 21, 3) := by decide +kernel
theorem dX3_init_26 : decode cX3_init 26 = .ok (.aload_n 0, 1) := by decide +kernel
theorem dX3_init_27 : decode cX3_init 27 = .ok (.new 25, 3) := by decide +kernel
theorem dX3_init_30 : decode cX3_init 30 = .ok (.dup, 1) := by decide +kernel
theorem dX3_init_31 : decode cX3_init 31 = .ok (.invokespecial 27, 3) := by decide +kernel
theorem dX3_init_34 : decode cX3_init 34 = .ok (.putfield 28, 3) := by decide +kernel
theorem dX3_init_37 : decode cX3_init 37 = .ok (.return_, 1) := by decide +kernel
theorem dX3_copyFrom_0 : decode cX3_copyFrom 0 = .ok (.aload_n 0, 1) := by decide +kernel
theorem dX3_copyFrom_1 : decode cX3_copyFrom 1 = .ok (.getfield 12, 3) := by decide +kernel
theorem dX3_copyFrom_4 : decode cX3_copyFrom 4 = .ok (.aload_n 1, 1) := by decide +kernel
theorem dX3_copyFrom_5 : decode cX3_copyFrom 5 = .ok (.getfield 12, 3) := by decide +kernel
theorem dX3_copyFrom_8 : decode cX3_copyFrom 8 = .ok (.invokevirtual 32, 3) := by decide +kernel
theorem dX3_copyFrom_11 : decode cX3_copyFrom 11 = .ok (.aload_n 0, 1) := by decide +kernel
theorem dX3_copyFrom_12 : decode cX3_copyFrom 12 = .ok (.getfield 21, 3) := by decide +kernel
theorem dX3_copyFrom_15 : decode cX3_copyFrom 15 = .ok (.aload_n 1, 1) := by decide +kernel
theorem dX3_copyFrom_16 : decode cX3_copyFrom 16 = .ok (.getfield 21, 3) := by decide +kernel
theorem dX3_copyFrom_19 : decode cX3_copyFrom 19 = .ok (.invokevirtual 36, 3) := by decide +kernel
theorem dX3_copyFrom_22 : decode cX3_copyFrom 22 = .ok (.aload_n 0, 1) := by decide +kernel
theorem dX3_copyFrom_23 : decode cX3_copyFrom 23 = .ok (.getfield 28, 3) := by decide +kernel
theorem dX3_copyFrom_26 : decode cX3_copyFrom 26 = .ok (.aload_n 1, 1) := by decide +kernel
theorem dX3_copyFrom_27 : decode cX3_copyFrom 27 = .ok (.getfield 28, 3) := by decide +kernel
theorem dX3_copyFrom_30 : decode cX3_copyFrom 30 = .ok (.invokevirtual 39, 3) := by decide +kernel
theorem dX3_copyFrom_33 : decode cX3_copyFrom 33 = .ok (.aload_n 0, 1) := by decide +kernel
theorem dX3_copyFrom_34 : decode cX3_copyFrom 34 = .ok (.aload_n 1, 1) := by decide +kernel
theorem dX3_copyFrom_35 : decode cX3_copyFrom 35 = .ok (.getfield 42, 3) := by decide +kernel
theorem dX3_copyFrom_38 : decode cX3_copyFrom 38 = .ok (.putfield 42, 3) := by decide +kernel
theorem dX3_copyFrom_41 : decode cX3_copyFrom 41 = .ok (.aload_n 0, 1) := by decide +kernel
theorem dX3_copyFrom_42 : decode cX3_copyFrom 42 = .ok (.aload_n 1, 1) := by decide +kernel
theorem dX3_copyFrom_43 : decode cX3_copyFrom 43 = .ok (.getfield 46, 3) := by decide +kernel
theorem dX3_copyFrom_46 : decode cX3_copyFrom 46 = .ok (.putfield 46, 3) := by decide +kernel
theorem dX3_copyFrom_49 : decode cX3_copyFrom 49 = .ok (.aload_n 0, 1) := by decide +kernel
theorem dX3_copyFrom_50 : decode cX3_copyFrom 50 = .ok (.aload_n 1, 1) := by decide +kernel
theorem dX3_copyFrom_51 : decode cX3_copyFrom 51 = .ok (.getfield 49, 3) := by decide +kernel
theorem dX3_copyFrom_54 : decode cX3_copyFrom 54 = .ok (.putfield 49, 3) := by decide +kernel
theorem dX3_copyFrom_57 : decode cX3_copyFrom 57 = .ok (.aload_n 0, 1) := by decide +kernel
theorem dX3_copyFrom_58 : decode cX3_copyFrom 58 = .ok (.aload_n 1, 1) := by decide +kernel
theorem dX3_copyFrom_59 : decode cX3_copyFrom 59 = .ok (.getfield 52, 3) := by decide +kernel
theorem dX3_copyFrom_62 : decode cX3_copyFrom 62 = .ok (.putfield 52, 3) := by decide +kernel
theorem dX3_copyFrom_65 : decode cX3_copyFrom 65 = .ok (.aload_n 0, 1) := by decide +kernel
theorem dX3_copyFrom_66 : decode cX3_copyFrom 66 = .ok (.aload_n 1, 1) := by decide +kernel
theorem dX3_copyFrom_67 : decode cX3_copyFrom 67 = .ok (.getfield 56, 3) := by decide +kernel
theorem dX3_copyFrom_70 : decode cX3_copyFrom 70 = .ok (.putfield 56, 3) := by decide +kernel
theorem dX3_copyFrom_73 : decode cX3_copyFrom 73 = .ok (.aload_n 0, 1) := by decide +kernel
theorem dX3_copyFrom_74 : decode cX3_copyFrom 74 = .ok (.aload_n 1, 1) := by decide +kernel
theorem dX3_copyFrom_75 : decode cX3_copyFrom 75 = .ok (.getfield 59, 3) := by decide +kernel
theorem dX3_copyFrom_78 : decode cX3_copyFrom 78 = .ok (.putfield 59, 3) := by decide +kernel
theorem dX3_copyFrom_81 : decode cX3_copyFrom 81 = .ok (.aload_n 0, 1) := by decide +kernel
theorem dX3_copyFrom_82 : decode cX3_copyFrom 82 = .ok (.aload_n 1, 1) := by decide +kernel
theorem dX3_copyFrom_83 : decode cX3_copyFrom 83 = .ok (.getfield 62, 3) := by decide +kernel
theorem dX3_copyFrom_86 : decode cX3_copyFrom 86 = .ok (.putfield 62, 3) := by decide +kernel
theorem dX3_copyFrom_89 : decode cX3_copyFrom 89 = .ok (.aload_n 0, 1) := by decide +kernel
theorem dX3_copyFrom_90 : decode cX3_copyFrom 90 = .ok (.aload_n 1, 1) := by decide +kernel
theorem dX3_copyFrom_91 : decode cX3_copyFrom 91 = .ok (.getfield 65, 3) := by decide +kernel
theorem dX3_copyFrom_94 : decode cX3_copyFrom 94 = .ok (.putfield 65, 3) := by decide +kernel
theorem dX3_copyFrom_97 : decode cX3_copyFrom 97 = .ok (.return_, 1) := by decide +kernel
theorem dX3_openFault_0 : decode cX3_openFault 0 = .ok (.iload_n 1, 1) := by decide +kernel
theorem dX3_openFault_1 : decode cX3_openFault 1 = .ok (.iconst 0, 1) := by decide +kernel
theorem dX3_openFault_2 : decode cX3_openFault 2 = .ok (.iconst 3, 1) := by decide +kernel
theorem dX3_openFault_3 : decode cX3_openFault 3 = .ok (.invokestatic 68, 3) := by decide +kernel
theorem dX3_openFault_6 : decode cX3_openFault 6 = .ok (.ifCond .ne 5, 3) := by decide +kernel
theorem dX3_openFault_9 : decode cX3_openFault 9 = .ok (.iconst 2, 1) := by decide +kernel
theorem dX3_openFault_10 : decode cX3_openFault 10 = .ok (.ireturn, 1) := by decide +kernel
theorem dX3_openFault_11 : decode cX3_openFault 11 = .ok (.aload_n 0, 1) := by decide +kernel
theorem dX3_openFault_12 : decode cX3_openFault 12 = .ok (.getfield 12, 3) := by decide +kernel
theorem dX3_openFault_15 : decode cX3_openFault 15 = .ok (.getfield 72, 3) := by decide +kernel
theorem dX3_openFault_18 : decode cX3_openFault 18 = .ok (.bipush 8, 2) := by decide +kernel
theorem dX3_openFault_20 : decode cX3_openFault 20 = .ok (.if_icmp .lt 7, 3) := by decide +kernel
theorem dX3_openFault_23 : decode cX3_openFault 23 = .ok (.iconst 4, 1) := by decide +kernel
theorem dX3_openFault_24 : decode cX3_openFault 24 = .ok (.goto 4, 3) := by decide +kernel
theorem dX3_openFault_27 : decode cX3_openFault 27 = .ok (.iconst 0, 1) := by decide +kernel
theorem dX3_openFault_28 : decode cX3_openFault 28 = .ok (.ireturn, 1) := by decide +kernel
theorem dX3_payInFault_0 : decode cX3_payInFault 0 = .ok (.aload_n 0, 1) := by decide +kernel
theorem dX3_payInFault_1 : decode cX3_payInFault 1 = .ok (.iload_n 1, 1) := by decide +kernel
theorem dX3_payInFault_2 : decode cX3_payInFault 2 = .ok (.iload_n 2, 1) := by decide +kernel
theorem dX3_payInFault_3 : decode cX3_payInFault 3 = .ok (.iconst 1, 1) := by decide +kernel
theorem dX3_payInFault_4 : decode cX3_payInFault 4 = .ok (.sipush 999, 3) := by decide +kernel
theorem dX3_payInFault_7 : decode cX3_payInFault 7 = .ok (.invokevirtual 75, 3) := by decide +kernel
theorem dX3_payInFault_10 : decode cX3_payInFault 10 = .ok (.istore_n 3, 1) := by decide +kernel
theorem dX3_payInFault_11 : decode cX3_payInFault 11 = .ok (.iload_n 3, 1) := by decide +kernel
theorem dX3_payInFault_12 : decode cX3_payInFault 12 = .ok (.ifCond .ne 22, 3) := by decide +kernel
theorem dX3_payInFault_15 : decode cX3_payInFault 15 = .ok (.aload_n 0, 1) := by decide +kernel
theorem dX3_payInFault_16 : decode cX3_payInFault 16 = .ok (.getfield 12, 3) := by decide +kernel
theorem dX3_payInFault_19 : decode cX3_payInFault 19 = .ok (.getfield 79, 3) := by decide +kernel
theorem dX3_payInFault_22 : decode cX3_payInFault 22 = .ok (.iload_n 1, 1) := by decide +kernel
theorem dX3_payInFault_23 : decode cX3_payInFault 23 = .ok (.iaload, 1) := by decide +kernel
theorem dX3_payInFault_24 : decode cX3_payInFault 24 = .ok (.iload_n 2, 1) := by decide +kernel
theorem dX3_payInFault_25 : decode cX3_payInFault 25 = .ok (.iadd, 1) := by decide +kernel
theorem dX3_payInFault_26 : decode cX3_payInFault 26 = .ok (.sipush 9999, 3) := by decide +kernel
theorem dX3_payInFault_29 : decode cX3_payInFault 29 = .ok (.if_icmp .le 5, 3) := by decide +kernel
theorem dX3_payInFault_32 : decode cX3_payInFault 32 = .ok (.iconst 4, 1) := by decide +kernel
theorem dX3_payInFault_33 : decode cX3_payInFault 33 = .ok (.ireturn, 1) := by decide +kernel
theorem dX3_payInFault_34 : decode cX3_payInFault 34 = .ok (.iload_n 3, 1) := by decide +kernel
theorem dX3_payInFault_35 : decode cX3_payInFault 35 = .ok (.ireturn, 1) := by decide +kernel
theorem dX3_argumentFault_0 : decode cX3_argumentFault 0 = .ok (.aload_n 0, 1) := by decide +kernel
theorem dX3_argumentFault_1 : decode cX3_argumentFault 1 = .ok (.getfield 12, 3) := by decide +kernel
theorem dX3_argumentFault_4 : decode cX3_argumentFault 4 = .ok (.iload_n 1, 1) := by decide +kernel
theorem dX3_argumentFault_5 : decode cX3_argumentFault 5 = .ok (.invokevirtual 83, 3) := by decide +kernel
theorem dX3_argumentFault_8 : decode cX3_argumentFault 8 = .ok (.ifCond .ne 5, 3) := by decide +kernel
theorem dX3_argumentFault_11 : decode cX3_argumentFault 11 = .ok (.iconst 1, 1) := by decide +kernel
theorem dX3_argumentFault_12 : decode cX3_argumentFault 12 = .ok (.ireturn, 1) := by decide +kernel
theorem dX3_argumentFault_13 : decode cX3_argumentFault 13 = .ok (.iload_n 2, 1) := by decide +kernel
theorem dX3_argumentFault_14 : decode cX3_argumentFault 14 = .ok (.iload_n 3, 1) := by decide +kernel
theorem dX3_argumentFault_15 : decode cX3_argumentFault 15 = .ok (.iload 4, 2) := by decide +kernel
theorem dX3_argumentFault_17 : decode cX3_argumentFault 17 = .ok (.invokestatic 68, 3) := by decide +kernel
theorem dX3_argumentFault_20 : decode cX3_argumentFault 20 = .ok (.ifCond .eq 7, 3) := by decide +kernel
theorem dX3_argumentFault_23 : decode cX3_argumentFault 23 = .ok (.iconst 0, 1) := by decide +kernel
theorem dX3_argumentFault_24 : decode cX3_argumentFault 24 = .ok (.goto 4, 3) := by decide +kernel
theorem dX3_argumentFault_27 : decode cX3_argumentFault 27 = .ok (.iconst 2, 1) := by decide +kernel
theorem dX3_argumentFault_28 : decode cX3_argumentFault 28 = .ok (.ireturn, 1) := by decide +kernel
theorem dX3_payIn_0 : decode cX3_payIn 0 = .ok (.aload_n 0, 1) := by decide +kernel
theorem dX3_payIn_1 : decode cX3_payIn 1 = .ok (.getfield 12, 3) := by decide +kernel
theorem dX3_payIn_4 : decode cX3_payIn 4 = .ok (.getfield 79, 3) := by decide +kernel
theorem dX3_payIn_7 : decode cX3_payIn 7 = .ok (.iload_n 1, 1) := by decide +kernel
theorem dX3_payIn_8 : decode cX3_payIn 8 = .ok (.dup2, 1) := by decide +kernel
theorem dX3_payIn_9 : decode cX3_payIn 9 = .ok (.iaload, 1) := by decide +kernel
theorem dX3_payIn_10 : decode cX3_payIn 10 = .ok (.iload_n 2, 1) := by decide +kernel
theorem dX3_payIn_11 : decode cX3_payIn 11 = .ok (.iadd, 1) := by decide +kernel
theorem dX3_payIn_12 : decode cX3_payIn 12 = .ok (.iastore, 1) := by decide +kernel
theorem dX3_payIn_13 : decode cX3_payIn 13 = .ok (.aload_n 0, 1) := by decide +kernel
theorem dX3_payIn_14 : decode cX3_payIn 14 = .ok (.dup, 1) := by decide +kernel
theorem dX3_payIn_15 : decode cX3_payIn 15 = .ok (.getfield 52, 3) := by decide +kernel
theorem dX3_payIn_18 : decode cX3_payIn 18 = .ok (.iload_n 2, 1) := by decide +kernel
theorem dX3_payIn_19 : decode cX3_payIn 19 = .ok (.i2l, 1) := by decide +kernel
theorem dX3_payIn_20 : decode cX3_payIn 20 = .ok (.ladd, 1) := by decide +kernel
theorem dX3_payIn_21 : decode cX3_payIn 21 = .ok (.putfield 52, 3) := by decide +kernel
theorem dX3_payIn_24 : decode cX3_payIn 24 = .ok (.aload_n 0, 1) := by decide +kernel
theorem dX3_payIn_25 : decode cX3_payIn 25 = .ok (.getfield 28, 3) := by decide +kernel
theorem dX3_payIn_28 : decode cX3_payIn 28 = .ok (.bipush 100, 2) := by decide +kernel
theorem dX3_payIn_30 : decode cX3_payIn 30 = .ok (.iload_n 2, 1) := by decide +kernel
theorem dX3_payIn_31 : decode cX3_payIn 31 = .ok (.iload_n 1, 1) := by decide +kernel
theorem dX3_payIn_32 : decode cX3_payIn 32 = .ok (.invokevirtual 87, 3) := by decide +kernel
theorem dX3_payIn_35 : decode cX3_payIn 35 = .ok (.aload_n 0, 1) := by decide +kernel
theorem dX3_payIn_36 : decode cX3_payIn 36 = .ok (.getfield 12, 3) := by decide +kernel
theorem dX3_payIn_39 : decode cX3_payIn 39 = .ok (.getfield 79, 3) := by decide +kernel
theorem dX3_payIn_42 : decode cX3_payIn 42 = .ok (.iload_n 1, 1) := by decide +kernel
theorem dX3_payIn_43 : decode cX3_payIn 43 = .ok (.iaload, 1) := by decide +kernel
theorem dX3_payIn_44 : decode cX3_payIn 44 = .ok (.ireturn, 1) := by decide +kernel
theorem dX3_payOutFault_0 : decode cX3_payOutFault 0 = .ok (.aload_n 0, 1) := by decide +kernel
theorem dX3_payOutFault_1 : decode cX3_payOutFault 1 = .ok (.iload_n 1, 1) := by decide +kernel
theorem dX3_payOutFault_2 : decode cX3_payOutFault 2 = .ok (.iload_n 2, 1) := by decide +kernel
theorem dX3_payOutFault_3 : decode cX3_payOutFault 3 = .ok (.iconst 1, 1) := by decide +kernel
theorem dX3_payOutFault_4 : decode cX3_payOutFault 4 = .ok (.sipush 999, 3) := by decide +kernel
theorem dX3_payOutFault_7 : decode cX3_payOutFault 7 = .ok (.invokevirtual 75, 3) := by decide +kernel
theorem dX3_payOutFault_10 : decode cX3_payOutFault 10 = .ok (.istore_n 3, 1) := by decide +kernel
theorem dX3_payOutFault_11 : decode cX3_payOutFault 11 = .ok (.iload_n 3, 1) := by decide +kernel
theorem dX3_payOutFault_12 : decode cX3_payOutFault 12 = .ok (.ifCond .ne 17, 3) := by decide +kernel
theorem dX3_payOutFault_15 : decode cX3_payOutFault 15 = .ok (.aload_n 0, 1) := by decide +kernel
theorem dX3_payOutFault_16 : decode cX3_payOutFault 16 = .ok (.getfield 12, 3) := by decide +kernel
theorem dX3_payOutFault_19 : decode cX3_payOutFault 19 = .ok (.iload_n 1, 1) := by decide +kernel
theorem dX3_payOutFault_20 : decode cX3_payOutFault 20 = .ok (.invokevirtual 91, 3) := by decide +kernel
theorem dX3_payOutFault_23 : decode cX3_payOutFault 23 = .ok (.iload_n 2, 1) := by decide +kernel
theorem dX3_payOutFault_24 : decode cX3_payOutFault 24 = .ok (.if_icmp .ge 5, 3) := by decide +kernel
theorem dX3_payOutFault_27 : decode cX3_payOutFault 27 = .ok (.iconst 4, 1) := by decide +kernel
theorem dX3_payOutFault_28 : decode cX3_payOutFault 28 = .ok (.ireturn, 1) := by decide +kernel
theorem dX3_payOutFault_29 : decode cX3_payOutFault 29 = .ok (.iload_n 3, 1) := by decide +kernel
theorem dX3_payOutFault_30 : decode cX3_payOutFault 30 = .ok (.ireturn, 1) := by decide +kernel
theorem dX3_payOut_0 : decode cX3_payOut 0 = .ok (.aload_n 0, 1) := by decide +kernel
theorem dX3_payOut_1 : decode cX3_payOut 1 = .ok (.getfield 12, 3) := by decide +kernel
theorem dX3_payOut_4 : decode cX3_payOut 4 = .ok (.getfield 79, 3) := by decide +kernel
theorem dX3_payOut_7 : decode cX3_payOut 7 = .ok (.iload_n 1, 1) := by decide +kernel
theorem dX3_payOut_8 : decode cX3_payOut 8 = .ok (.dup2, 1) := by decide +kernel
theorem dX3_payOut_9 : decode cX3_payOut 9 = .ok (.iaload, 1) := by decide +kernel
theorem dX3_payOut_10 : decode cX3_payOut 10 = .ok (.iload_n 2, 1) := by decide +kernel
theorem dX3_payOut_11 : decode cX3_payOut 11 = .ok (.isub, 1) := by decide +kernel
theorem dX3_payOut_12 : decode cX3_payOut 12 = .ok (.iastore, 1) := by decide +kernel
theorem dX3_payOut_13 : decode cX3_payOut 13 = .ok (.aload_n 0, 1) := by decide +kernel
theorem dX3_payOut_14 : decode cX3_payOut 14 = .ok (.getfield 12, 3) := by decide +kernel
theorem dX3_payOut_17 : decode cX3_payOut 17 = .ok (.getfield 95, 3) := by decide +kernel
theorem dX3_payOut_20 : decode cX3_payOut 20 = .ok (.iload_n 1, 1) := by decide +kernel
theorem dX3_payOut_21 : decode cX3_payOut 21 = .ok (.iconst 1, 1) := by decide +kernel
theorem dX3_payOut_22 : decode cX3_payOut 22 = .ok (.bastore, 1) := by decide +kernel
theorem dX3_payOut_23 : decode cX3_payOut 23 = .ok (.aload_n 0, 1) := by decide +kernel
theorem dX3_payOut_24 : decode cX3_payOut 24 = .ok (.dup, 1) := by decide +kernel
theorem dX3_payOut_25 : decode cX3_payOut 25 = .ok (.getfield 56, 3) := by decide +kernel
theorem dX3_payOut_28 : decode cX3_payOut 28 = .ok (.iload_n 2, 1) := by decide +kernel
theorem dX3_payOut_29 : decode cX3_payOut 29 = .ok (.i2l, 1) := by decide +kernel
theorem dX3_payOut_30 : decode cX3_payOut 30 = .ok (.ladd, 1) := by decide +kernel
theorem dX3_payOut_31 : decode cX3_payOut 31 = .ok (.putfield 56, 3) := by decide +kernel
theorem dX3_payOut_34 : decode cX3_payOut 34 = .ok (.aload_n 0, 1) := by decide +kernel
theorem dX3_payOut_35 : decode cX3_payOut 35 = .ok (.getfield 28, 3) := by decide +kernel
theorem dX3_payOut_38 : decode cX3_payOut 38 = .ok (.bipush 119, 2) := by decide +kernel
theorem dX3_payOut_40 : decode cX3_payOut 40 = .ok (.iload_n 2, 1) := by decide +kernel
theorem dX3_payOut_41 : decode cX3_payOut 41 = .ok (.iload_n 1, 1) := by decide +kernel
theorem dX3_payOut_42 : decode cX3_payOut 42 = .ok (.invokevirtual 87, 3) := by decide +kernel
theorem dX3_payOut_45 : decode cX3_payOut 45 = .ok (.aload_n 0, 1) := by decide +kernel
theorem dX3_payOut_46 : decode cX3_payOut 46 = .ok (.getfield 12, 3) := by decide +kernel
theorem dX3_payOut_49 : decode cX3_payOut 49 = .ok (.getfield 79, 3) := by decide +kernel
theorem dX3_payOut_52 : decode cX3_payOut 52 = .ok (.iload_n 1, 1) := by decide +kernel
theorem dX3_payOut_53 : decode cX3_payOut 53 = .ok (.iaload, 1) := by decide +kernel
theorem dX3_payOut_54 : decode cX3_payOut 54 = .ok (.ireturn, 1) := by decide +kernel
theorem dX3_limitFault_0 : decode cX3_limitFault 0 = .ok (.aload_n 0, 1) := by decide +kernel
theorem dX3_limitFault_1 : decode cX3_limitFault 1 = .ok (.iload_n 1, 1) := by decide +kernel
theorem dX3_limitFault_2 : decode cX3_limitFault 2 = .ok (.iload_n 2, 1) := by decide +kernel
theorem dX3_limitFault_3 : decode cX3_limitFault 3 = .ok (.iconst 0, 1) := by decide +kernel
theorem dX3_limitFault_4 : decode cX3_limitFault 4 = .ok (.sipush 500, 3) := by decide +kernel
theorem dX3_limitFault_7 : decode cX3_limitFault 7 = .ok (.invokevirtual 75, 3) := by decide +kernel
theorem dX3_limitFault_10 : decode cX3_limitFault 10 = .ok (.istore_n 3, 1) := by decide +kernel
theorem dX3_limitFault_11 : decode cX3_limitFault 11 = .ok (.iload_n 3, 1) := by decide +kernel
theorem dX3_limitFault_12 : decode cX3_limitFault 12 = .ok (.ifCond .eq 5, 3) := by decide +kernel
theorem dX3_limitFault_15 : decode cX3_limitFault 15 = .ok (.iload_n 3, 1) := by decide +kernel
theorem dX3_limitFault_16 : decode cX3_limitFault 16 = .ok (.ireturn, 1) := by decide +kernel
theorem dX3_limitFault_17 : decode cX3_limitFault 17 = .ok (.aload_n 0, 1) := by decide +kernel
theorem dX3_limitFault_18 : decode cX3_limitFault 18 = .ok (.getfield 12, 3) := by decide +kernel
theorem dX3_limitFault_21 : decode cX3_limitFault 21 = .ok (.getfield 99, 3) := by decide +kernel
theorem dX3_limitFault_24 : decode cX3_limitFault 24 = .ok (.iload_n 1, 1) := by decide +kernel
theorem dX3_limitFault_25 : decode cX3_limitFault 25 = .ok (.iaload, 1) := by decide +kernel
theorem dX3_limitFault_26 : decode cX3_limitFault 26 = .ok (.istore 4, 2) := by decide +kernel
theorem dX3_limitFault_28 : decode cX3_limitFault 28 = .ok (.iload 4, 2) := by decide +kernel
theorem dX3_limitFault_30 : decode cX3_limitFault 30 = .ok (.iconst 1, 1) := by decide +kernel
theorem dX3_limitFault_31 : decode cX3_limitFault 31 = .ok (.if_icmp .eq 9, 3) := by decide +kernel
theorem dX3_limitFault_34 : decode cX3_limitFault 34 = .ok (.iload 4, 2) := by decide +kernel
theorem dX3_limitFault_36 : decode cX3_limitFault 36 = .ok (.iconst 3, 1) := by decide +kernel
theorem dX3_limitFault_37 : decode cX3_limitFault 37 = .ok (.if_icmp .ne 5, 3) := by decide +kernel
theorem dX3_limitFault_40 : decode cX3_limitFault 40 = .ok (.iconst 3, 1) := by decide +kernel
theorem dX3_limitFault_41 : decode cX3_limitFault 41 = .ok (.ireturn, 1) := by decide +kernel
theorem dX3_limitFault_42 : decode cX3_limitFault 42 = .ok (.aload_n 0, 1) := by decide +kernel
theorem dX3_limitFault_43 : decode cX3_limitFault 43 = .ok (.getfield 12, 3) := by decide +kernel
theorem dX3_limitFault_46 : decode cX3_limitFault 46 = .ok (.getfield 79, 3) := by decide +kernel
theorem dX3_limitFault_49 : decode cX3_limitFault 49 = .ok (.iload_n 1, 1) := by decide +kernel
theorem dX3_limitFault_50 : decode cX3_limitFault 50 = .ok (.iaload, 1) := by decide +kernel
theorem dX3_limitFault_51 : decode cX3_limitFault 51 = .ok (.iload_n 2, 1) := by decide +kernel
theorem dX3_limitFault_52 : decode cX3_limitFault 52 = .ok (.ineg, 1) := by decide +kernel
theorem dX3_limitFault_53 : decode cX3_limitFault 53 = .ok (.if_icmp .ge 7, 3) := by decide +kernel
theorem dX3_limitFault_56 : decode cX3_limitFault 56 = .ok (.iconst 4, 1) := by decide +kernel
theorem dX3_limitFault_57 : decode cX3_limitFault 57 = .ok (.goto 4, 3) := by decide +kernel
theorem dX3_limitFault_60 : decode cX3_limitFault 60 = .ok (.iconst 0, 1) := by decide +kernel
theorem dX3_limitFault_61 : decode cX3_limitFault 61 = .ok (.ireturn, 1) := by decide +kernel
theorem dX3_sealFault_0 : decode cX3_sealFault 0 = .ok (.aload_n 0, 1) := by decide +kernel
theorem dX3_sealFault_1 : decode cX3_sealFault 1 = .ok (.getfield 12, 3) := by decide +kernel
theorem dX3_sealFault_4 : decode cX3_sealFault 4 = .ok (.iload_n 1, 1) := by decide +kernel
theorem dX3_sealFault_5 : decode cX3_sealFault 5 = .ok (.invokevirtual 83, 3) := by decide +kernel
theorem dX3_sealFault_8 : decode cX3_sealFault 8 = .ok (.ifCond .eq 14, 3) := by decide +kernel
theorem dX3_sealFault_11 : decode cX3_sealFault 11 = .ok (.aload_n 0, 1) := by decide +kernel
theorem dX3_sealFault_12 : decode cX3_sealFault 12 = .ok (.getfield 12, 3) := by decide +kernel
theorem dX3_sealFault_15 : decode cX3_sealFault 15 = .ok (.iload_n 2, 1) := by decide +kernel
theorem dX3_sealFault_16 : decode cX3_sealFault 16 = .ok (.invokevirtual 83, 3) := by decide +kernel
theorem dX3_sealFault_19 : decode cX3_sealFault 19 = .ok (.ifCond .ne 5, 3) := by decide +kernel
theorem dX3_sealFault_22 : decode cX3_sealFault 22 = .ok (.iconst 1, 1) := by decide +kernel
theorem dX3_sealFault_23 : decode cX3_sealFault 23 = .ok (.ireturn, 1) := by decide +kernel
theorem dX3_sealFault_24 : decode cX3_sealFault 24 = .ok (.iload_n 1, 1) := by decide +kernel
theorem dX3_sealFault_25 : decode cX3_sealFault 25 = .ok (.iload_n 2, 1) := by decide +kernel
theorem dX3_sealFault_26 : decode cX3_sealFault 26 = .ok (.if_icmp .eq 25, 3) := by decide +kernel
theorem dX3_sealFault_29 : decode cX3_sealFault 29 = .ok (.iload_n 3, 1) := by decide +kernel
theorem dX3_sealFault_30 : decode cX3_sealFault 30 = .ok (.iconst 1, 1) := by decide +kernel
theorem dX3_sealFault_31 : decode cX3_sealFault 31 = .ok (.sipush 999, 3) := by decide +kernel
theorem dX3_sealFault_34 : decode cX3_sealFault 34 = .ok (.invokestatic 68, 3) := by decide +kernel
theorem dX3_sealFault_37 : decode cX3_sealFault 37 = .ok (.ifCond .eq 14, 3) := by decide +kernel
theorem dX3_sealFault_40 : decode cX3_sealFault 40 = .ok (.iload 4, 2) := by decide +kernel
theorem dX3_sealFault_42 : decode cX3_sealFault 42 = .ok (.iconst 0, 1) := by decide +kernel
theorem dX3_sealFault_43 : decode cX3_sealFault 43 = .ok (.bipush 60, 2) := by decide +kernel
theorem dX3_sealFault_45 : decode cX3_sealFault 45 = .ok (.invokestatic 68, 3) := by decide +kernel
theorem dX3_sealFault_48 : decode cX3_sealFault 48 = .ok (.ifCond .ne 5, 3) := by decide +kernel
theorem dX3_sealFault_51 : decode cX3_sealFault 51 = .ok (.iconst 2, 1) := by decide +kernel
theorem dX3_sealFault_52 : decode cX3_sealFault 52 = .ok (.ireturn, 1) := by decide +kernel
theorem dX3_sealFault_53 : decode cX3_sealFault 53 = .ok (.aload_n 0, 1) := by decide +kernel
theorem dX3_sealFault_54 : decode cX3_sealFault 54 = .ok (.getfield 21, 3) := by decide +kernel
theorem dX3_sealFault_57 : decode cX3_sealFault 57 = .ok (.getfield 102, 3) := by decide +kernel
theorem dX3_sealFault_60 : decode cX3_sealFault 60 = .ok (.bipush 10, 2) := by decide +kernel
theorem dX3_sealFault_62 : decode cX3_sealFault 62 = .ok (.if_icmp .lt 7, 3) := by decide +kernel
theorem dX3_sealFault_65 : decode cX3_sealFault 65 = .ok (.iconst 4, 1) := by decide +kernel
theorem dX3_sealFault_66 : decode cX3_sealFault 66 = .ok (.goto 4, 3) := by decide +kernel
theorem dX3_sealFault_69 : decode cX3_sealFault 69 = .ok (.iconst 0, 1) := by decide +kernel
theorem dX3_sealFault_70 : decode cX3_sealFault 70 = .ok (.ireturn, 1) := by decide +kernel
theorem dX3_cancelFault_0 : decode cX3_cancelFault 0 = .ok (.aload_n 0, 1) := by decide +kernel
theorem dX3_cancelFault_1 : decode cX3_cancelFault 1 = .ok (.getfield 21, 3) := by decide +kernel
theorem dX3_cancelFault_4 : decode cX3_cancelFault 4 = .ok (.iload_n 1, 1) := by decide +kernel
theorem dX3_cancelFault_5 : decode cX3_cancelFault 5 = .ok (.invokevirtual 103, 3) := by decide +kernel
theorem dX3_cancelFault_8 : decode cX3_cancelFault 8 = .ok (.ifCond .ge 7, 3) := by decide +kernel
theorem dX3_cancelFault_11 : decode cX3_cancelFault 11 = .ok (.iconst 5, 1) := by decide +kernel
theorem dX3_cancelFault_12 : decode cX3_cancelFault 12 = .ok (.goto 4, 3) := by decide +kernel
theorem dX3_cancelFault_15 : decode cX3_cancelFault 15 = .ok (.iconst 0, 1) := by decide +kernel
theorem dX3_cancelFault_16 : decode cX3_cancelFault 16 = .ok (.ireturn, 1) := by decide +kernel
theorem dX3_endDaysFault_0 : decode cX3_endDaysFault 0 = .ok (.iload_n 1, 1) := by decide +kernel
theorem dX3_endDaysFault_1 : decode cX3_endDaysFault 1 = .ok (.iconst 1, 1) := by decide +kernel
theorem dX3_endDaysFault_2 : decode cX3_endDaysFault 2 = .ok (.bipush 60, 2) := by decide +kernel
theorem dX3_endDaysFault_4 : decode cX3_endDaysFault 4 = .ok (.invokestatic 68, 3) := by decide +kernel
theorem dX3_endDaysFault_7 : decode cX3_endDaysFault 7 = .ok (.ifCond .eq 7, 3) := by decide +kernel
theorem dX3_endDaysFault_10 : decode cX3_endDaysFault 10 = .ok (.iconst 0, 1) := by decide +kernel
theorem dX3_endDaysFault_11 : decode cX3_endDaysFault 11 = .ok (.goto 4, 3) := by decide +kernel
theorem dX3_endDaysFault_14 : decode cX3_endDaysFault 14 = .ok (.iconst 2, 1) := by decide +kernel
theorem dX3_endDaysFault_15 : decode cX3_endDaysFault 15 = .ok (.ireturn, 1) := by decide +kernel
theorem dX3_balanceAfterFault_0 : decode cX3_balanceAfterFault 0 = .ok (.aload_n 0, 1) := by decide +kernel
theorem dX3_balanceAfterFault_1 : decode cX3_balanceAfterFault 1 = .ok (.iload_n 1, 1) := by decide +kernel
theorem dX3_balanceAfterFault_2 : decode cX3_balanceAfterFault 2 = .ok (.iload_n 2, 1) := by decide +kernel
theorem dX3_balanceAfterFault_3 : decode cX3_balanceAfterFault 3 = .ok (.iconst 0, 1) := by decide +kernel
theorem dX3_balanceAfterFault_4 : decode cX3_balanceAfterFault 4 = .ok (.bipush 60, 2) := by decide +kernel
theorem dX3_balanceAfterFault_6 : decode cX3_balanceAfterFault 6 = .ok (.invokevirtual 75, 3) := by decide +kernel
theorem dX3_balanceAfterFault_9 : decode cX3_balanceAfterFault 9 = .ok (.ireturn, 1) := by decide +kernel
theorem dX3_passDays_0 : decode cX3_passDays 0 = .ok (.iconst 0, 1) := by decide +kernel
theorem dX3_passDays_1 : decode cX3_passDays 1 = .ok (.istore_n 2, 1) := by decide +kernel
theorem dX3_passDays_2 : decode cX3_passDays 2 = .ok (.iconst 0, 1) := by decide +kernel
theorem dX3_passDays_3 : decode cX3_passDays 3 = .ok (.istore_n 3, 1) := by decide +kernel
theorem dX3_passDays_4 : decode cX3_passDays 4 = .ok (.iload_n 3, 1) := by decide +kernel
theorem dX3_passDays_5 : decode cX3_passDays 5 = .ok (.iload_n 1, 1) := by decide +kernel
theorem dX3_passDays_6 : decode cX3_passDays 6 = .ok (.if_icmp .ge 37, 3) := by decide +kernel
theorem dX3_passDays_9 : decode cX3_passDays 9 = .ok (.iload_n 2, 1) := by decide +kernel
theorem dX3_passDays_10 : decode cX3_passDays 10 = .ok (.aload_n 0, 1) := by decide +kernel
theorem dX3_passDays_11 : decode cX3_passDays 11 = .ok (.invokevirtual 106, 3) := by decide +kernel
theorem dX3_passDays_14 : decode cX3_passDays 14 = .ok (.iadd, 1) := by decide +kernel
theorem dX3_passDays_15 : decode cX3_passDays 15 = .ok (.istore_n 2, 1) := by decide +kernel
theorem dX3_passDays_16 : decode cX3_passDays 16 = .ok (.aload_n 0, 1) := by decide +kernel
theorem dX3_passDays_17 : decode cX3_passDays 17 = .ok (.invokevirtual 110, 3) := by decide +kernel
theorem dX3_passDays_20 : decode cX3_passDays 20 = .ok (.aload_n 0, 1) := by decide +kernel
theorem dX3_passDays_21 : decode cX3_passDays 21 = .ok (.getfield 12, 3) := by decide +kernel
theorem dX3_passDays_24 : decode cX3_passDays 24 = .ok (.invokevirtual 113, 3) := by decide +kernel
theorem dX3_passDays_27 : decode cX3_passDays 27 = .ok (.aload_n 0, 1) := by decide +kernel
theorem dX3_passDays_28 : decode cX3_passDays 28 = .ok (.dup, 1) := by decide +kernel
theorem dX3_passDays_29 : decode cX3_passDays 29 = .ok (.getfield 42, 3) := by decide +kernel
theorem dX3_passDays_32 : decode cX3_passDays 32 = .ok (.iconst 1, 1) := by decide +kernel
theorem dX3_passDays_33 : decode cX3_passDays 33 = .ok (.iadd, 1) := by decide +kernel
theorem dX3_passDays_34 : decode cX3_passDays 34 = .ok (.putfield 42, 3) := by decide +kernel
theorem dX3_passDays_37 : decode cX3_passDays 37 = .ok (.iinc 3 1, 3) := by decide +kernel
theorem dX3_passDays_40 : decode cX3_passDays 40 = .ok (.goto (-36), 3) := by decide +kernel
theorem dX3_passDays_43 : decode cX3_passDays 43 = .ok (.iload_n 2, 1) := by decide +kernel
theorem dX3_passDays_44 : decode cX3_passDays 44 = .ok (.ireturn, 1) := by decide +kernel
theorem dX3_settleDue_0 : decode cX3_settleDue 0 = .ok (.iconst 0, 1) := by decide +kernel
theorem dX3_settleDue_1 : decode cX3_settleDue 1 = .ok (.istore_n 1, 1) := by decide +kernel
theorem dX3_settleDue_2 : decode cX3_settleDue 2 = .ok (.iconst 0, 1) := by decide +kernel
theorem dX3_settleDue_3 : decode cX3_settleDue 3 = .ok (.istore_n 2, 1) := by decide +kernel
theorem dX3_settleDue_4 : decode cX3_settleDue 4 = .ok (.iconst 0, 1) := by decide +kernel
theorem dX3_settleDue_5 : decode cX3_settleDue 5 = .ok (.istore_n 3, 1) := by decide +kernel
theorem dX3_settleDue_6 : decode cX3_settleDue 6 = .ok (.iload_n 3, 1) := by decide +kernel
theorem dX3_settleDue_7 : decode cX3_settleDue 7 = .ok (.aload_n 0, 1) := by decide +kernel
theorem dX3_settleDue_8 : decode cX3_settleDue 8 = .ok (.getfield 21, 3) := by decide +kernel
theorem dX3_settleDue_11 : decode cX3_settleDue 11 = .ok (.getfield 102, 3) := by decide +kernel
theorem dX3_settleDue_14 : decode cX3_settleDue 14 = .ok (.if_icmp .ge 55, 3) := by decide +kernel
theorem dX3_settleDue_17 : decode cX3_settleDue 17 = .ok (.aload_n 0, 1) := by decide +kernel
theorem dX3_settleDue_18 : decode cX3_settleDue 18 = .ok (.getfield 21, 3) := by decide +kernel
theorem dX3_settleDue_21 : decode cX3_settleDue 21 = .ok (.getfield 116, 3) := by decide +kernel
theorem dX3_settleDue_24 : decode cX3_settleDue 24 = .ok (.iload_n 3, 1) := by decide +kernel
theorem dX3_settleDue_25 : decode cX3_settleDue 25 = .ok (.iaload, 1) := by decide +kernel
theorem dX3_settleDue_26 : decode cX3_settleDue 26 = .ok (.aload_n 0, 1) := by decide +kernel
theorem dX3_settleDue_27 : decode cX3_settleDue 27 = .ok (.getfield 42, 3) := by decide +kernel
theorem dX3_settleDue_30 : decode cX3_settleDue 30 = .ok (.if_icmp .eq 22, 3) := by decide +kernel
theorem dX3_settleDue_33 : decode cX3_settleDue 33 = .ok (.aload_n 0, 1) := by decide +kernel
theorem dX3_settleDue_34 : decode cX3_settleDue 34 = .ok (.getfield 21, 3) := by decide +kernel
theorem dX3_settleDue_37 : decode cX3_settleDue 37 = .ok (.aload_n 0, 1) := by decide +kernel
theorem dX3_settleDue_38 : decode cX3_settleDue 38 = .ok (.getfield 21, 3) := by decide +kernel
theorem dX3_settleDue_41 : decode cX3_settleDue 41 = .ok (.iload_n 3, 1) := by decide +kernel
theorem dX3_settleDue_42 : decode cX3_settleDue 42 = .ok (.iload_n 2, 1) := by decide +kernel
theorem dX3_settleDue_43 : decode cX3_settleDue 43 = .ok (.invokevirtual 119, 3) := by decide +kernel
theorem dX3_settleDue_46 : decode cX3_settleDue 46 = .ok (.iinc 2 1, 3) := by decide +kernel
theorem dX3_settleDue_49 : decode cX3_settleDue 49 = .ok (.goto 14, 3) := by decide +kernel
theorem dX3_settleDue_52 : decode cX3_settleDue 52 = .ok (.aload_n 0, 1) := by decide +kernel
theorem dX3_settleDue_53 : decode cX3_settleDue 53 = .ok (.iload_n 3, 1) := by decide +kernel
theorem dX3_settleDue_54 : decode cX3_settleDue 54 = .ok (.invokevirtual 123, 3) := by decide +kernel
theorem dX3_settleDue_57 : decode cX3_settleDue 57 = .ok (.ifCond .eq 6, 3) := by decide +kernel
theorem dX3_settleDue_60 : decode cX3_settleDue 60 = .ok (.iinc 1 1, 3) := by decide +kernel
theorem dX3_settleDue_63 : decode cX3_settleDue 63 = .ok (.iinc 3 1, 3) := by decide +kernel
theorem dX3_settleDue_66 : decode cX3_settleDue 66 = .ok (.goto (-60), 3) := by decide +kernel
theorem dX3_settleDue_69 : decode cX3_settleDue 69 = .ok (.aload_n 0, 1) := by decide +kernel
theorem dX3_settleDue_70 : decode cX3_settleDue 70 = .ok (.getfield 21, 3) := by decide +kernel
theorem dX3_settleDue_73 : decode cX3_settleDue 73 = .ok (.iload_n 2, 1) := by decide +kernel
theorem dX3_settleDue_74 : decode cX3_settleDue 74 = .ok (.putfield 102, 3) := by decide +kernel
theorem dX3_settleDue_77 : decode cX3_settleDue 77 = .ok (.iload_n 1, 1) := by decide +kernel
theorem dX3_settleDue_78 : decode cX3_settleDue 78 = .ok (.ireturn, 1) := by decide +kernel
theorem dX3_settleDueBefore_0 : decode cX3_settleDueBefore 0 = .ok (.iconst 0, 1) := by decide +kernel
theorem dX3_settleDueBefore_1 : decode cX3_settleDueBefore 1 = .ok (.istore_n 2, 1) := by decide +kernel
theorem dX3_settleDueBefore_2 : decode cX3_settleDueBefore 2 = .ok (.iload_n 2, 1) := by decide +kernel
theorem dX3_settleDueBefore_3 : decode cX3_settleDueBefore 3 = .ok (.aload_n 0, 1) := by decide +kernel
theorem dX3_settleDueBefore_4 : decode cX3_settleDueBefore 4 = .ok (.getfield 21, 3) := by decide +kernel
theorem dX3_settleDueBefore_7 : decode cX3_settleDueBefore 7 = .ok (.getfield 102, 3) := by decide +kernel
theorem dX3_settleDueBefore_10 : decode cX3_settleDueBefore 10 = .ok (.if_icmp .ge 44, 3) := by decide +kernel
theorem dX3_settleDueBefore_13 : decode cX3_settleDueBefore 13 = .ok (.aload_n 0, 1) := by decide +kernel
theorem dX3_settleDueBefore_14 : decode cX3_settleDueBefore 14 = .ok (.getfield 21, 3) := by decide +kernel
theorem dX3_settleDueBefore_17 : decode cX3_settleDueBefore 17 = .ok (.getfield 126, 3) := by decide +kernel
theorem dX3_settleDueBefore_20 : decode cX3_settleDueBefore 20 = .ok (.iload_n 2, 1) := by decide +kernel
theorem dX3_settleDueBefore_21 : decode cX3_settleDueBefore 21 = .ok (.iaload, 1) := by decide +kernel
theorem dX3_settleDueBefore_22 : decode cX3_settleDueBefore 22 = .ok (.iload_n 1, 1) := by decide +kernel
theorem dX3_settleDueBefore_23 : decode cX3_settleDueBefore 23 = .ok (.if_icmp .ge 31, 3) := by decide +kernel
theorem dX3_settleDueBefore_26 : decode cX3_settleDueBefore 26 = .ok (.aload_n 0, 1) := by decide +kernel
theorem dX3_settleDueBefore_27 : decode cX3_settleDueBefore 27 = .ok (.getfield 21, 3) := by decide +kernel
theorem dX3_settleDueBefore_30 : decode cX3_settleDueBefore 30 = .ok (.getfield 116, 3) := by decide +kernel
theorem dX3_settleDueBefore_33 : decode cX3_settleDueBefore 33 = .ok (.iload_n 2, 1) := by decide +kernel
theorem dX3_settleDueBefore_34 : decode cX3_settleDueBefore 34 = .ok (.iaload, 1) := by decide +kernel
theorem dX3_settleDueBefore_35 : decode cX3_settleDueBefore 35 = .ok (.aload_n 0, 1) := by decide +kernel
theorem dX3_settleDueBefore_36 : decode cX3_settleDueBefore 36 = .ok (.getfield 42, 3) := by decide +kernel
theorem dX3_settleDueBefore_39 : decode cX3_settleDueBefore 39 = .ok (.if_icmp .ne 9, 3) := by decide +kernel
theorem dX3_settleDueBefore_42 : decode cX3_settleDueBefore 42 = .ok (.aload_n 0, 1) := by decide +kernel
theorem dX3_settleDueBefore_43 : decode cX3_settleDueBefore 43 = .ok (.iload_n 2, 1) := by decide +kernel
theorem dX3_settleDueBefore_44 : decode cX3_settleDueBefore 44 = .ok (.invokevirtual 123, 3) := by decide +kernel
theorem dX3_settleDueBefore_47 : decode cX3_settleDueBefore 47 = .ok (.pop, 1) := by decide +kernel
theorem dX3_settleDueBefore_48 : decode cX3_settleDueBefore 48 = .ok (.iinc 2 1, 3) := by decide +kernel
theorem dX3_settleDueBefore_51 : decode cX3_settleDueBefore 51 = .ok (.goto (-49), 3) := by decide +kernel
theorem dX3_settleDueBefore_54 : decode cX3_settleDueBefore 54 = .ok (.return_, 1) := by decide +kernel
theorem dX3_covers_0 : decode cX3_covers 0 = .ok (.iload_n 1, 1) := by decide +kernel
theorem dX3_covers_1 : decode cX3_covers 1 = .ok (.ifCond .lt 35, 3) := by decide +kernel
theorem dX3_covers_4 : decode cX3_covers 4 = .ok (.aload_n 0, 1) := by decide +kernel
theorem dX3_covers_5 : decode cX3_covers 5 = .ok (.getfield 12, 3) := by decide +kernel
theorem dX3_covers_8 : decode cX3_covers 8 = .ok (.aload_n 0, 1) := by decide +kernel
theorem dX3_covers_9 : decode cX3_covers 9 = .ok (.getfield 21, 3) := by decide +kernel
theorem dX3_covers_12 : decode cX3_covers 12 = .ok (.getfield 129, 3) := by decide +kernel
theorem dX3_covers_15 : decode cX3_covers 15 = .ok (.iload_n 1, 1) := by decide +kernel
theorem dX3_covers_16 : decode cX3_covers 16 = .ok (.iaload, 1) := by decide +kernel
theorem dX3_covers_17 : decode cX3_covers 17 = .ok (.invokevirtual 91, 3) := by decide +kernel
theorem dX3_covers_20 : decode cX3_covers 20 = .ok (.aload_n 0, 1) := by decide +kernel
theorem dX3_covers_21 : decode cX3_covers 21 = .ok (.getfield 21, 3) := by decide +kernel
theorem dX3_covers_24 : decode cX3_covers 24 = .ok (.getfield 132, 3) := by decide +kernel
theorem dX3_covers_27 : decode cX3_covers 27 = .ok (.iload_n 1, 1) := by decide +kernel
theorem dX3_covers_28 : decode cX3_covers 28 = .ok (.iaload, 1) := by decide +kernel
theorem dX3_covers_29 : decode cX3_covers 29 = .ok (.if_icmp .lt 7, 3) := by decide +kernel
theorem dX3_covers_32 : decode cX3_covers 32 = .ok (.iconst 1, 1) := by decide +kernel
theorem dX3_covers_33 : decode cX3_covers 33 = .ok (.goto 4, 3) := by decide +kernel
theorem dX3_covers_36 : decode cX3_covers 36 = .ok (.iconst 0, 1) := by decide +kernel
theorem dX3_covers_37 : decode cX3_covers 37 = .ok (.ireturn, 1) := by decide +kernel
theorem dX3_settle_0 : decode cX3_settle 0 = .ok (.aload_n 0, 1) := by decide +kernel
theorem dX3_settle_1 : decode cX3_settle 1 = .ok (.getfield 21, 3) := by decide +kernel
theorem dX3_settle_4 : decode cX3_settle 4 = .ok (.getfield 129, 3) := by decide +kernel
theorem dX3_settle_7 : decode cX3_settle 7 = .ok (.iload_n 1, 1) := by decide +kernel
theorem dX3_settle_8 : decode cX3_settle 8 = .ok (.iaload, 1) := by decide +kernel
theorem dX3_settle_9 : decode cX3_settle 9 = .ok (.istore_n 2, 1) := by decide +kernel
theorem dX3_settle_10 : decode cX3_settle 10 = .ok (.aload_n 0, 1) := by decide +kernel
theorem dX3_settle_11 : decode cX3_settle 11 = .ok (.iload_n 1, 1) := by decide +kernel
theorem dX3_settle_12 : decode cX3_settle 12 = .ok (.invokevirtual 135, 3) := by decide +kernel
theorem dX3_settle_15 : decode cX3_settle 15 = .ok (.ifCond .ne 23, 3) := by decide +kernel
theorem dX3_settle_18 : decode cX3_settle 18 = .ok (.aload_n 0, 1) := by decide +kernel
theorem dX3_settle_19 : decode cX3_settle 19 = .ok (.dup, 1) := by decide +kernel
theorem dX3_settle_20 : decode cX3_settle 20 = .ok (.getfield 49, 3) := by decide +kernel
theorem dX3_settle_23 : decode cX3_settle 23 = .ok (.iconst 1, 1) := by decide +kernel
theorem dX3_settle_24 : decode cX3_settle 24 = .ok (.iadd, 1) := by decide +kernel
theorem dX3_settle_25 : decode cX3_settle 25 = .ok (.putfield 49, 3) := by decide +kernel
theorem dX3_settle_28 : decode cX3_settle 28 = .ok (.aload_n 0, 1) := by decide +kernel
theorem dX3_settle_29 : decode cX3_settle 29 = .ok (.bipush 102, 2) := by decide +kernel
theorem dX3_settle_31 : decode cX3_settle 31 = .ok (.iconst 3, 1) := by decide +kernel
theorem dX3_settle_32 : decode cX3_settle 32 = .ok (.iload_n 2, 1) := by decide +kernel
theorem dX3_settle_33 : decode cX3_settle 33 = .ok (.invokevirtual 138, 3) := by decide +kernel
theorem dX3_settle_36 : decode cX3_settle 36 = .ok (.iconst 0, 1) := by decide +kernel
theorem dX3_settle_37 : decode cX3_settle 37 = .ok (.ireturn, 1) := by decide +kernel
theorem dX3_settle_38 : decode cX3_settle 38 = .ok (.aload_n 0, 1) := by decide +kernel
theorem dX3_settle_39 : decode cX3_settle 39 = .ok (.getfield 21, 3) := by decide +kernel
theorem dX3_settle_42 : decode cX3_settle 42 = .ok (.getfield 132, 3) := by decide +kernel
theorem dX3_settle_45 : decode cX3_settle 45 = .ok (.iload_n 1, 1) := by decide +kernel
theorem dX3_settle_46 : decode cX3_settle 46 = .ok (.iaload, 1) := by decide +kernel
theorem dX3_settle_47 : decode cX3_settle 47 = .ok (.istore_n 3, 1) := by decide +kernel
theorem dX3_settle_48 : decode cX3_settle 48 = .ok (.aload_n 0, 1) := by decide +kernel
theorem dX3_settle_49 : decode cX3_settle 49 = .ok (.getfield 12, 3) := by decide +kernel
theorem dX3_settle_52 : decode cX3_settle 52 = .ok (.getfield 79, 3) := by decide +kernel
theorem dX3_settle_55 : decode cX3_settle 55 = .ok (.iload_n 2, 1) := by decide +kernel
theorem dX3_settle_56 : decode cX3_settle 56 = .ok (.dup2, 1) := by decide +kernel
theorem dX3_settle_57 : decode cX3_settle 57 = .ok (.iaload, 1) := by decide +kernel
theorem dX3_settle_58 : decode cX3_settle 58 = .ok (.iload_n 3, 1) := by decide +kernel
theorem dX3_settle_59 : decode cX3_settle 59 = .ok (.isub, 1) := by decide +kernel
theorem dX3_settle_60 : decode cX3_settle 60 = .ok (.iastore, 1) := by decide +kernel
theorem dX3_settle_61 : decode cX3_settle 61 = .ok (.aload_n 0, 1) := by decide +kernel
theorem dX3_settle_62 : decode cX3_settle 62 = .ok (.getfield 12, 3) := by decide +kernel
theorem dX3_settle_65 : decode cX3_settle 65 = .ok (.getfield 79, 3) := by decide +kernel
theorem dX3_settle_68 : decode cX3_settle 68 = .ok (.aload_n 0, 1) := by decide +kernel
theorem dX3_settle_69 : decode cX3_settle 69 = .ok (.getfield 21, 3) := by decide +kernel
theorem dX3_settle_72 : decode cX3_settle 72 = .ok (.getfield 141, 3) := by decide +kernel
theorem dX3_settle_75 : decode cX3_settle 75 = .ok (.iload_n 1, 1) := by decide +kernel
theorem dX3_settle_76 : decode cX3_settle 76 = .ok (.iaload, 1) := by decide +kernel
theorem dX3_settle_77 : decode cX3_settle 77 = .ok (.dup2, 1) := by decide +kernel
theorem dX3_settle_78 : decode cX3_settle 78 = .ok (.iaload, 1) := by decide +kernel
theorem dX3_settle_79 : decode cX3_settle 79 = .ok (.iload_n 3, 1) := by decide +kernel
theorem dX3_settle_80 : decode cX3_settle 80 = .ok (.iadd, 1) := by decide +kernel
theorem dX3_settle_81 : decode cX3_settle 81 = .ok (.iastore, 1) := by decide +kernel
theorem dX3_settle_82 : decode cX3_settle 82 = .ok (.aload_n 0, 1) := by decide +kernel
theorem dX3_settle_83 : decode cX3_settle 83 = .ok (.getfield 12, 3) := by decide +kernel
theorem dX3_settle_86 : decode cX3_settle 86 = .ok (.getfield 95, 3) := by decide +kernel
theorem dX3_settle_89 : decode cX3_settle 89 = .ok (.iload_n 2, 1) := by decide +kernel
theorem dX3_settle_90 : decode cX3_settle 90 = .ok (.iconst 1, 1) := by decide +kernel
theorem dX3_settle_91 : decode cX3_settle 91 = .ok (.bastore, 1) := by decide +kernel
theorem dX3_settle_92 : decode cX3_settle 92 = .ok (.aload_n 0, 1) := by decide +kernel
theorem dX3_settle_93 : decode cX3_settle 93 = .ok (.dup, 1) := by decide +kernel
theorem dX3_settle_94 : decode cX3_settle 94 = .ok (.getfield 59, 3) := by decide +kernel
theorem dX3_settle_97 : decode cX3_settle 97 = .ok (.iload_n 3, 1) := by decide +kernel
theorem dX3_settle_98 : decode cX3_settle 98 = .ok (.i2l, 1) := by decide +kernel
theorem dX3_settle_99 : decode cX3_settle 99 = .ok (.ladd, 1) := by decide +kernel
theorem dX3_settle_100 : decode cX3_settle 100 = .ok (.putfield 59, 3) := by decide +kernel
theorem dX3_settle_103 : decode cX3_settle 103 = .ok (.aload_n 0, 1) := by decide +kernel
theorem dX3_settle_104 : decode cX3_settle 104 = .ok (.getfield 28, 3) := by decide +kernel
theorem dX3_settle_107 : decode cX3_settle 107 = .ok (.bipush 116, 2) := by decide +kernel
theorem dX3_settle_109 : decode cX3_settle 109 = .ok (.iload_n 3, 1) := by decide +kernel
theorem dX3_settle_110 : decode cX3_settle 110 = .ok (.iload_n 2, 1) := by decide +kernel
theorem dX3_settle_111 : decode cX3_settle 111 = .ok (.invokevirtual 87, 3) := by decide +kernel
theorem dX3_settle_114 : decode cX3_settle 114 = .ok (.iconst 1, 1) := by decide +kernel
theorem dX3_settle_115 : decode cX3_settle 115 = .ok (.ireturn, 1) := by decide +kernel
theorem dX3_collect_0 : decode cX3_collect 0 = .ok (.iload_n 2, 1) := by decide +kernel
theorem dX3_collect_1 : decode cX3_collect 1 = .ok (.aload_n 0, 1) := by decide +kernel
theorem dX3_collect_2 : decode cX3_collect 2 = .ok (.getfield 12, 3) := by decide +kernel
theorem dX3_collect_5 : decode cX3_collect 5 = .ok (.iload_n 3, 1) := by decide +kernel
theorem dX3_collect_6 : decode cX3_collect 6 = .ok (.invokevirtual 91, 3) := by decide +kernel
theorem dX3_collect_9 : decode cX3_collect 9 = .ok (.invokestatic 144, 3) := by decide +kernel
theorem dX3_collect_12 : decode cX3_collect 12 = .ok (.istore 4, 2) := by decide +kernel
theorem dX3_collect_14 : decode cX3_collect 14 = .ok (.aload_n 0, 1) := by decide +kernel
theorem dX3_collect_15 : decode cX3_collect 15 = .ok (.getfield 12, 3) := by decide +kernel
theorem dX3_collect_18 : decode cX3_collect 18 = .ok (.getfield 79, 3) := by decide +kernel
theorem dX3_collect_21 : decode cX3_collect 21 = .ok (.iload_n 3, 1) := by decide +kernel
theorem dX3_collect_22 : decode cX3_collect 22 = .ok (.dup2, 1) := by decide +kernel
theorem dX3_collect_23 : decode cX3_collect 23 = .ok (.iaload, 1) := by decide +kernel
theorem dX3_collect_24 : decode cX3_collect 24 = .ok (.iload 4, 2) := by decide +kernel
theorem dX3_collect_26 : decode cX3_collect 26 = .ok (.isub, 1) := by decide +kernel
theorem dX3_collect_27 : decode cX3_collect 27 = .ok (.iastore, 1) := by decide +kernel
theorem dX3_collect_28 : decode cX3_collect 28 = .ok (.aload_n 0, 1) := by decide +kernel
theorem dX3_collect_29 : decode cX3_collect 29 = .ok (.dup, 1) := by decide +kernel
theorem dX3_collect_30 : decode cX3_collect 30 = .ok (.getfield 46, 3) := by decide +kernel
theorem dX3_collect_33 : decode cX3_collect 33 = .ok (.iload 4, 2) := by decide +kernel
theorem dX3_collect_35 : decode cX3_collect 35 = .ok (.iadd, 1) := by decide +kernel
theorem dX3_collect_36 : decode cX3_collect 36 = .ok (.putfield 46, 3) := by decide +kernel
theorem dX3_collect_39 : decode cX3_collect 39 = .ok (.aload_n 0, 1) := by decide +kernel
theorem dX3_collect_40 : decode cX3_collect 40 = .ok (.dup, 1) := by decide +kernel
theorem dX3_collect_41 : decode cX3_collect 41 = .ok (.getfield 65, 3) := by decide +kernel
theorem dX3_collect_44 : decode cX3_collect 44 = .ok (.iload 4, 2) := by decide +kernel
theorem dX3_collect_46 : decode cX3_collect 46 = .ok (.i2l, 1) := by decide +kernel
theorem dX3_collect_47 : decode cX3_collect 47 = .ok (.ladd, 1) := by decide +kernel
theorem dX3_collect_48 : decode cX3_collect 48 = .ok (.putfield 65, 3) := by decide +kernel
theorem dX3_collect_51 : decode cX3_collect 51 = .ok (.aload_n 0, 1) := by decide +kernel
theorem dX3_collect_52 : decode cX3_collect 52 = .ok (.getfield 28, 3) := by decide +kernel
theorem dX3_collect_55 : decode cX3_collect 55 = .ok (.iload_n 1, 1) := by decide +kernel
theorem dX3_collect_56 : decode cX3_collect 56 = .ok (.iload 4, 2) := by decide +kernel
theorem dX3_collect_58 : decode cX3_collect 58 = .ok (.iload_n 3, 1) := by decide +kernel
theorem dX3_collect_59 : decode cX3_collect 59 = .ok (.invokevirtual 87, 3) := by decide +kernel
theorem dX3_collect_62 : decode cX3_collect 62 = .ok (.return_, 1) := by decide +kernel
theorem dX3_payInterest_0 : decode cX3_payInterest 0 = .ok (.iconst 0, 1) := by decide +kernel
theorem dX3_payInterest_1 : decode cX3_payInterest 1 = .ok (.istore_n 1, 1) := by decide +kernel
theorem dX3_payInterest_2 : decode cX3_payInterest 2 = .ok (.iload_n 1, 1) := by decide +kernel
theorem dX3_payInterest_3 : decode cX3_payInterest 3 = .ok (.aload_n 0, 1) := by decide +kernel
theorem dX3_payInterest_4 : decode cX3_payInterest 4 = .ok (.getfield 12, 3) := by decide +kernel
theorem dX3_payInterest_7 : decode cX3_payInterest 7 = .ok (.getfield 72, 3) := by decide +kernel
theorem dX3_payInterest_10 : decode cX3_payInterest 10 = .ok (.if_icmp .ge 79, 3) := by decide +kernel
theorem dX3_payInterest_13 : decode cX3_payInterest 13 = .ok (.aload_n 0, 1) := by decide +kernel
theorem dX3_payInterest_14 : decode cX3_payInterest 14 = .ok (.getfield 12, 3) := by decide +kernel
theorem dX3_payInterest_17 : decode cX3_payInterest 17 = .ok (.iload_n 1, 1) := by decide +kernel
theorem dX3_payInterest_18 : decode cX3_payInterest 18 = .ok (.invokevirtual 150, 3) := by decide +kernel
theorem dX3_payInterest_21 : decode cX3_payInterest 21 = .ok (.istore_n 2, 1) := by decide +kernel
theorem dX3_payInterest_22 : decode cX3_payInterest 22 = .ok (.iload_n 2, 1) := by decide +kernel
theorem dX3_payInterest_23 : decode cX3_payInterest 23 = .ok (.ifCond .ge 15, 3) := by decide +kernel
theorem dX3_payInterest_26 : decode cX3_payInterest 26 = .ok (.aload_n 0, 1) := by decide +kernel
theorem dX3_payInterest_27 : decode cX3_payInterest 27 = .ok (.bipush 99, 2) := by decide +kernel
theorem dX3_payInterest_29 : decode cX3_payInterest 29 = .ok (.iload_n 2, 1) := by decide +kernel
theorem dX3_payInterest_30 : decode cX3_payInterest 30 = .ok (.ineg, 1) := by decide +kernel
theorem dX3_payInterest_31 : decode cX3_payInterest 31 = .ok (.iload_n 1, 1) := by decide +kernel
theorem dX3_payInterest_32 : decode cX3_payInterest 32 = .ok (.invokevirtual 138, 3) := by decide +kernel
theorem dX3_payInterest_35 : decode cX3_payInterest 35 = .ok (.goto 48, 3) := by decide +kernel
theorem dX3_payInterest_38 : decode cX3_payInterest 38 = .ok (.aload_n 0, 1) := by decide +kernel
theorem dX3_payInterest_39 : decode cX3_payInterest 39 = .ok (.getfield 12, 3) := by decide +kernel
theorem dX3_payInterest_42 : decode cX3_payInterest 42 = .ok (.getfield 79, 3) := by decide +kernel
theorem dX3_payInterest_45 : decode cX3_payInterest 45 = .ok (.iload_n 1, 1) := by decide +kernel
theorem dX3_payInterest_46 : decode cX3_payInterest 46 = .ok (.dup2, 1) := by decide +kernel
theorem dX3_payInterest_47 : decode cX3_payInterest 47 = .ok (.iaload, 1) := by decide +kernel
theorem dX3_payInterest_48 : decode cX3_payInterest 48 = .ok (.iload_n 2, 1) := by decide +kernel
theorem dX3_payInterest_49 : decode cX3_payInterest 49 = .ok (.iadd, 1) := by decide +kernel
theorem dX3_payInterest_50 : decode cX3_payInterest 50 = .ok (.iastore, 1) := by decide +kernel
theorem dX3_payInterest_51 : decode cX3_payInterest 51 = .ok (.aload_n 0, 1) := by decide +kernel
theorem dX3_payInterest_52 : decode cX3_payInterest 52 = .ok (.dup, 1) := by decide +kernel
theorem dX3_payInterest_53 : decode cX3_payInterest 53 = .ok (.getfield 46, 3) := by decide +kernel
theorem dX3_payInterest_56 : decode cX3_payInterest 56 = .ok (.iload_n 2, 1) := by decide +kernel
theorem dX3_payInterest_57 : decode cX3_payInterest 57 = .ok (.isub, 1) := by decide +kernel
theorem dX3_payInterest_58 : decode cX3_payInterest 58 = .ok (.putfield 46, 3) := by decide +kernel
theorem dX3_payInterest_61 : decode cX3_payInterest 61 = .ok (.aload_n 0, 1) := by decide +kernel
theorem dX3_payInterest_62 : decode cX3_payInterest 62 = .ok (.dup, 1) := by decide +kernel
theorem dX3_payInterest_63 : decode cX3_payInterest 63 = .ok (.getfield 62, 3) := by decide +kernel
theorem dX3_payInterest_66 : decode cX3_payInterest 66 = .ok (.iload_n 2, 1) := by decide +kernel
theorem dX3_payInterest_67 : decode cX3_payInterest 67 = .ok (.i2l, 1) := by decide +kernel
theorem dX3_payInterest_68 : decode cX3_payInterest 68 = .ok (.ladd, 1) := by decide +kernel
theorem dX3_payInterest_69 : decode cX3_payInterest 69 = .ok (.putfield 62, 3) := by decide +kernel
theorem dX3_payInterest_72 : decode cX3_payInterest 72 = .ok (.aload_n 0, 1) := by decide +kernel
theorem dX3_payInterest_73 : decode cX3_payInterest 73 = .ok (.getfield 28, 3) := by decide +kernel
theorem dX3_payInterest_76 : decode cX3_payInterest 76 = .ok (.bipush 105, 2) := by decide +kernel
theorem dX3_payInterest_78 : decode cX3_payInterest 78 = .ok (.iload_n 2, 1) := by decide +kernel
theorem dX3_payInterest_79 : decode cX3_payInterest 79 = .ok (.iload_n 1, 1) := by decide +kernel
theorem dX3_payInterest_80 : decode cX3_payInterest 80 = .ok (.invokevirtual 87, 3) := by decide +kernel
theorem dX3_payInterest_83 : decode cX3_payInterest 83 = .ok (.iinc 1 1, 3) := by decide +kernel
theorem dX3_payInterest_86 : decode cX3_payInterest 86 = .ok (.goto (-84), 3) := by decide +kernel
theorem dX3_payInterest_89 : decode cX3_payInterest 89 = .ok (.return_, 1) := by decide +kernel
theorem dX3_obey_0 : decode cX3_obey 0 = .ok (.aload_n 0, 1) := by decide +kernel
theorem dX3_obey_1 : decode cX3_obey 1 = .ok (.iload_n 1, 1) := by decide +kernel
theorem dX3_obey_2 : decode cX3_obey 2 = .ok (.aload_n 2, 1) := by decide +kernel
theorem dX3_obey_3 : decode cX3_obey 3 = .ok (.invokevirtual 152, 3) := by decide +kernel
theorem dX3_obey_6 : decode cX3_obey 6 = .ok (.istore_n 3, 1) := by decide +kernel
theorem dX3_obey_7 : decode cX3_obey 7 = .ok (.iload_n 3, 1) := by decide +kernel
theorem dX3_obey_8 : decode cX3_obey 8 = .ok (.ifCond .eq 5, 3) := by decide +kernel
theorem dX3_obey_11 : decode cX3_obey 11 = .ok (.iload_n 3, 1) := by decide +kernel
theorem dX3_obey_12 : decode cX3_obey 12 = .ok (.ireturn, 1) := by decide +kernel
theorem dX3_obey_13 : decode cX3_obey 13 = .ok (.iload_n 1, 1) := by decide +kernel
theorem dX3_obey_14 : decode cX3_obey 14 = .ok (.tableswitch 121 0 4 #[34, 48, 62, 79, 107], 34) := by decide +kernel
theorem dX3_obey_48 : decode cX3_obey 48 = .ok (.aload_n 0, 1) := by decide +kernel
theorem dX3_obey_49 : decode cX3_obey 49 = .ok (.aload_n 2, 1) := by decide +kernel
theorem dX3_obey_50 : decode cX3_obey 50 = .ok (.iconst 0, 1) := by decide +kernel
theorem dX3_obey_51 : decode cX3_obey 51 = .ok (.iaload, 1) := by decide +kernel
theorem dX3_obey_52 : decode cX3_obey 52 = .ok (.aload_n 2, 1) := by decide +kernel
theorem dX3_obey_53 : decode cX3_obey 53 = .ok (.iconst 1, 1) := by decide +kernel
theorem dX3_obey_54 : decode cX3_obey 54 = .ok (.iaload, 1) := by decide +kernel
theorem dX3_obey_55 : decode cX3_obey 55 = .ok (.invokevirtual 156, 3) := by decide +kernel
theorem dX3_obey_58 : decode cX3_obey 58 = .ok (.pop, 1) := by decide +kernel
theorem dX3_obey_59 : decode cX3_obey 59 = .ok (.goto 84, 3) := by decide +kernel
theorem dX3_obey_62 : decode cX3_obey 62 = .ok (.aload_n 0, 1) := by decide +kernel
theorem dX3_obey_63 : decode cX3_obey 63 = .ok (.aload_n 2, 1) := by decide +kernel
theorem dX3_obey_64 : decode cX3_obey 64 = .ok (.iconst 0, 1) := by decide +kernel
theorem dX3_obey_65 : decode cX3_obey 65 = .ok (.iaload, 1) := by decide +kernel
theorem dX3_obey_66 : decode cX3_obey 66 = .ok (.aload_n 2, 1) := by decide +kernel
theorem dX3_obey_67 : decode cX3_obey 67 = .ok (.iconst 1, 1) := by decide +kernel
theorem dX3_obey_68 : decode cX3_obey 68 = .ok (.iaload, 1) := by decide +kernel
theorem dX3_obey_69 : decode cX3_obey 69 = .ok (.invokevirtual 159, 3) := by decide +kernel
theorem dX3_obey_72 : decode cX3_obey 72 = .ok (.pop, 1) := by decide +kernel
theorem dX3_obey_73 : decode cX3_obey 73 = .ok (.goto 70, 3) := by decide +kernel
theorem dX3_obey_76 : decode cX3_obey 76 = .ok (.aload_n 0, 1) := by decide +kernel
theorem dX3_obey_77 : decode cX3_obey 77 = .ok (.getfield 12, 3) := by decide +kernel
theorem dX3_obey_80 : decode cX3_obey 80 = .ok (.aload_n 2, 1) := by decide +kernel
theorem dX3_obey_81 : decode cX3_obey 81 = .ok (.iconst 0, 1) := by decide +kernel
theorem dX3_obey_82 : decode cX3_obey 82 = .ok (.iaload, 1) := by decide +kernel
theorem dX3_obey_83 : decode cX3_obey 83 = .ok (.aload_n 2, 1) := by decide +kernel
theorem dX3_obey_84 : decode cX3_obey 84 = .ok (.iconst 1, 1) := by decide +kernel
theorem dX3_obey_85 : decode cX3_obey 85 = .ok (.iaload, 1) := by decide +kernel
theorem dX3_obey_86 : decode cX3_obey 86 = .ok (.invokevirtual 162, 3) := by decide +kernel
theorem dX3_obey_89 : decode cX3_obey 89 = .ok (.pop, 1) := by decide +kernel
theorem dX3_obey_90 : decode cX3_obey 90 = .ok (.goto 53, 3) := by decide +kernel
theorem dX3_obey_93 : decode cX3_obey 93 = .ok (.aload_n 0, 1) := by decide +kernel
theorem dX3_obey_94 : decode cX3_obey 94 = .ok (.getfield 21, 3) := by decide +kernel
theorem dX3_obey_97 : decode cX3_obey 97 = .ok (.aload_n 2, 1) := by decide +kernel
theorem dX3_obey_98 : decode cX3_obey 98 = .ok (.iconst 0, 1) := by decide +kernel
theorem dX3_obey_99 : decode cX3_obey 99 = .ok (.iaload, 1) := by decide +kernel
theorem dX3_obey_100 : decode cX3_obey 100 = .ok (.aload_n 2, 1) := by decide +kernel
theorem dX3_obey_101 : decode cX3_obey 101 = .ok (.iconst 1, 1) := by decide +kernel
theorem dX3_obey_102 : decode cX3_obey 102 = .ok (.iaload, 1) := by decide +kernel
theorem dX3_obey_103 : decode cX3_obey 103 = .ok (.aload_n 2, 1) := by decide +kernel
theorem dX3_obey_104 : decode cX3_obey 104 = .ok (.iconst 2, 1) := by decide +kernel
theorem dX3_obey_105 : decode cX3_obey 105 = .ok (.iaload, 1) := by decide +kernel
theorem dX3_obey_106 : decode cX3_obey 106 = .ok (.aload_n 0, 1) := by decide +kernel
theorem dX3_obey_107 : decode cX3_obey 107 = .ok (.getfield 42, 3) := by decide +kernel
theorem dX3_obey_110 : decode cX3_obey 110 = .ok (.aload_n 2, 1) := by decide +kernel
theorem dX3_obey_111 : decode cX3_obey 111 = .ok (.iconst 3, 1) := by decide +kernel
theorem dX3_obey_112 : decode cX3_obey 112 = .ok (.iaload, 1) := by decide +kernel
theorem dX3_obey_113 : decode cX3_obey 113 = .ok (.iadd, 1) := by decide +kernel
theorem dX3_obey_114 : decode cX3_obey 114 = .ok (.invokevirtual 165, 3) := by decide +kernel
theorem dX3_obey_117 : decode cX3_obey 117 = .ok (.pop, 1) := by decide +kernel
theorem dX3_obey_118 : decode cX3_obey 118 = .ok (.goto 25, 3) := by decide +kernel
theorem dX3_obey_121 : decode cX3_obey 121 = .ok (.aload_n 0, 1) := by decide +kernel
theorem dX3_obey_122 : decode cX3_obey 122 = .ok (.getfield 21, 3) := by decide +kernel
theorem dX3_obey_125 : decode cX3_obey 125 = .ok (.aload_n 2, 1) := by decide +kernel
theorem dX3_obey_126 : decode cX3_obey 126 = .ok (.iconst 0, 1) := by decide +kernel
theorem dX3_obey_127 : decode cX3_obey 127 = .ok (.iaload, 1) := by decide +kernel
theorem dX3_obey_128 : decode cX3_obey 128 = .ok (.invokevirtual 167, 3) := by decide +kernel
theorem dX3_obey_131 : decode cX3_obey 131 = .ok (.pop, 1) := by decide +kernel
theorem dX3_obey_132 : decode cX3_obey 132 = .ok (.goto 11, 3) := by decide +kernel
theorem dX3_obey_135 : decode cX3_obey 135 = .ok (.aload_n 0, 1) := by decide +kernel
theorem dX3_obey_136 : decode cX3_obey 136 = .ok (.aload_n 2, 1) := by decide +kernel
theorem dX3_obey_137 : decode cX3_obey 137 = .ok (.iconst 0, 1) := by decide +kernel
theorem dX3_obey_138 : decode cX3_obey 138 = .ok (.iaload, 1) := by decide +kernel
theorem dX3_obey_139 : decode cX3_obey 139 = .ok (.invokevirtual 170, 3) := by decide +kernel
theorem dX3_obey_142 : decode cX3_obey 142 = .ok (.pop, 1) := by decide +kernel
theorem dX3_obey_143 : decode cX3_obey 143 = .ok (.iconst 0, 1) := by decide +kernel
theorem dX3_obey_144 : decode cX3_obey 144 = .ok (.ireturn, 1) := by decide +kernel
theorem dX3_faultOf_0 : decode cX3_faultOf 0 = .ok (.iload_n 1, 1) := by decide +kernel
theorem dX3_faultOf_1 : decode cX3_faultOf 1 = .ok (.tableswitch 93 0 4 #[35, 46, 57, 68, 85], 35) := by decide +kernel
theorem dX3_faultOf_36 : decode cX3_faultOf 36 = .ok (.aload_n 0, 1) := by decide +kernel
theorem dX3_faultOf_37 : decode cX3_faultOf 37 = .ok (.aload_n 2, 1) := by decide +kernel
theorem dX3_faultOf_38 : decode cX3_faultOf 38 = .ok (.iconst 0, 1) := by decide +kernel
theorem dX3_faultOf_39 : decode cX3_faultOf 39 = .ok (.iaload, 1) := by decide +kernel
theorem dX3_faultOf_40 : decode cX3_faultOf 40 = .ok (.aload_n 2, 1) := by decide +kernel
theorem dX3_faultOf_41 : decode cX3_faultOf 41 = .ok (.iconst 1, 1) := by decide +kernel
theorem dX3_faultOf_42 : decode cX3_faultOf 42 = .ok (.iaload, 1) := by decide +kernel
theorem dX3_faultOf_43 : decode cX3_faultOf 43 = .ok (.invokevirtual 173, 3) := by decide +kernel
theorem dX3_faultOf_46 : decode cX3_faultOf 46 = .ok (.ireturn, 1) := by decide +kernel
theorem dX3_faultOf_47 : decode cX3_faultOf 47 = .ok (.aload_n 0, 1) := by decide +kernel
theorem dX3_faultOf_48 : decode cX3_faultOf 48 = .ok (.aload_n 2, 1) := by decide +kernel
theorem dX3_faultOf_49 : decode cX3_faultOf 49 = .ok (.iconst 0, 1) := by decide +kernel
theorem dX3_faultOf_50 : decode cX3_faultOf 50 = .ok (.iaload, 1) := by decide +kernel
theorem dX3_faultOf_51 : decode cX3_faultOf 51 = .ok (.aload_n 2, 1) := by decide +kernel
theorem dX3_faultOf_52 : decode cX3_faultOf 52 = .ok (.iconst 1, 1) := by decide +kernel
theorem dX3_faultOf_53 : decode cX3_faultOf 53 = .ok (.iaload, 1) := by decide +kernel
theorem dX3_faultOf_54 : decode cX3_faultOf 54 = .ok (.invokevirtual 176, 3) := by decide +kernel
theorem dX3_faultOf_57 : decode cX3_faultOf 57 = .ok (.ireturn, 1) := by decide +kernel
theorem dX3_faultOf_58 : decode cX3_faultOf 58 = .ok (.aload_n 0, 1) := by decide +kernel
theorem dX3_faultOf_59 : decode cX3_faultOf 59 = .ok (.aload_n 2, 1) := by decide +kernel
theorem dX3_faultOf_60 : decode cX3_faultOf 60 = .ok (.iconst 0, 1) := by decide +kernel
theorem dX3_faultOf_61 : decode cX3_faultOf 61 = .ok (.iaload, 1) := by decide +kernel
theorem dX3_faultOf_62 : decode cX3_faultOf 62 = .ok (.aload_n 2, 1) := by decide +kernel
theorem dX3_faultOf_63 : decode cX3_faultOf 63 = .ok (.iconst 1, 1) := by decide +kernel
theorem dX3_faultOf_64 : decode cX3_faultOf 64 = .ok (.iaload, 1) := by decide +kernel
theorem dX3_faultOf_65 : decode cX3_faultOf 65 = .ok (.invokevirtual 179, 3) := by decide +kernel
theorem dX3_faultOf_68 : decode cX3_faultOf 68 = .ok (.ireturn, 1) := by decide +kernel
theorem dX3_faultOf_69 : decode cX3_faultOf 69 = .ok (.aload_n 0, 1) := by decide +kernel
theorem dX3_faultOf_70 : decode cX3_faultOf 70 = .ok (.aload_n 2, 1) := by decide +kernel
theorem dX3_faultOf_71 : decode cX3_faultOf 71 = .ok (.iconst 0, 1) := by decide +kernel
theorem dX3_faultOf_72 : decode cX3_faultOf 72 = .ok (.iaload, 1) := by decide +kernel
theorem dX3_faultOf_73 : decode cX3_faultOf 73 = .ok (.aload_n 2, 1) := by decide +kernel
theorem dX3_faultOf_74 : decode cX3_faultOf 74 = .ok (.iconst 1, 1) := by decide +kernel
theorem dX3_faultOf_75 : decode cX3_faultOf 75 = .ok (.iaload, 1) := by decide +kernel
theorem dX3_faultOf_76 : decode cX3_faultOf 76 = .ok (.aload_n 2, 1) := by decide +kernel
theorem dX3_faultOf_77 : decode cX3_faultOf 77 = .ok (.iconst 2, 1) := by decide +kernel
theorem dX3_faultOf_78 : decode cX3_faultOf 78 = .ok (.iaload, 1) := by decide +kernel
theorem dX3_faultOf_79 : decode cX3_faultOf 79 = .ok (.aload_n 2, 1) := by decide +kernel
theorem dX3_faultOf_80 : decode cX3_faultOf 80 = .ok (.iconst 3, 1) := by decide +kernel
theorem dX3_faultOf_81 : decode cX3_faultOf 81 = .ok (.iaload, 1) := by decide +kernel
theorem dX3_faultOf_82 : decode cX3_faultOf 82 = .ok (.invokevirtual 182, 3) := by decide +kernel
theorem dX3_faultOf_85 : decode cX3_faultOf 85 = .ok (.ireturn, 1) := by decide +kernel
theorem dX3_faultOf_86 : decode cX3_faultOf 86 = .ok (.aload_n 0, 1) := by decide +kernel
theorem dX3_faultOf_87 : decode cX3_faultOf 87 = .ok (.aload_n 2, 1) := by decide +kernel
theorem dX3_faultOf_88 : decode cX3_faultOf 88 = .ok (.iconst 0, 1) := by decide +kernel
theorem dX3_faultOf_89 : decode cX3_faultOf 89 = .ok (.iaload, 1) := by decide +kernel
theorem dX3_faultOf_90 : decode cX3_faultOf 90 = .ok (.invokevirtual 185, 3) := by decide +kernel
theorem dX3_faultOf_93 : decode cX3_faultOf 93 = .ok (.ireturn, 1) := by decide +kernel
theorem dX3_faultOf_94 : decode cX3_faultOf 94 = .ok (.aload_n 0, 1) := by decide +kernel
theorem dX3_faultOf_95 : decode cX3_faultOf 95 = .ok (.aload_n 2, 1) := by decide +kernel
theorem dX3_faultOf_96 : decode cX3_faultOf 96 = .ok (.iconst 0, 1) := by decide +kernel
theorem dX3_faultOf_97 : decode cX3_faultOf 97 = .ok (.iaload, 1) := by decide +kernel
theorem dX3_faultOf_98 : decode cX3_faultOf 98 = .ok (.invokevirtual 188, 3) := by decide +kernel
theorem dX3_faultOf_101 : decode cX3_faultOf 101 = .ok (.ireturn, 1) := by decide +kernel
theorem dX4_init_0 : decode cX4_init 0 = .ok (.aload_n 0, 1) := by decide +kernel
theorem dX4_init_1 : decode cX4_init 1 = .ok (.invokespecial 3, 3) := by decide +kernel
theorem dX4_init_4 : decode cX4_init 4 = .ok (.aload_n 0, 1) := by decide +kernel
theorem dX4_init_5 : decode cX4_init 5 = .ok (.bipush 60, 2) := by decide +kernel
theorem dX4_init_7 : decode cX4_init 7 = .ok (.newarray .char, 2) := by decide +kernel
theorem dX4_init_9 : decode cX4_init 9 = .ok (.putfield 9, 3) := by decide +kernel
theorem dX4_init_12 : decode cX4_init 12 = .ok (.aload_n 0, 1) := by decide +kernel
theorem dX4_init_13 : decode cX4_init 13 = .ok (.iconst 4, 1) := by decide +kernel
theorem dX4_init_14 : decode cX4_init 14 = .ok (.newarray .int, 2) := by decide +kernel
theorem dX4_init_16 : decode cX4_init 16 = .ok (.putfield 15, 3) := by decide +kernel
theorem dX4_init_19 : decode cX4_init 19 = .ok (.return_, 1) := by decide +kernel
theorem dX4_countCommands_0 : decode cX4_countCommands 0 = .ok (.aload_n 0, 1) := by decide +kernel
theorem dX4_countCommands_1 : decode cX4_countCommands 1 = .ok (.iconst 0, 1) := by decide +kernel
theorem dX4_countCommands_2 : decode cX4_countCommands 2 = .ok (.putfield 23, 3) := by decide +kernel
theorem dX4_countCommands_5 : decode cX4_countCommands 5 = .ok (.iconst 0, 1) := by decide +kernel
theorem dX4_countCommands_6 : decode cX4_countCommands 6 = .ok (.istore_n 1, 1) := by decide +kernel
theorem dX4_countCommands_7 : decode cX4_countCommands 7 = .ok (.iload_n 1, 1) := by decide +kernel
theorem dX4_countCommands_8 : decode cX4_countCommands 8 = .ok (.bipush 60, 2) := by decide +kernel
theorem dX4_countCommands_10 : decode cX4_countCommands 10 = .ok (.if_icmp .gt 39, 3) := by decide +kernel
theorem dX4_countCommands_13 : decode cX4_countCommands 13 = .ok (.aload_n 0, 1) := by decide +kernel
theorem dX4_countCommands_14 : decode cX4_countCommands 14 = .ok (.invokevirtual 26, 3) := by decide +kernel
theorem dX4_countCommands_17 : decode cX4_countCommands 17 = .ok (.ifCond .ne 5, 3) := by decide +kernel
theorem dX4_countCommands_20 : decode cX4_countCommands 20 = .ok (.iconst (-1), 1) := by decide +kernel
theorem dX4_countCommands_21 : decode cX4_countCommands 21 = .ok (.ireturn, 1) := by decide +kernel
theorem dX4_countCommands_22 : decode cX4_countCommands 22 = .ok (.iinc 1 1, 3) := by decide +kernel
theorem dX4_countCommands_25 : decode cX4_countCommands 25 = .ok (.aload_n 0, 1) := by decide +kernel
theorem dX4_countCommands_26 : decode cX4_countCommands 26 = .ok (.getfield 23, 3) := by decide +kernel
theorem dX4_countCommands_29 : decode cX4_countCommands 29 = .ok (.aload_n 0, 1) := by decide +kernel
theorem dX4_countCommands_30 : decode cX4_countCommands 30 = .ok (.getfield 19, 3) := by decide +kernel
theorem dX4_countCommands_33 : decode cX4_countCommands 33 = .ok (.if_icmp .lt 5, 3) := by decide +kernel
theorem dX4_countCommands_36 : decode cX4_countCommands 36 = .ok (.iload_n 1, 1) := by decide +kernel
theorem dX4_countCommands_37 : decode cX4_countCommands 37 = .ok (.ireturn, 1) := by decide +kernel
theorem dX4_countCommands_38 : decode cX4_countCommands 38 = .ok (.aload_n 0, 1) := by decide +kernel
theorem dX4_countCommands_39 : decode cX4_countCommands 39 = .ok (.bipush 59, 2) := by decide +kernel
theorem dX4_countCommands_41 : decode cX4_countCommands 41 = .ok (.invokevirtual 30, 3) := by decide +kernel
theorem dX4_countCommands_44 : decode cX4_countCommands 44 = .ok (.ifCond .ne (-37), 3) := by decide +kernel
theorem dX4_countCommands_47 : decode cX4_countCommands 47 = .ok (.iconst (-1), 1) := by decide +kernel
theorem dX4_countCommands_48 : decode cX4_countCommands 48 = .ok (.ireturn, 1) := by decide +kernel
theorem dX4_countCommands_49 : decode cX4_countCommands 49 = .ok (.iconst (-1), 1) := by decide +kernel
theorem dX4_countCommands_50 : decode cX4_countCommands 50 = .ok (.ireturn, 1) := by decide +kernel
theorem dX4_readCommand_0 : decode cX4_readCommand 0 = .ok (.aload_n 0, 1) := by decide +kernel
theorem dX4_readCommand_1 : decode cX4_readCommand 1 = .ok (.aload_n 0, 1) := by decide +kernel
theorem dX4_readCommand_2 : decode cX4_readCommand 2 = .ok (.getfield 23, 3) := by decide +kernel
theorem dX4_readCommand_5 : decode cX4_readCommand 5 = .ok (.aload_n 0, 1) := by decide +kernel
theorem dX4_readCommand_6 : decode cX4_readCommand 6 = .ok (.getfield 19, 3) := by decide +kernel
theorem dX4_readCommand_9 : decode cX4_readCommand 9 = .ok (.if_icmp .ge 20, 3) := by decide +kernel
theorem dX4_readCommand_12 : decode cX4_readCommand 12 = .ok (.ldc 34, 2) := by decide +kernel
theorem dX4_readCommand_14 : decode cX4_readCommand 14 = .ok (.aload_n 0, 1) := by decide +kernel
theorem dX4_readCommand_15 : decode cX4_readCommand 15 = .ok (.getfield 9, 3) := by decide +kernel
theorem dX4_readCommand_18 : decode cX4_readCommand 18 = .ok (.aload_n 0, 1) := by decide +kernel
theorem dX4_readCommand_19 : decode cX4_readCommand 19 = .ok (.getfield 23, 3) := by decide +kernel
theorem dX4_readCommand_22 : decode cX4_readCommand 22 = .ok (.caload, 1) := by decide +kernel
theorem dX4_readCommand_23 : decode cX4_readCommand 23 = .ok (.invokevirtual 36, 3) := by decide +kernel
theorem dX4_readCommand_26 : decode cX4_readCommand 26 = .ok (.goto 4, 3) := by decide +kernel
theorem dX4_readCommand_29 : decode cX4_readCommand 29 = .ok (.iconst (-1), 1) := by decide +kernel
theorem dX4_readCommand_30 : decode cX4_readCommand 30 = .ok (.putfield 42, 3) := by decide +kernel
theorem dX4_readCommand_33 : decode cX4_readCommand 33 = .ok (.aload_n 0, 1) := by decide +kernel
theorem dX4_readCommand_34 : decode cX4_readCommand 34 = .ok (.getfield 42, 3) := by decide +kernel
theorem dX4_readCommand_37 : decode cX4_readCommand 37 = .ok (.invokestatic 45, 3) := by decide +kernel
theorem dX4_readCommand_40 : decode cX4_readCommand 40 = .ok (.astore_n 1, 1) := by decide +kernel
theorem dX4_readCommand_41 : decode cX4_readCommand 41 = .ok (.iconst 0, 1) := by decide +kernel
theorem dX4_readCommand_42 : decode cX4_readCommand 42 = .ok (.istore_n 2, 1) := by decide +kernel
theorem dX4_readCommand_43 : decode cX4_readCommand 43 = .ok (.iconst 0, 1) := by decide +kernel
theorem dX4_readCommand_44 : decode cX4_readCommand 44 = .ok (.istore_n 3, 1) := by decide +kernel
theorem dX4_readCommand_45 : decode cX4_readCommand 45 = .ok (.iload_n 3, 1) := by decide +kernel
theorem dX4_readCommand_46 : decode cX4_readCommand 46 = .ok (.aload_n 1, 1) := by decide +kernel
theorem dX4_readCommand_47 : decode cX4_readCommand 47 = .ok (.invokevirtual 49, 3) := by decide +kernel
theorem dX4_readCommand_50 : decode cX4_readCommand 50 = .ok (.if_icmp .ge 82, 3) := by decide +kernel
theorem dX4_readCommand_53 : decode cX4_readCommand 53 = .ok (.aload_n 1, 1) := by decide +kernel
theorem dX4_readCommand_54 : decode cX4_readCommand 54 = .ok (.iload_n 3, 1) := by decide +kernel
theorem dX4_readCommand_55 : decode cX4_readCommand 55 = .ok (.invokevirtual 52, 3) := by decide +kernel
theorem dX4_readCommand_58 : decode cX4_readCommand 58 = .ok (.istore 4, 2) := by decide +kernel
theorem dX4_readCommand_60 : decode cX4_readCommand 60 = .ok (.iload 4, 2) := by decide +kernel
theorem dX4_readCommand_62 : decode cX4_readCommand 62 = .ok (.bipush 68, 2) := by decide +kernel
theorem dX4_readCommand_64 : decode cX4_readCommand 64 = .ok (.if_icmp .eq 21, 3) := by decide +kernel
theorem dX4_readCommand_67 : decode cX4_readCommand 67 = .ok (.iload 4, 2) := by decide +kernel
theorem dX4_readCommand_69 : decode cX4_readCommand 69 = .ok (.bipush 78, 2) := by decide +kernel
theorem dX4_readCommand_71 : decode cX4_readCommand 71 = .ok (.if_icmp .eq 14, 3) := by decide +kernel
theorem dX4_readCommand_74 : decode cX4_readCommand 74 = .ok (.aload_n 0, 1) := by decide +kernel
theorem dX4_readCommand_75 : decode cX4_readCommand 75 = .ok (.iload 4, 2) := by decide +kernel
theorem dX4_readCommand_77 : decode cX4_readCommand 77 = .ok (.invokevirtual 30, 3) := by decide +kernel
theorem dX4_readCommand_80 : decode cX4_readCommand 80 = .ok (.ifCond .ne 46, 3) := by decide +kernel
theorem dX4_readCommand_83 : decode cX4_readCommand 83 = .ok (.iconst 0, 1) := by decide +kernel
theorem dX4_readCommand_84 : decode cX4_readCommand 84 = .ok (.ireturn, 1) := by decide +kernel
theorem dX4_readCommand_85 : decode cX4_readCommand 85 = .ok (.aload_n 0, 1) := by decide +kernel
theorem dX4_readCommand_86 : decode cX4_readCommand 86 = .ok (.iload 4, 2) := by decide +kernel
theorem dX4_readCommand_88 : decode cX4_readCommand 88 = .ok (.bipush 68, 2) := by decide +kernel
theorem dX4_readCommand_90 : decode cX4_readCommand 90 = .ok (.if_icmp .ne 7, 3) := by decide +kernel
theorem dX4_readCommand_93 : decode cX4_readCommand 93 = .ok (.iconst 1, 1) := by decide +kernel
theorem dX4_readCommand_94 : decode cX4_readCommand 94 = .ok (.goto 4, 3) := by decide +kernel
theorem dX4_readCommand_97 : decode cX4_readCommand 97 = .ok (.iconst 3, 1) := by decide +kernel
theorem dX4_readCommand_98 : decode cX4_readCommand 98 = .ok (.invokevirtual 56, 3) := by decide +kernel
theorem dX4_readCommand_101 : decode cX4_readCommand 101 = .ok (.istore 5, 2) := by decide +kernel
theorem dX4_readCommand_103 : decode cX4_readCommand 103 = .ok (.iload 5, 2) := by decide +kernel
theorem dX4_readCommand_105 : decode cX4_readCommand 105 = .ok (.ifCond .lt 8, 3) := by decide +kernel
theorem dX4_readCommand_108 : decode cX4_readCommand 108 = .ok (.iload_n 2, 1) := by decide +kernel
theorem dX4_readCommand_109 : decode cX4_readCommand 109 = .ok (.iconst 4, 1) := by decide +kernel
theorem dX4_readCommand_110 : decode cX4_readCommand 110 = .ok (.if_icmp .lt 5, 3) := by decide +kernel
theorem dX4_readCommand_113 : decode cX4_readCommand 113 = .ok (.iconst 0, 1) := by decide +kernel
theorem dX4_readCommand_114 : decode cX4_readCommand 114 = .ok (.ireturn, 1) := by decide +kernel
theorem dX4_readCommand_115 : decode cX4_readCommand 115 = .ok (.aload_n 0, 1) := by decide +kernel
theorem dX4_readCommand_116 : decode cX4_readCommand 116 = .ok (.getfield 15, 3) := by decide +kernel
theorem dX4_readCommand_119 : decode cX4_readCommand 119 = .ok (.iload_n 2, 1) := by decide +kernel
theorem dX4_readCommand_120 : decode cX4_readCommand 120 = .ok (.iload 5, 2) := by decide +kernel
theorem dX4_readCommand_122 : decode cX4_readCommand 122 = .ok (.iastore, 1) := by decide +kernel
theorem dX4_readCommand_123 : decode cX4_readCommand 123 = .ok (.iinc 2 1, 3) := by decide +kernel
theorem dX4_readCommand_126 : decode cX4_readCommand 126 = .ok (.iinc 3 1, 3) := by decide +kernel
theorem dX4_readCommand_129 : decode cX4_readCommand 129 = .ok (.goto (-84), 3) := by decide +kernel
theorem dX4_readCommand_132 : decode cX4_readCommand 132 = .ok (.aload_n 1, 1) := by decide +kernel
theorem dX4_readCommand_133 : decode cX4_readCommand 133 = .ok (.invokevirtual 59, 3) := by decide +kernel
theorem dX4_readCommand_136 : decode cX4_readCommand 136 = .ok (.ifCond .ne 7, 3) := by decide +kernel
theorem dX4_readCommand_139 : decode cX4_readCommand 139 = .ok (.iconst 1, 1) := by decide +kernel
theorem dX4_readCommand_140 : decode cX4_readCommand 140 = .ok (.goto 4, 3) := by decide +kernel
theorem dX4_readCommand_143 : decode cX4_readCommand 143 = .ok (.iconst 0, 1) := by decide +kernel
theorem dX4_readCommand_144 : decode cX4_readCommand 144 = .ok (.ireturn, 1) := by decide +kernel
theorem dX4_formOf_0 : decode cX4_formOf 0 = .ok (.iload_n 0, 1) := by decide +kernel
theorem dX4_formOf_1 : decode cX4_formOf 1 = .ok (.tableswitch 57 0 5 #[39, 42, 45, 48, 51, 54], 39) := by decide +kernel
theorem dX4_formOf_40 : decode cX4_formOf 40 = .ok (.ldc 62, 2) := by decide +kernel
theorem dX4_formOf_42 : decode cX4_formOf 42 = .ok (.areturn, 1) := by decide +kernel
theorem dX4_formOf_43 : decode cX4_formOf 43 = .ok (.ldc 64, 2) := by decide +kernel
theorem dX4_formOf_45 : decode cX4_formOf 45 = .ok (.areturn, 1) := by decide +kernel
theorem dX4_formOf_46 : decode cX4_formOf 46 = .ok (.ldc 66, 2) := by decide +kernel
theorem dX4_formOf_48 : decode cX4_formOf 48 = .ok (.areturn, 1) := by decide +kernel
theorem dX4_formOf_49 : decode cX4_formOf 49 = .ok (.ldc 68, 2) := by decide +kernel
theorem dX4_formOf_51 : decode cX4_formOf 51 = .ok (.areturn, 1) := by decide +kernel
theorem dX4_formOf_52 : decode cX4_formOf 52 = .ok (.ldc 70, 2) := by decide +kernel
theorem dX4_formOf_54 : decode cX4_formOf 54 = .ok (.areturn, 1) := by decide +kernel
theorem dX4_formOf_55 : decode cX4_formOf 55 = .ok (.ldc 72, 2) := by decide +kernel
theorem dX4_formOf_57 : decode cX4_formOf 57 = .ok (.areturn, 1) := by decide +kernel
theorem dX4_formOf_58 : decode cX4_formOf 58 = .ok (.ldc 74, 2) := by decide +kernel
theorem dX4_formOf_60 : decode cX4_formOf 60 = .ok (.areturn, 1) := by decide +kernel
theorem dX4_readSign_0 : decode cX4_readSign 0 = .ok (.aload_n 0, 1) := by decide +kernel
theorem dX4_readSign_1 : decode cX4_readSign 1 = .ok (.getfield 23, 3) := by decide +kernel
theorem dX4_readSign_4 : decode cX4_readSign 4 = .ok (.aload_n 0, 1) := by decide +kernel
theorem dX4_readSign_5 : decode cX4_readSign 5 = .ok (.getfield 19, 3) := by decide +kernel
theorem dX4_readSign_8 : decode cX4_readSign 8 = .ok (.if_icmp .ge 16, 3) := by decide +kernel
theorem dX4_readSign_11 : decode cX4_readSign 11 = .ok (.aload_n 0, 1) := by decide +kernel
theorem dX4_readSign_12 : decode cX4_readSign 12 = .ok (.getfield 9, 3) := by decide +kernel
theorem dX4_readSign_15 : decode cX4_readSign 15 = .ok (.aload_n 0, 1) := by decide +kernel
theorem dX4_readSign_16 : decode cX4_readSign 16 = .ok (.getfield 23, 3) := by decide +kernel
theorem dX4_readSign_19 : decode cX4_readSign 19 = .ok (.caload, 1) := by decide +kernel
theorem dX4_readSign_20 : decode cX4_readSign 20 = .ok (.iload_n 1, 1) := by decide +kernel
theorem dX4_readSign_21 : decode cX4_readSign 21 = .ok (.if_icmp .eq 5, 3) := by decide +kernel
theorem dX4_readSign_24 : decode cX4_readSign 24 = .ok (.iconst 0, 1) := by decide +kernel
theorem dX4_readSign_25 : decode cX4_readSign 25 = .ok (.ireturn, 1) := by decide +kernel
theorem dX4_readSign_26 : decode cX4_readSign 26 = .ok (.aload_n 0, 1) := by decide +kernel
theorem dX4_readSign_27 : decode cX4_readSign 27 = .ok (.dup, 1) := by decide +kernel
theorem dX4_readSign_28 : decode cX4_readSign 28 = .ok (.getfield 23, 3) := by decide +kernel
theorem dX4_readSign_31 : decode cX4_readSign 31 = .ok (.iconst 1, 1) := by decide +kernel
theorem dX4_readSign_32 : decode cX4_readSign 32 = .ok (.iadd, 1) := by decide +kernel
theorem dX4_readSign_33 : decode cX4_readSign 33 = .ok (.putfield 23, 3) := by decide +kernel
theorem dX4_readSign_36 : decode cX4_readSign 36 = .ok (.iconst 1, 1) := by decide +kernel
theorem dX4_readSign_37 : decode cX4_readSign 37 = .ok (.ireturn, 1) := by decide +kernel
theorem dX4_readNumber_0 : decode cX4_readNumber 0 = .ok (.iconst (-1), 1) := by decide +kernel
theorem dX4_readNumber_1 : decode cX4_readNumber 1 = .ok (.istore_n 2, 1) := by decide +kernel
theorem dX4_readNumber_2 : decode cX4_readNumber 2 = .ok (.iconst 0, 1) := by decide +kernel
theorem dX4_readNumber_3 : decode cX4_readNumber 3 = .ok (.istore_n 3, 1) := by decide +kernel
theorem dX4_readNumber_4 : decode cX4_readNumber 4 = .ok (.iload_n 3, 1) := by decide +kernel
theorem dX4_readNumber_5 : decode cX4_readNumber 5 = .ok (.iload_n 1, 1) := by decide +kernel
theorem dX4_readNumber_6 : decode cX4_readNumber 6 = .ok (.if_icmp .ge 48, 3) := by decide +kernel
theorem dX4_readNumber_9 : decode cX4_readNumber 9 = .ok (.aload_n 0, 1) := by decide +kernel
theorem dX4_readNumber_10 : decode cX4_readNumber 10 = .ok (.invokevirtual 76, 3) := by decide +kernel
theorem dX4_readNumber_13 : decode cX4_readNumber 13 = .ok (.ifCond .eq 41, 3) := by decide +kernel
theorem dX4_readNumber_16 : decode cX4_readNumber 16 = .ok (.iload_n 2, 1) := by decide +kernel
theorem dX4_readNumber_17 : decode cX4_readNumber 17 = .ok (.iconst 0, 1) := by decide +kernel
theorem dX4_readNumber_18 : decode cX4_readNumber 18 = .ok (.invokestatic 79, 3) := by decide +kernel
theorem dX4_readNumber_21 : decode cX4_readNumber 21 = .ok (.bipush 10, 2) := by decide +kernel
theorem dX4_readNumber_23 : decode cX4_readNumber 23 = .ok (.imul, 1) := by decide +kernel
theorem dX4_readNumber_24 : decode cX4_readNumber 24 = .ok (.aload_n 0, 1) := by decide +kernel
theorem dX4_readNumber_25 : decode cX4_readNumber 25 = .ok (.getfield 9, 3) := by decide +kernel
theorem dX4_readNumber_28 : decode cX4_readNumber 28 = .ok (.aload_n 0, 1) := by decide +kernel
theorem dX4_readNumber_29 : decode cX4_readNumber 29 = .ok (.getfield 23, 3) := by decide +kernel
theorem dX4_readNumber_32 : decode cX4_readNumber 32 = .ok (.caload, 1) := by decide +kernel
theorem dX4_readNumber_33 : decode cX4_readNumber 33 = .ok (.bipush 48, 2) := by decide +kernel
theorem dX4_readNumber_35 : decode cX4_readNumber 35 = .ok (.isub, 1) := by decide +kernel
theorem dX4_readNumber_36 : decode cX4_readNumber 36 = .ok (.iadd, 1) := by decide +kernel
theorem dX4_readNumber_37 : decode cX4_readNumber 37 = .ok (.istore_n 2, 1) := by decide +kernel
theorem dX4_readNumber_38 : decode cX4_readNumber 38 = .ok (.aload_n 0, 1) := by decide +kernel
theorem dX4_readNumber_39 : decode cX4_readNumber 39 = .ok (.dup, 1) := by decide +kernel
theorem dX4_readNumber_40 : decode cX4_readNumber 40 = .ok (.getfield 23, 3) := by decide +kernel
theorem dX4_readNumber_43 : decode cX4_readNumber 43 = .ok (.iconst 1, 1) := by decide +kernel
theorem dX4_readNumber_44 : decode cX4_readNumber 44 = .ok (.iadd, 1) := by decide +kernel
theorem dX4_readNumber_45 : decode cX4_readNumber 45 = .ok (.putfield 23, 3) := by decide +kernel
theorem dX4_readNumber_48 : decode cX4_readNumber 48 = .ok (.iinc 3 1, 3) := by decide +kernel
theorem dX4_readNumber_51 : decode cX4_readNumber 51 = .ok (.goto (-47), 3) := by decide +kernel
theorem dX4_readNumber_54 : decode cX4_readNumber 54 = .ok (.iload_n 2, 1) := by decide +kernel
theorem dX4_readNumber_55 : decode cX4_readNumber 55 = .ok (.ireturn, 1) := by decide +kernel
theorem dX4_isDigitHere_0 : decode cX4_isDigitHere 0 = .ok (.aload_n 0, 1) := by decide +kernel
theorem dX4_isDigitHere_1 : decode cX4_isDigitHere 1 = .ok (.getfield 23, 3) := by decide +kernel
theorem dX4_isDigitHere_4 : decode cX4_isDigitHere 4 = .ok (.aload_n 0, 1) := by decide +kernel
theorem dX4_isDigitHere_5 : decode cX4_isDigitHere 5 = .ok (.getfield 19, 3) := by decide +kernel
theorem dX4_isDigitHere_8 : decode cX4_isDigitHere 8 = .ok (.if_icmp .ge 35, 3) := by decide +kernel
theorem dX4_isDigitHere_11 : decode cX4_isDigitHere 11 = .ok (.aload_n 0, 1) := by decide +kernel
theorem dX4_isDigitHere_12 : decode cX4_isDigitHere 12 = .ok (.getfield 9, 3) := by decide +kernel
theorem dX4_isDigitHere_15 : decode cX4_isDigitHere 15 = .ok (.aload_n 0, 1) := by decide +kernel
theorem dX4_isDigitHere_16 : decode cX4_isDigitHere 16 = .ok (.getfield 23, 3) := by decide +kernel
theorem dX4_isDigitHere_19 : decode cX4_isDigitHere 19 = .ok (.caload, 1) := by decide +kernel
theorem dX4_isDigitHere_20 : decode cX4_isDigitHere 20 = .ok (.bipush 48, 2) := by decide +kernel
theorem dX4_isDigitHere_22 : decode cX4_isDigitHere 22 = .ok (.if_icmp .lt 21, 3) := by decide +kernel
theorem dX4_isDigitHere_25 : decode cX4_isDigitHere 25 = .ok (.aload_n 0, 1) := by decide +kernel
theorem dX4_isDigitHere_26 : decode cX4_isDigitHere 26 = .ok (.getfield 9, 3) := by decide +kernel
theorem dX4_isDigitHere_29 : decode cX4_isDigitHere 29 = .ok (.aload_n 0, 1) := by decide +kernel
theorem dX4_isDigitHere_30 : decode cX4_isDigitHere 30 = .ok (.getfield 23, 3) := by decide +kernel
theorem dX4_isDigitHere_33 : decode cX4_isDigitHere 33 = .ok (.caload, 1) := by decide +kernel
theorem dX4_isDigitHere_34 : decode cX4_isDigitHere 34 = .ok (.bipush 57, 2) := by decide +kernel
theorem dX4_isDigitHere_36 : decode cX4_isDigitHere 36 = .ok (.if_icmp .gt 7, 3) := by decide +kernel
theorem dX4_isDigitHere_39 : decode cX4_isDigitHere 39 = .ok (.iconst 1, 1) := by decide +kernel
theorem dX4_isDigitHere_40 : decode cX4_isDigitHere 40 = .ok (.goto 4, 3) := by decide +kernel
theorem dX4_isDigitHere_43 : decode cX4_isDigitHere 43 = .ok (.iconst 0, 1) := by decide +kernel
theorem dX4_isDigitHere_44 : decode cX4_isDigitHere 44 = .ok (.ireturn, 1) := by decide +kernel
theorem dX5_init_0 : decode cX5_init 0 = .ok (.aload_n 0, 1) := by decide +kernel
theorem dX5_init_1 : decode cX5_init 1 = .ok (.invokespecial 3, 3) := by decide +kernel
theorem dX5_init_4 : decode cX5_init 4 = .ok (.aload_n 0, 1) := by decide +kernel
theorem dX5_init_5 : decode cX5_init 5 = .ok (.bipush 10, 2) := by decide +kernel
theorem dX5_init_7 : decode cX5_init 7 = .ok (.newarray .int, 2) := by decide +kernel
theorem dX5_init_9 : decode cX5_init 9 = .ok (.putfield 9, 3) := by decide +kernel
theorem dX5_init_12 : decode cX5_init 12 = .ok (.aload_n 0, 1) := by decide +kernel
theorem dX5_init_13 : decode cX5_init 13 = .ok (.bipush 10, 2) := by decide +kernel
theorem dX5_init_15 : decode cX5_init 15 = .ok (.newarray .int, 2) := by decide +kernel
theorem dX5_init_17 : decode cX5_init 17 = .ok (.putfield 15, 3) := by decide +kernel
theorem dX5_init_20 : decode cX5_init 20 = .ok (.aload_n 0, 1) := by decide +kernel
theorem dX5_init_21 : decode cX5_init 21 = .ok (.bipush 10, 2) := by decide +kernel
theorem dX5_init_23 : decode cX5_init 23 = .ok (.newarray .int, 2) := by decide +kernel
theorem dX5_init_25 : decode cX5_init 25 = .ok (.putfield 18, 3) := by decide +kernel
theorem dX5_init_28 : decode cX5_init 28 = .ok (.aload_n 0, 1) := by decide +kernel
theorem dX5_init_29 : decode cX5_init 29 = .ok (.bipush 10, 2) := by decide +kernel
theorem dX5_init_31 : decode cX5_init 31 = .ok (.newarray .int, 2) := by decide +kernel
theorem dX5_init_33 : decode cX5_init 33 = .ok (.putfield 21, 3) := by decide +kernel
theorem dX5_init_36 : decode cX5_init 36 = .ok (.aload_n 0, 1) := by decide +kernel
theorem dX5_init_37 : decode cX5_init 37 = .ok (.bipush 10, 2) := by decide +kernel
theorem dX5_init_39 : decode cX5_init 39 = .ok (.newarray .int, 2) := by decide +kernel
theorem dX5_init_41 : decode cX5_init 41 = .ok (.putfield 24, 3) := by decide +kernel
theorem dX5_init_44 : decode cX5_init 44 = .ok (.return_, 1) := by decide +kernel
theorem dX5_copyFrom_0 : decode cX5_copyFrom 0 = .ok (.aload_n 0, 1) := by decide +kernel
theorem dX5_copyFrom_1 : decode cX5_copyFrom 1 = .ok (.aload_n 1, 1) := by decide +kernel
theorem dX5_copyFrom_2 : decode cX5_copyFrom 2 = .ok (.getfield 27, 3) := by decide +kernel
theorem dX5_copyFrom_5 : decode cX5_copyFrom 5 = .ok (.putfield 27, 3) := by decide +kernel
theorem dX5_copyFrom_8 : decode cX5_copyFrom 8 = .ok (.aload_n 0, 1) := by decide +kernel
theorem dX5_copyFrom_9 : decode cX5_copyFrom 9 = .ok (.aload_n 1, 1) := by decide +kernel
theorem dX5_copyFrom_10 : decode cX5_copyFrom 10 = .ok (.getfield 31, 3) := by decide +kernel
theorem dX5_copyFrom_13 : decode cX5_copyFrom 13 = .ok (.putfield 31, 3) := by decide +kernel
theorem dX5_copyFrom_16 : decode cX5_copyFrom 16 = .ok (.iconst 0, 1) := by decide +kernel
theorem dX5_copyFrom_17 : decode cX5_copyFrom 17 = .ok (.istore_n 2, 1) := by decide +kernel
theorem dX5_copyFrom_18 : decode cX5_copyFrom 18 = .ok (.iload_n 2, 1) := by decide +kernel
theorem dX5_copyFrom_19 : decode cX5_copyFrom 19 = .ok (.aload_n 0, 1) := by decide +kernel
theorem dX5_copyFrom_20 : decode cX5_copyFrom 20 = .ok (.getfield 27, 3) := by decide +kernel
theorem dX5_copyFrom_23 : decode cX5_copyFrom 23 = .ok (.if_icmp .ge 16, 3) := by decide +kernel
theorem dX5_copyFrom_26 : decode cX5_copyFrom 26 = .ok (.aload_n 0, 1) := by decide +kernel
theorem dX5_copyFrom_27 : decode cX5_copyFrom 27 = .ok (.aload_n 1, 1) := by decide +kernel
theorem dX5_copyFrom_28 : decode cX5_copyFrom 28 = .ok (.iload_n 2, 1) := by decide +kernel
theorem dX5_copyFrom_29 : decode cX5_copyFrom 29 = .ok (.iload_n 2, 1) := by decide +kernel
theorem dX5_copyFrom_30 : decode cX5_copyFrom 30 = .ok (.invokevirtual 34, 3) := by decide +kernel
theorem dX5_copyFrom_33 : decode cX5_copyFrom 33 = .ok (.iinc 2 1, 3) := by decide +kernel
theorem dX5_copyFrom_36 : decode cX5_copyFrom 36 = .ok (.goto (-18), 3) := by decide +kernel
theorem dX5_copyFrom_39 : decode cX5_copyFrom 39 = .ok (.return_, 1) := by decide +kernel
theorem dX5_copySlot_0 : decode cX5_copySlot 0 = .ok (.aload_n 0, 1) := by decide +kernel
theorem dX5_copySlot_1 : decode cX5_copySlot 1 = .ok (.getfield 9, 3) := by decide +kernel
theorem dX5_copySlot_4 : decode cX5_copySlot 4 = .ok (.iload_n 3, 1) := by decide +kernel
theorem dX5_copySlot_5 : decode cX5_copySlot 5 = .ok (.aload_n 1, 1) := by decide +kernel
theorem dX5_copySlot_6 : decode cX5_copySlot 6 = .ok (.getfield 9, 3) := by decide +kernel
theorem dX5_copySlot_9 : decode cX5_copySlot 9 = .ok (.iload_n 2, 1) := by decide +kernel
theorem dX5_copySlot_10 : decode cX5_copySlot 10 = .ok (.iaload, 1) := by decide +kernel
theorem dX5_copySlot_11 : decode cX5_copySlot 11 = .ok (.iastore, 1) := by decide +kernel
theorem dX5_copySlot_12 : decode cX5_copySlot 12 = .ok (.aload_n 0, 1) := by decide +kernel
theorem dX5_copySlot_13 : decode cX5_copySlot 13 = .ok (.getfield 15, 3) := by decide +kernel
theorem dX5_copySlot_16 : decode cX5_copySlot 16 = .ok (.iload_n 3, 1) := by decide +kernel
theorem dX5_copySlot_17 : decode cX5_copySlot 17 = .ok (.aload_n 1, 1) := by decide +kernel
theorem dX5_copySlot_18 : decode cX5_copySlot 18 = .ok (.getfield 15, 3) := by decide +kernel
theorem dX5_copySlot_21 : decode cX5_copySlot 21 = .ok (.iload_n 2, 1) := by decide +kernel
theorem dX5_copySlot_22 : decode cX5_copySlot 22 = .ok (.iaload, 1) := by decide +kernel
theorem dX5_copySlot_23 : decode cX5_copySlot 23 = .ok (.iastore, 1) := by decide +kernel
theorem dX5_copySlot_24 : decode cX5_copySlot 24 = .ok (.aload_n 0, 1) := by decide +kernel
theorem dX5_copySlot_25 : decode cX5_copySlot 25 = .ok (.getfield 18, 3) := by decide +kernel
theorem dX5_copySlot_28 : decode cX5_copySlot 28 = .ok (.iload_n 3, 1) := by decide +kernel
theorem dX5_copySlot_29 : decode cX5_copySlot 29 = .ok (.aload_n 1, 1) := by decide +kernel
theorem dX5_copySlot_30 : decode cX5_copySlot 30 = .ok (.getfield 18, 3) := by decide +kernel
theorem dX5_copySlot_33 : decode cX5_copySlot 33 = .ok (.iload_n 2, 1) := by decide +kernel
theorem dX5_copySlot_34 : decode cX5_copySlot 34 = .ok (.iaload, 1) := by decide +kernel
theorem dX5_copySlot_35 : decode cX5_copySlot 35 = .ok (.iastore, 1) := by decide +kernel
theorem dX5_copySlot_36 : decode cX5_copySlot 36 = .ok (.aload_n 0, 1) := by decide +kernel
theorem dX5_copySlot_37 : decode cX5_copySlot 37 = .ok (.getfield 21, 3) := by decide +kernel
theorem dX5_copySlot_40 : decode cX5_copySlot 40 = .ok (.iload_n 3, 1) := by decide +kernel
theorem dX5_copySlot_41 : decode cX5_copySlot 41 = .ok (.aload_n 1, 1) := by decide +kernel
theorem dX5_copySlot_42 : decode cX5_copySlot 42 = .ok (.getfield 21, 3) := by decide +kernel
theorem dX5_copySlot_45 : decode cX5_copySlot 45 = .ok (.iload_n 2, 1) := by decide +kernel
theorem dX5_copySlot_46 : decode cX5_copySlot 46 = .ok (.iaload, 1) := by decide +kernel
theorem dX5_copySlot_47 : decode cX5_copySlot 47 = .ok (.iastore, 1) := by decide +kernel
theorem dX5_copySlot_48 : decode cX5_copySlot 48 = .ok (.aload_n 0, 1) := by decide +kernel
theorem dX5_copySlot_49 : decode cX5_copySlot 49 = .ok (.getfield 24, 3) := by decide +kernel
theorem dX5_copySlot_52 : decode cX5_copySlot 52 = .ok (.iload_n 3, 1) := by decide +kernel
theorem dX5_copySlot_53 : decode cX5_copySlot 53 = .ok (.aload_n 1, 1) := by decide +kernel
theorem dX5_copySlot_54 : decode cX5_copySlot 54 = .ok (.getfield 24, 3) := by decide +kernel
theorem dX5_copySlot_57 : decode cX5_copySlot 57 = .ok (.iload_n 2, 1) := by decide +kernel
theorem dX5_copySlot_58 : decode cX5_copySlot 58 = .ok (.iaload, 1) := by decide +kernel
theorem dX5_copySlot_59 : decode cX5_copySlot 59 = .ok (.iastore, 1) := by decide +kernel
theorem dX5_copySlot_60 : decode cX5_copySlot 60 = .ok (.return_, 1) := by decide +kernel
theorem dX5_find_0 : decode cX5_find 0 = .ok (.iconst 0, 1) := by decide +kernel
theorem dX5_find_1 : decode cX5_find 1 = .ok (.istore_n 2, 1) := by decide +kernel
theorem dX5_find_2 : decode cX5_find 2 = .ok (.iload_n 2, 1) := by decide +kernel
theorem dX5_find_3 : decode cX5_find 3 = .ok (.aload_n 0, 1) := by decide +kernel
theorem dX5_find_4 : decode cX5_find 4 = .ok (.getfield 27, 3) := by decide +kernel
theorem dX5_find_7 : decode cX5_find 7 = .ok (.if_icmp .ge 21, 3) := by decide +kernel
theorem dX5_find_10 : decode cX5_find 10 = .ok (.aload_n 0, 1) := by decide +kernel
theorem dX5_find_11 : decode cX5_find 11 = .ok (.getfield 9, 3) := by decide +kernel
theorem dX5_find_14 : decode cX5_find 14 = .ok (.iload_n 2, 1) := by decide +kernel
theorem dX5_find_15 : decode cX5_find 15 = .ok (.iaload, 1) := by decide +kernel
theorem dX5_find_16 : decode cX5_find 16 = .ok (.iload_n 1, 1) := by decide +kernel
theorem dX5_find_17 : decode cX5_find 17 = .ok (.if_icmp .ne 5, 3) := by decide +kernel
theorem dX5_find_20 : decode cX5_find 20 = .ok (.iload_n 2, 1) := by decide +kernel
theorem dX5_find_21 : decode cX5_find 21 = .ok (.ireturn, 1) := by decide +kernel
theorem dX5_find_22 : decode cX5_find 22 = .ok (.iinc 2 1, 3) := by decide +kernel
theorem dX5_find_25 : decode cX5_find 25 = .ok (.goto (-23), 3) := by decide +kernel
theorem dX5_find_28 : decode cX5_find 28 = .ok (.iconst (-1), 1) := by decide +kernel
theorem dX5_find_29 : decode cX5_find 29 = .ok (.ireturn, 1) := by decide +kernel
theorem dX5_add_0 : decode cX5_add 0 = .ok (.aload_n 0, 1) := by decide +kernel
theorem dX5_add_1 : decode cX5_add 1 = .ok (.getfield 31, 3) := by decide +kernel
theorem dX5_add_4 : decode cX5_add 4 = .ok (.istore 5, 2) := by decide +kernel
theorem dX5_add_6 : decode cX5_add 6 = .ok (.aload_n 0, 1) := by decide +kernel
theorem dX5_add_7 : decode cX5_add 7 = .ok (.getfield 9, 3) := by decide +kernel
theorem dX5_add_10 : decode cX5_add 10 = .ok (.aload_n 0, 1) := by decide +kernel
theorem dX5_add_11 : decode cX5_add 11 = .ok (.getfield 27, 3) := by decide +kernel
theorem dX5_add_14 : decode cX5_add 14 = .ok (.iload 5, 2) := by decide +kernel
theorem dX5_add_16 : decode cX5_add 16 = .ok (.iastore, 1) := by decide +kernel
theorem dX5_add_17 : decode cX5_add 17 = .ok (.aload_n 0, 1) := by decide +kernel
theorem dX5_add_18 : decode cX5_add 18 = .ok (.getfield 15, 3) := by decide +kernel
theorem dX5_add_21 : decode cX5_add 21 = .ok (.aload_n 0, 1) := by decide +kernel
theorem dX5_add_22 : decode cX5_add 22 = .ok (.getfield 27, 3) := by decide +kernel
theorem dX5_add_25 : decode cX5_add 25 = .ok (.iload_n 1, 1) := by decide +kernel
theorem dX5_add_26 : decode cX5_add 26 = .ok (.iastore, 1) := by decide +kernel
theorem dX5_add_27 : decode cX5_add 27 = .ok (.aload_n 0, 1) := by decide +kernel
theorem dX5_add_28 : decode cX5_add 28 = .ok (.getfield 18, 3) := by decide +kernel
theorem dX5_add_31 : decode cX5_add 31 = .ok (.aload_n 0, 1) := by decide +kernel
theorem dX5_add_32 : decode cX5_add 32 = .ok (.getfield 27, 3) := by decide +kernel
theorem dX5_add_35 : decode cX5_add 35 = .ok (.iload_n 2, 1) := by decide +kernel
theorem dX5_add_36 : decode cX5_add 36 = .ok (.iastore, 1) := by decide +kernel
theorem dX5_add_37 : decode cX5_add 37 = .ok (.aload_n 0, 1) := by decide +kernel
theorem dX5_add_38 : decode cX5_add 38 = .ok (.getfield 21, 3) := by decide +kernel
theorem dX5_add_41 : decode cX5_add 41 = .ok (.aload_n 0, 1) := by decide +kernel
theorem dX5_add_42 : decode cX5_add 42 = .ok (.getfield 27, 3) := by decide +kernel
theorem dX5_add_45 : decode cX5_add 45 = .ok (.iload_n 3, 1) := by decide +kernel
theorem dX5_add_46 : decode cX5_add 46 = .ok (.iastore, 1) := by decide +kernel
theorem dX5_add_47 : decode cX5_add 47 = .ok (.aload_n 0, 1) := by decide +kernel
theorem dX5_add_48 : decode cX5_add 48 = .ok (.getfield 24, 3) := by decide +kernel
theorem dX5_add_51 : decode cX5_add 51 = .ok (.aload_n 0, 1) := by decide +kernel
theorem dX5_add_52 : decode cX5_add 52 = .ok (.getfield 27, 3) := by decide +kernel
theorem dX5_add_55 : decode cX5_add 55 = .ok (.iload 4, 2) := by decide +kernel
theorem dX5_add_57 : decode cX5_add 57 = .ok (.iastore, 1) := by decide +kernel
theorem dX5_add_58 : decode cX5_add 58 = .ok (.aload_n 0, 1) := by decide +kernel
theorem dX5_add_59 : decode cX5_add 59 = .ok (.dup, 1) := by decide +kernel
theorem dX5_add_60 : decode cX5_add 60 = .ok (.getfield 27, 3) := by decide +kernel
theorem dX5_add_63 : decode cX5_add 63 = .ok (.iconst 1, 1) := by decide +kernel
theorem dX5_add_64 : decode cX5_add 64 = .ok (.iadd, 1) := by decide +kernel
theorem dX5_add_65 : decode cX5_add 65 = .ok (.putfield 27, 3) := by decide +kernel
theorem dX5_add_68 : decode cX5_add 68 = .ok (.aload_n 0, 1) := by decide +kernel
theorem dX5_add_69 : decode cX5_add 69 = .ok (.dup, 1) := by decide +kernel
theorem dX5_add_70 : decode cX5_add 70 = .ok (.getfield 31, 3) := by decide +kernel
theorem dX5_add_73 : decode cX5_add 73 = .ok (.iconst 1, 1) := by decide +kernel
theorem dX5_add_74 : decode cX5_add 74 = .ok (.iadd, 1) := by decide +kernel
theorem dX5_add_75 : decode cX5_add 75 = .ok (.putfield 31, 3) := by decide +kernel
theorem dX5_add_78 : decode cX5_add 78 = .ok (.iload 5, 2) := by decide +kernel
theorem dX5_add_80 : decode cX5_add 80 = .ok (.ireturn, 1) := by decide +kernel
theorem dX5_remove_0 : decode cX5_remove 0 = .ok (.iconst 0, 1) := by decide +kernel
theorem dX5_remove_1 : decode cX5_remove 1 = .ok (.istore_n 2, 1) := by decide +kernel
theorem dX5_remove_2 : decode cX5_remove 2 = .ok (.iconst 0, 1) := by decide +kernel
theorem dX5_remove_3 : decode cX5_remove 3 = .ok (.istore_n 3, 1) := by decide +kernel
theorem dX5_remove_4 : decode cX5_remove 4 = .ok (.iconst 0, 1) := by decide +kernel
theorem dX5_remove_5 : decode cX5_remove 5 = .ok (.istore 4, 2) := by decide +kernel
theorem dX5_remove_7 : decode cX5_remove 7 = .ok (.iload 4, 2) := by decide +kernel
theorem dX5_remove_9 : decode cX5_remove 9 = .ok (.aload_n 0, 1) := by decide +kernel
theorem dX5_remove_10 : decode cX5_remove 10 = .ok (.getfield 27, 3) := by decide +kernel
theorem dX5_remove_13 : decode cX5_remove 13 = .ok (.if_icmp .ge 42, 3) := by decide +kernel
theorem dX5_remove_16 : decode cX5_remove 16 = .ok (.aload_n 0, 1) := by decide +kernel
theorem dX5_remove_17 : decode cX5_remove 17 = .ok (.getfield 9, 3) := by decide +kernel
theorem dX5_remove_20 : decode cX5_remove 20 = .ok (.iload 4, 2) := by decide +kernel
theorem dX5_remove_22 : decode cX5_remove 22 = .ok (.iaload, 1) := by decide +kernel
theorem dX5_remove_23 : decode cX5_remove 23 = .ok (.iload_n 1, 1) := by decide +kernel
theorem dX5_remove_24 : decode cX5_remove 24 = .ok (.if_icmp .ne 14, 3) := by decide +kernel
theorem dX5_remove_27 : decode cX5_remove 27 = .ok (.aload_n 0, 1) := by decide +kernel
theorem dX5_remove_28 : decode cX5_remove 28 = .ok (.getfield 21, 3) := by decide +kernel
theorem dX5_remove_31 : decode cX5_remove 31 = .ok (.iload 4, 2) := by decide +kernel
theorem dX5_remove_33 : decode cX5_remove 33 = .ok (.iaload, 1) := by decide +kernel
theorem dX5_remove_34 : decode cX5_remove 34 = .ok (.istore_n 2, 1) := by decide +kernel
theorem dX5_remove_35 : decode cX5_remove 35 = .ok (.goto 14, 3) := by decide +kernel
theorem dX5_remove_38 : decode cX5_remove 38 = .ok (.aload_n 0, 1) := by decide +kernel
theorem dX5_remove_39 : decode cX5_remove 39 = .ok (.aload_n 0, 1) := by decide +kernel
theorem dX5_remove_40 : decode cX5_remove 40 = .ok (.iload 4, 2) := by decide +kernel
theorem dX5_remove_42 : decode cX5_remove 42 = .ok (.iload_n 3, 1) := by decide +kernel
theorem dX5_remove_43 : decode cX5_remove 43 = .ok (.invokevirtual 34, 3) := by decide +kernel
theorem dX5_remove_46 : decode cX5_remove 46 = .ok (.iinc 3 1, 3) := by decide +kernel
theorem dX5_remove_49 : decode cX5_remove 49 = .ok (.iinc 4 1, 3) := by decide +kernel
theorem dX5_remove_52 : decode cX5_remove 52 = .ok (.goto (-45), 3) := by decide +kernel
theorem dX5_remove_55 : decode cX5_remove 55 = .ok (.aload_n 0, 1) := by decide +kernel
theorem dX5_remove_56 : decode cX5_remove 56 = .ok (.iload_n 3, 1) := by decide +kernel
theorem dX5_remove_57 : decode cX5_remove 57 = .ok (.putfield 27, 3) := by decide +kernel
theorem dX5_remove_60 : decode cX5_remove 60 = .ok (.iload_n 2, 1) := by decide +kernel
theorem dX5_remove_61 : decode cX5_remove 61 = .ok (.ireturn, 1) := by decide +kernel
theorem dX5_idAt_0 : decode cX5_idAt 0 = .ok (.iconst (-1), 1) := by decide +kernel
theorem dX5_idAt_1 : decode cX5_idAt 1 = .ok (.istore_n 2, 1) := by decide +kernel
theorem dX5_idAt_2 : decode cX5_idAt 2 = .ok (.iconst 0, 1) := by decide +kernel
theorem dX5_idAt_3 : decode cX5_idAt 3 = .ok (.istore_n 3, 1) := by decide +kernel
theorem dX5_idAt_4 : decode cX5_idAt 4 = .ok (.iload_n 3, 1) := by decide +kernel
theorem dX5_idAt_5 : decode cX5_idAt 5 = .ok (.aload_n 0, 1) := by decide +kernel
theorem dX5_idAt_6 : decode cX5_idAt 6 = .ok (.getfield 27, 3) := by decide +kernel
theorem dX5_idAt_9 : decode cX5_idAt 9 = .ok (.if_icmp .ge 25, 3) := by decide +kernel
theorem dX5_idAt_12 : decode cX5_idAt 12 = .ok (.aload_n 0, 1) := by decide +kernel
theorem dX5_idAt_13 : decode cX5_idAt 13 = .ok (.iload_n 3, 1) := by decide +kernel
theorem dX5_idAt_14 : decode cX5_idAt 14 = .ok (.invokevirtual 38, 3) := by decide +kernel
theorem dX5_idAt_17 : decode cX5_idAt 17 = .ok (.iload_n 1, 1) := by decide +kernel
theorem dX5_idAt_18 : decode cX5_idAt 18 = .ok (.if_icmp .ne 10, 3) := by decide +kernel
theorem dX5_idAt_21 : decode cX5_idAt 21 = .ok (.aload_n 0, 1) := by decide +kernel
theorem dX5_idAt_22 : decode cX5_idAt 22 = .ok (.getfield 9, 3) := by decide +kernel
theorem dX5_idAt_25 : decode cX5_idAt 25 = .ok (.iload_n 3, 1) := by decide +kernel
theorem dX5_idAt_26 : decode cX5_idAt 26 = .ok (.iaload, 1) := by decide +kernel
theorem dX5_idAt_27 : decode cX5_idAt 27 = .ok (.istore_n 2, 1) := by decide +kernel
theorem dX5_idAt_28 : decode cX5_idAt 28 = .ok (.iinc 3 1, 3) := by decide +kernel
theorem dX5_idAt_31 : decode cX5_idAt 31 = .ok (.goto (-27), 3) := by decide +kernel
theorem dX5_idAt_34 : decode cX5_idAt 34 = .ok (.iload_n 2, 1) := by decide +kernel
theorem dX5_idAt_35 : decode cX5_idAt 35 = .ok (.ireturn, 1) := by decide +kernel
theorem dX5_positionOf_0 : decode cX5_positionOf 0 = .ok (.iconst 0, 1) := by decide +kernel
theorem dX5_positionOf_1 : decode cX5_positionOf 1 = .ok (.istore_n 2, 1) := by decide +kernel
theorem dX5_positionOf_2 : decode cX5_positionOf 2 = .ok (.iconst 0, 1) := by decide +kernel
theorem dX5_positionOf_3 : decode cX5_positionOf 3 = .ok (.istore_n 3, 1) := by decide +kernel
theorem dX5_positionOf_4 : decode cX5_positionOf 4 = .ok (.iload_n 3, 1) := by decide +kernel
theorem dX5_positionOf_5 : decode cX5_positionOf 5 = .ok (.aload_n 0, 1) := by decide +kernel
theorem dX5_positionOf_6 : decode cX5_positionOf 6 = .ok (.getfield 27, 3) := by decide +kernel
theorem dX5_positionOf_9 : decode cX5_positionOf 9 = .ok (.if_icmp .ge 71, 3) := by decide +kernel
theorem dX5_positionOf_12 : decode cX5_positionOf 12 = .ok (.aload_n 0, 1) := by decide +kernel
theorem dX5_positionOf_13 : decode cX5_positionOf 13 = .ok (.getfield 24, 3) := by decide +kernel
theorem dX5_positionOf_16 : decode cX5_positionOf 16 = .ok (.iload_n 3, 1) := by decide +kernel
theorem dX5_positionOf_17 : decode cX5_positionOf 17 = .ok (.iaload, 1) := by decide +kernel
theorem dX5_positionOf_18 : decode cX5_positionOf 18 = .ok (.aload_n 0, 1) := by decide +kernel
theorem dX5_positionOf_19 : decode cX5_positionOf 19 = .ok (.getfield 24, 3) := by decide +kernel
theorem dX5_positionOf_22 : decode cX5_positionOf 22 = .ok (.iload_n 1, 1) := by decide +kernel
theorem dX5_positionOf_23 : decode cX5_positionOf 23 = .ok (.iaload, 1) := by decide +kernel
theorem dX5_positionOf_24 : decode cX5_positionOf 24 = .ok (.if_icmp .ge 7, 3) := by decide +kernel
theorem dX5_positionOf_27 : decode cX5_positionOf 27 = .ok (.iconst 1, 1) := by decide +kernel
theorem dX5_positionOf_28 : decode cX5_positionOf 28 = .ok (.goto 4, 3) := by decide +kernel
theorem dX5_positionOf_31 : decode cX5_positionOf 31 = .ok (.iconst 0, 1) := by decide +kernel
theorem dX5_positionOf_32 : decode cX5_positionOf 32 = .ok (.istore 4, 2) := by decide +kernel
theorem dX5_positionOf_34 : decode cX5_positionOf 34 = .ok (.aload_n 0, 1) := by decide +kernel
theorem dX5_positionOf_35 : decode cX5_positionOf 35 = .ok (.getfield 24, 3) := by decide +kernel
theorem dX5_positionOf_38 : decode cX5_positionOf 38 = .ok (.iload_n 3, 1) := by decide +kernel
theorem dX5_positionOf_39 : decode cX5_positionOf 39 = .ok (.iaload, 1) := by decide +kernel
theorem dX5_positionOf_40 : decode cX5_positionOf 40 = .ok (.aload_n 0, 1) := by decide +kernel
theorem dX5_positionOf_41 : decode cX5_positionOf 41 = .ok (.getfield 24, 3) := by decide +kernel
theorem dX5_positionOf_44 : decode cX5_positionOf 44 = .ok (.iload_n 1, 1) := by decide +kernel
theorem dX5_positionOf_45 : decode cX5_positionOf 45 = .ok (.iaload, 1) := by decide +kernel
theorem dX5_positionOf_46 : decode cX5_positionOf 46 = .ok (.if_icmp .ne 12, 3) := by decide +kernel
theorem dX5_positionOf_49 : decode cX5_positionOf 49 = .ok (.iload_n 3, 1) := by decide +kernel
theorem dX5_positionOf_50 : decode cX5_positionOf 50 = .ok (.iload_n 1, 1) := by decide +kernel
theorem dX5_positionOf_51 : decode cX5_positionOf 51 = .ok (.if_icmp .ge 7, 3) := by decide +kernel
theorem dX5_positionOf_54 : decode cX5_positionOf 54 = .ok (.iconst 1, 1) := by decide +kernel
theorem dX5_positionOf_55 : decode cX5_positionOf 55 = .ok (.goto 4, 3) := by decide +kernel
theorem dX5_positionOf_58 : decode cX5_positionOf 58 = .ok (.iconst 0, 1) := by decide +kernel
theorem dX5_positionOf_59 : decode cX5_positionOf 59 = .ok (.istore 5, 2) := by decide +kernel
theorem dX5_positionOf_61 : decode cX5_positionOf 61 = .ok (.iload 4, 2) := by decide +kernel
theorem dX5_positionOf_63 : decode cX5_positionOf 63 = .ok (.ifCond .ne 8, 3) := by decide +kernel
theorem dX5_positionOf_66 : decode cX5_positionOf 66 = .ok (.iload 5, 2) := by decide +kernel
theorem dX5_positionOf_68 : decode cX5_positionOf 68 = .ok (.ifCond .eq 6, 3) := by decide +kernel
theorem dX5_positionOf_71 : decode cX5_positionOf 71 = .ok (.iinc 2 1, 3) := by decide +kernel
theorem dX5_positionOf_74 : decode cX5_positionOf 74 = .ok (.iinc 3 1, 3) := by decide +kernel
theorem dX5_positionOf_77 : decode cX5_positionOf 77 = .ok (.goto (-73), 3) := by decide +kernel
theorem dX5_positionOf_80 : decode cX5_positionOf 80 = .ok (.iload_n 2, 1) := by decide +kernel
theorem dX5_positionOf_81 : decode cX5_positionOf 81 = .ok (.ireturn, 1) := by decide +kernel
theorem dX5_net_0 : decode cX5_net 0 = .ok (.iconst 0, 1) := by decide +kernel
theorem dX5_net_1 : decode cX5_net 1 = .ok (.istore_n 2, 1) := by decide +kernel
theorem dX5_net_2 : decode cX5_net 2 = .ok (.iconst 0, 1) := by decide +kernel
theorem dX5_net_3 : decode cX5_net 3 = .ok (.istore_n 3, 1) := by decide +kernel
theorem dX5_net_4 : decode cX5_net 4 = .ok (.iload_n 3, 1) := by decide +kernel
theorem dX5_net_5 : decode cX5_net 5 = .ok (.aload_n 0, 1) := by decide +kernel
theorem dX5_net_6 : decode cX5_net 6 = .ok (.getfield 27, 3) := by decide +kernel
theorem dX5_net_9 : decode cX5_net 9 = .ok (.if_icmp .ge 47, 3) := by decide +kernel
theorem dX5_net_12 : decode cX5_net 12 = .ok (.aload_n 0, 1) := by decide +kernel
theorem dX5_net_13 : decode cX5_net 13 = .ok (.getfield 18, 3) := by decide +kernel
theorem dX5_net_16 : decode cX5_net 16 = .ok (.iload_n 3, 1) := by decide +kernel
theorem dX5_net_17 : decode cX5_net 17 = .ok (.iaload, 1) := by decide +kernel
theorem dX5_net_18 : decode cX5_net 18 = .ok (.iload_n 1, 1) := by decide +kernel
theorem dX5_net_19 : decode cX5_net 19 = .ok (.if_icmp .ne 12, 3) := by decide +kernel
theorem dX5_net_22 : decode cX5_net 22 = .ok (.iload_n 2, 1) := by decide +kernel
theorem dX5_net_23 : decode cX5_net 23 = .ok (.aload_n 0, 1) := by decide +kernel
theorem dX5_net_24 : decode cX5_net 24 = .ok (.getfield 21, 3) := by decide +kernel
theorem dX5_net_27 : decode cX5_net 27 = .ok (.iload_n 3, 1) := by decide +kernel
theorem dX5_net_28 : decode cX5_net 28 = .ok (.iaload, 1) := by decide +kernel
theorem dX5_net_29 : decode cX5_net 29 = .ok (.iadd, 1) := by decide +kernel
theorem dX5_net_30 : decode cX5_net 30 = .ok (.istore_n 2, 1) := by decide +kernel
theorem dX5_net_31 : decode cX5_net 31 = .ok (.aload_n 0, 1) := by decide +kernel
theorem dX5_net_32 : decode cX5_net 32 = .ok (.getfield 15, 3) := by decide +kernel
theorem dX5_net_35 : decode cX5_net 35 = .ok (.iload_n 3, 1) := by decide +kernel
theorem dX5_net_36 : decode cX5_net 36 = .ok (.iaload, 1) := by decide +kernel
theorem dX5_net_37 : decode cX5_net 37 = .ok (.iload_n 1, 1) := by decide +kernel
theorem dX5_net_38 : decode cX5_net 38 = .ok (.if_icmp .ne 12, 3) := by decide +kernel
theorem dX5_net_41 : decode cX5_net 41 = .ok (.iload_n 2, 1) := by decide +kernel
theorem dX5_net_42 : decode cX5_net 42 = .ok (.aload_n 0, 1) := by decide +kernel
theorem dX5_net_43 : decode cX5_net 43 = .ok (.getfield 21, 3) := by decide +kernel
theorem dX5_net_46 : decode cX5_net 46 = .ok (.iload_n 3, 1) := by decide +kernel
theorem dX5_net_47 : decode cX5_net 47 = .ok (.iaload, 1) := by decide +kernel
theorem dX5_net_48 : decode cX5_net 48 = .ok (.isub, 1) := by decide +kernel
theorem dX5_net_49 : decode cX5_net 49 = .ok (.istore_n 2, 1) := by decide +kernel
theorem dX5_net_50 : decode cX5_net 50 = .ok (.iinc 3 1, 3) := by decide +kernel
theorem dX5_net_53 : decode cX5_net 53 = .ok (.goto (-49), 3) := by decide +kernel
theorem dX5_net_56 : decode cX5_net 56 = .ok (.iload_n 2, 1) := by decide +kernel
theorem dX5_net_57 : decode cX5_net 57 = .ok (.ireturn, 1) := by decide +kernel
theorem dX5_connect_0 : decode cX5_connect 0 = .ok (.iconst 0, 1) := by decide +kernel
theorem dX5_connect_1 : decode cX5_connect 1 = .ok (.istore_n 3, 1) := by decide +kernel
theorem dX5_connect_2 : decode cX5_connect 2 = .ok (.iconst 0, 1) := by decide +kernel
theorem dX5_connect_3 : decode cX5_connect 3 = .ok (.istore 4, 2) := by decide +kernel
theorem dX5_connect_5 : decode cX5_connect 5 = .ok (.iload 4, 2) := by decide +kernel
theorem dX5_connect_7 : decode cX5_connect 7 = .ok (.bipush 8, 2) := by decide +kernel
theorem dX5_connect_9 : decode cX5_connect 9 = .ok (.if_icmp .ge 64, 3) := by decide +kernel
theorem dX5_connect_12 : decode cX5_connect 12 = .ok (.iconst 0, 1) := by decide +kernel
theorem dX5_connect_13 : decode cX5_connect 13 = .ok (.istore 5, 2) := by decide +kernel
theorem dX5_connect_15 : decode cX5_connect 15 = .ok (.iload 5, 2) := by decide +kernel
theorem dX5_connect_17 : decode cX5_connect 17 = .ok (.aload_n 0, 1) := by decide +kernel
theorem dX5_connect_18 : decode cX5_connect 18 = .ok (.getfield 27, 3) := by decide +kernel
theorem dX5_connect_21 : decode cX5_connect 21 = .ok (.if_icmp .ge 46, 3) := by decide +kernel
theorem dX5_connect_24 : decode cX5_connect 24 = .ok (.aload_n 0, 1) := by decide +kernel
theorem dX5_connect_25 : decode cX5_connect 25 = .ok (.getfield 15, 3) := by decide +kernel
theorem dX5_connect_28 : decode cX5_connect 28 = .ok (.iload 5, 2) := by decide +kernel
theorem dX5_connect_30 : decode cX5_connect 30 = .ok (.iaload, 1) := by decide +kernel
theorem dX5_connect_31 : decode cX5_connect 31 = .ok (.istore 6, 2) := by decide +kernel
theorem dX5_connect_33 : decode cX5_connect 33 = .ok (.iload 6, 2) := by decide +kernel
theorem dX5_connect_35 : decode cX5_connect 35 = .ok (.iload_n 1, 1) := by decide +kernel
theorem dX5_connect_36 : decode cX5_connect 36 = .ok (.if_icmp .eq 13, 3) := by decide +kernel
theorem dX5_connect_39 : decode cX5_connect 39 = .ok (.iload_n 3, 1) := by decide +kernel
theorem dX5_connect_40 : decode cX5_connect 40 = .ok (.iload 6, 2) := by decide +kernel
theorem dX5_connect_42 : decode cX5_connect 42 = .ok (.ishr, 1) := by decide +kernel
theorem dX5_connect_43 : decode cX5_connect 43 = .ok (.iconst 1, 1) := by decide +kernel
theorem dX5_connect_44 : decode cX5_connect 44 = .ok (.iand, 1) := by decide +kernel
theorem dX5_connect_45 : decode cX5_connect 45 = .ok (.iconst 1, 1) := by decide +kernel
theorem dX5_connect_46 : decode cX5_connect 46 = .ok (.if_icmp .ne 15, 3) := by decide +kernel
theorem dX5_connect_49 : decode cX5_connect 49 = .ok (.iload_n 3, 1) := by decide +kernel
theorem dX5_connect_50 : decode cX5_connect 50 = .ok (.iconst 1, 1) := by decide +kernel
theorem dX5_connect_51 : decode cX5_connect 51 = .ok (.aload_n 0, 1) := by decide +kernel
theorem dX5_connect_52 : decode cX5_connect 52 = .ok (.getfield 18, 3) := by decide +kernel
theorem dX5_connect_55 : decode cX5_connect 55 = .ok (.iload 5, 2) := by decide +kernel
theorem dX5_connect_57 : decode cX5_connect 57 = .ok (.iaload, 1) := by decide +kernel
theorem dX5_connect_58 : decode cX5_connect 58 = .ok (.ishl, 1) := by decide +kernel
theorem dX5_connect_59 : decode cX5_connect 59 = .ok (.ior, 1) := by decide +kernel
theorem dX5_connect_60 : decode cX5_connect 60 = .ok (.istore_n 3, 1) := by decide +kernel
theorem dX5_connect_61 : decode cX5_connect 61 = .ok (.iinc 5 1, 3) := by decide +kernel
theorem dX5_connect_64 : decode cX5_connect 64 = .ok (.goto (-49), 3) := by decide +kernel
theorem dX5_connect_67 : decode cX5_connect 67 = .ok (.iinc 4 1, 3) := by decide +kernel
theorem dX5_connect_70 : decode cX5_connect 70 = .ok (.goto (-65), 3) := by decide +kernel
theorem dX5_connect_73 : decode cX5_connect 73 = .ok (.iload_n 3, 1) := by decide +kernel
theorem dX5_connect_74 : decode cX5_connect 74 = .ok (.iload_n 2, 1) := by decide +kernel
theorem dX5_connect_75 : decode cX5_connect 75 = .ok (.ishr, 1) := by decide +kernel
theorem dX5_connect_76 : decode cX5_connect 76 = .ok (.iconst 1, 1) := by decide +kernel
theorem dX5_connect_77 : decode cX5_connect 77 = .ok (.iand, 1) := by decide +kernel
theorem dX5_connect_78 : decode cX5_connect 78 = .ok (.iconst 1, 1) := by decide +kernel
theorem dX5_connect_79 : decode cX5_connect 79 = .ok (.if_icmp .ne 7, 3) := by decide +kernel
theorem dX5_connect_82 : decode cX5_connect 82 = .ok (.iconst 1, 1) := by decide +kernel
theorem dX5_connect_83 : decode cX5_connect 83 = .ok (.goto 4, 3) := by decide +kernel
theorem dX5_connect_86 : decode cX5_connect 86 = .ok (.iconst 0, 1) := by decide +kernel
theorem dX5_connect_87 : decode cX5_connect 87 = .ok (.ireturn, 1) := by decide +kernel
end
section
theorem dX6_init_0 : decode cX6_init 0 = .ok (.aload_n 0, 1) := by decide +kernel
theorem dX6_init_1 : decode cX6_init 1 = .ok (.invokespecial 1, 3) := by decide +kernel
theorem dX6_init_4 : decode cX6_init 4 = .ok (.aload_n 0, 1) := by decide +kernel
theorem dX6_init_5 : decode cX6_init 5 = .ok (.new 7, 3) := by decide +kernel
theorem dX6_init_8 : decode cX6_init 8 = .ok (.dup, 1) := by decide +kernel
theorem dX6_init_9 : decode cX6_init 9 = .ok (.invokespecial 9, 3) := by decide +kernel
theorem dX6_init_12 : decode cX6_init 12 = .ok (.putfield 10, 3) := by decide +kernel
theorem dX6_init_15 : decode cX6_init 15 = .ok (.aload_n 0, 1) := by decide +kernel
theorem dX6_init_16 : decode cX6_init 16 = .ok (.new 7, 3) := by decide +kernel
theorem dX6_init_19 : decode cX6_init 19 = .ok (.dup, 1) := by decide +kernel
theorem dX6_init_20 : decode cX6_init 20 = .ok (.invokespecial 9, 3) := by decide +kernel
theorem dX6_init_23 : decode cX6_init 23 = .ok (.putfield 16, 3) := by decide +kernel
theorem dX6_init_26 : decode cX6_init 26 = .ok (.aload_n 0, 1) := by decide +kernel
theorem dX6_init_27 : decode cX6_init 27 = .ok (.new 7, 3) := by decide +kernel
theorem dX6_init_30 : decode cX6_init 30 = .ok (.dup, 1) := by decide +kernel
theorem dX6_init_31 : decode cX6_init 31 = .ok (.invokespecial 9, 3) := by decide +kernel
theorem dX6_init_34 : decode cX6_init 34 = .ok (.putfield 19, 3) := by decide +kernel
theorem dX6_init_37 : decode cX6_init 37 = .ok (.aload_n 0, 1) := by decide +kernel
theorem dX6_init_38 : decode cX6_init 38 = .ok (.new 22, 3) := by decide +kernel
theorem dX6_init_41 : decode cX6_init 41 = .ok (.dup, 1) := by decide +kernel
theorem dX6_init_42 : decode cX6_init 42 = .ok (.invokespecial 24, 3) := by decide +kernel
theorem dX6_init_45 : decode cX6_init 45 = .ok (.putfield 25, 3) := by decide +kernel
theorem dX6_init_48 : decode cX6_init 48 = .ok (.aload_n 0, 1) := by decide +kernel
theorem dX6_init_49 : decode cX6_init 49 = .ok (.new 29, 3) := by decide +kernel
theorem dX6_init_52 : decode cX6_init 52 = .ok (.dup, 1) := by decide +kernel
theorem dX6_init_53 : decode cX6_init 53 = .ok (.invokespecial 31, 3) := by decide +kernel
theorem dX6_init_56 : decode cX6_init 56 = .ok (.putfield 32, 3) := by decide +kernel
theorem dX6_init_59 : decode cX6_init 59 = .ok (.aload_n 0, 1) := by decide +kernel
theorem dX6_init_60 : decode cX6_init 60 = .ok (.new 36, 3) := by decide +kernel
theorem dX6_init_63 : decode cX6_init 63 = .ok (.dup, 1) := by decide +kernel
theorem dX6_init_64 : decode cX6_init 64 = .ok (.invokespecial 38, 3) := by decide +kernel
theorem dX6_init_67 : decode cX6_init 67 = .ok (.putfield 39, 3) := by decide +kernel
theorem dX6_init_70 : decode cX6_init 70 = .ok (.aload_n 0, 1) := by decide +kernel
theorem dX6_init_71 : decode cX6_init 71 = .ok (.bipush 8, 2) := by decide +kernel
theorem dX6_init_73 : decode cX6_init 73 = .ok (.bipush 8, 2) := by decide +kernel
theorem dX6_init_75 : decode cX6_init 75 = .ok (.multianewarray 43 2, 4) := by decide +kernel
theorem dX6_init_79 : decode cX6_init 79 = .ok (.putfield 45, 3) := by decide +kernel
theorem dX6_init_82 : decode cX6_init 82 = .ok (.aload_n 0, 1) := by decide +kernel
theorem dX6_init_83 : decode cX6_init 83 = .ok (.iconst 0, 1) := by decide +kernel
theorem dX6_init_84 : decode cX6_init 84 = .ok (.putfield 48, 3) := by decide +kernel
theorem dX6_init_87 : decode cX6_init 87 = .ok (.aload_n 0, 1) := by decide +kernel
theorem dX6_init_88 : decode cX6_init 88 = .ok (.iconst (-1), 1) := by decide +kernel
theorem dX6_init_89 : decode cX6_init 89 = .ok (.putfield 52, 3) := by decide +kernel
theorem dX6_init_92 : decode cX6_init 92 = .ok (.aload_n 0, 1) := by decide +kernel
theorem dX6_init_93 : decode cX6_init 93 = .ok (.iconst (-1), 1) := by decide +kernel
theorem dX6_init_94 : decode cX6_init 94 = .ok (.putfield 56, 3) := by decide +kernel
theorem dX6_init_97 : decode cX6_init 97 = .ok (.return_, 1) := by decide +kernel
theorem dX6_open_0 : decode cX6_open 0 = .ok (.aload_n 0, 1) := by decide +kernel
theorem dX6_open_1 : decode cX6_open 1 = .ok (.getfield 10, 3) := by decide +kernel
theorem dX6_open_4 : decode cX6_open 4 = .ok (.iload_n 1, 1) := by decide +kernel
theorem dX6_open_5 : decode cX6_open 5 = .ok (.invokevirtual 59, 3) := by decide +kernel
theorem dX6_open_8 : decode cX6_open 8 = .ok (.invokestatic 63, 3) := by decide +kernel
theorem dX6_open_11 : decode cX6_open 11 = .ok (.aload_n 0, 1) := by decide +kernel
theorem dX6_open_12 : decode cX6_open 12 = .ok (.getfield 25, 3) := by decide +kernel
theorem dX6_open_15 : decode cX6_open 15 = .ok (.aload_n 0, 1) := by decide +kernel
theorem dX6_open_16 : decode cX6_open 16 = .ok (.getfield 10, 3) := by decide +kernel
theorem dX6_open_19 : decode cX6_open 19 = .ok (.invokevirtual 67, 3) := by decide +kernel
theorem dX6_open_22 : decode cX6_open 22 = .ok (.aload_n 0, 1) := by decide +kernel
theorem dX6_open_23 : decode cX6_open 23 = .ok (.getfield 10, 3) := by decide +kernel
theorem dX6_open_26 : decode cX6_open 26 = .ok (.getfield 71, 3) := by decide +kernel
theorem dX6_open_29 : decode cX6_open 29 = .ok (.iload_n 1, 1) := by decide +kernel
theorem dX6_open_30 : decode cX6_open 30 = .ok (.invokevirtual 75, 3) := by decide +kernel
theorem dX6_open_33 : decode cX6_open 33 = .ok (.ireturn, 1) := by decide +kernel
theorem dX6_deposit_0 : decode cX6_deposit 0 = .ok (.aload_n 0, 1) := by decide +kernel
theorem dX6_deposit_1 : decode cX6_deposit 1 = .ok (.getfield 10, 3) := by decide +kernel
theorem dX6_deposit_4 : decode cX6_deposit 4 = .ok (.iload_n 1, 1) := by decide +kernel
theorem dX6_deposit_5 : decode cX6_deposit 5 = .ok (.iload_n 2, 1) := by decide +kernel
theorem dX6_deposit_6 : decode cX6_deposit 6 = .ok (.invokevirtual 80, 3) := by decide +kernel
theorem dX6_deposit_9 : decode cX6_deposit 9 = .ok (.invokestatic 63, 3) := by decide +kernel
theorem dX6_deposit_12 : decode cX6_deposit 12 = .ok (.aload_n 0, 1) := by decide +kernel
theorem dX6_deposit_13 : decode cX6_deposit 13 = .ok (.getfield 25, 3) := by decide +kernel
theorem dX6_deposit_16 : decode cX6_deposit 16 = .ok (.aload_n 0, 1) := by decide +kernel
theorem dX6_deposit_17 : decode cX6_deposit 17 = .ok (.getfield 10, 3) := by decide +kernel
theorem dX6_deposit_20 : decode cX6_deposit 20 = .ok (.invokevirtual 67, 3) := by decide +kernel
theorem dX6_deposit_23 : decode cX6_deposit 23 = .ok (.aload_n 0, 1) := by decide +kernel
theorem dX6_deposit_24 : decode cX6_deposit 24 = .ok (.getfield 10, 3) := by decide +kernel
theorem dX6_deposit_27 : decode cX6_deposit 27 = .ok (.iload_n 1, 1) := by decide +kernel
theorem dX6_deposit_28 : decode cX6_deposit 28 = .ok (.iload_n 2, 1) := by decide +kernel
theorem dX6_deposit_29 : decode cX6_deposit 29 = .ok (.invokevirtual 84, 3) := by decide +kernel
theorem dX6_deposit_32 : decode cX6_deposit 32 = .ok (.ireturn, 1) := by decide +kernel
theorem dX6_withdraw_0 : decode cX6_withdraw 0 = .ok (.aload_n 0, 1) := by decide +kernel
theorem dX6_withdraw_1 : decode cX6_withdraw 1 = .ok (.getfield 10, 3) := by decide +kernel
theorem dX6_withdraw_4 : decode cX6_withdraw 4 = .ok (.iload_n 1, 1) := by decide +kernel
theorem dX6_withdraw_5 : decode cX6_withdraw 5 = .ok (.iload_n 2, 1) := by decide +kernel
theorem dX6_withdraw_6 : decode cX6_withdraw 6 = .ok (.invokevirtual 87, 3) := by decide +kernel
theorem dX6_withdraw_9 : decode cX6_withdraw 9 = .ok (.invokestatic 63, 3) := by decide +kernel
theorem dX6_withdraw_12 : decode cX6_withdraw 12 = .ok (.aload_n 0, 1) := by decide +kernel
theorem dX6_withdraw_13 : decode cX6_withdraw 13 = .ok (.getfield 25, 3) := by decide +kernel
theorem dX6_withdraw_16 : decode cX6_withdraw 16 = .ok (.aload_n 0, 1) := by decide +kernel
theorem dX6_withdraw_17 : decode cX6_withdraw 17 = .ok (.getfield 10, 3) := by decide +kernel
theorem dX6_withdraw_20 : decode cX6_withdraw 20 = .ok (.invokevirtual 67, 3) := by decide +kernel
theorem dX6_withdraw_23 : decode cX6_withdraw 23 = .ok (.aload_n 0, 1) := by decide +kernel
theorem dX6_withdraw_24 : decode cX6_withdraw 24 = .ok (.getfield 10, 3) := by decide +kernel
theorem dX6_withdraw_27 : decode cX6_withdraw 27 = .ok (.iload_n 1, 1) := by decide +kernel
theorem dX6_withdraw_28 : decode cX6_withdraw 28 = .ok (.iload_n 2, 1) := by decide +kernel
theorem dX6_withdraw_29 : decode cX6_withdraw 29 = .ok (.invokevirtual 90, 3) := by decide +kernel
theorem dX6_withdraw_32 : decode cX6_withdraw 32 = .ok (.ireturn, 1) := by decide +kernel
theorem dX6_setLimit_0 : decode cX6_setLimit 0 = .ok (.aload_n 0, 1) := by decide +kernel
theorem dX6_setLimit_1 : decode cX6_setLimit 1 = .ok (.getfield 10, 3) := by decide +kernel
theorem dX6_setLimit_4 : decode cX6_setLimit 4 = .ok (.iload_n 1, 1) := by decide +kernel
theorem dX6_setLimit_5 : decode cX6_setLimit 5 = .ok (.iload_n 2, 1) := by decide +kernel
theorem dX6_setLimit_6 : decode cX6_setLimit 6 = .ok (.invokevirtual 93, 3) := by decide +kernel
theorem dX6_setLimit_9 : decode cX6_setLimit 9 = .ok (.invokestatic 63, 3) := by decide +kernel
theorem dX6_setLimit_12 : decode cX6_setLimit 12 = .ok (.aload_n 0, 1) := by decide +kernel
theorem dX6_setLimit_13 : decode cX6_setLimit 13 = .ok (.getfield 25, 3) := by decide +kernel
theorem dX6_setLimit_16 : decode cX6_setLimit 16 = .ok (.aload_n 0, 1) := by decide +kernel
theorem dX6_setLimit_17 : decode cX6_setLimit 17 = .ok (.getfield 10, 3) := by decide +kernel
theorem dX6_setLimit_20 : decode cX6_setLimit 20 = .ok (.invokevirtual 67, 3) := by decide +kernel
theorem dX6_setLimit_23 : decode cX6_setLimit 23 = .ok (.aload_n 0, 1) := by decide +kernel
theorem dX6_setLimit_24 : decode cX6_setLimit 24 = .ok (.getfield 10, 3) := by decide +kernel
theorem dX6_setLimit_27 : decode cX6_setLimit 27 = .ok (.getfield 71, 3) := by decide +kernel
theorem dX6_setLimit_30 : decode cX6_setLimit 30 = .ok (.iload_n 1, 1) := by decide +kernel
theorem dX6_setLimit_31 : decode cX6_setLimit 31 = .ok (.iload_n 2, 1) := by decide +kernel
theorem dX6_setLimit_32 : decode cX6_setLimit 32 = .ok (.invokevirtual 96, 3) := by decide +kernel
theorem dX6_setLimit_35 : decode cX6_setLimit 35 = .ok (.ireturn, 1) := by decide +kernel
theorem dX6_accountCount_0 : decode cX6_accountCount 0 = .ok (.aload_n 0, 1) := by decide +kernel
theorem dX6_accountCount_1 : decode cX6_accountCount 1 = .ok (.getfield 10, 3) := by decide +kernel
theorem dX6_accountCount_4 : decode cX6_accountCount 4 = .ok (.getfield 71, 3) := by decide +kernel
theorem dX6_accountCount_7 : decode cX6_accountCount 7 = .ok (.getfield 99, 3) := by decide +kernel
theorem dX6_accountCount_10 : decode cX6_accountCount 10 = .ok (.ireturn, 1) := by decide +kernel
theorem dX6_kindOf_0 : decode cX6_kindOf 0 = .ok (.aload_n 0, 1) := by decide +kernel
theorem dX6_kindOf_1 : decode cX6_kindOf 1 = .ok (.iload_n 1, 1) := by decide +kernel
theorem dX6_kindOf_2 : decode cX6_kindOf 2 = .ok (.invokevirtual 102, 3) := by decide +kernel
theorem dX6_kindOf_5 : decode cX6_kindOf 5 = .ok (.aload_n 0, 1) := by decide +kernel
theorem dX6_kindOf_6 : decode cX6_kindOf 6 = .ok (.getfield 10, 3) := by decide +kernel
theorem dX6_kindOf_9 : decode cX6_kindOf 9 = .ok (.getfield 71, 3) := by decide +kernel
theorem dX6_kindOf_12 : decode cX6_kindOf 12 = .ok (.getfield 105, 3) := by decide +kernel
theorem dX6_kindOf_15 : decode cX6_kindOf 15 = .ok (.iload_n 1, 1) := by decide +kernel
theorem dX6_kindOf_16 : decode cX6_kindOf 16 = .ok (.iaload, 1) := by decide +kernel
theorem dX6_kindOf_17 : decode cX6_kindOf 17 = .ok (.ireturn, 1) := by decide +kernel
theorem dX6_balanceOf_0 : decode cX6_balanceOf 0 = .ok (.aload_n 0, 1) := by decide +kernel
theorem dX6_balanceOf_1 : decode cX6_balanceOf 1 = .ok (.iload_n 1, 1) := by decide +kernel
theorem dX6_balanceOf_2 : decode cX6_balanceOf 2 = .ok (.invokevirtual 102, 3) := by decide +kernel
theorem dX6_balanceOf_5 : decode cX6_balanceOf 5 = .ok (.aload_n 0, 1) := by decide +kernel
theorem dX6_balanceOf_6 : decode cX6_balanceOf 6 = .ok (.getfield 10, 3) := by decide +kernel
theorem dX6_balanceOf_9 : decode cX6_balanceOf 9 = .ok (.getfield 71, 3) := by decide +kernel
theorem dX6_balanceOf_12 : decode cX6_balanceOf 12 = .ok (.getfield 109, 3) := by decide +kernel
theorem dX6_balanceOf_15 : decode cX6_balanceOf 15 = .ok (.iload_n 1, 1) := by decide +kernel
theorem dX6_balanceOf_16 : decode cX6_balanceOf 16 = .ok (.iaload, 1) := by decide +kernel
theorem dX6_balanceOf_17 : decode cX6_balanceOf 17 = .ok (.ireturn, 1) := by decide +kernel
theorem dX6_limitOf_0 : decode cX6_limitOf 0 = .ok (.aload_n 0, 1) := by decide +kernel
theorem dX6_limitOf_1 : decode cX6_limitOf 1 = .ok (.iload_n 1, 1) := by decide +kernel
theorem dX6_limitOf_2 : decode cX6_limitOf 2 = .ok (.invokevirtual 102, 3) := by decide +kernel
theorem dX6_limitOf_5 : decode cX6_limitOf 5 = .ok (.aload_n 0, 1) := by decide +kernel
theorem dX6_limitOf_6 : decode cX6_limitOf 6 = .ok (.getfield 10, 3) := by decide +kernel
theorem dX6_limitOf_9 : decode cX6_limitOf 9 = .ok (.getfield 71, 3) := by decide +kernel
theorem dX6_limitOf_12 : decode cX6_limitOf 12 = .ok (.getfield 112, 3) := by decide +kernel
theorem dX6_limitOf_15 : decode cX6_limitOf 15 = .ok (.iload_n 1, 1) := by decide +kernel
theorem dX6_limitOf_16 : decode cX6_limitOf 16 = .ok (.iaload, 1) := by decide +kernel
theorem dX6_limitOf_17 : decode cX6_limitOf 17 = .ok (.ireturn, 1) := by decide +kernel
theorem dX6_availableIn_0 : decode cX6_availableIn 0 = .ok (.aload_n 0, 1) := by decide +kernel
theorem dX6_availableIn_1 : decode cX6_availableIn 1 = .ok (.iload_n 1, 1) := by decide +kernel
theorem dX6_availableIn_2 : decode cX6_availableIn 2 = .ok (.invokevirtual 102, 3) := by decide +kernel
theorem dX6_availableIn_5 : decode cX6_availableIn 5 = .ok (.aload_n 0, 1) := by decide +kernel
theorem dX6_availableIn_6 : decode cX6_availableIn 6 = .ok (.getfield 10, 3) := by decide +kernel
theorem dX6_availableIn_9 : decode cX6_availableIn 9 = .ok (.getfield 71, 3) := by decide +kernel
theorem dX6_availableIn_12 : decode cX6_availableIn 12 = .ok (.iload_n 1, 1) := by decide +kernel
theorem dX6_availableIn_13 : decode cX6_availableIn 13 = .ok (.invokevirtual 115, 3) := by decide +kernel
theorem dX6_availableIn_16 : decode cX6_availableIn 16 = .ok (.ireturn, 1) := by decide +kernel
theorem dX6_wasTouched_0 : decode cX6_wasTouched 0 = .ok (.aload_n 0, 1) := by decide +kernel
theorem dX6_wasTouched_1 : decode cX6_wasTouched 1 = .ok (.iload_n 1, 1) := by decide +kernel
theorem dX6_wasTouched_2 : decode cX6_wasTouched 2 = .ok (.invokevirtual 102, 3) := by decide +kernel
theorem dX6_wasTouched_5 : decode cX6_wasTouched 5 = .ok (.aload_n 0, 1) := by decide +kernel
theorem dX6_wasTouched_6 : decode cX6_wasTouched 6 = .ok (.getfield 10, 3) := by decide +kernel
theorem dX6_wasTouched_9 : decode cX6_wasTouched 9 = .ok (.getfield 71, 3) := by decide +kernel
theorem dX6_wasTouched_12 : decode cX6_wasTouched 12 = .ok (.getfield 118, 3) := by decide +kernel
theorem dX6_wasTouched_15 : decode cX6_wasTouched 15 = .ok (.iload_n 1, 1) := by decide +kernel
theorem dX6_wasTouched_16 : decode cX6_wasTouched 16 = .ok (.baload, 1) := by decide +kernel
theorem dX6_wasTouched_17 : decode cX6_wasTouched 17 = .ok (.ireturn, 1) := by decide +kernel
theorem dX6_interestOf_0 : decode cX6_interestOf 0 = .ok (.aload_n 0, 1) := by decide +kernel
theorem dX6_interestOf_1 : decode cX6_interestOf 1 = .ok (.iload_n 1, 1) := by decide +kernel
theorem dX6_interestOf_2 : decode cX6_interestOf 2 = .ok (.invokevirtual 102, 3) := by decide +kernel
theorem dX6_interestOf_5 : decode cX6_interestOf 5 = .ok (.aload_n 0, 1) := by decide +kernel
theorem dX6_interestOf_6 : decode cX6_interestOf 6 = .ok (.getfield 10, 3) := by decide +kernel
theorem dX6_interestOf_9 : decode cX6_interestOf 9 = .ok (.getfield 71, 3) := by decide +kernel
theorem dX6_interestOf_12 : decode cX6_interestOf 12 = .ok (.iload_n 1, 1) := by decide +kernel
theorem dX6_interestOf_13 : decode cX6_interestOf 13 = .ok (.invokevirtual 122, 3) := by decide +kernel
theorem dX6_interestOf_16 : decode cX6_interestOf 16 = .ok (.ireturn, 1) := by decide +kernel
theorem dX6_accountAtRank_0 : decode cX6_accountAtRank 0 = .ok (.aload_n 0, 1) := by decide +kernel
theorem dX6_accountAtRank_1 : decode cX6_accountAtRank 1 = .ok (.getfield 10, 3) := by decide +kernel
theorem dX6_accountAtRank_4 : decode cX6_accountAtRank 4 = .ok (.getfield 71, 3) := by decide +kernel
theorem dX6_accountAtRank_7 : decode cX6_accountAtRank 7 = .ok (.iload_n 1, 1) := by decide +kernel
theorem dX6_accountAtRank_8 : decode cX6_accountAtRank 8 = .ok (.invokevirtual 125, 3) := by decide +kernel
theorem dX6_accountAtRank_11 : decode cX6_accountAtRank 11 = .ok (.ifCond .ne 11, 3) := by decide +kernel
theorem dX6_accountAtRank_14 : decode cX6_accountAtRank 14 = .ok (.new 129, 3) := by decide +kernel
theorem dX6_accountAtRank_17 : decode cX6_accountAtRank 17 = .ok (.dup, 1) := by decide +kernel
theorem dX6_accountAtRank_18 : decode cX6_accountAtRank 18 = .ok (.invokespecial 131, 3) := by decide +kernel
theorem dX6_accountAtRank_21 : decode cX6_accountAtRank 21 = .ok (.athrow, 1) := by decide +kernel
theorem dX6_accountAtRank_22 : decode cX6_accountAtRank 22 = .ok (.aload_n 0, 1) := by decide +kernel
theorem dX6_accountAtRank_23 : decode cX6_accountAtRank 23 = .ok (.getfield 10, 3) := by decide +kernel
theorem dX6_accountAtRank_26 : decode cX6_accountAtRank 26 = .ok (.getfield 71, 3) := by decide +kernel
theorem dX6_accountAtRank_29 : decode cX6_accountAtRank 29 = .ok (.iload_n 1, 1) := by decide +kernel
theorem dX6_accountAtRank_30 : decode cX6_accountAtRank 30 = .ok (.invokevirtual 132, 3) := by decide +kernel
theorem dX6_accountAtRank_33 : decode cX6_accountAtRank 33 = .ok (.ireturn, 1) := by decide +kernel
theorem dX6_meanBalance_0 : decode cX6_meanBalance 0 = .ok (.aload_n 0, 1) := by decide +kernel
theorem dX6_meanBalance_1 : decode cX6_meanBalance 1 = .ok (.getfield 10, 3) := by decide +kernel
theorem dX6_meanBalance_4 : decode cX6_meanBalance 4 = .ok (.getfield 71, 3) := by decide +kernel
theorem dX6_meanBalance_7 : decode cX6_meanBalance 7 = .ok (.getfield 99, 3) := by decide +kernel
theorem dX6_meanBalance_10 : decode cX6_meanBalance 10 = .ok (.iconst 1, 1) := by decide +kernel
theorem dX6_meanBalance_11 : decode cX6_meanBalance 11 = .ok (.if_icmp .ge 11, 3) := by decide +kernel
theorem dX6_meanBalance_14 : decode cX6_meanBalance 14 = .ok (.new 135, 3) := by decide +kernel
theorem dX6_meanBalance_17 : decode cX6_meanBalance 17 = .ok (.dup, 1) := by decide +kernel
theorem dX6_meanBalance_18 : decode cX6_meanBalance 18 = .ok (.invokespecial 137, 3) := by decide +kernel
theorem dX6_meanBalance_21 : decode cX6_meanBalance 21 = .ok (.athrow, 1) := by decide +kernel
theorem dX6_meanBalance_22 : decode cX6_meanBalance 22 = .ok (.aload_n 0, 1) := by decide +kernel
theorem dX6_meanBalance_23 : decode cX6_meanBalance 23 = .ok (.getfield 10, 3) := by decide +kernel
theorem dX6_meanBalance_26 : decode cX6_meanBalance 26 = .ok (.getfield 71, 3) := by decide +kernel
theorem dX6_meanBalance_29 : decode cX6_meanBalance 29 = .ok (.invokevirtual 138, 3) := by decide +kernel
theorem dX6_meanBalance_32 : decode cX6_meanBalance 32 = .ok (.l2d, 1) := by decide +kernel
theorem dX6_meanBalance_33 : decode cX6_meanBalance 33 = .ok (.aload_n 0, 1) := by decide +kernel
theorem dX6_meanBalance_34 : decode cX6_meanBalance 34 = .ok (.getfield 10, 3) := by decide +kernel
theorem dX6_meanBalance_37 : decode cX6_meanBalance 37 = .ok (.getfield 71, 3) := by decide +kernel
theorem dX6_meanBalance_40 : decode cX6_meanBalance 40 = .ok (.getfield 99, 3) := by decide +kernel
theorem dX6_meanBalance_43 : decode cX6_meanBalance 43 = .ok (.i2d, 1) := by decide +kernel
theorem dX6_meanBalance_44 : decode cX6_meanBalance 44 = .ok (.ddiv, 1) := by decide +kernel
theorem dX6_meanBalance_45 : decode cX6_meanBalance 45 = .ok (.dreturn, 1) := by decide +kernel
theorem dX6_bankBalance_0 : decode cX6_bankBalance 0 = .ok (.aload_n 0, 1) := by decide +kernel
theorem dX6_bankBalance_1 : decode cX6_bankBalance 1 = .ok (.getfield 10, 3) := by decide +kernel
theorem dX6_bankBalance_4 : decode cX6_bankBalance 4 = .ok (.getfield 142, 3) := by decide +kernel
theorem dX6_bankBalance_7 : decode cX6_bankBalance 7 = .ok (.ireturn, 1) := by decide +kernel
theorem dX6_totalInk_0 : decode cX6_totalInk 0 = .ok (.aload_n 0, 1) := by decide +kernel
theorem dX6_totalInk_1 : decode cX6_totalInk 1 = .ok (.getfield 10, 3) := by decide +kernel
theorem dX6_totalInk_4 : decode cX6_totalInk 4 = .ok (.getfield 142, 3) := by decide +kernel
theorem dX6_totalInk_7 : decode cX6_totalInk 7 = .ok (.i2l, 1) := by decide +kernel
theorem dX6_totalInk_8 : decode cX6_totalInk 8 = .ok (.aload_n 0, 1) := by decide +kernel
theorem dX6_totalInk_9 : decode cX6_totalInk 9 = .ok (.getfield 10, 3) := by decide +kernel
theorem dX6_totalInk_12 : decode cX6_totalInk 12 = .ok (.getfield 71, 3) := by decide +kernel
theorem dX6_totalInk_15 : decode cX6_totalInk 15 = .ok (.invokevirtual 138, 3) := by decide +kernel
theorem dX6_totalInk_18 : decode cX6_totalInk 18 = .ok (.ladd, 1) := by decide +kernel
theorem dX6_totalInk_19 : decode cX6_totalInk 19 = .ok (.lreturn, 1) := by decide +kernel
theorem dX6_totalInkByMovements_0 : decode cX6_totalInkByMovements 0 = .ok (.aload_n 0, 1) := by decide +kernel
theorem dX6_totalInkByMovements_1 : decode cX6_totalInkByMovements 1 = .ok (.getfield 10, 3) := by decide +kernel
theorem dX6_totalInkByMovements_4 : decode cX6_totalInkByMovements 4 = .ok (.getfield 145, 3) := by decide +kernel
theorem dX6_totalInkByMovements_7 : decode cX6_totalInkByMovements 7 = .ok (.aload_n 0, 1) := by decide +kernel
theorem dX6_totalInkByMovements_8 : decode cX6_totalInkByMovements 8 = .ok (.getfield 10, 3) := by decide +kernel
theorem dX6_totalInkByMovements_11 : decode cX6_totalInkByMovements 11 = .ok (.getfield 149, 3) := by decide +kernel
theorem dX6_totalInkByMovements_14 : decode cX6_totalInkByMovements 14 = .ok (.lsub, 1) := by decide +kernel
theorem dX6_totalInkByMovements_15 : decode cX6_totalInkByMovements 15 = .ok (.lreturn, 1) := by decide +kernel
theorem dX6_interestPaid_0 : decode cX6_interestPaid 0 = .ok (.aload_n 0, 1) := by decide +kernel
theorem dX6_interestPaid_1 : decode cX6_interestPaid 1 = .ok (.getfield 10, 3) := by decide +kernel
theorem dX6_interestPaid_4 : decode cX6_interestPaid 4 = .ok (.getfield 155, 3) := by decide +kernel
theorem dX6_interestPaid_7 : decode cX6_interestPaid 7 = .ok (.lreturn, 1) := by decide +kernel
theorem dX6_chargesPaid_0 : decode cX6_chargesPaid 0 = .ok (.aload_n 0, 1) := by decide +kernel
theorem dX6_chargesPaid_1 : decode cX6_chargesPaid 1 = .ok (.getfield 10, 3) := by decide +kernel
theorem dX6_chargesPaid_4 : decode cX6_chargesPaid 4 = .ok (.getfield 157, 3) := by decide +kernel
theorem dX6_chargesPaid_7 : decode cX6_chargesPaid 7 = .ok (.lreturn, 1) := by decide +kernel
theorem dX6_endDays_0 : decode cX6_endDays 0 = .ok (.aload_n 0, 1) := by decide +kernel
theorem dX6_endDays_1 : decode cX6_endDays 1 = .ok (.getfield 10, 3) := by decide +kernel
theorem dX6_endDays_4 : decode cX6_endDays 4 = .ok (.iload_n 1, 1) := by decide +kernel
theorem dX6_endDays_5 : decode cX6_endDays 5 = .ok (.invokevirtual 163, 3) := by decide +kernel
theorem dX6_endDays_8 : decode cX6_endDays 8 = .ok (.invokestatic 63, 3) := by decide +kernel
theorem dX6_endDays_11 : decode cX6_endDays 11 = .ok (.aload_n 0, 1) := by decide +kernel
theorem dX6_endDays_12 : decode cX6_endDays 12 = .ok (.getfield 25, 3) := by decide +kernel
theorem dX6_endDays_15 : decode cX6_endDays 15 = .ok (.aload_n 0, 1) := by decide +kernel
theorem dX6_endDays_16 : decode cX6_endDays 16 = .ok (.getfield 10, 3) := by decide +kernel
theorem dX6_endDays_19 : decode cX6_endDays 19 = .ok (.invokevirtual 67, 3) := by decide +kernel
theorem dX6_endDays_22 : decode cX6_endDays 22 = .ok (.aload_n 0, 1) := by decide +kernel
theorem dX6_endDays_23 : decode cX6_endDays 23 = .ok (.getfield 10, 3) := by decide +kernel
theorem dX6_endDays_26 : decode cX6_endDays 26 = .ok (.iload_n 1, 1) := by decide +kernel
theorem dX6_endDays_27 : decode cX6_endDays 27 = .ok (.invokevirtual 166, 3) := by decide +kernel
theorem dX6_endDays_30 : decode cX6_endDays 30 = .ok (.ireturn, 1) := by decide +kernel
theorem dX6_balanceAfter_0 : decode cX6_balanceAfter 0 = .ok (.aload_n 0, 1) := by decide +kernel
theorem dX6_balanceAfter_1 : decode cX6_balanceAfter 1 = .ok (.getfield 10, 3) := by decide +kernel
theorem dX6_balanceAfter_4 : decode cX6_balanceAfter 4 = .ok (.iload_n 1, 1) := by decide +kernel
theorem dX6_balanceAfter_5 : decode cX6_balanceAfter 5 = .ok (.iload_n 2, 1) := by decide +kernel
theorem dX6_balanceAfter_6 : decode cX6_balanceAfter 6 = .ok (.invokevirtual 169, 3) := by decide +kernel
theorem dX6_balanceAfter_9 : decode cX6_balanceAfter 9 = .ok (.invokestatic 63, 3) := by decide +kernel
theorem dX6_balanceAfter_12 : decode cX6_balanceAfter 12 = .ok (.aload_n 0, 1) := by decide +kernel
theorem dX6_balanceAfter_13 : decode cX6_balanceAfter 13 = .ok (.getfield 16, 3) := by decide +kernel
theorem dX6_balanceAfter_16 : decode cX6_balanceAfter 16 = .ok (.aload_n 0, 1) := by decide +kernel
theorem dX6_balanceAfter_17 : decode cX6_balanceAfter 17 = .ok (.getfield 10, 3) := by decide +kernel
theorem dX6_balanceAfter_20 : decode cX6_balanceAfter 20 = .ok (.invokevirtual 172, 3) := by decide +kernel
theorem dX6_balanceAfter_23 : decode cX6_balanceAfter 23 = .ok (.aload_n 0, 1) := by decide +kernel
theorem dX6_balanceAfter_24 : decode cX6_balanceAfter 24 = .ok (.getfield 16, 3) := by decide +kernel
theorem dX6_balanceAfter_27 : decode cX6_balanceAfter 27 = .ok (.iload_n 2, 1) := by decide +kernel
theorem dX6_balanceAfter_28 : decode cX6_balanceAfter 28 = .ok (.invokevirtual 166, 3) := by decide +kernel
theorem dX6_balanceAfter_31 : decode cX6_balanceAfter 31 = .ok (.pop, 1) := by decide +kernel
theorem dX6_balanceAfter_32 : decode cX6_balanceAfter 32 = .ok (.aload_n 0, 1) := by decide +kernel
theorem dX6_balanceAfter_33 : decode cX6_balanceAfter 33 = .ok (.getfield 16, 3) := by decide +kernel
theorem dX6_balanceAfter_36 : decode cX6_balanceAfter 36 = .ok (.getfield 71, 3) := by decide +kernel
theorem dX6_balanceAfter_39 : decode cX6_balanceAfter 39 = .ok (.getfield 109, 3) := by decide +kernel
theorem dX6_balanceAfter_42 : decode cX6_balanceAfter 42 = .ok (.iload_n 1, 1) := by decide +kernel
theorem dX6_balanceAfter_43 : decode cX6_balanceAfter 43 = .ok (.iaload, 1) := by decide +kernel
theorem dX6_balanceAfter_44 : decode cX6_balanceAfter 44 = .ok (.ireturn, 1) := by decide +kernel
theorem dX6_seal_0 : decode cX6_seal 0 = .ok (.aload_n 0, 1) := by decide +kernel
theorem dX6_seal_1 : decode cX6_seal 1 = .ok (.getfield 10, 3) := by decide +kernel
theorem dX6_seal_4 : decode cX6_seal 4 = .ok (.iload_n 1, 1) := by decide +kernel
theorem dX6_seal_5 : decode cX6_seal 5 = .ok (.iload_n 2, 1) := by decide +kernel
theorem dX6_seal_6 : decode cX6_seal 6 = .ok (.iload_n 3, 1) := by decide +kernel
theorem dX6_seal_7 : decode cX6_seal 7 = .ok (.iload 4, 2) := by decide +kernel
theorem dX6_seal_9 : decode cX6_seal 9 = .ok (.invokevirtual 175, 3) := by decide +kernel
theorem dX6_seal_12 : decode cX6_seal 12 = .ok (.invokestatic 63, 3) := by decide +kernel
theorem dX6_seal_15 : decode cX6_seal 15 = .ok (.aload_n 0, 1) := by decide +kernel
theorem dX6_seal_16 : decode cX6_seal 16 = .ok (.getfield 25, 3) := by decide +kernel
theorem dX6_seal_19 : decode cX6_seal 19 = .ok (.aload_n 0, 1) := by decide +kernel
theorem dX6_seal_20 : decode cX6_seal 20 = .ok (.getfield 10, 3) := by decide +kernel
theorem dX6_seal_23 : decode cX6_seal 23 = .ok (.invokevirtual 67, 3) := by decide +kernel
theorem dX6_seal_26 : decode cX6_seal 26 = .ok (.aload_n 0, 1) := by decide +kernel
theorem dX6_seal_27 : decode cX6_seal 27 = .ok (.getfield 10, 3) := by decide +kernel
theorem dX6_seal_30 : decode cX6_seal 30 = .ok (.getfield 179, 3) := by decide +kernel
theorem dX6_seal_33 : decode cX6_seal 33 = .ok (.iload_n 1, 1) := by decide +kernel
theorem dX6_seal_34 : decode cX6_seal 34 = .ok (.iload_n 2, 1) := by decide +kernel
theorem dX6_seal_35 : decode cX6_seal 35 = .ok (.iload_n 3, 1) := by decide +kernel
theorem dX6_seal_36 : decode cX6_seal 36 = .ok (.aload_n 0, 1) := by decide +kernel
theorem dX6_seal_37 : decode cX6_seal 37 = .ok (.getfield 10, 3) := by decide +kernel
theorem dX6_seal_40 : decode cX6_seal 40 = .ok (.getfield 160, 3) := by decide +kernel
theorem dX6_seal_43 : decode cX6_seal 43 = .ok (.iload 4, 2) := by decide +kernel
theorem dX6_seal_45 : decode cX6_seal 45 = .ok (.iadd, 1) := by decide +kernel
theorem dX6_seal_46 : decode cX6_seal 46 = .ok (.invokevirtual 183, 3) := by decide +kernel
theorem dX6_seal_49 : decode cX6_seal 49 = .ok (.ireturn, 1) := by decide +kernel
theorem dX6_cancel_0 : decode cX6_cancel 0 = .ok (.aload_n 0, 1) := by decide +kernel
theorem dX6_cancel_1 : decode cX6_cancel 1 = .ok (.getfield 10, 3) := by decide +kernel
theorem dX6_cancel_4 : decode cX6_cancel 4 = .ok (.iload_n 1, 1) := by decide +kernel
theorem dX6_cancel_5 : decode cX6_cancel 5 = .ok (.invokevirtual 187, 3) := by decide +kernel
theorem dX6_cancel_8 : decode cX6_cancel 8 = .ok (.invokestatic 63, 3) := by decide +kernel
theorem dX6_cancel_11 : decode cX6_cancel 11 = .ok (.aload_n 0, 1) := by decide +kernel
theorem dX6_cancel_12 : decode cX6_cancel 12 = .ok (.getfield 25, 3) := by decide +kernel
theorem dX6_cancel_15 : decode cX6_cancel 15 = .ok (.aload_n 0, 1) := by decide +kernel
theorem dX6_cancel_16 : decode cX6_cancel 16 = .ok (.getfield 10, 3) := by decide +kernel
theorem dX6_cancel_19 : decode cX6_cancel 19 = .ok (.invokevirtual 67, 3) := by decide +kernel
theorem dX6_cancel_22 : decode cX6_cancel 22 = .ok (.aload_n 0, 1) := by decide +kernel
theorem dX6_cancel_23 : decode cX6_cancel 23 = .ok (.getfield 10, 3) := by decide +kernel
theorem dX6_cancel_26 : decode cX6_cancel 26 = .ok (.getfield 179, 3) := by decide +kernel
theorem dX6_cancel_29 : decode cX6_cancel 29 = .ok (.iload_n 1, 1) := by decide +kernel
theorem dX6_cancel_30 : decode cX6_cancel 30 = .ok (.invokevirtual 190, 3) := by decide +kernel
theorem dX6_cancel_33 : decode cX6_cancel 33 = .ok (.ireturn, 1) := by decide +kernel
theorem dX6_transferCount_0 : decode cX6_transferCount 0 = .ok (.aload_n 0, 1) := by decide +kernel
theorem dX6_transferCount_1 : decode cX6_transferCount 1 = .ok (.getfield 10, 3) := by decide +kernel
theorem dX6_transferCount_4 : decode cX6_transferCount 4 = .ok (.getfield 179, 3) := by decide +kernel
theorem dX6_transferCount_7 : decode cX6_transferCount 7 = .ok (.getfield 193, 3) := by decide +kernel
theorem dX6_transferCount_10 : decode cX6_transferCount 10 = .ok (.ireturn, 1) := by decide +kernel
theorem dX6_transferAt_0 : decode cX6_transferAt 0 = .ok (.iload_n 1, 1) := by decide +kernel
theorem dX6_transferAt_1 : decode cX6_transferAt 1 = .ok (.ifCond .lt 17, 3) := by decide +kernel
theorem dX6_transferAt_4 : decode cX6_transferAt 4 = .ok (.iload_n 1, 1) := by decide +kernel
theorem dX6_transferAt_5 : decode cX6_transferAt 5 = .ok (.aload_n 0, 1) := by decide +kernel
theorem dX6_transferAt_6 : decode cX6_transferAt 6 = .ok (.getfield 10, 3) := by decide +kernel
theorem dX6_transferAt_9 : decode cX6_transferAt 9 = .ok (.getfield 179, 3) := by decide +kernel
theorem dX6_transferAt_12 : decode cX6_transferAt 12 = .ok (.getfield 193, 3) := by decide +kernel
theorem dX6_transferAt_15 : decode cX6_transferAt 15 = .ok (.if_icmp .lt 11, 3) := by decide +kernel
theorem dX6_transferAt_18 : decode cX6_transferAt 18 = .ok (.new 194, 3) := by decide +kernel
theorem dX6_transferAt_21 : decode cX6_transferAt 21 = .ok (.dup, 1) := by decide +kernel
theorem dX6_transferAt_22 : decode cX6_transferAt 22 = .ok (.invokespecial 196, 3) := by decide +kernel
theorem dX6_transferAt_25 : decode cX6_transferAt 25 = .ok (.athrow, 1) := by decide +kernel
theorem dX6_transferAt_26 : decode cX6_transferAt 26 = .ok (.aload_n 0, 1) := by decide +kernel
theorem dX6_transferAt_27 : decode cX6_transferAt 27 = .ok (.getfield 10, 3) := by decide +kernel
theorem dX6_transferAt_30 : decode cX6_transferAt 30 = .ok (.getfield 179, 3) := by decide +kernel
theorem dX6_transferAt_33 : decode cX6_transferAt 33 = .ok (.iload_n 1, 1) := by decide +kernel
theorem dX6_transferAt_34 : decode cX6_transferAt 34 = .ok (.invokevirtual 197, 3) := by decide +kernel
theorem dX6_transferAt_37 : decode cX6_transferAt 37 = .ok (.ireturn, 1) := by decide +kernel
theorem dX6_senderOf_0 : decode cX6_senderOf 0 = .ok (.aload_n 0, 1) := by decide +kernel
theorem dX6_senderOf_1 : decode cX6_senderOf 1 = .ok (.getfield 10, 3) := by decide +kernel
theorem dX6_senderOf_4 : decode cX6_senderOf 4 = .ok (.getfield 179, 3) := by decide +kernel
theorem dX6_senderOf_7 : decode cX6_senderOf 7 = .ok (.getfield 200, 3) := by decide +kernel
theorem dX6_senderOf_10 : decode cX6_senderOf 10 = .ok (.aload_n 0, 1) := by decide +kernel
theorem dX6_senderOf_11 : decode cX6_senderOf 11 = .ok (.iload_n 1, 1) := by decide +kernel
theorem dX6_senderOf_12 : decode cX6_senderOf 12 = .ok (.invokevirtual 203, 3) := by decide +kernel
theorem dX6_senderOf_15 : decode cX6_senderOf 15 = .ok (.iaload, 1) := by decide +kernel
theorem dX6_senderOf_16 : decode cX6_senderOf 16 = .ok (.ireturn, 1) := by decide +kernel
theorem dX6_receiverOf_0 : decode cX6_receiverOf 0 = .ok (.aload_n 0, 1) := by decide +kernel
theorem dX6_receiverOf_1 : decode cX6_receiverOf 1 = .ok (.getfield 10, 3) := by decide +kernel
theorem dX6_receiverOf_4 : decode cX6_receiverOf 4 = .ok (.getfield 179, 3) := by decide +kernel
theorem dX6_receiverOf_7 : decode cX6_receiverOf 7 = .ok (.getfield 206, 3) := by decide +kernel
theorem dX6_receiverOf_10 : decode cX6_receiverOf 10 = .ok (.aload_n 0, 1) := by decide +kernel
theorem dX6_receiverOf_11 : decode cX6_receiverOf 11 = .ok (.iload_n 1, 1) := by decide +kernel
theorem dX6_receiverOf_12 : decode cX6_receiverOf 12 = .ok (.invokevirtual 203, 3) := by decide +kernel
theorem dX6_receiverOf_15 : decode cX6_receiverOf 15 = .ok (.iaload, 1) := by decide +kernel
theorem dX6_receiverOf_16 : decode cX6_receiverOf 16 = .ok (.ireturn, 1) := by decide +kernel
theorem dX6_amountOf_0 : decode cX6_amountOf 0 = .ok (.aload_n 0, 1) := by decide +kernel
theorem dX6_amountOf_1 : decode cX6_amountOf 1 = .ok (.getfield 10, 3) := by decide +kernel
theorem dX6_amountOf_4 : decode cX6_amountOf 4 = .ok (.getfield 179, 3) := by decide +kernel
theorem dX6_amountOf_7 : decode cX6_amountOf 7 = .ok (.getfield 209, 3) := by decide +kernel
theorem dX6_amountOf_10 : decode cX6_amountOf 10 = .ok (.aload_n 0, 1) := by decide +kernel
theorem dX6_amountOf_11 : decode cX6_amountOf 11 = .ok (.iload_n 1, 1) := by decide +kernel
theorem dX6_amountOf_12 : decode cX6_amountOf 12 = .ok (.invokevirtual 203, 3) := by decide +kernel
theorem dX6_amountOf_15 : decode cX6_amountOf 15 = .ok (.iaload, 1) := by decide +kernel
theorem dX6_amountOf_16 : decode cX6_amountOf 16 = .ok (.ireturn, 1) := by decide +kernel
theorem dX6_daysUntilDue_0 : decode cX6_daysUntilDue 0 = .ok (.aload_n 0, 1) := by decide +kernel
theorem dX6_daysUntilDue_1 : decode cX6_daysUntilDue 1 = .ok (.getfield 10, 3) := by decide +kernel
theorem dX6_daysUntilDue_4 : decode cX6_daysUntilDue 4 = .ok (.getfield 179, 3) := by decide +kernel
theorem dX6_daysUntilDue_7 : decode cX6_daysUntilDue 7 = .ok (.getfield 212, 3) := by decide +kernel
theorem dX6_daysUntilDue_10 : decode cX6_daysUntilDue 10 = .ok (.aload_n 0, 1) := by decide +kernel
theorem dX6_daysUntilDue_11 : decode cX6_daysUntilDue 11 = .ok (.iload_n 1, 1) := by decide +kernel
theorem dX6_daysUntilDue_12 : decode cX6_daysUntilDue 12 = .ok (.invokevirtual 203, 3) := by decide +kernel
theorem dX6_daysUntilDue_15 : decode cX6_daysUntilDue 15 = .ok (.iaload, 1) := by decide +kernel
theorem dX6_daysUntilDue_16 : decode cX6_daysUntilDue 16 = .ok (.aload_n 0, 1) := by decide +kernel
theorem dX6_daysUntilDue_17 : decode cX6_daysUntilDue 17 = .ok (.getfield 10, 3) := by decide +kernel
theorem dX6_daysUntilDue_20 : decode cX6_daysUntilDue 20 = .ok (.getfield 160, 3) := by decide +kernel
theorem dX6_daysUntilDue_23 : decode cX6_daysUntilDue 23 = .ok (.isub, 1) := by decide +kernel
theorem dX6_daysUntilDue_24 : decode cX6_daysUntilDue 24 = .ok (.ireturn, 1) := by decide +kernel
theorem dX6_wouldBounce_0 : decode cX6_wouldBounce 0 = .ok (.aload_n 0, 1) := by decide +kernel
theorem dX6_wouldBounce_1 : decode cX6_wouldBounce 1 = .ok (.iload_n 1, 1) := by decide +kernel
theorem dX6_wouldBounce_2 : decode cX6_wouldBounce 2 = .ok (.invokevirtual 203, 3) := by decide +kernel
theorem dX6_wouldBounce_5 : decode cX6_wouldBounce 5 = .ok (.istore_n 2, 1) := by decide +kernel
theorem dX6_wouldBounce_6 : decode cX6_wouldBounce 6 = .ok (.aload_n 0, 1) := by decide +kernel
theorem dX6_wouldBounce_7 : decode cX6_wouldBounce 7 = .ok (.getfield 16, 3) := by decide +kernel
theorem dX6_wouldBounce_10 : decode cX6_wouldBounce 10 = .ok (.aload_n 0, 1) := by decide +kernel
theorem dX6_wouldBounce_11 : decode cX6_wouldBounce 11 = .ok (.getfield 10, 3) := by decide +kernel
theorem dX6_wouldBounce_14 : decode cX6_wouldBounce 14 = .ok (.invokevirtual 172, 3) := by decide +kernel
theorem dX6_wouldBounce_17 : decode cX6_wouldBounce 17 = .ok (.aload_n 0, 1) := by decide +kernel
theorem dX6_wouldBounce_18 : decode cX6_wouldBounce 18 = .ok (.getfield 16, 3) := by decide +kernel
theorem dX6_wouldBounce_21 : decode cX6_wouldBounce 21 = .ok (.aload_n 0, 1) := by decide +kernel
theorem dX6_wouldBounce_22 : decode cX6_wouldBounce 22 = .ok (.getfield 10, 3) := by decide +kernel
theorem dX6_wouldBounce_25 : decode cX6_wouldBounce 25 = .ok (.getfield 179, 3) := by decide +kernel
theorem dX6_wouldBounce_28 : decode cX6_wouldBounce 28 = .ok (.getfield 212, 3) := by decide +kernel
theorem dX6_wouldBounce_31 : decode cX6_wouldBounce 31 = .ok (.iload_n 2, 1) := by decide +kernel
theorem dX6_wouldBounce_32 : decode cX6_wouldBounce 32 = .ok (.iaload, 1) := by decide +kernel
theorem dX6_wouldBounce_33 : decode cX6_wouldBounce 33 = .ok (.aload_n 0, 1) := by decide +kernel
theorem dX6_wouldBounce_34 : decode cX6_wouldBounce 34 = .ok (.getfield 10, 3) := by decide +kernel
theorem dX6_wouldBounce_37 : decode cX6_wouldBounce 37 = .ok (.getfield 160, 3) := by decide +kernel
theorem dX6_wouldBounce_40 : decode cX6_wouldBounce 40 = .ok (.isub, 1) := by decide +kernel
theorem dX6_wouldBounce_41 : decode cX6_wouldBounce 41 = .ok (.invokevirtual 166, 3) := by decide +kernel
theorem dX6_wouldBounce_44 : decode cX6_wouldBounce 44 = .ok (.pop, 1) := by decide +kernel
theorem dX6_wouldBounce_45 : decode cX6_wouldBounce 45 = .ok (.aload_n 0, 1) := by decide +kernel
theorem dX6_wouldBounce_46 : decode cX6_wouldBounce 46 = .ok (.getfield 16, 3) := by decide +kernel
theorem dX6_wouldBounce_49 : decode cX6_wouldBounce 49 = .ok (.iload_n 1, 1) := by decide +kernel
theorem dX6_wouldBounce_50 : decode cX6_wouldBounce 50 = .ok (.invokevirtual 215, 3) := by decide +kernel
theorem dX6_wouldBounce_53 : decode cX6_wouldBounce 53 = .ok (.aload_n 0, 1) := by decide +kernel
theorem dX6_wouldBounce_54 : decode cX6_wouldBounce 54 = .ok (.getfield 16, 3) := by decide +kernel
theorem dX6_wouldBounce_57 : decode cX6_wouldBounce 57 = .ok (.aload_n 0, 1) := by decide +kernel
theorem dX6_wouldBounce_58 : decode cX6_wouldBounce 58 = .ok (.getfield 16, 3) := by decide +kernel
theorem dX6_wouldBounce_61 : decode cX6_wouldBounce 61 = .ok (.getfield 179, 3) := by decide +kernel
theorem dX6_wouldBounce_64 : decode cX6_wouldBounce 64 = .ok (.iload_n 1, 1) := by decide +kernel
theorem dX6_wouldBounce_65 : decode cX6_wouldBounce 65 = .ok (.invokevirtual 218, 3) := by decide +kernel
theorem dX6_wouldBounce_68 : decode cX6_wouldBounce 68 = .ok (.invokevirtual 221, 3) := by decide +kernel
theorem dX6_wouldBounce_71 : decode cX6_wouldBounce 71 = .ok (.ifCond .ne 7, 3) := by decide +kernel
theorem dX6_wouldBounce_74 : decode cX6_wouldBounce 74 = .ok (.iconst 1, 1) := by decide +kernel
theorem dX6_wouldBounce_75 : decode cX6_wouldBounce 75 = .ok (.goto 4, 3) := by decide +kernel
theorem dX6_wouldBounce_78 : decode cX6_wouldBounce 78 = .ok (.iconst 0, 1) := by decide +kernel
theorem dX6_wouldBounce_79 : decode cX6_wouldBounce 79 = .ok (.ireturn, 1) := by decide +kernel
theorem dX6_bounceCount_0 : decode cX6_bounceCount 0 = .ok (.aload_n 0, 1) := by decide +kernel
theorem dX6_bounceCount_1 : decode cX6_bounceCount 1 = .ok (.getfield 10, 3) := by decide +kernel
theorem dX6_bounceCount_4 : decode cX6_bounceCount 4 = .ok (.getfield 224, 3) := by decide +kernel
theorem dX6_bounceCount_7 : decode cX6_bounceCount 7 = .ok (.ireturn, 1) := by decide +kernel
theorem dX6_netOf_0 : decode cX6_netOf 0 = .ok (.aload_n 0, 1) := by decide +kernel
theorem dX6_netOf_1 : decode cX6_netOf 1 = .ok (.iload_n 1, 1) := by decide +kernel
theorem dX6_netOf_2 : decode cX6_netOf 2 = .ok (.invokevirtual 102, 3) := by decide +kernel
theorem dX6_netOf_5 : decode cX6_netOf 5 = .ok (.aload_n 0, 1) := by decide +kernel
theorem dX6_netOf_6 : decode cX6_netOf 6 = .ok (.getfield 10, 3) := by decide +kernel
theorem dX6_netOf_9 : decode cX6_netOf 9 = .ok (.getfield 179, 3) := by decide +kernel
theorem dX6_netOf_12 : decode cX6_netOf 12 = .ok (.iload_n 1, 1) := by decide +kernel
theorem dX6_netOf_13 : decode cX6_netOf 13 = .ok (.invokevirtual 227, 3) := by decide +kernel
theorem dX6_netOf_16 : decode cX6_netOf 16 = .ok (.ireturn, 1) := by decide +kernel
theorem dX6_netByTable_0 : decode cX6_netByTable 0 = .ok (.aload_n 0, 1) := by decide +kernel
theorem dX6_netByTable_1 : decode cX6_netByTable 1 = .ok (.iload_n 1, 1) := by decide +kernel
theorem dX6_netByTable_2 : decode cX6_netByTable 2 = .ok (.invokevirtual 102, 3) := by decide +kernel
theorem dX6_netByTable_5 : decode cX6_netByTable 5 = .ok (.aload_n 0, 1) := by decide +kernel
theorem dX6_netByTable_6 : decode cX6_netByTable 6 = .ok (.invokevirtual 230, 3) := by decide +kernel
theorem dX6_netByTable_9 : decode cX6_netByTable 9 = .ok (.iconst 0, 1) := by decide +kernel
theorem dX6_netByTable_10 : decode cX6_netByTable 10 = .ok (.istore_n 2, 1) := by decide +kernel
theorem dX6_netByTable_11 : decode cX6_netByTable 11 = .ok (.iconst 0, 1) := by decide +kernel
theorem dX6_netByTable_12 : decode cX6_netByTable 12 = .ok (.istore_n 3, 1) := by decide +kernel
theorem dX6_netByTable_13 : decode cX6_netByTable 13 = .ok (.iload_n 3, 1) := by decide +kernel
theorem dX6_netByTable_14 : decode cX6_netByTable 14 = .ok (.bipush 8, 2) := by decide +kernel
theorem dX6_netByTable_16 : decode cX6_netByTable 16 = .ok (.if_icmp .ge 29, 3) := by decide +kernel
theorem dX6_netByTable_19 : decode cX6_netByTable 19 = .ok (.iload_n 2, 1) := by decide +kernel
theorem dX6_netByTable_20 : decode cX6_netByTable 20 = .ok (.aload_n 0, 1) := by decide +kernel
theorem dX6_netByTable_21 : decode cX6_netByTable 21 = .ok (.getfield 45, 3) := by decide +kernel
theorem dX6_netByTable_24 : decode cX6_netByTable 24 = .ok (.iload_n 3, 1) := by decide +kernel
theorem dX6_netByTable_25 : decode cX6_netByTable 25 = .ok (.aaload, 1) := by decide +kernel
theorem dX6_netByTable_26 : decode cX6_netByTable 26 = .ok (.iload_n 1, 1) := by decide +kernel
theorem dX6_netByTable_27 : decode cX6_netByTable 27 = .ok (.iaload, 1) := by decide +kernel
theorem dX6_netByTable_28 : decode cX6_netByTable 28 = .ok (.aload_n 0, 1) := by decide +kernel
theorem dX6_netByTable_29 : decode cX6_netByTable 29 = .ok (.getfield 45, 3) := by decide +kernel
theorem dX6_netByTable_32 : decode cX6_netByTable 32 = .ok (.iload_n 1, 1) := by decide +kernel
theorem dX6_netByTable_33 : decode cX6_netByTable 33 = .ok (.aaload, 1) := by decide +kernel
theorem dX6_netByTable_34 : decode cX6_netByTable 34 = .ok (.iload_n 3, 1) := by decide +kernel
theorem dX6_netByTable_35 : decode cX6_netByTable 35 = .ok (.iaload, 1) := by decide +kernel
theorem dX6_netByTable_36 : decode cX6_netByTable 36 = .ok (.isub, 1) := by decide +kernel
theorem dX6_netByTable_37 : decode cX6_netByTable 37 = .ok (.iadd, 1) := by decide +kernel
theorem dX6_netByTable_38 : decode cX6_netByTable 38 = .ok (.istore_n 2, 1) := by decide +kernel
theorem dX6_netByTable_39 : decode cX6_netByTable 39 = .ok (.iinc 3 1, 3) := by decide +kernel
theorem dX6_netByTable_42 : decode cX6_netByTable 42 = .ok (.goto (-29), 3) := by decide +kernel
theorem dX6_netByTable_45 : decode cX6_netByTable 45 = .ok (.iload_n 2, 1) := by decide +kernel
theorem dX6_netByTable_46 : decode cX6_netByTable 46 = .ok (.ireturn, 1) := by decide +kernel
theorem dX6_leadsTo_0 : decode cX6_leadsTo 0 = .ok (.aload_n 0, 1) := by decide +kernel
theorem dX6_leadsTo_1 : decode cX6_leadsTo 1 = .ok (.iload_n 1, 1) := by decide +kernel
theorem dX6_leadsTo_2 : decode cX6_leadsTo 2 = .ok (.invokevirtual 102, 3) := by decide +kernel
theorem dX6_leadsTo_5 : decode cX6_leadsTo 5 = .ok (.aload_n 0, 1) := by decide +kernel
theorem dX6_leadsTo_6 : decode cX6_leadsTo 6 = .ok (.iload_n 2, 1) := by decide +kernel
theorem dX6_leadsTo_7 : decode cX6_leadsTo 7 = .ok (.invokevirtual 102, 3) := by decide +kernel
theorem dX6_leadsTo_10 : decode cX6_leadsTo 10 = .ok (.aload_n 0, 1) := by decide +kernel
theorem dX6_leadsTo_11 : decode cX6_leadsTo 11 = .ok (.getfield 10, 3) := by decide +kernel
theorem dX6_leadsTo_14 : decode cX6_leadsTo 14 = .ok (.getfield 179, 3) := by decide +kernel
theorem dX6_leadsTo_17 : decode cX6_leadsTo 17 = .ok (.iload_n 1, 1) := by decide +kernel
theorem dX6_leadsTo_18 : decode cX6_leadsTo 18 = .ok (.iload_n 2, 1) := by decide +kernel
theorem dX6_leadsTo_19 : decode cX6_leadsTo 19 = .ok (.invokevirtual 233, 3) := by decide +kernel
theorem dX6_leadsTo_22 : decode cX6_leadsTo 22 = .ok (.ireturn, 1) := by decide +kernel
theorem dX6_journalLength_0 : decode cX6_journalLength 0 = .ok (.aload_n 0, 1) := by decide +kernel
theorem dX6_journalLength_1 : decode cX6_journalLength 1 = .ok (.getfield 10, 3) := by decide +kernel
theorem dX6_journalLength_4 : decode cX6_journalLength 4 = .ok (.getfield 237, 3) := by decide +kernel
theorem dX6_journalLength_7 : decode cX6_journalLength 7 = .ok (.getfield 241, 3) := by decide +kernel
theorem dX6_journalLength_10 : decode cX6_journalLength 10 = .ok (.ireturn, 1) := by decide +kernel
theorem dX6_movementKind_0 : decode cX6_movementKind 0 = .ok (.aload_n 0, 1) := by decide +kernel
theorem dX6_movementKind_1 : decode cX6_movementKind 1 = .ok (.getfield 10, 3) := by decide +kernel
theorem dX6_movementKind_4 : decode cX6_movementKind 4 = .ok (.getfield 237, 3) := by decide +kernel
theorem dX6_movementKind_7 : decode cX6_movementKind 7 = .ok (.getfield 246, 3) := by decide +kernel
theorem dX6_movementKind_10 : decode cX6_movementKind 10 = .ok (.aload_n 0, 1) := by decide +kernel
theorem dX6_movementKind_11 : decode cX6_movementKind 11 = .ok (.iload_n 1, 1) := by decide +kernel
theorem dX6_movementKind_12 : decode cX6_movementKind 12 = .ok (.invokevirtual 249, 3) := by decide +kernel
theorem dX6_movementKind_15 : decode cX6_movementKind 15 = .ok (.caload, 1) := by decide +kernel
theorem dX6_movementKind_16 : decode cX6_movementKind 16 = .ok (.ireturn, 1) := by decide +kernel
theorem dX6_movementAmount_0 : decode cX6_movementAmount 0 = .ok (.aload_n 0, 1) := by decide +kernel
theorem dX6_movementAmount_1 : decode cX6_movementAmount 1 = .ok (.getfield 10, 3) := by decide +kernel
theorem dX6_movementAmount_4 : decode cX6_movementAmount 4 = .ok (.getfield 237, 3) := by decide +kernel
theorem dX6_movementAmount_7 : decode cX6_movementAmount 7 = .ok (.getfield 252, 3) := by decide +kernel
theorem dX6_movementAmount_10 : decode cX6_movementAmount 10 = .ok (.aload_n 0, 1) := by decide +kernel
theorem dX6_movementAmount_11 : decode cX6_movementAmount 11 = .ok (.iload_n 1, 1) := by decide +kernel
theorem dX6_movementAmount_12 : decode cX6_movementAmount 12 = .ok (.invokevirtual 249, 3) := by decide +kernel
theorem dX6_movementAmount_15 : decode cX6_movementAmount 15 = .ok (.iaload, 1) := by decide +kernel
theorem dX6_movementAmount_16 : decode cX6_movementAmount 16 = .ok (.ireturn, 1) := by decide +kernel
theorem dX6_movementAccount_0 : decode cX6_movementAccount 0 = .ok (.aload_n 0, 1) := by decide +kernel
theorem dX6_movementAccount_1 : decode cX6_movementAccount 1 = .ok (.getfield 10, 3) := by decide +kernel
theorem dX6_movementAccount_4 : decode cX6_movementAccount 4 = .ok (.getfield 237, 3) := by decide +kernel
theorem dX6_movementAccount_7 : decode cX6_movementAccount 7 = .ok (.getfield 253, 3) := by decide +kernel
theorem dX6_movementAccount_10 : decode cX6_movementAccount 10 = .ok (.aload_n 0, 1) := by decide +kernel
theorem dX6_movementAccount_11 : decode cX6_movementAccount 11 = .ok (.iload_n 1, 1) := by decide +kernel
theorem dX6_movementAccount_12 : decode cX6_movementAccount 12 = .ok (.invokevirtual 249, 3) := by decide +kernel
theorem dX6_movementAccount_15 : decode cX6_movementAccount 15 = .ok (.iaload, 1) := by decide +kernel
theorem dX6_movementAccount_16 : decode cX6_movementAccount 16 = .ok (.ireturn, 1) := by decide +kernel
theorem dX6_writeStatement_0 : decode cX6_writeStatement 0 = .ok (.aload_n 0, 1) := by decide +kernel
theorem dX6_writeStatement_1 : decode cX6_writeStatement 1 = .ok (.iload_n 1, 1) := by decide +kernel
theorem dX6_writeStatement_2 : decode cX6_writeStatement 2 = .ok (.invokevirtual 102, 3) := by decide +kernel
theorem dX6_writeStatement_5 : decode cX6_writeStatement 5 = .ok (.aload_n 0, 1) := by decide +kernel
theorem dX6_writeStatement_6 : decode cX6_writeStatement 6 = .ok (.getfield 10, 3) := by decide +kernel
theorem dX6_writeStatement_9 : decode cX6_writeStatement 9 = .ok (.getfield 71, 3) := by decide +kernel
theorem dX6_writeStatement_12 : decode cX6_writeStatement 12 = .ok (.astore_n 2, 1) := by decide +kernel
theorem dX6_writeStatement_13 : decode cX6_writeStatement 13 = .ok (.aload_n 0, 1) := by decide +kernel
theorem dX6_writeStatement_14 : decode cX6_writeStatement 14 = .ok (.getfield 39, 3) := by decide +kernel
theorem dX6_writeStatement_17 : decode cX6_writeStatement 17 = .ok (.iconst 0, 1) := by decide +kernel
theorem dX6_writeStatement_18 : decode cX6_writeStatement 18 = .ok (.invokevirtual 255, 3) := by decide +kernel
theorem dX6_writeStatement_21 : decode cX6_writeStatement 21 = .ok (.aload_n 0, 1) := by decide +kernel
theorem dX6_writeStatement_22 : decode cX6_writeStatement 22 = .ok (.getfield 39, 3) := by decide +kernel
theorem dX6_writeStatement_25 : decode cX6_writeStatement 25 = .ok (.ldc_w 258, 3) := by decide +kernel
theorem dX6_writeStatement_28 : decode cX6_writeStatement 28 = .ok (.aload_n 2, 1) := by decide +kernel
theorem dX6_writeStatement_29 : decode cX6_writeStatement 29 = .ok (.getfield 105, 3) := by decide +kernel
theorem dX6_writeStatement_32 : decode cX6_writeStatement 32 = .ok (.iload_n 1, 1) := by decide +kernel
theorem dX6_writeStatement_33 : decode cX6_writeStatement 33 = .ok (.iaload, 1) := by decide +kernel
theorem dX6_writeStatement_34 : decode cX6_writeStatement 34 = .ok (.invokevirtual 260, 3) := by decide +kernel
theorem dX6_writeStatement_37 : decode cX6_writeStatement 37 = .ok (.invokevirtual 266, 3) := by decide +kernel
theorem dX6_writeStatement_40 : decode cX6_writeStatement 40 = .ok (.pop, 1) := by decide +kernel
theorem dX6_writeStatement_41 : decode cX6_writeStatement 41 = .ok (.aload_n 0, 1) := by decide +kernel
theorem dX6_writeStatement_42 : decode cX6_writeStatement 42 = .ok (.getfield 39, 3) := by decide +kernel
theorem dX6_writeStatement_45 : decode cX6_writeStatement 45 = .ok (.iload_n 1, 1) := by decide +kernel
theorem dX6_writeStatement_46 : decode cX6_writeStatement 46 = .ok (.invokevirtual 270, 3) := by decide +kernel
theorem dX6_writeStatement_49 : decode cX6_writeStatement 49 = .ok (.pop, 1) := by decide +kernel
theorem dX6_writeStatement_50 : decode cX6_writeStatement 50 = .ok (.aload_n 0, 1) := by decide +kernel
theorem dX6_writeStatement_51 : decode cX6_writeStatement 51 = .ok (.getfield 39, 3) := by decide +kernel
theorem dX6_writeStatement_54 : decode cX6_writeStatement 54 = .ok (.bipush 58, 2) := by decide +kernel
theorem dX6_writeStatement_56 : decode cX6_writeStatement 56 = .ok (.invokevirtual 266, 3) := by decide +kernel
theorem dX6_writeStatement_59 : decode cX6_writeStatement 59 = .ok (.pop, 1) := by decide +kernel
theorem dX6_writeStatement_60 : decode cX6_writeStatement 60 = .ok (.aload_n 0, 1) := by decide +kernel
theorem dX6_writeStatement_61 : decode cX6_writeStatement 61 = .ok (.getfield 39, 3) := by decide +kernel
theorem dX6_writeStatement_64 : decode cX6_writeStatement 64 = .ok (.aload_n 2, 1) := by decide +kernel
theorem dX6_writeStatement_65 : decode cX6_writeStatement 65 = .ok (.getfield 109, 3) := by decide +kernel
theorem dX6_writeStatement_68 : decode cX6_writeStatement 68 = .ok (.iload_n 1, 1) := by decide +kernel
theorem dX6_writeStatement_69 : decode cX6_writeStatement 69 = .ok (.iaload, 1) := by decide +kernel
theorem dX6_writeStatement_70 : decode cX6_writeStatement 70 = .ok (.invokevirtual 270, 3) := by decide +kernel
theorem dX6_writeStatement_73 : decode cX6_writeStatement 73 = .ok (.pop, 1) := by decide +kernel
theorem dX6_writeStatement_74 : decode cX6_writeStatement 74 = .ok (.aload_n 0, 1) := by decide +kernel
theorem dX6_writeStatement_75 : decode cX6_writeStatement 75 = .ok (.getfield 39, 3) := by decide +kernel
theorem dX6_writeStatement_78 : decode cX6_writeStatement 78 = .ok (.bipush 47, 2) := by decide +kernel
theorem dX6_writeStatement_80 : decode cX6_writeStatement 80 = .ok (.invokevirtual 266, 3) := by decide +kernel
theorem dX6_writeStatement_83 : decode cX6_writeStatement 83 = .ok (.pop, 1) := by decide +kernel
theorem dX6_writeStatement_84 : decode cX6_writeStatement 84 = .ok (.aload_n 0, 1) := by decide +kernel
theorem dX6_writeStatement_85 : decode cX6_writeStatement 85 = .ok (.getfield 39, 3) := by decide +kernel
theorem dX6_writeStatement_88 : decode cX6_writeStatement 88 = .ok (.aload_n 2, 1) := by decide +kernel
theorem dX6_writeStatement_89 : decode cX6_writeStatement 89 = .ok (.getfield 112, 3) := by decide +kernel
theorem dX6_writeStatement_92 : decode cX6_writeStatement 92 = .ok (.iload_n 1, 1) := by decide +kernel
theorem dX6_writeStatement_93 : decode cX6_writeStatement 93 = .ok (.iaload, 1) := by decide +kernel
theorem dX6_writeStatement_94 : decode cX6_writeStatement 94 = .ok (.invokevirtual 270, 3) := by decide +kernel
theorem dX6_writeStatement_97 : decode cX6_writeStatement 97 = .ok (.pop, 1) := by decide +kernel
theorem dX6_writeStatement_98 : decode cX6_writeStatement 98 = .ok (.aload_n 2, 1) := by decide +kernel
theorem dX6_writeStatement_99 : decode cX6_writeStatement 99 = .ok (.getfield 118, 3) := by decide +kernel
theorem dX6_writeStatement_102 : decode cX6_writeStatement 102 = .ok (.iload_n 1, 1) := by decide +kernel
theorem dX6_writeStatement_103 : decode cX6_writeStatement 103 = .ok (.baload, 1) := by decide +kernel
theorem dX6_writeStatement_104 : decode cX6_writeStatement 104 = .ok (.ifCond .eq 13, 3) := by decide +kernel
theorem dX6_writeStatement_107 : decode cX6_writeStatement 107 = .ok (.aload_n 0, 1) := by decide +kernel
theorem dX6_writeStatement_108 : decode cX6_writeStatement 108 = .ok (.getfield 39, 3) := by decide +kernel
theorem dX6_writeStatement_111 : decode cX6_writeStatement 111 = .ok (.bipush 42, 2) := by decide +kernel
theorem dX6_writeStatement_113 : decode cX6_writeStatement 113 = .ok (.invokevirtual 266, 3) := by decide +kernel
theorem dX6_writeStatement_116 : decode cX6_writeStatement 116 = .ok (.pop, 1) := by decide +kernel
theorem dX6_writeStatement_117 : decode cX6_writeStatement 117 = .ok (.aload_n 0, 1) := by decide +kernel
theorem dX6_writeStatement_118 : decode cX6_writeStatement 118 = .ok (.getfield 39, 3) := by decide +kernel
theorem dX6_writeStatement_121 : decode cX6_writeStatement 121 = .ok (.invokevirtual 273, 3) := by decide +kernel
theorem dX6_writeStatement_124 : decode cX6_writeStatement 124 = .ok (.ireturn, 1) := by decide +kernel
theorem dX6_statementAt_0 : decode cX6_statementAt 0 = .ok (.iload_n 1, 1) := by decide +kernel
theorem dX6_statementAt_1 : decode cX6_statementAt 1 = .ok (.ifCond .lt 14, 3) := by decide +kernel
theorem dX6_statementAt_4 : decode cX6_statementAt 4 = .ok (.iload_n 1, 1) := by decide +kernel
theorem dX6_statementAt_5 : decode cX6_statementAt 5 = .ok (.aload_n 0, 1) := by decide +kernel
theorem dX6_statementAt_6 : decode cX6_statementAt 6 = .ok (.getfield 39, 3) := by decide +kernel
theorem dX6_statementAt_9 : decode cX6_statementAt 9 = .ok (.invokevirtual 273, 3) := by decide +kernel
theorem dX6_statementAt_12 : decode cX6_statementAt 12 = .ok (.if_icmp .lt 11, 3) := by decide +kernel
theorem dX6_statementAt_15 : decode cX6_statementAt 15 = .ok (.new 194, 3) := by decide +kernel
theorem dX6_statementAt_18 : decode cX6_statementAt 18 = .ok (.dup, 1) := by decide +kernel
theorem dX6_statementAt_19 : decode cX6_statementAt 19 = .ok (.invokespecial 196, 3) := by decide +kernel
theorem dX6_statementAt_22 : decode cX6_statementAt 22 = .ok (.athrow, 1) := by decide +kernel
theorem dX6_statementAt_23 : decode cX6_statementAt 23 = .ok (.aload_n 0, 1) := by decide +kernel
theorem dX6_statementAt_24 : decode cX6_statementAt 24 = .ok (.getfield 39, 3) := by decide +kernel
theorem dX6_statementAt_27 : decode cX6_statementAt 27 = .ok (.iload_n 1, 1) := by decide +kernel
theorem dX6_statementAt_28 : decode cX6_statementAt 28 = .ok (.invokevirtual 276, 3) := by decide +kernel
theorem dX6_statementAt_31 : decode cX6_statementAt 31 = .ok (.ireturn, 1) := by decide +kernel
theorem dX6_execute_0 : decode cX6_execute 0 = .ok (.aload_n 0, 1) := by decide +kernel
theorem dX6_execute_1 : decode cX6_execute 1 = .ok (.getfield 32, 3) := by decide +kernel
theorem dX6_execute_4 : decode cX6_execute 4 = .ok (.invokevirtual 287, 3) := by decide +kernel
theorem dX6_execute_7 : decode cX6_execute 7 = .ok (.istore_n 1, 1) := by decide +kernel
theorem dX6_execute_8 : decode cX6_execute 8 = .ok (.iload_n 1, 1) := by decide +kernel
theorem dX6_execute_9 : decode cX6_execute 9 = .ok (.ifCond .ge 30, 3) := by decide +kernel
theorem dX6_execute_12 : decode cX6_execute 12 = .ok (.aload_n 0, 1) := by decide +kernel
theorem dX6_execute_13 : decode cX6_execute 13 = .ok (.aload_n 0, 1) := by decide +kernel
theorem dX6_execute_14 : decode cX6_execute 14 = .ok (.getfield 32, 3) := by decide +kernel
theorem dX6_execute_17 : decode cX6_execute 17 = .ok (.getfield 290, 3) := by decide +kernel
theorem dX6_execute_20 : decode cX6_execute 20 = .ok (.putfield 52, 3) := by decide +kernel
theorem dX6_execute_23 : decode cX6_execute 23 = .ok (.aload_n 0, 1) := by decide +kernel
theorem dX6_execute_24 : decode cX6_execute 24 = .ok (.getfield 32, 3) := by decide +kernel
theorem dX6_execute_27 : decode cX6_execute 27 = .ok (.iconst 0, 1) := by decide +kernel
theorem dX6_execute_28 : decode cX6_execute 28 = .ok (.putfield 280, 3) := by decide +kernel
theorem dX6_execute_31 : decode cX6_execute 31 = .ok (.new 277, 3) := by decide +kernel
theorem dX6_execute_34 : decode cX6_execute 34 = .ok (.dup, 1) := by decide +kernel
theorem dX6_execute_35 : decode cX6_execute 35 = .ok (.invokespecial 279, 3) := by decide +kernel
theorem dX6_execute_38 : decode cX6_execute 38 = .ok (.athrow, 1) := by decide +kernel
theorem dX6_execute_39 : decode cX6_execute 39 = .ok (.iconst 0, 1) := by decide +kernel
theorem dX6_execute_40 : decode cX6_execute 40 = .ok (.istore_n 2, 1) := by decide +kernel
theorem dX6_execute_41 : decode cX6_execute 41 = .ok (.aload_n 0, 1) := by decide +kernel
theorem dX6_execute_42 : decode cX6_execute 42 = .ok (.getfield 16, 3) := by decide +kernel
theorem dX6_execute_45 : decode cX6_execute 45 = .ok (.aload_n 0, 1) := by decide +kernel
theorem dX6_execute_46 : decode cX6_execute 46 = .ok (.getfield 10, 3) := by decide +kernel
theorem dX6_execute_49 : decode cX6_execute 49 = .ok (.invokevirtual 172, 3) := by decide +kernel
theorem dX6_execute_52 : decode cX6_execute 52 = .ok (.aload_n 0, 1) := by decide +kernel
theorem dX6_execute_53 : decode cX6_execute 53 = .ok (.getfield 32, 3) := by decide +kernel
theorem dX6_execute_56 : decode cX6_execute 56 = .ok (.iconst 0, 1) := by decide +kernel
theorem dX6_execute_57 : decode cX6_execute 57 = .ok (.putfield 290, 3) := by decide +kernel
theorem dX6_execute_60 : decode cX6_execute 60 = .ok (.iload_n 2, 1) := by decide +kernel
theorem dX6_execute_61 : decode cX6_execute 61 = .ok (.iload_n 1, 1) := by decide +kernel
theorem dX6_execute_62 : decode cX6_execute 62 = .ok (.if_icmp .ge 56, 3) := by decide +kernel
theorem dX6_execute_65 : decode cX6_execute 65 = .ok (.aload_n 0, 1) := by decide +kernel
theorem dX6_execute_66 : decode cX6_execute 66 = .ok (.getfield 32, 3) := by decide +kernel
theorem dX6_execute_69 : decode cX6_execute 69 = .ok (.invokevirtual 293, 3) := by decide +kernel
theorem dX6_execute_72 : decode cX6_execute 72 = .ok (.ifCond .eq 46, 3) := by decide +kernel
theorem dX6_execute_75 : decode cX6_execute 75 = .ok (.aload_n 0, 1) := by decide +kernel
theorem dX6_execute_76 : decode cX6_execute 76 = .ok (.getfield 16, 3) := by decide +kernel
theorem dX6_execute_79 : decode cX6_execute 79 = .ok (.aload_n 0, 1) := by decide +kernel
theorem dX6_execute_80 : decode cX6_execute 80 = .ok (.getfield 32, 3) := by decide +kernel
theorem dX6_execute_83 : decode cX6_execute 83 = .ok (.getfield 297, 3) := by decide +kernel
theorem dX6_execute_86 : decode cX6_execute 86 = .ok (.aload_n 0, 1) := by decide +kernel
theorem dX6_execute_87 : decode cX6_execute 87 = .ok (.getfield 32, 3) := by decide +kernel
theorem dX6_execute_90 : decode cX6_execute 90 = .ok (.getfield 300, 3) := by decide +kernel
theorem dX6_execute_93 : decode cX6_execute 93 = .ok (.invokevirtual 303, 3) := by decide +kernel
theorem dX6_execute_96 : decode cX6_execute 96 = .ok (.ifCond .ne 22, 3) := by decide +kernel
theorem dX6_execute_99 : decode cX6_execute 99 = .ok (.iinc 2 1, 3) := by decide +kernel
theorem dX6_execute_102 : decode cX6_execute 102 = .ok (.aload_n 0, 1) := by decide +kernel
theorem dX6_execute_103 : decode cX6_execute 103 = .ok (.getfield 32, 3) := by decide +kernel
theorem dX6_execute_106 : decode cX6_execute 106 = .ok (.dup, 1) := by decide +kernel
theorem dX6_execute_107 : decode cX6_execute 107 = .ok (.getfield 290, 3) := by decide +kernel
theorem dX6_execute_110 : decode cX6_execute 110 = .ok (.iconst 1, 1) := by decide +kernel
theorem dX6_execute_111 : decode cX6_execute 111 = .ok (.iadd, 1) := by decide +kernel
theorem dX6_execute_112 : decode cX6_execute 112 = .ok (.putfield 290, 3) := by decide +kernel
theorem dX6_execute_115 : decode cX6_execute 115 = .ok (.goto (-55), 3) := by decide +kernel
theorem dX6_execute_118 : decode cX6_execute 118 = .ok (.aload_n 0, 1) := by decide +kernel
theorem dX6_execute_119 : decode cX6_execute 119 = .ok (.getfield 32, 3) := by decide +kernel
theorem dX6_execute_122 : decode cX6_execute 122 = .ok (.iconst 0, 1) := by decide +kernel
theorem dX6_execute_123 : decode cX6_execute 123 = .ok (.putfield 280, 3) := by decide +kernel
theorem dX6_execute_126 : decode cX6_execute 126 = .ok (.iload_n 2, 1) := by decide +kernel
theorem dX6_execute_127 : decode cX6_execute 127 = .ok (.iload_n 1, 1) := by decide +kernel
theorem dX6_execute_128 : decode cX6_execute 128 = .ok (.if_icmp .ge 16, 3) := by decide +kernel
theorem dX6_execute_131 : decode cX6_execute 131 = .ok (.aload_n 0, 1) := by decide +kernel
theorem dX6_execute_132 : decode cX6_execute 132 = .ok (.iload_n 2, 1) := by decide +kernel
theorem dX6_execute_133 : decode cX6_execute 133 = .ok (.putfield 56, 3) := by decide +kernel
theorem dX6_execute_136 : decode cX6_execute 136 = .ok (.new 281, 3) := by decide +kernel
theorem dX6_execute_139 : decode cX6_execute 139 = .ok (.dup, 1) := by decide +kernel
theorem dX6_execute_140 : decode cX6_execute 140 = .ok (.invokespecial 283, 3) := by decide +kernel
theorem dX6_execute_143 : decode cX6_execute 143 = .ok (.athrow, 1) := by decide +kernel
theorem dX6_execute_144 : decode cX6_execute 144 = .ok (.aload_n 0, 1) := by decide +kernel
theorem dX6_execute_145 : decode cX6_execute 145 = .ok (.getfield 25, 3) := by decide +kernel
theorem dX6_execute_148 : decode cX6_execute 148 = .ok (.aload_n 0, 1) := by decide +kernel
theorem dX6_execute_149 : decode cX6_execute 149 = .ok (.getfield 10, 3) := by decide +kernel
theorem dX6_execute_152 : decode cX6_execute 152 = .ok (.invokevirtual 67, 3) := by decide +kernel
theorem dX6_execute_155 : decode cX6_execute 155 = .ok (.aload_n 0, 1) := by decide +kernel
theorem dX6_execute_156 : decode cX6_execute 156 = .ok (.getfield 10, 3) := by decide +kernel
theorem dX6_execute_159 : decode cX6_execute 159 = .ok (.aload_n 0, 1) := by decide +kernel
theorem dX6_execute_160 : decode cX6_execute 160 = .ok (.getfield 16, 3) := by decide +kernel
theorem dX6_execute_163 : decode cX6_execute 163 = .ok (.invokevirtual 172, 3) := by decide +kernel
theorem dX6_execute_166 : decode cX6_execute 166 = .ok (.iload_n 1, 1) := by decide +kernel
theorem dX6_execute_167 : decode cX6_execute 167 = .ok (.ireturn, 1) := by decide +kernel
theorem dX6_errorPosition_0 : decode cX6_errorPosition 0 = .ok (.aload_n 0, 1) := by decide +kernel
theorem dX6_errorPosition_1 : decode cX6_errorPosition 1 = .ok (.getfield 52, 3) := by decide +kernel
theorem dX6_errorPosition_4 : decode cX6_errorPosition 4 = .ok (.ifCond .ge 11, 3) := by decide +kernel
theorem dX6_errorPosition_7 : decode cX6_errorPosition 7 = .ok (.new 129, 3) := by decide +kernel
theorem dX6_errorPosition_10 : decode cX6_errorPosition 10 = .ok (.dup, 1) := by decide +kernel
theorem dX6_errorPosition_11 : decode cX6_errorPosition 11 = .ok (.invokespecial 131, 3) := by decide +kernel
theorem dX6_errorPosition_14 : decode cX6_errorPosition 14 = .ok (.athrow, 1) := by decide +kernel
theorem dX6_errorPosition_15 : decode cX6_errorPosition 15 = .ok (.aload_n 0, 1) := by decide +kernel
theorem dX6_errorPosition_16 : decode cX6_errorPosition 16 = .ok (.getfield 52, 3) := by decide +kernel
theorem dX6_errorPosition_19 : decode cX6_errorPosition 19 = .ok (.ireturn, 1) := by decide +kernel
theorem dX6_failedCommand_0 : decode cX6_failedCommand 0 = .ok (.aload_n 0, 1) := by decide +kernel
theorem dX6_failedCommand_1 : decode cX6_failedCommand 1 = .ok (.getfield 56, 3) := by decide +kernel
theorem dX6_failedCommand_4 : decode cX6_failedCommand 4 = .ok (.ifCond .ge 11, 3) := by decide +kernel
theorem dX6_failedCommand_7 : decode cX6_failedCommand 7 = .ok (.new 129, 3) := by decide +kernel
theorem dX6_failedCommand_10 : decode cX6_failedCommand 10 = .ok (.dup, 1) := by decide +kernel
theorem dX6_failedCommand_11 : decode cX6_failedCommand 11 = .ok (.invokespecial 131, 3) := by decide +kernel
theorem dX6_failedCommand_14 : decode cX6_failedCommand 14 = .ok (.athrow, 1) := by decide +kernel
theorem dX6_failedCommand_15 : decode cX6_failedCommand 15 = .ok (.aload_n 0, 1) := by decide +kernel
theorem dX6_failedCommand_16 : decode cX6_failedCommand 16 = .ok (.getfield 56, 3) := by decide +kernel
theorem dX6_failedCommand_19 : decode cX6_failedCommand 19 = .ok (.ireturn, 1) := by decide +kernel
theorem dX6_save_0 : decode cX6_save 0 = .ok (.aload_n 0, 1) := by decide +kernel
theorem dX6_save_1 : decode cX6_save 1 = .ok (.getfield 19, 3) := by decide +kernel
theorem dX6_save_4 : decode cX6_save 4 = .ok (.aload_n 0, 1) := by decide +kernel
theorem dX6_save_5 : decode cX6_save 5 = .ok (.getfield 10, 3) := by decide +kernel
theorem dX6_save_8 : decode cX6_save 8 = .ok (.invokevirtual 172, 3) := by decide +kernel
theorem dX6_save_11 : decode cX6_save 11 = .ok (.aload_n 0, 1) := by decide +kernel
theorem dX6_save_12 : decode cX6_save 12 = .ok (.iconst 1, 1) := by decide +kernel
theorem dX6_save_13 : decode cX6_save 13 = .ok (.putfield 48, 3) := by decide +kernel
theorem dX6_save_16 : decode cX6_save 16 = .ok (.aload_n 0, 1) := by decide +kernel
theorem dX6_save_17 : decode cX6_save 17 = .ok (.getfield 10, 3) := by decide +kernel
theorem dX6_save_20 : decode cX6_save 20 = .ok (.getfield 160, 3) := by decide +kernel
theorem dX6_save_23 : decode cX6_save 23 = .ok (.ireturn, 1) := by decide +kernel
theorem dX6_restore_0 : decode cX6_restore 0 = .ok (.aload_n 0, 1) := by decide +kernel
theorem dX6_restore_1 : decode cX6_restore 1 = .ok (.getfield 48, 3) := by decide +kernel
theorem dX6_restore_4 : decode cX6_restore 4 = .ok (.ifCond .ne 11, 3) := by decide +kernel
theorem dX6_restore_7 : decode cX6_restore 7 = .ok (.new 281, 3) := by decide +kernel
theorem dX6_restore_10 : decode cX6_restore 10 = .ok (.dup, 1) := by decide +kernel
theorem dX6_restore_11 : decode cX6_restore 11 = .ok (.invokespecial 283, 3) := by decide +kernel
theorem dX6_restore_14 : decode cX6_restore 14 = .ok (.athrow, 1) := by decide +kernel
theorem dX6_restore_15 : decode cX6_restore 15 = .ok (.aload_n 0, 1) := by decide +kernel
theorem dX6_restore_16 : decode cX6_restore 16 = .ok (.getfield 10, 3) := by decide +kernel
theorem dX6_restore_19 : decode cX6_restore 19 = .ok (.aload_n 0, 1) := by decide +kernel
theorem dX6_restore_20 : decode cX6_restore 20 = .ok (.getfield 19, 3) := by decide +kernel
theorem dX6_restore_23 : decode cX6_restore 23 = .ok (.invokevirtual 172, 3) := by decide +kernel
theorem dX6_restore_26 : decode cX6_restore 26 = .ok (.aload_n 0, 1) := by decide +kernel
theorem dX6_restore_27 : decode cX6_restore 27 = .ok (.getfield 25, 3) := by decide +kernel
theorem dX6_restore_30 : decode cX6_restore 30 = .ok (.iconst 0, 1) := by decide +kernel
theorem dX6_restore_31 : decode cX6_restore 31 = .ok (.putfield 307, 3) := by decide +kernel
theorem dX6_restore_34 : decode cX6_restore 34 = .ok (.aload_n 0, 1) := by decide +kernel
theorem dX6_restore_35 : decode cX6_restore 35 = .ok (.getfield 10, 3) := by decide +kernel
theorem dX6_restore_38 : decode cX6_restore 38 = .ok (.getfield 160, 3) := by decide +kernel
theorem dX6_restore_41 : decode cX6_restore 41 = .ok (.ireturn, 1) := by decide +kernel
theorem dX6_raise_0 : decode cX6_raise 0 = .ok (.iload_n 0, 1) := by decide +kernel
theorem dX6_raise_1 : decode cX6_raise 1 = .ok (.tableswitch 75 1 5 #[35, 43, 51, 59, 67], 35) := by decide +kernel
theorem dX6_raise_36 : decode cX6_raise 36 = .ok (.new 194, 3) := by decide +kernel
theorem dX6_raise_39 : decode cX6_raise 39 = .ok (.dup, 1) := by decide +kernel
theorem dX6_raise_40 : decode cX6_raise 40 = .ok (.invokespecial 196, 3) := by decide +kernel
theorem dX6_raise_43 : decode cX6_raise 43 = .ok (.athrow, 1) := by decide +kernel
theorem dX6_raise_44 : decode cX6_raise 44 = .ok (.new 277, 3) := by decide +kernel
theorem dX6_raise_47 : decode cX6_raise 47 = .ok (.dup, 1) := by decide +kernel
theorem dX6_raise_48 : decode cX6_raise 48 = .ok (.invokespecial 279, 3) := by decide +kernel
theorem dX6_raise_51 : decode cX6_raise 51 = .ok (.athrow, 1) := by decide +kernel
theorem dX6_raise_52 : decode cX6_raise 52 = .ok (.new 312, 3) := by decide +kernel
theorem dX6_raise_55 : decode cX6_raise 55 = .ok (.dup, 1) := by decide +kernel
theorem dX6_raise_56 : decode cX6_raise 56 = .ok (.invokespecial 314, 3) := by decide +kernel
theorem dX6_raise_59 : decode cX6_raise 59 = .ok (.athrow, 1) := by decide +kernel
theorem dX6_raise_60 : decode cX6_raise 60 = .ok (.new 281, 3) := by decide +kernel
theorem dX6_raise_63 : decode cX6_raise 63 = .ok (.dup, 1) := by decide +kernel
theorem dX6_raise_64 : decode cX6_raise 64 = .ok (.invokespecial 283, 3) := by decide +kernel
theorem dX6_raise_67 : decode cX6_raise 67 = .ok (.athrow, 1) := by decide +kernel
theorem dX6_raise_68 : decode cX6_raise 68 = .ok (.new 129, 3) := by decide +kernel
theorem dX6_raise_71 : decode cX6_raise 71 = .ok (.dup, 1) := by decide +kernel
theorem dX6_raise_72 : decode cX6_raise 72 = .ok (.invokespecial 131, 3) := by decide +kernel
theorem dX6_raise_75 : decode cX6_raise 75 = .ok (.athrow, 1) := by decide +kernel
theorem dX6_raise_76 : decode cX6_raise 76 = .ok (.return_, 1) := by decide +kernel
theorem dX6_requireAccount_0 : decode cX6_requireAccount 0 = .ok (.aload_n 0, 1) := by decide +kernel
theorem dX6_requireAccount_1 : decode cX6_requireAccount 1 = .ok (.getfield 10, 3) := by decide +kernel
theorem dX6_requireAccount_4 : decode cX6_requireAccount 4 = .ok (.getfield 71, 3) := by decide +kernel
theorem dX6_requireAccount_7 : decode cX6_requireAccount 7 = .ok (.iload_n 1, 1) := by decide +kernel
theorem dX6_requireAccount_8 : decode cX6_requireAccount 8 = .ok (.invokevirtual 125, 3) := by decide +kernel
theorem dX6_requireAccount_11 : decode cX6_requireAccount 11 = .ok (.ifCond .ne 11, 3) := by decide +kernel
theorem dX6_requireAccount_14 : decode cX6_requireAccount 14 = .ok (.new 194, 3) := by decide +kernel
theorem dX6_requireAccount_17 : decode cX6_requireAccount 17 = .ok (.dup, 1) := by decide +kernel
theorem dX6_requireAccount_18 : decode cX6_requireAccount 18 = .ok (.invokespecial 196, 3) := by decide +kernel
theorem dX6_requireAccount_21 : decode cX6_requireAccount 21 = .ok (.athrow, 1) := by decide +kernel
theorem dX6_requireAccount_22 : decode cX6_requireAccount 22 = .ok (.return_, 1) := by decide +kernel
theorem dX6_requireTransfer_0 : decode cX6_requireTransfer 0 = .ok (.aload_n 0, 1) := by decide +kernel
theorem dX6_requireTransfer_1 : decode cX6_requireTransfer 1 = .ok (.getfield 10, 3) := by decide +kernel
theorem dX6_requireTransfer_4 : decode cX6_requireTransfer 4 = .ok (.getfield 179, 3) := by decide +kernel
theorem dX6_requireTransfer_7 : decode cX6_requireTransfer 7 = .ok (.iload_n 1, 1) := by decide +kernel
theorem dX6_requireTransfer_8 : decode cX6_requireTransfer 8 = .ok (.invokevirtual 218, 3) := by decide +kernel
theorem dX6_requireTransfer_11 : decode cX6_requireTransfer 11 = .ok (.istore_n 2, 1) := by decide +kernel
theorem dX6_requireTransfer_12 : decode cX6_requireTransfer 12 = .ok (.iload_n 2, 1) := by decide +kernel
theorem dX6_requireTransfer_13 : decode cX6_requireTransfer 13 = .ok (.ifCond .ge 11, 3) := by decide +kernel
theorem dX6_requireTransfer_16 : decode cX6_requireTransfer 16 = .ok (.new 129, 3) := by decide +kernel
theorem dX6_requireTransfer_19 : decode cX6_requireTransfer 19 = .ok (.dup, 1) := by decide +kernel
theorem dX6_requireTransfer_20 : decode cX6_requireTransfer 20 = .ok (.invokespecial 131, 3) := by decide +kernel
theorem dX6_requireTransfer_23 : decode cX6_requireTransfer 23 = .ok (.athrow, 1) := by decide +kernel
theorem dX6_requireTransfer_24 : decode cX6_requireTransfer 24 = .ok (.iload_n 2, 1) := by decide +kernel
theorem dX6_requireTransfer_25 : decode cX6_requireTransfer 25 = .ok (.ireturn, 1) := by decide +kernel
theorem dX6_requireMovement_0 : decode cX6_requireMovement 0 = .ok (.iload_n 1, 1) := by decide +kernel
theorem dX6_requireMovement_1 : decode cX6_requireMovement 1 = .ok (.ifCond .lt 17, 3) := by decide +kernel
theorem dX6_requireMovement_4 : decode cX6_requireMovement 4 = .ok (.iload_n 1, 1) := by decide +kernel
theorem dX6_requireMovement_5 : decode cX6_requireMovement 5 = .ok (.aload_n 0, 1) := by decide +kernel
theorem dX6_requireMovement_6 : decode cX6_requireMovement 6 = .ok (.getfield 10, 3) := by decide +kernel
theorem dX6_requireMovement_9 : decode cX6_requireMovement 9 = .ok (.getfield 237, 3) := by decide +kernel
theorem dX6_requireMovement_12 : decode cX6_requireMovement 12 = .ok (.getfield 241, 3) := by decide +kernel
theorem dX6_requireMovement_15 : decode cX6_requireMovement 15 = .ok (.if_icmp .lt 11, 3) := by decide +kernel
theorem dX6_requireMovement_18 : decode cX6_requireMovement 18 = .ok (.new 129, 3) := by decide +kernel
theorem dX6_requireMovement_21 : decode cX6_requireMovement 21 = .ok (.dup, 1) := by decide +kernel
theorem dX6_requireMovement_22 : decode cX6_requireMovement 22 = .ok (.invokespecial 131, 3) := by decide +kernel
theorem dX6_requireMovement_25 : decode cX6_requireMovement 25 = .ok (.athrow, 1) := by decide +kernel
theorem dX6_requireMovement_26 : decode cX6_requireMovement 26 = .ok (.aload_n 0, 1) := by decide +kernel
theorem dX6_requireMovement_27 : decode cX6_requireMovement 27 = .ok (.getfield 10, 3) := by decide +kernel
theorem dX6_requireMovement_30 : decode cX6_requireMovement 30 = .ok (.getfield 237, 3) := by decide +kernel
theorem dX6_requireMovement_33 : decode cX6_requireMovement 33 = .ok (.iload_n 1, 1) := by decide +kernel
theorem dX6_requireMovement_34 : decode cX6_requireMovement 34 = .ok (.invokevirtual 315, 3) := by decide +kernel
theorem dX6_requireMovement_37 : decode cX6_requireMovement 37 = .ok (.ireturn, 1) := by decide +kernel
theorem dX6_fillSums_0 : decode cX6_fillSums 0 = .ok (.iconst 0, 1) := by decide +kernel
theorem dX6_fillSums_1 : decode cX6_fillSums 1 = .ok (.istore_n 1, 1) := by decide +kernel
theorem dX6_fillSums_2 : decode cX6_fillSums 2 = .ok (.iload_n 1, 1) := by decide +kernel
theorem dX6_fillSums_3 : decode cX6_fillSums 3 = .ok (.bipush 8, 2) := by decide +kernel
theorem dX6_fillSums_5 : decode cX6_fillSums 5 = .ok (.if_icmp .ge 32, 3) := by decide +kernel
theorem dX6_fillSums_8 : decode cX6_fillSums 8 = .ok (.iconst 0, 1) := by decide +kernel
theorem dX6_fillSums_9 : decode cX6_fillSums 9 = .ok (.istore_n 2, 1) := by decide +kernel
theorem dX6_fillSums_10 : decode cX6_fillSums 10 = .ok (.iload_n 2, 1) := by decide +kernel
theorem dX6_fillSums_11 : decode cX6_fillSums 11 = .ok (.bipush 8, 2) := by decide +kernel
theorem dX6_fillSums_13 : decode cX6_fillSums 13 = .ok (.if_icmp .ge 18, 3) := by decide +kernel
theorem dX6_fillSums_16 : decode cX6_fillSums 16 = .ok (.aload_n 0, 1) := by decide +kernel
theorem dX6_fillSums_17 : decode cX6_fillSums 17 = .ok (.getfield 45, 3) := by decide +kernel
theorem dX6_fillSums_20 : decode cX6_fillSums 20 = .ok (.iload_n 1, 1) := by decide +kernel
theorem dX6_fillSums_21 : decode cX6_fillSums 21 = .ok (.aaload, 1) := by decide +kernel
theorem dX6_fillSums_22 : decode cX6_fillSums 22 = .ok (.iload_n 2, 1) := by decide +kernel
theorem dX6_fillSums_23 : decode cX6_fillSums 23 = .ok (.iconst 0, 1) := by decide +kernel
theorem dX6_fillSums_24 : decode cX6_fillSums 24 = .ok (.iastore, 1) := by decide +kernel
theorem dX6_fillSums_25 : decode cX6_fillSums 25 = .ok (.iinc 2 1, 3) := by decide +kernel
theorem dX6_fillSums_28 : decode cX6_fillSums 28 = .ok (.goto (-18), 3) := by decide +kernel
theorem dX6_fillSums_31 : decode cX6_fillSums 31 = .ok (.iinc 1 1, 3) := by decide +kernel
theorem dX6_fillSums_34 : decode cX6_fillSums 34 = .ok (.goto (-32), 3) := by decide +kernel
theorem dX6_fillSums_37 : decode cX6_fillSums 37 = .ok (.aload_n 0, 1) := by decide +kernel
theorem dX6_fillSums_38 : decode cX6_fillSums 38 = .ok (.getfield 10, 3) := by decide +kernel
theorem dX6_fillSums_41 : decode cX6_fillSums 41 = .ok (.getfield 179, 3) := by decide +kernel
theorem dX6_fillSums_44 : decode cX6_fillSums 44 = .ok (.astore_n 1, 1) := by decide +kernel
theorem dX6_fillSums_45 : decode cX6_fillSums 45 = .ok (.iconst 0, 1) := by decide +kernel
theorem dX6_fillSums_46 : decode cX6_fillSums 46 = .ok (.istore_n 2, 1) := by decide +kernel
theorem dX6_fillSums_47 : decode cX6_fillSums 47 = .ok (.iload_n 2, 1) := by decide +kernel
theorem dX6_fillSums_48 : decode cX6_fillSums 48 = .ok (.aload_n 1, 1) := by decide +kernel
theorem dX6_fillSums_49 : decode cX6_fillSums 49 = .ok (.getfield 193, 3) := by decide +kernel
theorem dX6_fillSums_52 : decode cX6_fillSums 52 = .ok (.if_icmp .ge 36, 3) := by decide +kernel
theorem dX6_fillSums_55 : decode cX6_fillSums 55 = .ok (.aload_n 0, 1) := by decide +kernel
theorem dX6_fillSums_56 : decode cX6_fillSums 56 = .ok (.getfield 45, 3) := by decide +kernel
theorem dX6_fillSums_59 : decode cX6_fillSums 59 = .ok (.aload_n 1, 1) := by decide +kernel
theorem dX6_fillSums_60 : decode cX6_fillSums 60 = .ok (.getfield 200, 3) := by decide +kernel
theorem dX6_fillSums_63 : decode cX6_fillSums 63 = .ok (.iload_n 2, 1) := by decide +kernel
theorem dX6_fillSums_64 : decode cX6_fillSums 64 = .ok (.iaload, 1) := by decide +kernel
theorem dX6_fillSums_65 : decode cX6_fillSums 65 = .ok (.aaload, 1) := by decide +kernel
theorem dX6_fillSums_66 : decode cX6_fillSums 66 = .ok (.aload_n 1, 1) := by decide +kernel
theorem dX6_fillSums_67 : decode cX6_fillSums 67 = .ok (.getfield 206, 3) := by decide +kernel
theorem dX6_fillSums_70 : decode cX6_fillSums 70 = .ok (.iload_n 2, 1) := by decide +kernel
theorem dX6_fillSums_71 : decode cX6_fillSums 71 = .ok (.iaload, 1) := by decide +kernel
theorem dX6_fillSums_72 : decode cX6_fillSums 72 = .ok (.dup2, 1) := by decide +kernel
theorem dX6_fillSums_73 : decode cX6_fillSums 73 = .ok (.iaload, 1) := by decide +kernel
theorem dX6_fillSums_74 : decode cX6_fillSums 74 = .ok (.aload_n 1, 1) := by decide +kernel
theorem dX6_fillSums_75 : decode cX6_fillSums 75 = .ok (.getfield 209, 3) := by decide +kernel
theorem dX6_fillSums_78 : decode cX6_fillSums 78 = .ok (.iload_n 2, 1) := by decide +kernel
theorem dX6_fillSums_79 : decode cX6_fillSums 79 = .ok (.iaload, 1) := by decide +kernel
theorem dX6_fillSums_80 : decode cX6_fillSums 80 = .ok (.iadd, 1) := by decide +kernel
theorem dX6_fillSums_81 : decode cX6_fillSums 81 = .ok (.iastore, 1) := by decide +kernel
theorem dX6_fillSums_82 : decode cX6_fillSums 82 = .ok (.iinc 2 1, 3) := by decide +kernel
theorem dX6_fillSums_85 : decode cX6_fillSums 85 = .ok (.goto (-38), 3) := by decide +kernel
theorem dX6_fillSums_88 : decode cX6_fillSums 88 = .ok (.return_, 1) := by decide +kernel
theorem dX6_isIn_0 : decode cX6_isIn 0 = .ok (.iload_n 0, 1) := by decide +kernel
theorem dX6_isIn_1 : decode cX6_isIn 1 = .ok (.iload_n 1, 1) := by decide +kernel
theorem dX6_isIn_2 : decode cX6_isIn 2 = .ok (.if_icmp .lt 12, 3) := by decide +kernel
theorem dX6_isIn_5 : decode cX6_isIn 5 = .ok (.iload_n 0, 1) := by decide +kernel
theorem dX6_isIn_6 : decode cX6_isIn 6 = .ok (.iload_n 2, 1) := by decide +kernel
theorem dX6_isIn_7 : decode cX6_isIn 7 = .ok (.if_icmp .gt 7, 3) := by decide +kernel
theorem dX6_isIn_10 : decode cX6_isIn 10 = .ok (.iconst 1, 1) := by decide +kernel
theorem dX6_isIn_11 : decode cX6_isIn 11 = .ok (.goto 4, 3) := by decide +kernel
theorem dX6_isIn_14 : decode cX6_isIn 14 = .ok (.iconst 0, 1) := by decide +kernel
theorem dX6_isIn_15 : decode cX6_isIn 15 = .ok (.ireturn, 1) := by decide +kernel
end
section
theorem dJ5_init_d00df_0 : decode cJ5_init_d00df 0 = .ok (.aload_n 0, 1) := by decide +kernel
theorem dJ5_init_d00df_1 : decode cJ5_init_d00df 1 = .ok (.invokespecial 3, 3) := by decide +kernel
theorem dJ5_init_d00df_4 : decode cJ5_init_d00df 4 = .ok (.getstatic 18, 3) := by decide +kernel
theorem dJ5_init_d00df_7 : decode cJ5_init_d00df 7 = .ok (.ifCond .eq 18, 3) := by decide +kernel
theorem dJ5_init_d00df_10 : decode cJ5_init_d00df 10 = .ok (.aload_n 0, 1) := by decide +kernel
theorem dJ5_init_d00df_11 : decode cJ5_init_d00df 11 = .ok (.iload_n 1, 1) := by decide +kernel
theorem dJ5_init_d00df_12 : decode cJ5_init_d00df 12 = .ok (.newarray .byte, 2) := by decide +kernel
theorem dJ5_init_d00df_14 : decode cJ5_init_d00df 14 = .ok (.putfield 15, 3) := by decide +kernel
theorem dJ5_init_d00df_17 : decode cJ5_init_d00df 17 = .ok (.aload_n 0, 1) := by decide +kernel
theorem dJ5_init_d00df_18 : decode cJ5_init_d00df 18 = .ok (.iconst 0, 1) := by decide +kernel
theorem dJ5_init_d00df_19 : decode cJ5_init_d00df 19 = .ok (.putfield 22, 3) := by decide +kernel
theorem dJ5_init_d00df_22 : decode cJ5_init_d00df 22 = .ok (.goto 16, 3) := by decide +kernel
theorem dJ5_init_d00df_25 : decode cJ5_init_d00df 25 = .ok (.aload_n 0, 1) := by decide +kernel
theorem dJ5_init_d00df_26 : decode cJ5_init_d00df 26 = .ok (.iload_n 1, 1) := by decide +kernel
theorem dJ5_init_d00df_27 : decode cJ5_init_d00df 27 = .ok (.invokestatic 26, 3) := by decide +kernel
theorem dJ5_init_d00df_30 : decode cJ5_init_d00df 30 = .ok (.putfield 15, 3) := by decide +kernel
theorem dJ5_init_d00df_33 : decode cJ5_init_d00df 33 = .ok (.aload_n 0, 1) := by decide +kernel
theorem dJ5_init_d00df_34 : decode cJ5_init_d00df 34 = .ok (.iconst 1, 1) := by decide +kernel
theorem dJ5_init_d00df_35 : decode cJ5_init_d00df 35 = .ok (.putfield 22, 3) := by decide +kernel
theorem dJ5_init_d00df_38 : decode cJ5_init_d00df 38 = .ok (.return_, 1) := by decide +kernel
theorem dJ5_length_8abf5_0 : decode cJ5_length_8abf5 0 = .ok (.aload_n 0, 1) := by decide +kernel
theorem dJ5_length_8abf5_1 : decode cJ5_length_8abf5 1 = .ok (.getfield 79, 3) := by decide +kernel
theorem dJ5_length_8abf5_4 : decode cJ5_length_8abf5 4 = .ok (.ireturn, 1) := by decide +kernel
theorem dJ5_ensureCapacityInternal_d00df_0 : decode cJ5_ensureCapacityInternal_d00df 0 = .ok (.aload_n 0, 1) := by decide +kernel
theorem dJ5_ensureCapacityInternal_d00df_1 : decode cJ5_ensureCapacityInternal_d00df 1 = .ok (.getfield 15, 3) := by decide +kernel
theorem dJ5_ensureCapacityInternal_d00df_4 : decode cJ5_ensureCapacityInternal_d00df 4 = .ok (.arraylength, 1) := by decide +kernel
theorem dJ5_ensureCapacityInternal_d00df_5 : decode cJ5_ensureCapacityInternal_d00df 5 = .ok (.aload_n 0, 1) := by decide +kernel
theorem dJ5_ensureCapacityInternal_d00df_6 : decode cJ5_ensureCapacityInternal_d00df 6 = .ok (.getfield 22, 3) := by decide +kernel
theorem dJ5_ensureCapacityInternal_d00df_9 : decode cJ5_ensureCapacityInternal_d00df 9 = .ok (.ishr, 1) := by decide +kernel
theorem dJ5_ensureCapacityInternal_d00df_10 : decode cJ5_ensureCapacityInternal_d00df 10 = .ok (.istore_n 2, 1) := by decide +kernel
theorem dJ5_ensureCapacityInternal_d00df_11 : decode cJ5_ensureCapacityInternal_d00df 11 = .ok (.iload_n 1, 1) := by decide +kernel
theorem dJ5_ensureCapacityInternal_d00df_12 : decode cJ5_ensureCapacityInternal_d00df 12 = .ok (.iload_n 2, 1) := by decide +kernel
theorem dJ5_ensureCapacityInternal_d00df_13 : decode cJ5_ensureCapacityInternal_d00df 13 = .ok (.isub, 1) := by decide +kernel
theorem dJ5_ensureCapacityInternal_d00df_14 : decode cJ5_ensureCapacityInternal_d00df 14 = .ok (.ifCond .le 24, 3) := by decide +kernel
theorem dJ5_ensureCapacityInternal_d00df_17 : decode cJ5_ensureCapacityInternal_d00df 17 = .ok (.aload_n 0, 1) := by decide +kernel
theorem dJ5_ensureCapacityInternal_d00df_18 : decode cJ5_ensureCapacityInternal_d00df 18 = .ok (.aload_n 0, 1) := by decide +kernel
theorem dJ5_ensureCapacityInternal_d00df_19 : decode cJ5_ensureCapacityInternal_d00df 19 = .ok (.getfield 15, 3) := by decide +kernel
theorem dJ5_ensureCapacityInternal_d00df_22 : decode cJ5_ensureCapacityInternal_d00df 22 = .ok (.aload_n 0, 1) := by decide +kernel
theorem dJ5_ensureCapacityInternal_d00df_23 : decode cJ5_ensureCapacityInternal_d00df 23 = .ok (.iload_n 1, 1) := by decide +kernel
theorem dJ5_ensureCapacityInternal_d00df_24 : decode cJ5_ensureCapacityInternal_d00df 24 = .ok (.invokevirtual 104, 3) := by decide +kernel
theorem dJ5_ensureCapacityInternal_d00df_27 : decode cJ5_ensureCapacityInternal_d00df 27 = .ok (.aload_n 0, 1) := by decide +kernel
theorem dJ5_ensureCapacityInternal_d00df_28 : decode cJ5_ensureCapacityInternal_d00df 28 = .ok (.getfield 22, 3) := by decide +kernel
theorem dJ5_ensureCapacityInternal_d00df_31 : decode cJ5_ensureCapacityInternal_d00df 31 = .ok (.ishl, 1) := by decide +kernel
theorem dJ5_ensureCapacityInternal_d00df_32 : decode cJ5_ensureCapacityInternal_d00df 32 = .ok (.invokestatic 108, 3) := by decide +kernel
theorem dJ5_ensureCapacityInternal_d00df_35 : decode cJ5_ensureCapacityInternal_d00df 35 = .ok (.putfield 15, 3) := by decide +kernel
theorem dJ5_ensureCapacityInternal_d00df_38 : decode cJ5_ensureCapacityInternal_d00df 38 = .ok (.return_, 1) := by decide +kernel
theorem dJ5_newCapacity_0f7a4_0 : decode cJ5_newCapacity_0f7a4 0 = .ok (.aload_n 0, 1) := by decide +kernel
theorem dJ5_newCapacity_0f7a4_1 : decode cJ5_newCapacity_0f7a4 1 = .ok (.getfield 15, 3) := by decide +kernel
theorem dJ5_newCapacity_0f7a4_4 : decode cJ5_newCapacity_0f7a4 4 = .ok (.arraylength, 1) := by decide +kernel
theorem dJ5_newCapacity_0f7a4_5 : decode cJ5_newCapacity_0f7a4 5 = .ok (.istore_n 2, 1) := by decide +kernel
theorem dJ5_newCapacity_0f7a4_6 : decode cJ5_newCapacity_0f7a4 6 = .ok (.iload_n 1, 1) := by decide +kernel
theorem dJ5_newCapacity_0f7a4_7 : decode cJ5_newCapacity_0f7a4 7 = .ok (.aload_n 0, 1) := by decide +kernel
theorem dJ5_newCapacity_0f7a4_8 : decode cJ5_newCapacity_0f7a4 8 = .ok (.getfield 22, 3) := by decide +kernel
theorem dJ5_newCapacity_0f7a4_11 : decode cJ5_newCapacity_0f7a4 11 = .ok (.ishl, 1) := by decide +kernel
theorem dJ5_newCapacity_0f7a4_12 : decode cJ5_newCapacity_0f7a4 12 = .ok (.istore_n 3, 1) := by decide +kernel
theorem dJ5_newCapacity_0f7a4_13 : decode cJ5_newCapacity_0f7a4 13 = .ok (.iload_n 3, 1) := by decide +kernel
theorem dJ5_newCapacity_0f7a4_14 : decode cJ5_newCapacity_0f7a4 14 = .ok (.iload_n 2, 1) := by decide +kernel
theorem dJ5_newCapacity_0f7a4_15 : decode cJ5_newCapacity_0f7a4 15 = .ok (.isub, 1) := by decide +kernel
theorem dJ5_newCapacity_0f7a4_16 : decode cJ5_newCapacity_0f7a4 16 = .ok (.istore 4, 2) := by decide +kernel
theorem dJ5_newCapacity_0f7a4_18 : decode cJ5_newCapacity_0f7a4 18 = .ok (.iload_n 2, 1) := by decide +kernel
theorem dJ5_newCapacity_0f7a4_19 : decode cJ5_newCapacity_0f7a4 19 = .ok (.iload 4, 2) := by decide +kernel
theorem dJ5_newCapacity_0f7a4_21 : decode cJ5_newCapacity_0f7a4 21 = .ok (.iload_n 2, 1) := by decide +kernel
theorem dJ5_newCapacity_0f7a4_22 : decode cJ5_newCapacity_0f7a4 22 = .ok (.iconst 2, 1) := by decide +kernel
theorem dJ5_newCapacity_0f7a4_23 : decode cJ5_newCapacity_0f7a4 23 = .ok (.aload_n 0, 1) := by decide +kernel
theorem dJ5_newCapacity_0f7a4_24 : decode cJ5_newCapacity_0f7a4 24 = .ok (.getfield 22, 3) := by decide +kernel
theorem dJ5_newCapacity_0f7a4_27 : decode cJ5_newCapacity_0f7a4 27 = .ok (.ishl, 1) := by decide +kernel
theorem dJ5_newCapacity_0f7a4_28 : decode cJ5_newCapacity_0f7a4 28 = .ok (.iadd, 1) := by decide +kernel
theorem dJ5_newCapacity_0f7a4_29 : decode cJ5_newCapacity_0f7a4 29 = .ok (.invokestatic 114, 3) := by decide +kernel
theorem dJ5_newCapacity_0f7a4_32 : decode cJ5_newCapacity_0f7a4 32 = .ok (.istore 5, 2) := by decide +kernel
theorem dJ5_newCapacity_0f7a4_34 : decode cJ5_newCapacity_0f7a4 34 = .ok (.iload 5, 2) := by decide +kernel
theorem dJ5_newCapacity_0f7a4_36 : decode cJ5_newCapacity_0f7a4 36 = .ok (.ldc 39, 2) := by decide +kernel
theorem dJ5_newCapacity_0f7a4_38 : decode cJ5_newCapacity_0f7a4 38 = .ok (.if_icmp .ne 13, 3) := by decide +kernel
theorem dJ5_newCapacity_0f7a4_41 : decode cJ5_newCapacity_0f7a4 41 = .ok (.new 120, 3) := by decide +kernel
theorem dJ5_newCapacity_0f7a4_44 : decode cJ5_newCapacity_0f7a4 44 = .ok (.dup, 1) := by decide +kernel
theorem dJ5_newCapacity_0f7a4_45 : decode cJ5_newCapacity_0f7a4 45 = .ok (.ldc 122, 2) := by decide +kernel
theorem dJ5_newCapacity_0f7a4_47 : decode cJ5_newCapacity_0f7a4 47 = .ok (.invokespecial 124, 3) := by decide +kernel
theorem dJ5_newCapacity_0f7a4_50 : decode cJ5_newCapacity_0f7a4 50 = .ok (.athrow, 1) := by decide +kernel
theorem dJ5_newCapacity_0f7a4_51 : decode cJ5_newCapacity_0f7a4 51 = .ok (.iload 5, 2) := by decide +kernel
theorem dJ5_newCapacity_0f7a4_53 : decode cJ5_newCapacity_0f7a4 53 = .ok (.aload_n 0, 1) := by decide +kernel
theorem dJ5_newCapacity_0f7a4_54 : decode cJ5_newCapacity_0f7a4 54 = .ok (.getfield 22, 3) := by decide +kernel
theorem dJ5_newCapacity_0f7a4_57 : decode cJ5_newCapacity_0f7a4 57 = .ok (.ishr, 1) := by decide +kernel
theorem dJ5_newCapacity_0f7a4_58 : decode cJ5_newCapacity_0f7a4 58 = .ok (.ireturn, 1) := by decide +kernel
theorem dJ5_inflate_da8c8_0 : decode cJ5_inflate_da8c8 0 = .ok (.aload_n 0, 1) := by decide +kernel
theorem dJ5_inflate_da8c8_1 : decode cJ5_inflate_da8c8 1 = .ok (.invokevirtual 83, 3) := by decide +kernel
theorem dJ5_inflate_da8c8_4 : decode cJ5_inflate_da8c8 4 = .ok (.ifCond .ne 4, 3) := by decide +kernel
theorem dJ5_inflate_da8c8_7 : decode cJ5_inflate_da8c8 7 = .ok (.return_, 1) := by decide +kernel
theorem dJ5_inflate_da8c8_8 : decode cJ5_inflate_da8c8 8 = .ok (.aload_n 0, 1) := by decide +kernel
theorem dJ5_inflate_da8c8_9 : decode cJ5_inflate_da8c8 9 = .ok (.getfield 15, 3) := by decide +kernel
theorem dJ5_inflate_da8c8_12 : decode cJ5_inflate_da8c8 12 = .ok (.arraylength, 1) := by decide +kernel
theorem dJ5_inflate_da8c8_13 : decode cJ5_inflate_da8c8 13 = .ok (.invokestatic 26, 3) := by decide +kernel
theorem dJ5_inflate_da8c8_16 : decode cJ5_inflate_da8c8 16 = .ok (.astore_n 1, 1) := by decide +kernel
theorem dJ5_inflate_da8c8_17 : decode cJ5_inflate_da8c8 17 = .ok (.aload_n 0, 1) := by decide +kernel
theorem dJ5_inflate_da8c8_18 : decode cJ5_inflate_da8c8 18 = .ok (.getfield 15, 3) := by decide +kernel
theorem dJ5_inflate_da8c8_21 : decode cJ5_inflate_da8c8 21 = .ok (.iconst 0, 1) := by decide +kernel
theorem dJ5_inflate_da8c8_22 : decode cJ5_inflate_da8c8 22 = .ok (.aload_n 1, 1) := by decide +kernel
theorem dJ5_inflate_da8c8_23 : decode cJ5_inflate_da8c8 23 = .ok (.iconst 0, 1) := by decide +kernel
theorem dJ5_inflate_da8c8_24 : decode cJ5_inflate_da8c8 24 = .ok (.aload_n 0, 1) := by decide +kernel
theorem dJ5_inflate_da8c8_25 : decode cJ5_inflate_da8c8 25 = .ok (.getfield 79, 3) := by decide +kernel
theorem dJ5_inflate_da8c8_28 : decode cJ5_inflate_da8c8 28 = .ok (.invokestatic 125, 3) := by decide +kernel
theorem dJ5_inflate_da8c8_31 : decode cJ5_inflate_da8c8 31 = .ok (.aload_n 0, 1) := by decide +kernel
theorem dJ5_inflate_da8c8_32 : decode cJ5_inflate_da8c8 32 = .ok (.aload_n 1, 1) := by decide +kernel
theorem dJ5_inflate_da8c8_33 : decode cJ5_inflate_da8c8 33 = .ok (.putfield 15, 3) := by decide +kernel
theorem dJ5_inflate_da8c8_36 : decode cJ5_inflate_da8c8 36 = .ok (.aload_n 0, 1) := by decide +kernel
theorem dJ5_inflate_da8c8_37 : decode cJ5_inflate_da8c8 37 = .ok (.iconst 1, 1) := by decide +kernel
theorem dJ5_inflate_da8c8_38 : decode cJ5_inflate_da8c8 38 = .ok (.putfield 22, 3) := by decide +kernel
theorem dJ5_inflate_da8c8_41 : decode cJ5_inflate_da8c8 41 = .ok (.return_, 1) := by decide +kernel
theorem dJ5_setLength_d00df_0 : decode cJ5_setLength_d00df 0 = .ok (.iload_n 1, 1) := by decide +kernel
theorem dJ5_setLength_d00df_1 : decode cJ5_setLength_d00df 1 = .ok (.ifCond .ge 12, 3) := by decide +kernel
theorem dJ5_setLength_d00df_4 : decode cJ5_setLength_d00df 4 = .ok (.new 129, 3) := by decide +kernel
theorem dJ5_setLength_d00df_7 : decode cJ5_setLength_d00df 7 = .ok (.dup, 1) := by decide +kernel
theorem dJ5_setLength_d00df_8 : decode cJ5_setLength_d00df 8 = .ok (.iload_n 1, 1) := by decide +kernel
theorem dJ5_setLength_d00df_9 : decode cJ5_setLength_d00df 9 = .ok (.invokespecial 131, 3) := by decide +kernel
theorem dJ5_setLength_d00df_12 : decode cJ5_setLength_d00df 12 = .ok (.athrow, 1) := by decide +kernel
theorem dJ5_setLength_d00df_13 : decode cJ5_setLength_d00df 13 = .ok (.aload_n 0, 1) := by decide +kernel
theorem dJ5_setLength_d00df_14 : decode cJ5_setLength_d00df 14 = .ok (.iload_n 1, 1) := by decide +kernel
theorem dJ5_setLength_d00df_15 : decode cJ5_setLength_d00df 15 = .ok (.invokevirtual 100, 3) := by decide +kernel
theorem dJ5_setLength_d00df_18 : decode cJ5_setLength_d00df 18 = .ok (.aload_n 0, 1) := by decide +kernel
theorem dJ5_setLength_d00df_19 : decode cJ5_setLength_d00df 19 = .ok (.getfield 79, 3) := by decide +kernel
theorem dJ5_setLength_d00df_22 : decode cJ5_setLength_d00df 22 = .ok (.iload_n 1, 1) := by decide +kernel
theorem dJ5_setLength_d00df_23 : decode cJ5_setLength_d00df 23 = .ok (.if_icmp .ge 40, 3) := by decide +kernel
theorem dJ5_setLength_d00df_26 : decode cJ5_setLength_d00df 26 = .ok (.aload_n 0, 1) := by decide +kernel
theorem dJ5_setLength_d00df_27 : decode cJ5_setLength_d00df 27 = .ok (.invokevirtual 83, 3) := by decide +kernel
theorem dJ5_setLength_d00df_30 : decode cJ5_setLength_d00df 30 = .ok (.ifCond .eq 18, 3) := by decide +kernel
theorem dJ5_setLength_d00df_33 : decode cJ5_setLength_d00df 33 = .ok (.aload_n 0, 1) := by decide +kernel
theorem dJ5_setLength_d00df_34 : decode cJ5_setLength_d00df 34 = .ok (.getfield 15, 3) := by decide +kernel
theorem dJ5_setLength_d00df_37 : decode cJ5_setLength_d00df 37 = .ok (.aload_n 0, 1) := by decide +kernel
theorem dJ5_setLength_d00df_38 : decode cJ5_setLength_d00df 38 = .ok (.getfield 79, 3) := by decide +kernel
theorem dJ5_setLength_d00df_41 : decode cJ5_setLength_d00df 41 = .ok (.iload_n 1, 1) := by decide +kernel
theorem dJ5_setLength_d00df_42 : decode cJ5_setLength_d00df 42 = .ok (.invokestatic 133, 3) := by decide +kernel
theorem dJ5_setLength_d00df_45 : decode cJ5_setLength_d00df 45 = .ok (.goto 31, 3) := by decide +kernel
theorem dJ5_setLength_d00df_48 : decode cJ5_setLength_d00df 48 = .ok (.aload_n 0, 1) := by decide +kernel
theorem dJ5_setLength_d00df_49 : decode cJ5_setLength_d00df 49 = .ok (.getfield 15, 3) := by decide +kernel
theorem dJ5_setLength_d00df_52 : decode cJ5_setLength_d00df 52 = .ok (.aload_n 0, 1) := by decide +kernel
theorem dJ5_setLength_d00df_53 : decode cJ5_setLength_d00df 53 = .ok (.getfield 79, 3) := by decide +kernel
theorem dJ5_setLength_d00df_56 : decode cJ5_setLength_d00df 56 = .ok (.iload_n 1, 1) := by decide +kernel
theorem dJ5_setLength_d00df_57 : decode cJ5_setLength_d00df 57 = .ok (.invokestatic 137, 3) := by decide +kernel
theorem dJ5_setLength_d00df_60 : decode cJ5_setLength_d00df 60 = .ok (.goto 16, 3) := by decide +kernel
theorem dJ5_setLength_d00df_63 : decode cJ5_setLength_d00df 63 = .ok (.aload_n 0, 1) := by decide +kernel
theorem dJ5_setLength_d00df_64 : decode cJ5_setLength_d00df 64 = .ok (.getfield 79, 3) := by decide +kernel
theorem dJ5_setLength_d00df_67 : decode cJ5_setLength_d00df 67 = .ok (.iload_n 1, 1) := by decide +kernel
theorem dJ5_setLength_d00df_68 : decode cJ5_setLength_d00df 68 = .ok (.if_icmp .le 8, 3) := by decide +kernel
theorem dJ5_setLength_d00df_71 : decode cJ5_setLength_d00df 71 = .ok (.aload_n 0, 1) := by decide +kernel
theorem dJ5_setLength_d00df_72 : decode cJ5_setLength_d00df 72 = .ok (.iconst 1, 1) := by decide +kernel
theorem dJ5_setLength_d00df_73 : decode cJ5_setLength_d00df 73 = .ok (.putfield 73, 3) := by decide +kernel
theorem dJ5_setLength_d00df_76 : decode cJ5_setLength_d00df 76 = .ok (.aload_n 0, 1) := by decide +kernel
theorem dJ5_setLength_d00df_77 : decode cJ5_setLength_d00df 77 = .ok (.iload_n 1, 1) := by decide +kernel
theorem dJ5_setLength_d00df_78 : decode cJ5_setLength_d00df 78 = .ok (.putfield 79, 3) := by decide +kernel
theorem dJ5_setLength_d00df_81 : decode cJ5_setLength_d00df 81 = .ok (.return_, 1) := by decide +kernel
theorem dJ5_charAt_5068e_0 : decode cJ5_charAt_5068e 0 = .ok (.aload_n 0, 1) := by decide +kernel
theorem dJ5_charAt_5068e_1 : decode cJ5_charAt_5068e 1 = .ok (.getfield 22, 3) := by decide +kernel
theorem dJ5_charAt_5068e_4 : decode cJ5_charAt_5068e 4 = .ok (.istore_n 2, 1) := by decide +kernel
theorem dJ5_charAt_5068e_5 : decode cJ5_charAt_5068e 5 = .ok (.aload_n 0, 1) := by decide +kernel
theorem dJ5_charAt_5068e_6 : decode cJ5_charAt_5068e 6 = .ok (.getfield 15, 3) := by decide +kernel
theorem dJ5_charAt_5068e_9 : decode cJ5_charAt_5068e 9 = .ok (.astore_n 3, 1) := by decide +kernel
theorem dJ5_charAt_5068e_10 : decode cJ5_charAt_5068e 10 = .ok (.aload_n 0, 1) := by decide +kernel
theorem dJ5_charAt_5068e_11 : decode cJ5_charAt_5068e 11 = .ok (.getfield 79, 3) := by decide +kernel
theorem dJ5_charAt_5068e_14 : decode cJ5_charAt_5068e 14 = .ok (.aload_n 3, 1) := by decide +kernel
theorem dJ5_charAt_5068e_15 : decode cJ5_charAt_5068e 15 = .ok (.arraylength, 1) := by decide +kernel
theorem dJ5_charAt_5068e_16 : decode cJ5_charAt_5068e 16 = .ok (.iload_n 2, 1) := by decide +kernel
theorem dJ5_charAt_5068e_17 : decode cJ5_charAt_5068e 17 = .ok (.ishr, 1) := by decide +kernel
theorem dJ5_charAt_5068e_18 : decode cJ5_charAt_5068e 18 = .ok (.invokestatic 138, 3) := by decide +kernel
theorem dJ5_charAt_5068e_21 : decode cJ5_charAt_5068e 21 = .ok (.istore 4, 2) := by decide +kernel
theorem dJ5_charAt_5068e_23 : decode cJ5_charAt_5068e 23 = .ok (.iload_n 1, 1) := by decide +kernel
theorem dJ5_charAt_5068e_24 : decode cJ5_charAt_5068e 24 = .ok (.iload 4, 2) := by decide +kernel
theorem dJ5_charAt_5068e_26 : decode cJ5_charAt_5068e 26 = .ok (.invokestatic 144, 3) := by decide +kernel
theorem dJ5_charAt_5068e_29 : decode cJ5_charAt_5068e 29 = .ok (.iload_n 2, 1) := by decide +kernel
theorem dJ5_charAt_5068e_30 : decode cJ5_charAt_5068e 30 = .ok (.ifCond .ne 12, 3) := by decide +kernel
theorem dJ5_charAt_5068e_33 : decode cJ5_charAt_5068e 33 = .ok (.aload_n 3, 1) := by decide +kernel
theorem dJ5_charAt_5068e_34 : decode cJ5_charAt_5068e 34 = .ok (.iload_n 1, 1) := by decide +kernel
theorem dJ5_charAt_5068e_35 : decode cJ5_charAt_5068e 35 = .ok (.baload, 1) := by decide +kernel
theorem dJ5_charAt_5068e_36 : decode cJ5_charAt_5068e 36 = .ok (.sipush 255, 3) := by decide +kernel
theorem dJ5_charAt_5068e_39 : decode cJ5_charAt_5068e 39 = .ok (.iand, 1) := by decide +kernel
theorem dJ5_charAt_5068e_40 : decode cJ5_charAt_5068e 40 = .ok (.i2c, 1) := by decide +kernel
theorem dJ5_charAt_5068e_41 : decode cJ5_charAt_5068e 41 = .ok (.ireturn, 1) := by decide +kernel
theorem dJ5_charAt_5068e_42 : decode cJ5_charAt_5068e 42 = .ok (.aload_n 3, 1) := by decide +kernel
theorem dJ5_charAt_5068e_43 : decode cJ5_charAt_5068e 43 = .ok (.iload_n 1, 1) := by decide +kernel
theorem dJ5_charAt_5068e_44 : decode cJ5_charAt_5068e 44 = .ok (.invokestatic 148, 3) := by decide +kernel
theorem dJ5_charAt_5068e_47 : decode cJ5_charAt_5068e 47 = .ok (.ireturn, 1) := by decide +kernel
theorem dJ5_append_cf1ce_0 : decode cJ5_append_cf1ce 0 = .ok (.aload_n 1, 1) := by decide +kernel
theorem dJ5_append_cf1ce_1 : decode cJ5_append_cf1ce 1 = .ok (.ifnonnull 8, 3) := by decide +kernel
theorem dJ5_append_cf1ce_4 : decode cJ5_append_cf1ce 4 = .ok (.aload_n 0, 1) := by decide +kernel
theorem dJ5_append_cf1ce_5 : decode cJ5_append_cf1ce 5 = .ok (.invokevirtual 204, 3) := by decide +kernel
theorem dJ5_append_cf1ce_8 : decode cJ5_append_cf1ce 8 = .ok (.areturn, 1) := by decide +kernel
theorem dJ5_append_cf1ce_9 : decode cJ5_append_cf1ce 9 = .ok (.aload_n 1, 1) := by decide +kernel
theorem dJ5_append_cf1ce_10 : decode cJ5_append_cf1ce 10 = .ok (.invokevirtual 32, 3) := by decide +kernel
theorem dJ5_append_cf1ce_13 : decode cJ5_append_cf1ce 13 = .ok (.istore_n 2, 1) := by decide +kernel
theorem dJ5_append_cf1ce_14 : decode cJ5_append_cf1ce 14 = .ok (.aload_n 0, 1) := by decide +kernel
theorem dJ5_append_cf1ce_15 : decode cJ5_append_cf1ce 15 = .ok (.aload_n 0, 1) := by decide +kernel
theorem dJ5_append_cf1ce_16 : decode cJ5_append_cf1ce 16 = .ok (.getfield 79, 3) := by decide +kernel
theorem dJ5_append_cf1ce_19 : decode cJ5_append_cf1ce 19 = .ok (.iload_n 2, 1) := by decide +kernel
theorem dJ5_append_cf1ce_20 : decode cJ5_append_cf1ce 20 = .ok (.iadd, 1) := by decide +kernel
theorem dJ5_append_cf1ce_21 : decode cJ5_append_cf1ce 21 = .ok (.invokevirtual 100, 3) := by decide +kernel
theorem dJ5_append_cf1ce_24 : decode cJ5_append_cf1ce 24 = .ok (.aload_n 0, 1) := by decide +kernel
theorem dJ5_append_cf1ce_25 : decode cJ5_append_cf1ce 25 = .ok (.aload_n 0, 1) := by decide +kernel
theorem dJ5_append_cf1ce_26 : decode cJ5_append_cf1ce 26 = .ok (.getfield 79, 3) := by decide +kernel
theorem dJ5_append_cf1ce_29 : decode cJ5_append_cf1ce 29 = .ok (.aload_n 1, 1) := by decide +kernel
theorem dJ5_append_cf1ce_30 : decode cJ5_append_cf1ce 30 = .ok (.invokevirtual 208, 3) := by decide +kernel
theorem dJ5_append_cf1ce_33 : decode cJ5_append_cf1ce 33 = .ok (.aload_n 0, 1) := by decide +kernel
theorem dJ5_append_cf1ce_34 : decode cJ5_append_cf1ce 34 = .ok (.dup, 1) := by decide +kernel
theorem dJ5_append_cf1ce_35 : decode cJ5_append_cf1ce 35 = .ok (.getfield 79, 3) := by decide +kernel
theorem dJ5_append_cf1ce_38 : decode cJ5_append_cf1ce 38 = .ok (.iload_n 2, 1) := by decide +kernel
theorem dJ5_append_cf1ce_39 : decode cJ5_append_cf1ce 39 = .ok (.iadd, 1) := by decide +kernel
theorem dJ5_append_cf1ce_40 : decode cJ5_append_cf1ce 40 = .ok (.putfield 79, 3) := by decide +kernel
theorem dJ5_append_cf1ce_43 : decode cJ5_append_cf1ce 43 = .ok (.aload_n 0, 1) := by decide +kernel
theorem dJ5_append_cf1ce_44 : decode cJ5_append_cf1ce 44 = .ok (.areturn, 1) := by decide +kernel
theorem dJ5_appendNull_278bc_0 : decode cJ5_appendNull_278bc 0 = .ok (.aload_n 0, 1) := by decide +kernel
theorem dJ5_appendNull_278bc_1 : decode cJ5_appendNull_278bc 1 = .ok (.aload_n 0, 1) := by decide +kernel
theorem dJ5_appendNull_278bc_2 : decode cJ5_appendNull_278bc 2 = .ok (.getfield 79, 3) := by decide +kernel
theorem dJ5_appendNull_278bc_5 : decode cJ5_appendNull_278bc 5 = .ok (.iconst 4, 1) := by decide +kernel
theorem dJ5_appendNull_278bc_6 : decode cJ5_appendNull_278bc 6 = .ok (.iadd, 1) := by decide +kernel
theorem dJ5_appendNull_278bc_7 : decode cJ5_appendNull_278bc 7 = .ok (.invokevirtual 100, 3) := by decide +kernel
theorem dJ5_appendNull_278bc_10 : decode cJ5_appendNull_278bc 10 = .ok (.aload_n 0, 1) := by decide +kernel
theorem dJ5_appendNull_278bc_11 : decode cJ5_appendNull_278bc 11 = .ok (.getfield 79, 3) := by decide +kernel
theorem dJ5_appendNull_278bc_14 : decode cJ5_appendNull_278bc 14 = .ok (.istore_n 1, 1) := by decide +kernel
theorem dJ5_appendNull_278bc_15 : decode cJ5_appendNull_278bc 15 = .ok (.aload_n 0, 1) := by decide +kernel
theorem dJ5_appendNull_278bc_16 : decode cJ5_appendNull_278bc 16 = .ok (.getfield 15, 3) := by decide +kernel
theorem dJ5_appendNull_278bc_19 : decode cJ5_appendNull_278bc 19 = .ok (.astore_n 2, 1) := by decide +kernel
theorem dJ5_appendNull_278bc_20 : decode cJ5_appendNull_278bc 20 = .ok (.aload_n 0, 1) := by decide +kernel
theorem dJ5_appendNull_278bc_21 : decode cJ5_appendNull_278bc 21 = .ok (.invokevirtual 83, 3) := by decide +kernel
theorem dJ5_appendNull_278bc_24 : decode cJ5_appendNull_278bc 24 = .ok (.ifCond .eq 38, 3) := by decide +kernel
theorem dJ5_appendNull_278bc_27 : decode cJ5_appendNull_278bc 27 = .ok (.aload_n 2, 1) := by decide +kernel
theorem dJ5_appendNull_278bc_28 : decode cJ5_appendNull_278bc 28 = .ok (.iload_n 1, 1) := by decide +kernel
theorem dJ5_appendNull_278bc_29 : decode cJ5_appendNull_278bc 29 = .ok (.iinc 1 1, 3) := by decide +kernel
theorem dJ5_appendNull_278bc_32 : decode cJ5_appendNull_278bc 32 = .ok (.bipush 110, 2) := by decide +kernel
theorem dJ5_appendNull_278bc_34 : decode cJ5_appendNull_278bc 34 = .ok (.bastore, 1) := by decide +kernel
theorem dJ5_appendNull_278bc_35 : decode cJ5_appendNull_278bc 35 = .ok (.aload_n 2, 1) := by decide +kernel
theorem dJ5_appendNull_278bc_36 : decode cJ5_appendNull_278bc 36 = .ok (.iload_n 1, 1) := by decide +kernel
theorem dJ5_appendNull_278bc_37 : decode cJ5_appendNull_278bc 37 = .ok (.iinc 1 1, 3) := by decide +kernel
theorem dJ5_appendNull_278bc_40 : decode cJ5_appendNull_278bc 40 = .ok (.bipush 117, 2) := by decide +kernel
theorem dJ5_appendNull_278bc_42 : decode cJ5_appendNull_278bc 42 = .ok (.bastore, 1) := by decide +kernel
theorem dJ5_appendNull_278bc_43 : decode cJ5_appendNull_278bc 43 = .ok (.aload_n 2, 1) := by decide +kernel
theorem dJ5_appendNull_278bc_44 : decode cJ5_appendNull_278bc 44 = .ok (.iload_n 1, 1) := by decide +kernel
theorem dJ5_appendNull_278bc_45 : decode cJ5_appendNull_278bc 45 = .ok (.iinc 1 1, 3) := by decide +kernel
theorem dJ5_appendNull_278bc_48 : decode cJ5_appendNull_278bc 48 = .ok (.bipush 108, 2) := by decide +kernel
theorem dJ5_appendNull_278bc_50 : decode cJ5_appendNull_278bc 50 = .ok (.bastore, 1) := by decide +kernel
theorem dJ5_appendNull_278bc_51 : decode cJ5_appendNull_278bc 51 = .ok (.aload_n 2, 1) := by decide +kernel
theorem dJ5_appendNull_278bc_52 : decode cJ5_appendNull_278bc 52 = .ok (.iload_n 1, 1) := by decide +kernel
theorem dJ5_appendNull_278bc_53 : decode cJ5_appendNull_278bc 53 = .ok (.iinc 1 1, 3) := by decide +kernel
theorem dJ5_appendNull_278bc_56 : decode cJ5_appendNull_278bc 56 = .ok (.bipush 108, 2) := by decide +kernel
theorem dJ5_appendNull_278bc_58 : decode cJ5_appendNull_278bc 58 = .ok (.bastore, 1) := by decide +kernel
theorem dJ5_appendNull_278bc_59 : decode cJ5_appendNull_278bc 59 = .ok (.goto 17, 3) := by decide +kernel
theorem dJ5_appendNull_278bc_62 : decode cJ5_appendNull_278bc 62 = .ok (.aload_n 2, 1) := by decide +kernel
theorem dJ5_appendNull_278bc_63 : decode cJ5_appendNull_278bc 63 = .ok (.iload_n 1, 1) := by decide +kernel
theorem dJ5_appendNull_278bc_64 : decode cJ5_appendNull_278bc 64 = .ok (.bipush 110, 2) := by decide +kernel
theorem dJ5_appendNull_278bc_66 : decode cJ5_appendNull_278bc 66 = .ok (.bipush 117, 2) := by decide +kernel
theorem dJ5_appendNull_278bc_68 : decode cJ5_appendNull_278bc 68 = .ok (.bipush 108, 2) := by decide +kernel
theorem dJ5_appendNull_278bc_70 : decode cJ5_appendNull_278bc 70 = .ok (.bipush 108, 2) := by decide +kernel
theorem dJ5_appendNull_278bc_72 : decode cJ5_appendNull_278bc 72 = .ok (.invokestatic 226, 3) := by decide +kernel
theorem dJ5_appendNull_278bc_75 : decode cJ5_appendNull_278bc 75 = .ok (.istore_n 1, 1) := by decide +kernel
theorem dJ5_appendNull_278bc_76 : decode cJ5_appendNull_278bc 76 = .ok (.aload_n 0, 1) := by decide +kernel
theorem dJ5_appendNull_278bc_77 : decode cJ5_appendNull_278bc 77 = .ok (.iload_n 1, 1) := by decide +kernel
theorem dJ5_appendNull_278bc_78 : decode cJ5_appendNull_278bc 78 = .ok (.putfield 79, 3) := by decide +kernel
theorem dJ5_appendNull_278bc_81 : decode cJ5_appendNull_278bc 81 = .ok (.aload_n 0, 1) := by decide +kernel
theorem dJ5_appendNull_278bc_82 : decode cJ5_appendNull_278bc 82 = .ok (.areturn, 1) := by decide +kernel
theorem dJ5_append_3fe6f_0 : decode cJ5_append_3fe6f 0 = .ok (.aload_n 0, 1) := by decide +kernel
theorem dJ5_append_3fe6f_1 : decode cJ5_append_3fe6f 1 = .ok (.aload_n 0, 1) := by decide +kernel
theorem dJ5_append_3fe6f_2 : decode cJ5_append_3fe6f 2 = .ok (.getfield 79, 3) := by decide +kernel
theorem dJ5_append_3fe6f_5 : decode cJ5_append_3fe6f 5 = .ok (.iconst 1, 1) := by decide +kernel
theorem dJ5_append_3fe6f_6 : decode cJ5_append_3fe6f 6 = .ok (.iadd, 1) := by decide +kernel
theorem dJ5_append_3fe6f_7 : decode cJ5_append_3fe6f 7 = .ok (.invokevirtual 100, 3) := by decide +kernel
theorem dJ5_append_3fe6f_10 : decode cJ5_append_3fe6f 10 = .ok (.aload_n 0, 1) := by decide +kernel
theorem dJ5_append_3fe6f_11 : decode cJ5_append_3fe6f 11 = .ok (.invokevirtual 83, 3) := by decide +kernel
theorem dJ5_append_3fe6f_14 : decode cJ5_append_3fe6f 14 = .ok (.ifCond .eq 31, 3) := by decide +kernel
theorem dJ5_append_3fe6f_17 : decode cJ5_append_3fe6f 17 = .ok (.iload_n 1, 1) := by decide +kernel
theorem dJ5_append_3fe6f_18 : decode cJ5_append_3fe6f 18 = .ok (.invokestatic 191, 3) := by decide +kernel
theorem dJ5_append_3fe6f_21 : decode cJ5_append_3fe6f 21 = .ok (.ifCond .eq 24, 3) := by decide +kernel
theorem dJ5_append_3fe6f_24 : decode cJ5_append_3fe6f 24 = .ok (.aload_n 0, 1) := by decide +kernel
theorem dJ5_append_3fe6f_25 : decode cJ5_append_3fe6f 25 = .ok (.getfield 15, 3) := by decide +kernel
theorem dJ5_append_3fe6f_28 : decode cJ5_append_3fe6f 28 = .ok (.aload_n 0, 1) := by decide +kernel
theorem dJ5_append_3fe6f_29 : decode cJ5_append_3fe6f 29 = .ok (.dup, 1) := by decide +kernel
theorem dJ5_append_3fe6f_30 : decode cJ5_append_3fe6f 30 = .ok (.getfield 79, 3) := by decide +kernel
theorem dJ5_append_3fe6f_33 : decode cJ5_append_3fe6f 33 = .ok (.dup_x1, 1) := by decide +kernel
theorem dJ5_append_3fe6f_34 : decode cJ5_append_3fe6f 34 = .ok (.iconst 1, 1) := by decide +kernel
theorem dJ5_append_3fe6f_35 : decode cJ5_append_3fe6f 35 = .ok (.iadd, 1) := by decide +kernel
theorem dJ5_append_3fe6f_36 : decode cJ5_append_3fe6f 36 = .ok (.putfield 79, 3) := by decide +kernel
theorem dJ5_append_3fe6f_39 : decode cJ5_append_3fe6f 39 = .ok (.iload_n 1, 1) := by decide +kernel
theorem dJ5_append_3fe6f_40 : decode cJ5_append_3fe6f 40 = .ok (.i2b, 1) := by decide +kernel
theorem dJ5_append_3fe6f_41 : decode cJ5_append_3fe6f 41 = .ok (.bastore, 1) := by decide +kernel
theorem dJ5_append_3fe6f_42 : decode cJ5_append_3fe6f 42 = .ok (.goto 33, 3) := by decide +kernel
theorem dJ5_append_3fe6f_45 : decode cJ5_append_3fe6f 45 = .ok (.aload_n 0, 1) := by decide +kernel
theorem dJ5_append_3fe6f_46 : decode cJ5_append_3fe6f 46 = .ok (.invokevirtual 83, 3) := by decide +kernel
theorem dJ5_append_3fe6f_49 : decode cJ5_append_3fe6f 49 = .ok (.ifCond .eq 7, 3) := by decide +kernel
theorem dJ5_append_3fe6f_52 : decode cJ5_append_3fe6f 52 = .ok (.aload_n 0, 1) := by decide +kernel
theorem dJ5_append_3fe6f_53 : decode cJ5_append_3fe6f 53 = .ok (.invokevirtual 195, 3) := by decide +kernel
theorem dJ5_append_3fe6f_56 : decode cJ5_append_3fe6f 56 = .ok (.aload_n 0, 1) := by decide +kernel
theorem dJ5_append_3fe6f_57 : decode cJ5_append_3fe6f 57 = .ok (.getfield 15, 3) := by decide +kernel
theorem dJ5_append_3fe6f_60 : decode cJ5_append_3fe6f 60 = .ok (.aload_n 0, 1) := by decide +kernel
theorem dJ5_append_3fe6f_61 : decode cJ5_append_3fe6f 61 = .ok (.dup, 1) := by decide +kernel
theorem dJ5_append_3fe6f_62 : decode cJ5_append_3fe6f 62 = .ok (.getfield 79, 3) := by decide +kernel
theorem dJ5_append_3fe6f_65 : decode cJ5_append_3fe6f 65 = .ok (.dup_x1, 1) := by decide +kernel
theorem dJ5_append_3fe6f_66 : decode cJ5_append_3fe6f 66 = .ok (.iconst 1, 1) := by decide +kernel
theorem dJ5_append_3fe6f_67 : decode cJ5_append_3fe6f 67 = .ok (.iadd, 1) := by decide +kernel
theorem dJ5_append_3fe6f_68 : decode cJ5_append_3fe6f 68 = .ok (.putfield 79, 3) := by decide +kernel
theorem dJ5_append_3fe6f_71 : decode cJ5_append_3fe6f 71 = .ok (.iload_n 1, 1) := by decide +kernel
theorem dJ5_append_3fe6f_72 : decode cJ5_append_3fe6f 72 = .ok (.invokestatic 197, 3) := by decide +kernel
theorem dJ5_append_3fe6f_75 : decode cJ5_append_3fe6f 75 = .ok (.aload_n 0, 1) := by decide +kernel
theorem dJ5_append_3fe6f_76 : decode cJ5_append_3fe6f 76 = .ok (.areturn, 1) := by decide +kernel
theorem dJ5_append_c97b9_0 : decode cJ5_append_c97b9 0 = .ok (.aload_n 0, 1) := by decide +kernel
theorem dJ5_append_c97b9_1 : decode cJ5_append_c97b9 1 = .ok (.getfield 79, 3) := by decide +kernel
theorem dJ5_append_c97b9_4 : decode cJ5_append_c97b9 4 = .ok (.istore_n 2, 1) := by decide +kernel
theorem dJ5_append_c97b9_5 : decode cJ5_append_c97b9 5 = .ok (.iload_n 2, 1) := by decide +kernel
theorem dJ5_append_c97b9_6 : decode cJ5_append_c97b9 6 = .ok (.iload_n 1, 1) := by decide +kernel
theorem dJ5_append_c97b9_7 : decode cJ5_append_c97b9 7 = .ok (.invokestatic 245, 3) := by decide +kernel
theorem dJ5_append_c97b9_10 : decode cJ5_append_c97b9 10 = .ok (.iadd, 1) := by decide +kernel
theorem dJ5_append_c97b9_11 : decode cJ5_append_c97b9 11 = .ok (.istore_n 3, 1) := by decide +kernel
theorem dJ5_append_c97b9_12 : decode cJ5_append_c97b9 12 = .ok (.aload_n 0, 1) := by decide +kernel
theorem dJ5_append_c97b9_13 : decode cJ5_append_c97b9 13 = .ok (.iload_n 3, 1) := by decide +kernel
theorem dJ5_append_c97b9_14 : decode cJ5_append_c97b9 14 = .ok (.invokevirtual 100, 3) := by decide +kernel
theorem dJ5_append_c97b9_17 : decode cJ5_append_c97b9 17 = .ok (.aload_n 0, 1) := by decide +kernel
theorem dJ5_append_c97b9_18 : decode cJ5_append_c97b9 18 = .ok (.invokevirtual 83, 3) := by decide +kernel
theorem dJ5_append_c97b9_21 : decode cJ5_append_c97b9 21 = .ok (.ifCond .eq 16, 3) := by decide +kernel
theorem dJ5_append_c97b9_24 : decode cJ5_append_c97b9 24 = .ok (.iload_n 1, 1) := by decide +kernel
theorem dJ5_append_c97b9_25 : decode cJ5_append_c97b9 25 = .ok (.iload_n 3, 1) := by decide +kernel
theorem dJ5_append_c97b9_26 : decode cJ5_append_c97b9 26 = .ok (.aload_n 0, 1) := by decide +kernel
theorem dJ5_append_c97b9_27 : decode cJ5_append_c97b9 27 = .ok (.getfield 15, 3) := by decide +kernel
theorem dJ5_append_c97b9_30 : decode cJ5_append_c97b9 30 = .ok (.invokestatic 248, 3) := by decide +kernel
theorem dJ5_append_c97b9_33 : decode cJ5_append_c97b9 33 = .ok (.pop, 1) := by decide +kernel
theorem dJ5_append_c97b9_34 : decode cJ5_append_c97b9 34 = .ok (.goto 14, 3) := by decide +kernel
theorem dJ5_append_c97b9_37 : decode cJ5_append_c97b9 37 = .ok (.iload_n 1, 1) := by decide +kernel
theorem dJ5_append_c97b9_38 : decode cJ5_append_c97b9 38 = .ok (.iload_n 2, 1) := by decide +kernel
theorem dJ5_append_c97b9_39 : decode cJ5_append_c97b9 39 = .ok (.iload_n 3, 1) := by decide +kernel
theorem dJ5_append_c97b9_40 : decode cJ5_append_c97b9 40 = .ok (.aload_n 0, 1) := by decide +kernel
theorem dJ5_append_c97b9_41 : decode cJ5_append_c97b9 41 = .ok (.getfield 15, 3) := by decide +kernel
theorem dJ5_append_c97b9_44 : decode cJ5_append_c97b9 44 = .ok (.invokestatic 251, 3) := by decide +kernel
theorem dJ5_append_c97b9_47 : decode cJ5_append_c97b9 47 = .ok (.pop, 1) := by decide +kernel
theorem dJ5_append_c97b9_48 : decode cJ5_append_c97b9 48 = .ok (.aload_n 0, 1) := by decide +kernel
theorem dJ5_append_c97b9_49 : decode cJ5_append_c97b9 49 = .ok (.iload_n 3, 1) := by decide +kernel
theorem dJ5_append_c97b9_50 : decode cJ5_append_c97b9 50 = .ok (.putfield 79, 3) := by decide +kernel
theorem dJ5_append_c97b9_53 : decode cJ5_append_c97b9 53 = .ok (.aload_n 0, 1) := by decide +kernel
theorem dJ5_append_c97b9_54 : decode cJ5_append_c97b9 54 = .ok (.areturn, 1) := by decide +kernel
theorem dJ5_getValue_6d5f1_0 : decode cJ5_getValue_6d5f1 0 = .ok (.aload_n 0, 1) := by decide +kernel
theorem dJ5_getValue_6d5f1_1 : decode cJ5_getValue_6d5f1 1 = .ok (.getfield 15, 3) := by decide +kernel
theorem dJ5_getValue_6d5f1_4 : decode cJ5_getValue_6d5f1 4 = .ok (.areturn, 1) := by decide +kernel
theorem dJ5_isLatin1_aae02_0 : decode cJ5_isLatin1_aae02 0 = .ok (.getstatic 18, 3) := by decide +kernel
theorem dJ5_isLatin1_aae02_3 : decode cJ5_isLatin1_aae02 3 = .ok (.ifCond .eq 14, 3) := by decide +kernel
theorem dJ5_isLatin1_aae02_6 : decode cJ5_isLatin1_aae02 6 = .ok (.aload_n 0, 1) := by decide +kernel
theorem dJ5_isLatin1_aae02_7 : decode cJ5_isLatin1_aae02 7 = .ok (.getfield 22, 3) := by decide +kernel
theorem dJ5_isLatin1_aae02_10 : decode cJ5_isLatin1_aae02 10 = .ok (.ifCond .ne 7, 3) := by decide +kernel
theorem dJ5_isLatin1_aae02_13 : decode cJ5_isLatin1_aae02 13 = .ok (.iconst 1, 1) := by decide +kernel
theorem dJ5_isLatin1_aae02_14 : decode cJ5_isLatin1_aae02 14 = .ok (.goto 4, 3) := by decide +kernel
theorem dJ5_isLatin1_aae02_17 : decode cJ5_isLatin1_aae02 17 = .ok (.iconst 0, 1) := by decide +kernel
theorem dJ5_isLatin1_aae02_18 : decode cJ5_isLatin1_aae02 18 = .ok (.ireturn, 1) := by decide +kernel
theorem dJ5_inflateIfNeededFor_a7421_0 : decode cJ5_inflateIfNeededFor_a7421 0 = .ok (.getstatic 18, 3) := by decide +kernel
theorem dJ5_inflateIfNeededFor_a7421_3 : decode cJ5_inflateIfNeededFor_a7421 3 = .ok (.ifCond .eq 18, 3) := by decide +kernel
theorem dJ5_inflateIfNeededFor_a7421_6 : decode cJ5_inflateIfNeededFor_a7421 6 = .ok (.aload_n 0, 1) := by decide +kernel
theorem dJ5_inflateIfNeededFor_a7421_7 : decode cJ5_inflateIfNeededFor_a7421 7 = .ok (.getfield 22, 3) := by decide +kernel
theorem dJ5_inflateIfNeededFor_a7421_10 : decode cJ5_inflateIfNeededFor_a7421 10 = .ok (.aload_n 1, 1) := by decide +kernel
theorem dJ5_inflateIfNeededFor_a7421_11 : decode cJ5_inflateIfNeededFor_a7421 11 = .ok (.invokevirtual 40, 3) := by decide +kernel
theorem dJ5_inflateIfNeededFor_a7421_14 : decode cJ5_inflateIfNeededFor_a7421 14 = .ok (.if_icmp .eq 7, 3) := by decide +kernel
theorem dJ5_inflateIfNeededFor_a7421_17 : decode cJ5_inflateIfNeededFor_a7421 17 = .ok (.aload_n 0, 1) := by decide +kernel
theorem dJ5_inflateIfNeededFor_a7421_18 : decode cJ5_inflateIfNeededFor_a7421 18 = .ok (.invokevirtual 195, 3) := by decide +kernel
theorem dJ5_inflateIfNeededFor_a7421_21 : decode cJ5_inflateIfNeededFor_a7421 21 = .ok (.return_, 1) := by decide +kernel
theorem dJ5_putStringAt_47b60_0 : decode cJ5_putStringAt_47b60 0 = .ok (.aload_n 0, 1) := by decide +kernel
theorem dJ5_putStringAt_47b60_1 : decode cJ5_putStringAt_47b60 1 = .ok (.aload_n 2, 1) := by decide +kernel
theorem dJ5_putStringAt_47b60_2 : decode cJ5_putStringAt_47b60 2 = .ok (.invokevirtual 397, 3) := by decide +kernel
theorem dJ5_putStringAt_47b60_5 : decode cJ5_putStringAt_47b60 5 = .ok (.aload_n 2, 1) := by decide +kernel
theorem dJ5_putStringAt_47b60_6 : decode cJ5_putStringAt_47b60 6 = .ok (.aload_n 0, 1) := by decide +kernel
theorem dJ5_putStringAt_47b60_7 : decode cJ5_putStringAt_47b60 7 = .ok (.getfield 15, 3) := by decide +kernel
theorem dJ5_putStringAt_47b60_10 : decode cJ5_putStringAt_47b60 10 = .ok (.iload_n 1, 1) := by decide +kernel
theorem dJ5_putStringAt_47b60_11 : decode cJ5_putStringAt_47b60 11 = .ok (.aload_n 0, 1) := by decide +kernel
theorem dJ5_putStringAt_47b60_12 : decode cJ5_putStringAt_47b60 12 = .ok (.getfield 22, 3) := by decide +kernel
theorem dJ5_putStringAt_47b60_15 : decode cJ5_putStringAt_47b60 15 = .ok (.invokevirtual 399, 3) := by decide +kernel
theorem dJ5_putStringAt_47b60_18 : decode cJ5_putStringAt_47b60 18 = .ok (.return_, 1) := by decide +kernel
theorem dJx00060_init_a7421_0 : decode cJx00060_init_a7421 0 = .ok (.aload_n 0, 1) := by decide +kernel
theorem dJx00060_init_a7421_1 : decode cJx00060_init_a7421 1 = .ok (.aload_n 1, 1) := by decide +kernel
theorem dJx00060_init_a7421_2 : decode cJx00060_init_a7421 2 = .ok (.invokespecial 7, 3) := by decide +kernel
theorem dJx00060_init_a7421_5 : decode cJx00060_init_a7421 5 = .ok (.return_, 1) := by decide +kernel
theorem dJx00060_init_d00df_0 : decode cJx00060_init_d00df 0 = .ok (.aload_n 0, 1) := by decide +kernel
theorem dJx00060_init_d00df_1 : decode cJx00060_init_d00df 1 = .ok (.new 10, 3) := by decide +kernel
theorem dJx00060_init_d00df_4 : decode cJx00060_init_d00df 4 = .ok (.dup, 1) := by decide +kernel
theorem dJx00060_init_d00df_5 : decode cJx00060_init_d00df 5 = .ok (.invokespecial 12, 3) := by decide +kernel
theorem dJx00060_init_d00df_8 : decode cJx00060_init_d00df 8 = .ok (.ldc 13, 2) := by decide +kernel
theorem dJx00060_init_d00df_10 : decode cJx00060_init_d00df 10 = .ok (.invokevirtual 15, 3) := by decide +kernel
theorem dJx00060_init_d00df_13 : decode cJx00060_init_d00df 13 = .ok (.iload_n 1, 1) := by decide +kernel
theorem dJx00060_init_d00df_14 : decode cJx00060_init_d00df 14 = .ok (.invokevirtual 19, 3) := by decide +kernel
theorem dJx00060_init_d00df_17 : decode cJx00060_init_d00df 17 = .ok (.invokevirtual 22, 3) := by decide +kernel
theorem dJx00060_init_d00df_20 : decode cJx00060_init_d00df 20 = .ok (.invokespecial 7, 3) := by decide +kernel
theorem dJx00060_init_d00df_23 : decode cJx00060_init_d00df 23 = .ok (.return_, 1) := by decide +kernel
theorem dJ11_isValidCodePoint_9a6ad_0 : decode cJ11_isValidCodePoint_9a6ad 0 = .ok (.iload_n 0, 1) := by decide +kernel
theorem dJ11_isValidCodePoint_9a6ad_1 : decode cJ11_isValidCodePoint_9a6ad 1 = .ok (.bipush 16, 2) := by decide +kernel
theorem dJ11_isValidCodePoint_9a6ad_3 : decode cJ11_isValidCodePoint_9a6ad 3 = .ok (.iushr, 1) := by decide +kernel
theorem dJ11_isValidCodePoint_9a6ad_4 : decode cJ11_isValidCodePoint_9a6ad 4 = .ok (.istore_n 1, 1) := by decide +kernel
theorem dJ11_isValidCodePoint_9a6ad_5 : decode cJ11_isValidCodePoint_9a6ad 5 = .ok (.iload_n 1, 1) := by decide +kernel
theorem dJ11_isValidCodePoint_9a6ad_6 : decode cJ11_isValidCodePoint_9a6ad 6 = .ok (.bipush 17, 2) := by decide +kernel
theorem dJ11_isValidCodePoint_9a6ad_8 : decode cJ11_isValidCodePoint_9a6ad 8 = .ok (.if_icmp .ge 7, 3) := by decide +kernel
theorem dJ11_isValidCodePoint_9a6ad_11 : decode cJ11_isValidCodePoint_9a6ad 11 = .ok (.iconst 1, 1) := by decide +kernel
theorem dJ11_isValidCodePoint_9a6ad_12 : decode cJ11_isValidCodePoint_9a6ad 12 = .ok (.goto 4, 3) := by decide +kernel
theorem dJ11_isValidCodePoint_9a6ad_15 : decode cJ11_isValidCodePoint_9a6ad 15 = .ok (.iconst 0, 1) := by decide +kernel
theorem dJ11_isValidCodePoint_9a6ad_16 : decode cJ11_isValidCodePoint_9a6ad 16 = .ok (.ireturn, 1) := by decide +kernel
theorem dJ11_highSurrogate_5068e_0 : decode cJ11_highSurrogate_5068e 0 = .ok (.iload_n 0, 1) := by decide +kernel
theorem dJ11_highSurrogate_5068e_1 : decode cJ11_highSurrogate_5068e 1 = .ok (.bipush 10, 2) := by decide +kernel
theorem dJ11_highSurrogate_5068e_3 : decode cJ11_highSurrogate_5068e 3 = .ok (.iushr, 1) := by decide +kernel
theorem dJ11_highSurrogate_5068e_4 : decode cJ11_highSurrogate_5068e 4 = .ok (.ldc 110, 2) := by decide +kernel
theorem dJ11_highSurrogate_5068e_6 : decode cJ11_highSurrogate_5068e 6 = .ok (.iadd, 1) := by decide +kernel
theorem dJ11_highSurrogate_5068e_7 : decode cJ11_highSurrogate_5068e 7 = .ok (.i2c, 1) := by decide +kernel
theorem dJ11_highSurrogate_5068e_8 : decode cJ11_highSurrogate_5068e 8 = .ok (.ireturn, 1) := by decide +kernel
theorem dJ11_lowSurrogate_5068e_0 : decode cJ11_lowSurrogate_5068e 0 = .ok (.iload_n 0, 1) := by decide +kernel
theorem dJ11_lowSurrogate_5068e_1 : decode cJ11_lowSurrogate_5068e 1 = .ok (.sipush 1023, 3) := by decide +kernel
theorem dJ11_lowSurrogate_5068e_4 : decode cJ11_lowSurrogate_5068e 4 = .ok (.iand, 1) := by decide +kernel
theorem dJ11_lowSurrogate_5068e_5 : decode cJ11_lowSurrogate_5068e 5 = .ok (.ldc 76, 2) := by decide +kernel
theorem dJ11_lowSurrogate_5068e_7 : decode cJ11_lowSurrogate_5068e 7 = .ok (.iadd, 1) := by decide +kernel
theorem dJ11_lowSurrogate_5068e_8 : decode cJ11_lowSurrogate_5068e 8 = .ok (.i2c, 1) := by decide +kernel
theorem dJ11_lowSurrogate_5068e_9 : decode cJ11_lowSurrogate_5068e 9 = .ok (.ireturn, 1) := by decide +kernel
theorem dJ6_getChars_ba4f3_0 : decode cJ6_getChars_ba4f3 0 = .ok (.iload_n 1, 1) := by decide +kernel
theorem dJ6_getChars_ba4f3_1 : decode cJ6_getChars_ba4f3 1 = .ok (.istore 5, 2) := by decide +kernel
theorem dJ6_getChars_ba4f3_3 : decode cJ6_getChars_ba4f3 3 = .ok (.iload_n 0, 1) := by decide +kernel
theorem dJ6_getChars_ba4f3_4 : decode cJ6_getChars_ba4f3 4 = .ok (.ifCond .ge 7, 3) := by decide +kernel
theorem dJ6_getChars_ba4f3_7 : decode cJ6_getChars_ba4f3 7 = .ok (.iconst 1, 1) := by decide +kernel
theorem dJ6_getChars_ba4f3_8 : decode cJ6_getChars_ba4f3 8 = .ok (.goto 4, 3) := by decide +kernel
theorem dJ6_getChars_ba4f3_11 : decode cJ6_getChars_ba4f3 11 = .ok (.iconst 0, 1) := by decide +kernel
theorem dJ6_getChars_ba4f3_12 : decode cJ6_getChars_ba4f3 12 = .ok (.istore 6, 2) := by decide +kernel
theorem dJ6_getChars_ba4f3_14 : decode cJ6_getChars_ba4f3 14 = .ok (.iload 6, 2) := by decide +kernel
theorem dJ6_getChars_ba4f3_16 : decode cJ6_getChars_ba4f3 16 = .ok (.ifCond .ne 6, 3) := by decide +kernel
theorem dJ6_getChars_ba4f3_19 : decode cJ6_getChars_ba4f3 19 = .ok (.iload_n 0, 1) := by decide +kernel
theorem dJ6_getChars_ba4f3_20 : decode cJ6_getChars_ba4f3 20 = .ok (.ineg, 1) := by decide +kernel
theorem dJ6_getChars_ba4f3_21 : decode cJ6_getChars_ba4f3 21 = .ok (.istore_n 0, 1) := by decide +kernel
theorem dJ6_getChars_ba4f3_22 : decode cJ6_getChars_ba4f3 22 = .ok (.iload_n 0, 1) := by decide +kernel
theorem dJ6_getChars_ba4f3_23 : decode cJ6_getChars_ba4f3 23 = .ok (.bipush (-100), 2) := by decide +kernel
theorem dJ6_getChars_ba4f3_25 : decode cJ6_getChars_ba4f3 25 = .ok (.if_icmp .gt 47, 3) := by decide +kernel
theorem dJ6_getChars_ba4f3_28 : decode cJ6_getChars_ba4f3 28 = .ok (.iload_n 0, 1) := by decide +kernel
theorem dJ6_getChars_ba4f3_29 : decode cJ6_getChars_ba4f3 29 = .ok (.bipush 100, 2) := by decide +kernel
theorem dJ6_getChars_ba4f3_31 : decode cJ6_getChars_ba4f3 31 = .ok (.idiv, 1) := by decide +kernel
theorem dJ6_getChars_ba4f3_32 : decode cJ6_getChars_ba4f3 32 = .ok (.istore_n 3, 1) := by decide +kernel
theorem dJ6_getChars_ba4f3_33 : decode cJ6_getChars_ba4f3 33 = .ok (.iload_n 3, 1) := by decide +kernel
theorem dJ6_getChars_ba4f3_34 : decode cJ6_getChars_ba4f3 34 = .ok (.bipush 100, 2) := by decide +kernel
theorem dJ6_getChars_ba4f3_36 : decode cJ6_getChars_ba4f3 36 = .ok (.imul, 1) := by decide +kernel
theorem dJ6_getChars_ba4f3_37 : decode cJ6_getChars_ba4f3 37 = .ok (.iload_n 0, 1) := by decide +kernel
theorem dJ6_getChars_ba4f3_38 : decode cJ6_getChars_ba4f3 38 = .ok (.isub, 1) := by decide +kernel
theorem dJ6_getChars_ba4f3_39 : decode cJ6_getChars_ba4f3 39 = .ok (.istore 4, 2) := by decide +kernel
theorem dJ6_getChars_ba4f3_41 : decode cJ6_getChars_ba4f3 41 = .ok (.iload_n 3, 1) := by decide +kernel
theorem dJ6_getChars_ba4f3_42 : decode cJ6_getChars_ba4f3 42 = .ok (.istore_n 0, 1) := by decide +kernel
theorem dJ6_getChars_ba4f3_43 : decode cJ6_getChars_ba4f3 43 = .ok (.aload_n 2, 1) := by decide +kernel
theorem dJ6_getChars_ba4f3_44 : decode cJ6_getChars_ba4f3 44 = .ok (.iinc 5 (-1), 3) := by decide +kernel
theorem dJ6_getChars_ba4f3_47 : decode cJ6_getChars_ba4f3 47 = .ok (.iload 5, 2) := by decide +kernel
theorem dJ6_getChars_ba4f3_49 : decode cJ6_getChars_ba4f3 49 = .ok (.getstatic 83, 3) := by decide +kernel
theorem dJ6_getChars_ba4f3_52 : decode cJ6_getChars_ba4f3 52 = .ok (.iload 4, 2) := by decide +kernel
theorem dJ6_getChars_ba4f3_54 : decode cJ6_getChars_ba4f3 54 = .ok (.baload, 1) := by decide +kernel
theorem dJ6_getChars_ba4f3_55 : decode cJ6_getChars_ba4f3 55 = .ok (.bastore, 1) := by decide +kernel
theorem dJ6_getChars_ba4f3_56 : decode cJ6_getChars_ba4f3 56 = .ok (.aload_n 2, 1) := by decide +kernel
theorem dJ6_getChars_ba4f3_57 : decode cJ6_getChars_ba4f3 57 = .ok (.iinc 5 (-1), 3) := by decide +kernel
theorem dJ6_getChars_ba4f3_60 : decode cJ6_getChars_ba4f3 60 = .ok (.iload 5, 2) := by decide +kernel
theorem dJ6_getChars_ba4f3_62 : decode cJ6_getChars_ba4f3 62 = .ok (.getstatic 87, 3) := by decide +kernel
theorem dJ6_getChars_ba4f3_65 : decode cJ6_getChars_ba4f3 65 = .ok (.iload 4, 2) := by decide +kernel
theorem dJ6_getChars_ba4f3_67 : decode cJ6_getChars_ba4f3 67 = .ok (.baload, 1) := by decide +kernel
theorem dJ6_getChars_ba4f3_68 : decode cJ6_getChars_ba4f3 68 = .ok (.bastore, 1) := by decide +kernel
theorem dJ6_getChars_ba4f3_69 : decode cJ6_getChars_ba4f3 69 = .ok (.goto (-47), 3) := by decide +kernel
theorem dJ6_getChars_ba4f3_72 : decode cJ6_getChars_ba4f3 72 = .ok (.aload_n 2, 1) := by decide +kernel
theorem dJ6_getChars_ba4f3_73 : decode cJ6_getChars_ba4f3 73 = .ok (.iinc 5 (-1), 3) := by decide +kernel
theorem dJ6_getChars_ba4f3_76 : decode cJ6_getChars_ba4f3 76 = .ok (.iload 5, 2) := by decide +kernel
theorem dJ6_getChars_ba4f3_78 : decode cJ6_getChars_ba4f3 78 = .ok (.getstatic 83, 3) := by decide +kernel
theorem dJ6_getChars_ba4f3_81 : decode cJ6_getChars_ba4f3 81 = .ok (.iload_n 0, 1) := by decide +kernel
theorem dJ6_getChars_ba4f3_82 : decode cJ6_getChars_ba4f3 82 = .ok (.ineg, 1) := by decide +kernel
theorem dJ6_getChars_ba4f3_83 : decode cJ6_getChars_ba4f3 83 = .ok (.baload, 1) := by decide +kernel
theorem dJ6_getChars_ba4f3_84 : decode cJ6_getChars_ba4f3 84 = .ok (.bastore, 1) := by decide +kernel
theorem dJ6_getChars_ba4f3_85 : decode cJ6_getChars_ba4f3 85 = .ok (.iload_n 0, 1) := by decide +kernel
theorem dJ6_getChars_ba4f3_86 : decode cJ6_getChars_ba4f3 86 = .ok (.bipush (-9), 2) := by decide +kernel
theorem dJ6_getChars_ba4f3_88 : decode cJ6_getChars_ba4f3 88 = .ok (.if_icmp .ge 16, 3) := by decide +kernel
theorem dJ6_getChars_ba4f3_91 : decode cJ6_getChars_ba4f3 91 = .ok (.aload_n 2, 1) := by decide +kernel
theorem dJ6_getChars_ba4f3_92 : decode cJ6_getChars_ba4f3 92 = .ok (.iinc 5 (-1), 3) := by decide +kernel
theorem dJ6_getChars_ba4f3_95 : decode cJ6_getChars_ba4f3 95 = .ok (.iload 5, 2) := by decide +kernel
theorem dJ6_getChars_ba4f3_97 : decode cJ6_getChars_ba4f3 97 = .ok (.getstatic 87, 3) := by decide +kernel
theorem dJ6_getChars_ba4f3_100 : decode cJ6_getChars_ba4f3 100 = .ok (.iload_n 0, 1) := by decide +kernel
theorem dJ6_getChars_ba4f3_101 : decode cJ6_getChars_ba4f3 101 = .ok (.ineg, 1) := by decide +kernel
theorem dJ6_getChars_ba4f3_102 : decode cJ6_getChars_ba4f3 102 = .ok (.baload, 1) := by decide +kernel
theorem dJ6_getChars_ba4f3_103 : decode cJ6_getChars_ba4f3 103 = .ok (.bastore, 1) := by decide +kernel
theorem dJ6_getChars_ba4f3_104 : decode cJ6_getChars_ba4f3 104 = .ok (.iload 6, 2) := by decide +kernel
theorem dJ6_getChars_ba4f3_106 : decode cJ6_getChars_ba4f3 106 = .ok (.ifCond .eq 12, 3) := by decide +kernel
theorem dJ6_getChars_ba4f3_109 : decode cJ6_getChars_ba4f3 109 = .ok (.aload_n 2, 1) := by decide +kernel
theorem dJ6_getChars_ba4f3_110 : decode cJ6_getChars_ba4f3 110 = .ok (.iinc 5 (-1), 3) := by decide +kernel
theorem dJ6_getChars_ba4f3_113 : decode cJ6_getChars_ba4f3 113 = .ok (.iload 5, 2) := by decide +kernel
theorem dJ6_getChars_ba4f3_115 : decode cJ6_getChars_ba4f3 115 = .ok (.bipush 45, 2) := by decide +kernel
theorem dJ6_getChars_ba4f3_117 : decode cJ6_getChars_ba4f3 117 = .ok (.bastore, 1) := by decide +kernel
theorem dJ6_getChars_ba4f3_118 : decode cJ6_getChars_ba4f3 118 = .ok (.iload 5, 2) := by decide +kernel
theorem dJ6_getChars_ba4f3_120 : decode cJ6_getChars_ba4f3 120 = .ok (.ireturn, 1) := by decide +kernel
theorem dJ6_stringSize_0f7a4_0 : decode cJ6_stringSize_0f7a4 0 = .ok (.iconst 1, 1) := by decide +kernel
theorem dJ6_stringSize_0f7a4_1 : decode cJ6_stringSize_0f7a4 1 = .ok (.istore_n 1, 1) := by decide +kernel
theorem dJ6_stringSize_0f7a4_2 : decode cJ6_stringSize_0f7a4 2 = .ok (.iload_n 0, 1) := by decide +kernel
theorem dJ6_stringSize_0f7a4_3 : decode cJ6_stringSize_0f7a4 3 = .ok (.ifCond .lt 8, 3) := by decide +kernel
theorem dJ6_stringSize_0f7a4_6 : decode cJ6_stringSize_0f7a4 6 = .ok (.iconst 0, 1) := by decide +kernel
theorem dJ6_stringSize_0f7a4_7 : decode cJ6_stringSize_0f7a4 7 = .ok (.istore_n 1, 1) := by decide +kernel
theorem dJ6_stringSize_0f7a4_8 : decode cJ6_stringSize_0f7a4 8 = .ok (.iload_n 0, 1) := by decide +kernel
theorem dJ6_stringSize_0f7a4_9 : decode cJ6_stringSize_0f7a4 9 = .ok (.ineg, 1) := by decide +kernel
theorem dJ6_stringSize_0f7a4_10 : decode cJ6_stringSize_0f7a4 10 = .ok (.istore_n 0, 1) := by decide +kernel
theorem dJ6_stringSize_0f7a4_11 : decode cJ6_stringSize_0f7a4 11 = .ok (.bipush (-10), 2) := by decide +kernel
theorem dJ6_stringSize_0f7a4_13 : decode cJ6_stringSize_0f7a4 13 = .ok (.istore_n 2, 1) := by decide +kernel
theorem dJ6_stringSize_0f7a4_14 : decode cJ6_stringSize_0f7a4 14 = .ok (.iconst 1, 1) := by decide +kernel
theorem dJ6_stringSize_0f7a4_15 : decode cJ6_stringSize_0f7a4 15 = .ok (.istore_n 3, 1) := by decide +kernel
theorem dJ6_stringSize_0f7a4_16 : decode cJ6_stringSize_0f7a4 16 = .ok (.iload_n 3, 1) := by decide +kernel
theorem dJ6_stringSize_0f7a4_17 : decode cJ6_stringSize_0f7a4 17 = .ok (.bipush 10, 2) := by decide +kernel
theorem dJ6_stringSize_0f7a4_19 : decode cJ6_stringSize_0f7a4 19 = .ok (.if_icmp .ge 23, 3) := by decide +kernel
theorem dJ6_stringSize_0f7a4_22 : decode cJ6_stringSize_0f7a4 22 = .ok (.iload_n 0, 1) := by decide +kernel
theorem dJ6_stringSize_0f7a4_23 : decode cJ6_stringSize_0f7a4 23 = .ok (.iload_n 2, 1) := by decide +kernel
theorem dJ6_stringSize_0f7a4_24 : decode cJ6_stringSize_0f7a4 24 = .ok (.if_icmp .le 7, 3) := by decide +kernel
theorem dJ6_stringSize_0f7a4_27 : decode cJ6_stringSize_0f7a4 27 = .ok (.iload_n 3, 1) := by decide +kernel
theorem dJ6_stringSize_0f7a4_28 : decode cJ6_stringSize_0f7a4 28 = .ok (.iload_n 1, 1) := by decide +kernel
theorem dJ6_stringSize_0f7a4_29 : decode cJ6_stringSize_0f7a4 29 = .ok (.iadd, 1) := by decide +kernel
theorem dJ6_stringSize_0f7a4_30 : decode cJ6_stringSize_0f7a4 30 = .ok (.ireturn, 1) := by decide +kernel
theorem dJ6_stringSize_0f7a4_31 : decode cJ6_stringSize_0f7a4 31 = .ok (.bipush 10, 2) := by decide +kernel
theorem dJ6_stringSize_0f7a4_33 : decode cJ6_stringSize_0f7a4 33 = .ok (.iload_n 2, 1) := by decide +kernel
theorem dJ6_stringSize_0f7a4_34 : decode cJ6_stringSize_0f7a4 34 = .ok (.imul, 1) := by decide +kernel
theorem dJ6_stringSize_0f7a4_35 : decode cJ6_stringSize_0f7a4 35 = .ok (.istore_n 2, 1) := by decide +kernel
theorem dJ6_stringSize_0f7a4_36 : decode cJ6_stringSize_0f7a4 36 = .ok (.iinc 3 1, 3) := by decide +kernel
theorem dJ6_stringSize_0f7a4_39 : decode cJ6_stringSize_0f7a4 39 = .ok (.goto (-23), 3) := by decide +kernel
theorem dJ6_stringSize_0f7a4_42 : decode cJ6_stringSize_0f7a4 42 = .ok (.bipush 10, 2) := by decide +kernel
theorem dJ6_stringSize_0f7a4_44 : decode cJ6_stringSize_0f7a4 44 = .ok (.iload_n 1, 1) := by decide +kernel
theorem dJ6_stringSize_0f7a4_45 : decode cJ6_stringSize_0f7a4 45 = .ok (.iadd, 1) := by decide +kernel
theorem dJ6_stringSize_0f7a4_46 : decode cJ6_stringSize_0f7a4 46 = .ok (.ireturn, 1) := by decide +kernel
theorem dJ9_floorMod_7cf53_0 : decode cJ9_floorMod_7cf53 0 = .ok (.iload_n 0, 1) := by decide +kernel
theorem dJ9_floorMod_7cf53_1 : decode cJ9_floorMod_7cf53 1 = .ok (.iload_n 1, 1) := by decide +kernel
theorem dJ9_floorMod_7cf53_2 : decode cJ9_floorMod_7cf53 2 = .ok (.irem, 1) := by decide +kernel
theorem dJ9_floorMod_7cf53_3 : decode cJ9_floorMod_7cf53 3 = .ok (.istore_n 2, 1) := by decide +kernel
theorem dJ9_floorMod_7cf53_4 : decode cJ9_floorMod_7cf53 4 = .ok (.iload_n 0, 1) := by decide +kernel
theorem dJ9_floorMod_7cf53_5 : decode cJ9_floorMod_7cf53 5 = .ok (.iload_n 1, 1) := by decide +kernel
theorem dJ9_floorMod_7cf53_6 : decode cJ9_floorMod_7cf53 6 = .ok (.ixor, 1) := by decide +kernel
theorem dJ9_floorMod_7cf53_7 : decode cJ9_floorMod_7cf53 7 = .ok (.ifCond .ge 11, 3) := by decide +kernel
theorem dJ9_floorMod_7cf53_10 : decode cJ9_floorMod_7cf53 10 = .ok (.iload_n 2, 1) := by decide +kernel
theorem dJ9_floorMod_7cf53_11 : decode cJ9_floorMod_7cf53 11 = .ok (.ifCond .eq 7, 3) := by decide +kernel
theorem dJ9_floorMod_7cf53_14 : decode cJ9_floorMod_7cf53 14 = .ok (.iload_n 2, 1) := by decide +kernel
theorem dJ9_floorMod_7cf53_15 : decode cJ9_floorMod_7cf53 15 = .ok (.iload_n 1, 1) := by decide +kernel
theorem dJ9_floorMod_7cf53_16 : decode cJ9_floorMod_7cf53 16 = .ok (.iadd, 1) := by decide +kernel
theorem dJ9_floorMod_7cf53_17 : decode cJ9_floorMod_7cf53 17 = .ok (.ireturn, 1) := by decide +kernel
theorem dJ9_floorMod_7cf53_18 : decode cJ9_floorMod_7cf53 18 = .ok (.iload_n 2, 1) := by decide +kernel
theorem dJ9_floorMod_7cf53_19 : decode cJ9_floorMod_7cf53 19 = .ok (.ireturn, 1) := by decide +kernel
theorem dJ9_max_7cf53_0 : decode cJ9_max_7cf53 0 = .ok (.iload_n 0, 1) := by decide +kernel
theorem dJ9_max_7cf53_1 : decode cJ9_max_7cf53 1 = .ok (.iload_n 1, 1) := by decide +kernel
theorem dJ9_max_7cf53_2 : decode cJ9_max_7cf53 2 = .ok (.if_icmp .lt 7, 3) := by decide +kernel
theorem dJ9_max_7cf53_5 : decode cJ9_max_7cf53 5 = .ok (.iload_n 0, 1) := by decide +kernel
theorem dJ9_max_7cf53_6 : decode cJ9_max_7cf53 6 = .ok (.goto 4, 3) := by decide +kernel
theorem dJ9_max_7cf53_9 : decode cJ9_max_7cf53 9 = .ok (.iload_n 1, 1) := by decide +kernel
theorem dJ9_max_7cf53_10 : decode cJ9_max_7cf53 10 = .ok (.ireturn, 1) := by decide +kernel
theorem dJ9_min_7cf53_0 : decode cJ9_min_7cf53 0 = .ok (.iload_n 0, 1) := by decide +kernel
theorem dJ9_min_7cf53_1 : decode cJ9_min_7cf53 1 = .ok (.iload_n 1, 1) := by decide +kernel
theorem dJ9_min_7cf53_2 : decode cJ9_min_7cf53 2 = .ok (.if_icmp .gt 7, 3) := by decide +kernel
theorem dJ9_min_7cf53_5 : decode cJ9_min_7cf53 5 = .ok (.iload_n 0, 1) := by decide +kernel
theorem dJ9_min_7cf53_6 : decode cJ9_min_7cf53 6 = .ok (.goto 4, 3) := by decide +kernel
theorem dJ9_min_7cf53_9 : decode cJ9_min_7cf53 9 = .ok (.iload_n 1, 1) := by decide +kernel
theorem dJ9_min_7cf53_10 : decode cJ9_min_7cf53 10 = .ok (.ireturn, 1) := by decide +kernel
theorem dJ0_init_81219_0 : decode cJ0_init_81219 0 = .ok (.aload_n 0, 1) := by decide +kernel
theorem dJ0_init_81219_1 : decode cJ0_init_81219 1 = .ok (.aload_n 1, 1) := by decide +kernel
theorem dJ0_init_81219_2 : decode cJ0_init_81219 2 = .ok (.aconst_null, 1) := by decide +kernel
theorem dJ0_init_81219_3 : decode cJ0_init_81219 3 = .ok (.invokespecial 489, 3) := by decide +kernel
theorem dJ0_init_81219_6 : decode cJ0_init_81219 6 = .ok (.return_, 1) := by decide +kernel
theorem dJ0_length_8abf5_0 : decode cJ0_length_8abf5 0 = .ok (.aload_n 0, 1) := by decide +kernel
theorem dJ0_length_8abf5_1 : decode cJ0_length_8abf5 1 = .ok (.getfield 9, 3) := by decide +kernel
theorem dJ0_length_8abf5_4 : decode cJ0_length_8abf5 4 = .ok (.arraylength, 1) := by decide +kernel
theorem dJ0_length_8abf5_5 : decode cJ0_length_8abf5 5 = .ok (.aload_n 0, 1) := by decide +kernel
theorem dJ0_length_8abf5_6 : decode cJ0_length_8abf5 6 = .ok (.invokevirtual 335, 3) := by decide +kernel
theorem dJ0_length_8abf5_9 : decode cJ0_length_8abf5 9 = .ok (.ishr, 1) := by decide +kernel
theorem dJ0_length_8abf5_10 : decode cJ0_length_8abf5 10 = .ok (.ireturn, 1) := by decide +kernel
theorem dJ0_isEmpty_aae02_0 : decode cJ0_isEmpty_aae02 0 = .ok (.aload_n 0, 1) := by decide +kernel
theorem dJ0_isEmpty_aae02_1 : decode cJ0_isEmpty_aae02 1 = .ok (.getfield 9, 3) := by decide +kernel
theorem dJ0_isEmpty_aae02_4 : decode cJ0_isEmpty_aae02 4 = .ok (.arraylength, 1) := by decide +kernel
theorem dJ0_isEmpty_aae02_5 : decode cJ0_isEmpty_aae02 5 = .ok (.ifCond .ne 7, 3) := by decide +kernel
theorem dJ0_isEmpty_aae02_8 : decode cJ0_isEmpty_aae02 8 = .ok (.iconst 1, 1) := by decide +kernel
theorem dJ0_isEmpty_aae02_9 : decode cJ0_isEmpty_aae02 9 = .ok (.goto 4, 3) := by decide +kernel
theorem dJ0_isEmpty_aae02_12 : decode cJ0_isEmpty_aae02 12 = .ok (.iconst 0, 1) := by decide +kernel
theorem dJ0_isEmpty_aae02_13 : decode cJ0_isEmpty_aae02 13 = .ok (.ireturn, 1) := by decide +kernel
theorem dJ0_charAt_5068e_0 : decode cJ0_charAt_5068e 0 = .ok (.aload_n 0, 1) := by decide +kernel
theorem dJ0_charAt_5068e_1 : decode cJ0_charAt_5068e 1 = .ok (.invokevirtual 492, 3) := by decide +kernel
theorem dJ0_charAt_5068e_4 : decode cJ0_charAt_5068e 4 = .ok (.ifCond .eq 12, 3) := by decide +kernel
theorem dJ0_charAt_5068e_7 : decode cJ0_charAt_5068e 7 = .ok (.aload_n 0, 1) := by decide +kernel
theorem dJ0_charAt_5068e_8 : decode cJ0_charAt_5068e 8 = .ok (.getfield 9, 3) := by decide +kernel
theorem dJ0_charAt_5068e_11 : decode cJ0_charAt_5068e 11 = .ok (.iload_n 1, 1) := by decide +kernel
theorem dJ0_charAt_5068e_12 : decode cJ0_charAt_5068e 12 = .ok (.invokestatic 495, 3) := by decide +kernel
theorem dJ0_charAt_5068e_15 : decode cJ0_charAt_5068e 15 = .ok (.ireturn, 1) := by decide +kernel
theorem dJ0_charAt_5068e_16 : decode cJ0_charAt_5068e 16 = .ok (.aload_n 0, 1) := by decide +kernel
theorem dJ0_charAt_5068e_17 : decode cJ0_charAt_5068e 17 = .ok (.getfield 9, 3) := by decide +kernel
theorem dJ0_charAt_5068e_20 : decode cJ0_charAt_5068e 20 = .ok (.iload_n 1, 1) := by decide +kernel
theorem dJ0_charAt_5068e_21 : decode cJ0_charAt_5068e 21 = .ok (.invokestatic 498, 3) := by decide +kernel
theorem dJ0_charAt_5068e_24 : decode cJ0_charAt_5068e 24 = .ok (.ireturn, 1) := by decide +kernel
theorem dJ0_indexOf_0f7a4_0 : decode cJ0_indexOf_0f7a4 0 = .ok (.aload_n 0, 1) := by decide +kernel
theorem dJ0_indexOf_0f7a4_1 : decode cJ0_indexOf_0f7a4 1 = .ok (.iload_n 1, 1) := by decide +kernel
theorem dJ0_indexOf_0f7a4_2 : decode cJ0_indexOf_0f7a4 2 = .ok (.iconst 0, 1) := by decide +kernel
theorem dJ0_indexOf_0f7a4_3 : decode cJ0_indexOf_0f7a4 3 = .ok (.invokevirtual 633, 3) := by decide +kernel
theorem dJ0_indexOf_0f7a4_6 : decode cJ0_indexOf_0f7a4 6 = .ok (.ireturn, 1) := by decide +kernel
theorem dJ0_indexOf_7cf53_0 : decode cJ0_indexOf_7cf53 0 = .ok (.aload_n 0, 1) := by decide +kernel
theorem dJ0_indexOf_7cf53_1 : decode cJ0_indexOf_7cf53 1 = .ok (.invokevirtual 492, 3) := by decide +kernel
theorem dJ0_indexOf_7cf53_4 : decode cJ0_indexOf_7cf53 4 = .ok (.ifCond .eq 19, 3) := by decide +kernel
theorem dJ0_indexOf_7cf53_7 : decode cJ0_indexOf_7cf53 7 = .ok (.aload_n 0, 1) := by decide +kernel
theorem dJ0_indexOf_7cf53_8 : decode cJ0_indexOf_7cf53 8 = .ok (.getfield 9, 3) := by decide +kernel
theorem dJ0_indexOf_7cf53_11 : decode cJ0_indexOf_7cf53 11 = .ok (.iload_n 1, 1) := by decide +kernel
theorem dJ0_indexOf_7cf53_12 : decode cJ0_indexOf_7cf53 12 = .ok (.iload_n 2, 1) := by decide +kernel
theorem dJ0_indexOf_7cf53_13 : decode cJ0_indexOf_7cf53 13 = .ok (.aload_n 0, 1) := by decide +kernel
theorem dJ0_indexOf_7cf53_14 : decode cJ0_indexOf_7cf53 14 = .ok (.invokevirtual 505, 3) := by decide +kernel
theorem dJ0_indexOf_7cf53_17 : decode cJ0_indexOf_7cf53 17 = .ok (.invokestatic 637, 3) := by decide +kernel
theorem dJ0_indexOf_7cf53_20 : decode cJ0_indexOf_7cf53 20 = .ok (.goto 16, 3) := by decide +kernel
theorem dJ0_indexOf_7cf53_23 : decode cJ0_indexOf_7cf53 23 = .ok (.aload_n 0, 1) := by decide +kernel
theorem dJ0_indexOf_7cf53_24 : decode cJ0_indexOf_7cf53 24 = .ok (.getfield 9, 3) := by decide +kernel
theorem dJ0_indexOf_7cf53_27 : decode cJ0_indexOf_7cf53 27 = .ok (.iload_n 1, 1) := by decide +kernel
theorem dJ0_indexOf_7cf53_28 : decode cJ0_indexOf_7cf53 28 = .ok (.iload_n 2, 1) := by decide +kernel
theorem dJ0_indexOf_7cf53_29 : decode cJ0_indexOf_7cf53 29 = .ok (.aload_n 0, 1) := by decide +kernel
theorem dJ0_indexOf_7cf53_30 : decode cJ0_indexOf_7cf53 30 = .ok (.invokevirtual 505, 3) := by decide +kernel
theorem dJ0_indexOf_7cf53_33 : decode cJ0_indexOf_7cf53 33 = .ok (.invokestatic 640, 3) := by decide +kernel
theorem dJ0_indexOf_7cf53_36 : decode cJ0_indexOf_7cf53 36 = .ok (.ireturn, 1) := by decide +kernel
theorem dJ0_getBytes_840e7_0 : decode cJ0_getBytes_840e7 0 = .ok (.aload_n 0, 1) := by decide +kernel
theorem dJ0_getBytes_840e7_1 : decode cJ0_getBytes_840e7 1 = .ok (.invokevirtual 335, 3) := by decide +kernel
theorem dJ0_getBytes_840e7_4 : decode cJ0_getBytes_840e7 4 = .ok (.iload_n 3, 1) := by decide +kernel
theorem dJ0_getBytes_840e7_5 : decode cJ0_getBytes_840e7 5 = .ok (.if_icmp .ne 23, 3) := by decide +kernel
theorem dJ0_getBytes_840e7_8 : decode cJ0_getBytes_840e7 8 = .ok (.aload_n 0, 1) := by decide +kernel
theorem dJ0_getBytes_840e7_9 : decode cJ0_getBytes_840e7 9 = .ok (.getfield 9, 3) := by decide +kernel
theorem dJ0_getBytes_840e7_12 : decode cJ0_getBytes_840e7 12 = .ok (.iconst 0, 1) := by decide +kernel
theorem dJ0_getBytes_840e7_13 : decode cJ0_getBytes_840e7 13 = .ok (.aload_n 1, 1) := by decide +kernel
theorem dJ0_getBytes_840e7_14 : decode cJ0_getBytes_840e7 14 = .ok (.iload_n 2, 1) := by decide +kernel
theorem dJ0_getBytes_840e7_15 : decode cJ0_getBytes_840e7 15 = .ok (.iload_n 3, 1) := by decide +kernel
theorem dJ0_getBytes_840e7_16 : decode cJ0_getBytes_840e7 16 = .ok (.ishl, 1) := by decide +kernel
theorem dJ0_getBytes_840e7_17 : decode cJ0_getBytes_840e7 17 = .ok (.aload_n 0, 1) := by decide +kernel
theorem dJ0_getBytes_840e7_18 : decode cJ0_getBytes_840e7 18 = .ok (.getfield 9, 3) := by decide +kernel
theorem dJ0_getBytes_840e7_21 : decode cJ0_getBytes_840e7 21 = .ok (.arraylength, 1) := by decide +kernel
theorem dJ0_getBytes_840e7_22 : decode cJ0_getBytes_840e7 22 = .ok (.invokestatic 212, 3) := by decide +kernel
theorem dJ0_getBytes_840e7_25 : decode cJ0_getBytes_840e7 25 = .ok (.goto 18, 3) := by decide +kernel
theorem dJ0_getBytes_840e7_28 : decode cJ0_getBytes_840e7 28 = .ok (.aload_n 0, 1) := by decide +kernel
theorem dJ0_getBytes_840e7_29 : decode cJ0_getBytes_840e7 29 = .ok (.getfield 9, 3) := by decide +kernel
theorem dJ0_getBytes_840e7_32 : decode cJ0_getBytes_840e7 32 = .ok (.iconst 0, 1) := by decide +kernel
theorem dJ0_getBytes_840e7_33 : decode cJ0_getBytes_840e7 33 = .ok (.aload_n 1, 1) := by decide +kernel
theorem dJ0_getBytes_840e7_34 : decode cJ0_getBytes_840e7 34 = .ok (.iload_n 2, 1) := by decide +kernel
theorem dJ0_getBytes_840e7_35 : decode cJ0_getBytes_840e7 35 = .ok (.aload_n 0, 1) := by decide +kernel
theorem dJ0_getBytes_840e7_36 : decode cJ0_getBytes_840e7 36 = .ok (.getfield 9, 3) := by decide +kernel
theorem dJ0_getBytes_840e7_39 : decode cJ0_getBytes_840e7 39 = .ok (.arraylength, 1) := by decide +kernel
theorem dJ0_getBytes_840e7_40 : decode cJ0_getBytes_840e7 40 = .ok (.invokestatic 106, 3) := by decide +kernel
theorem dJ0_getBytes_840e7_43 : decode cJ0_getBytes_840e7 43 = .ok (.return_, 1) := by decide +kernel
theorem dJ0_init_db425_0 : decode cJ0_init_db425 0 = .ok (.aload_n 0, 1) := by decide +kernel
theorem dJ0_init_db425_1 : decode cJ0_init_db425 1 = .ok (.invokespecial 1, 3) := by decide +kernel
theorem dJ0_init_db425_4 : decode cJ0_init_db425 4 = .ok (.aload_n 1, 1) := by decide +kernel
theorem dJ0_init_db425_5 : decode cJ0_init_db425 5 = .ok (.invokevirtual 552, 3) := by decide +kernel
theorem dJ0_init_db425_8 : decode cJ0_init_db425 8 = .ok (.astore_n 3, 1) := by decide +kernel
theorem dJ0_init_db425_9 : decode cJ0_init_db425 9 = .ok (.aload_n 1, 1) := by decide +kernel
theorem dJ0_init_db425_10 : decode cJ0_init_db425 10 = .ok (.invokevirtual 549, 3) := by decide +kernel
theorem dJ0_init_db425_13 : decode cJ0_init_db425 13 = .ok (.istore 4, 2) := by decide +kernel
theorem dJ0_init_db425_15 : decode cJ0_init_db425 15 = .ok (.aload_n 1, 1) := by decide +kernel
theorem dJ0_init_db425_16 : decode cJ0_init_db425 16 = .ok (.invokevirtual 1047, 3) := by decide +kernel
theorem dJ0_init_db425_19 : decode cJ0_init_db425 19 = .ok (.ifCond .eq 22, 3) := by decide +kernel
theorem dJ0_init_db425_22 : decode cJ0_init_db425 22 = .ok (.aload_n 0, 1) := by decide +kernel
theorem dJ0_init_db425_23 : decode cJ0_init_db425 23 = .ok (.iconst 0, 1) := by decide +kernel
theorem dJ0_init_db425_24 : decode cJ0_init_db425 24 = .ok (.putfield 15, 3) := by decide +kernel
theorem dJ0_init_db425_27 : decode cJ0_init_db425 27 = .ok (.aload_n 0, 1) := by decide +kernel
theorem dJ0_init_db425_28 : decode cJ0_init_db425 28 = .ok (.aload_n 3, 1) := by decide +kernel
theorem dJ0_init_db425_29 : decode cJ0_init_db425 29 = .ok (.iconst 0, 1) := by decide +kernel
theorem dJ0_init_db425_30 : decode cJ0_init_db425 30 = .ok (.iload 4, 2) := by decide +kernel
theorem dJ0_init_db425_32 : decode cJ0_init_db425 32 = .ok (.invokestatic 54, 3) := by decide +kernel
theorem dJ0_init_db425_35 : decode cJ0_init_db425 35 = .ok (.putfield 9, 3) := by decide +kernel
theorem dJ0_init_db425_38 : decode cJ0_init_db425 38 = .ok (.goto 59, 3) := by decide +kernel
theorem dJ0_init_db425_41 : decode cJ0_init_db425 41 = .ok (.getstatic 38, 3) := by decide +kernel
theorem dJ0_init_db425_44 : decode cJ0_init_db425 44 = .ok (.ifCond .eq 35, 3) := by decide +kernel
theorem dJ0_init_db425_47 : decode cJ0_init_db425 47 = .ok (.aload_n 1, 1) := by decide +kernel
theorem dJ0_init_db425_48 : decode cJ0_init_db425 48 = .ok (.getfield 1048, 3) := by decide +kernel
theorem dJ0_init_db425_51 : decode cJ0_init_db425 51 = .ok (.ifCond .eq 28, 3) := by decide +kernel
theorem dJ0_init_db425_54 : decode cJ0_init_db425 54 = .ok (.aload_n 0, 1) := by decide +kernel
theorem dJ0_init_db425_55 : decode cJ0_init_db425 55 = .ok (.aload_n 3, 1) := by decide +kernel
theorem dJ0_init_db425_56 : decode cJ0_init_db425 56 = .ok (.iconst 0, 1) := by decide +kernel
theorem dJ0_init_db425_57 : decode cJ0_init_db425 57 = .ok (.iload 4, 2) := by decide +kernel
theorem dJ0_init_db425_59 : decode cJ0_init_db425 59 = .ok (.invokestatic 1051, 3) := by decide +kernel
theorem dJ0_init_db425_62 : decode cJ0_init_db425 62 = .ok (.putfield 9, 3) := by decide +kernel
theorem dJ0_init_db425_65 : decode cJ0_init_db425 65 = .ok (.aload_n 0, 1) := by decide +kernel
theorem dJ0_init_db425_66 : decode cJ0_init_db425 66 = .ok (.aload_n 0, 1) := by decide +kernel
theorem dJ0_init_db425_67 : decode cJ0_init_db425 67 = .ok (.getfield 9, 3) := by decide +kernel
theorem dJ0_init_db425_70 : decode cJ0_init_db425 70 = .ok (.iload 4, 2) := by decide +kernel
theorem dJ0_init_db425_72 : decode cJ0_init_db425 72 = .ok (.invokestatic 47, 3) := by decide +kernel
theorem dJ0_init_db425_75 : decode cJ0_init_db425 75 = .ok (.putfield 15, 3) := by decide +kernel
theorem dJ0_init_db425_78 : decode cJ0_init_db425 78 = .ok (.return_, 1) := by decide +kernel
theorem dJ0_init_db425_79 : decode cJ0_init_db425 79 = .ok (.aload_n 0, 1) := by decide +kernel
theorem dJ0_init_db425_80 : decode cJ0_init_db425 80 = .ok (.iconst 1, 1) := by decide +kernel
theorem dJ0_init_db425_81 : decode cJ0_init_db425 81 = .ok (.putfield 15, 3) := by decide +kernel
theorem dJ0_init_db425_84 : decode cJ0_init_db425 84 = .ok (.aload_n 0, 1) := by decide +kernel
theorem dJ0_init_db425_85 : decode cJ0_init_db425 85 = .ok (.aload_n 3, 1) := by decide +kernel
theorem dJ0_init_db425_86 : decode cJ0_init_db425 86 = .ok (.iconst 0, 1) := by decide +kernel
theorem dJ0_init_db425_87 : decode cJ0_init_db425 87 = .ok (.iload 4, 2) := by decide +kernel
theorem dJ0_init_db425_89 : decode cJ0_init_db425 89 = .ok (.iconst 1, 1) := by decide +kernel
theorem dJ0_init_db425_90 : decode cJ0_init_db425 90 = .ok (.ishl, 1) := by decide +kernel
theorem dJ0_init_db425_91 : decode cJ0_init_db425 91 = .ok (.invokestatic 54, 3) := by decide +kernel
theorem dJ0_init_db425_94 : decode cJ0_init_db425 94 = .ok (.putfield 9, 3) := by decide +kernel
theorem dJ0_init_db425_97 : decode cJ0_init_db425 97 = .ok (.return_, 1) := by decide +kernel
theorem dJ0_coder_7d493_0 : decode cJ0_coder_7d493 0 = .ok (.getstatic 38, 3) := by decide +kernel
theorem dJ0_coder_7d493_3 : decode cJ0_coder_7d493 3 = .ok (.ifCond .eq 10, 3) := by decide +kernel
theorem dJ0_coder_7d493_6 : decode cJ0_coder_7d493 6 = .ok (.aload_n 0, 1) := by decide +kernel
theorem dJ0_coder_7d493_7 : decode cJ0_coder_7d493 7 = .ok (.getfield 15, 3) := by decide +kernel
theorem dJ0_coder_7d493_10 : decode cJ0_coder_7d493 10 = .ok (.goto 4, 3) := by decide +kernel
theorem dJ0_coder_7d493_13 : decode cJ0_coder_7d493 13 = .ok (.iconst 1, 1) := by decide +kernel
theorem dJ0_coder_7d493_14 : decode cJ0_coder_7d493 14 = .ok (.ireturn, 1) := by decide +kernel
theorem dJ0_isLatin1_aae02_0 : decode cJ0_isLatin1_aae02 0 = .ok (.getstatic 38, 3) := by decide +kernel
theorem dJ0_isLatin1_aae02_3 : decode cJ0_isLatin1_aae02 3 = .ok (.ifCond .eq 14, 3) := by decide +kernel
theorem dJ0_isLatin1_aae02_6 : decode cJ0_isLatin1_aae02 6 = .ok (.aload_n 0, 1) := by decide +kernel
theorem dJ0_isLatin1_aae02_7 : decode cJ0_isLatin1_aae02 7 = .ok (.getfield 15, 3) := by decide +kernel
theorem dJ0_isLatin1_aae02_10 : decode cJ0_isLatin1_aae02 10 = .ok (.ifCond .ne 7, 3) := by decide +kernel
theorem dJ0_isLatin1_aae02_13 : decode cJ0_isLatin1_aae02 13 = .ok (.iconst 1, 1) := by decide +kernel
theorem dJ0_isLatin1_aae02_14 : decode cJ0_isLatin1_aae02 14 = .ok (.goto 4, 3) := by decide +kernel
theorem dJ0_isLatin1_aae02_17 : decode cJ0_isLatin1_aae02 17 = .ok (.iconst 0, 1) := by decide +kernel
theorem dJ0_isLatin1_aae02_18 : decode cJ0_isLatin1_aae02 18 = .ok (.ireturn, 1) := by decide +kernel
theorem dJ0_checkIndex_df160_0 : decode cJ0_checkIndex_df160 0 = .ok (.iload_n 0, 1) := by decide +kernel
theorem dJ0_checkIndex_df160_1 : decode cJ0_checkIndex_df160 1 = .ok (.iload_n 1, 1) := by decide +kernel
theorem dJ0_checkIndex_df160_2 : decode cJ0_checkIndex_df160 2 = .ok (.getstatic 1053, 3) := by decide +kernel
theorem dJ0_checkIndex_df160_5 : decode cJ0_checkIndex_df160 5 = .ok (.invokestatic 1059, 3) := by decide +kernel
theorem dJ0_checkIndex_df160_8 : decode cJ0_checkIndex_df160 8 = .ok (.pop, 1) := by decide +kernel
theorem dJ0_checkIndex_df160_9 : decode cJ0_checkIndex_df160 9 = .ok (.return_, 1) := by decide +kernel
theorem dJ0_checkBoundsOffCount_cabcc_0 : decode cJ0_checkBoundsOffCount_cabcc 0 = .ok (.iload_n 0, 1) := by decide +kernel
theorem dJ0_checkBoundsOffCount_cabcc_1 : decode cJ0_checkBoundsOffCount_cabcc 1 = .ok (.iload_n 1, 1) := by decide +kernel
theorem dJ0_checkBoundsOffCount_cabcc_2 : decode cJ0_checkBoundsOffCount_cabcc 2 = .ok (.iload_n 2, 1) := by decide +kernel
theorem dJ0_checkBoundsOffCount_cabcc_3 : decode cJ0_checkBoundsOffCount_cabcc 3 = .ok (.getstatic 1053, 3) := by decide +kernel
theorem dJ0_checkBoundsOffCount_cabcc_6 : decode cJ0_checkBoundsOffCount_cabcc 6 = .ok (.invokestatic 1065, 3) := by decide +kernel
theorem dJ0_checkBoundsOffCount_cabcc_9 : decode cJ0_checkBoundsOffCount_cabcc 9 = .ok (.ireturn, 1) := by decide +kernel
theorem dJ0_checkBoundsBeginEnd_23922_0 : decode cJ0_checkBoundsBeginEnd_23922 0 = .ok (.iload_n 0, 1) := by decide +kernel
theorem dJ0_checkBoundsBeginEnd_23922_1 : decode cJ0_checkBoundsBeginEnd_23922 1 = .ok (.iload_n 1, 1) := by decide +kernel
theorem dJ0_checkBoundsBeginEnd_23922_2 : decode cJ0_checkBoundsBeginEnd_23922 2 = .ok (.iload_n 2, 1) := by decide +kernel
theorem dJ0_checkBoundsBeginEnd_23922_3 : decode cJ0_checkBoundsBeginEnd_23922 3 = .ok (.getstatic 1053, 3) := by decide +kernel
theorem dJ0_checkBoundsBeginEnd_23922_6 : decode cJ0_checkBoundsBeginEnd_23922 6 = .ok (.invokestatic 1062, 3) := by decide +kernel
theorem dJ0_checkBoundsBeginEnd_23922_9 : decode cJ0_checkBoundsBeginEnd_23922 9 = .ok (.pop, 1) := by decide +kernel
theorem dJ0_checkBoundsBeginEnd_23922_10 : decode cJ0_checkBoundsBeginEnd_23922 10 = .ok (.return_, 1) := by decide +kernel
theorem dJ4_init_da8c8_0 : decode cJ4_init_da8c8 0 = .ok (.aload_n 0, 1) := by decide +kernel
theorem dJ4_init_da8c8_1 : decode cJ4_init_da8c8 1 = .ok (.bipush 16, 2) := by decide +kernel
theorem dJ4_init_da8c8_3 : decode cJ4_init_da8c8 3 = .ok (.invokespecial 1, 3) := by decide +kernel
theorem dJ4_init_da8c8_6 : decode cJ4_init_da8c8 6 = .ok (.return_, 1) := by decide +kernel
theorem dJ4_append_15ec4_0 : decode cJ4_append_15ec4 0 = .ok (.aload_n 0, 1) := by decide +kernel
theorem dJ4_append_15ec4_1 : decode cJ4_append_15ec4 1 = .ok (.aload_n 1, 1) := by decide +kernel
theorem dJ4_append_15ec4_2 : decode cJ4_append_15ec4 2 = .ok (.invokespecial 29, 3) := by decide +kernel
theorem dJ4_append_15ec4_5 : decode cJ4_append_15ec4 5 = .ok (.pop, 1) := by decide +kernel
theorem dJ4_append_15ec4_6 : decode cJ4_append_15ec4 6 = .ok (.aload_n 0, 1) := by decide +kernel
theorem dJ4_append_15ec4_7 : decode cJ4_append_15ec4 7 = .ok (.areturn, 1) := by decide +kernel
theorem dJ4_append_cf468_0 : decode cJ4_append_cf468 0 = .ok (.aload_n 0, 1) := by decide +kernel
theorem dJ4_append_cf468_1 : decode cJ4_append_cf468 1 = .ok (.iload_n 1, 1) := by decide +kernel
theorem dJ4_append_cf468_2 : decode cJ4_append_cf468 2 = .ok (.invokespecial 50, 3) := by decide +kernel
theorem dJ4_append_cf468_5 : decode cJ4_append_cf468 5 = .ok (.pop, 1) := by decide +kernel
theorem dJ4_append_cf468_6 : decode cJ4_append_cf468 6 = .ok (.aload_n 0, 1) := by decide +kernel
theorem dJ4_append_cf468_7 : decode cJ4_append_cf468 7 = .ok (.areturn, 1) := by decide +kernel
theorem dJ4_append_bf812_0 : decode cJ4_append_bf812 0 = .ok (.aload_n 0, 1) := by decide +kernel
theorem dJ4_append_bf812_1 : decode cJ4_append_bf812 1 = .ok (.iload_n 1, 1) := by decide +kernel
theorem dJ4_append_bf812_2 : decode cJ4_append_bf812 2 = .ok (.invokespecial 53, 3) := by decide +kernel
theorem dJ4_append_bf812_5 : decode cJ4_append_bf812 5 = .ok (.pop, 1) := by decide +kernel
theorem dJ4_append_bf812_6 : decode cJ4_append_bf812 6 = .ok (.aload_n 0, 1) := by decide +kernel
theorem dJ4_append_bf812_7 : decode cJ4_append_bf812 7 = .ok (.areturn, 1) := by decide +kernel
theorem dJ4_toString_0e30d_0 : decode cJ4_toString_0e30d 0 = .ok (.new 18, 3) := by decide +kernel
theorem dJ4_toString_0e30d_3 : decode cJ4_toString_0e30d 3 = .ok (.dup, 1) := by decide +kernel
theorem dJ4_toString_0e30d_4 : decode cJ4_toString_0e30d 4 = .ok (.aload_n 0, 1) := by decide +kernel
theorem dJ4_toString_0e30d_5 : decode cJ4_toString_0e30d 5 = .ok (.invokespecial 137, 3) := by decide +kernel
theorem dJ4_toString_0e30d_8 : decode cJ4_toString_0e30d 8 = .ok (.areturn, 1) := by decide +kernel
theorem dJ4_charAt_5068e_0 : decode cJ4_charAt_5068e 0 = .ok (.aload_n 0, 1) := by decide +kernel
theorem dJ4_charAt_5068e_1 : decode cJ4_charAt_5068e 1 = .ok (.iload_n 1, 1) := by decide +kernel
theorem dJ4_charAt_5068e_2 : decode cJ4_charAt_5068e 2 = .ok (.invokespecial 329, 3) := by decide +kernel
theorem dJ4_charAt_5068e_5 : decode cJ4_charAt_5068e 5 = .ok (.ireturn, 1) := by decide +kernel
theorem dJ4_setLength_d00df_0 : decode cJ4_setLength_d00df 0 = .ok (.aload_n 0, 1) := by decide +kernel
theorem dJ4_setLength_d00df_1 : decode cJ4_setLength_d00df 1 = .ok (.iload_n 1, 1) := by decide +kernel
theorem dJ4_setLength_d00df_2 : decode cJ4_setLength_d00df 2 = .ok (.invokespecial 333, 3) := by decide +kernel
theorem dJ4_setLength_d00df_5 : decode cJ4_setLength_d00df 5 = .ok (.return_, 1) := by decide +kernel
theorem dJ4_length_8abf5_0 : decode cJ4_length_8abf5 0 = .ok (.aload_n 0, 1) := by decide +kernel
theorem dJ4_length_8abf5_1 : decode cJ4_length_8abf5 1 = .ok (.invokespecial 343, 3) := by decide +kernel
theorem dJ4_length_8abf5_4 : decode cJ4_length_8abf5 4 = .ok (.ireturn, 1) := by decide +kernel
theorem dJx7c733_init_d00df_0 : decode cJx7c733_init_d00df 0 = .ok (.aload_n 0, 1) := by decide +kernel
theorem dJx7c733_init_d00df_1 : decode cJx7c733_init_d00df 1 = .ok (.new 10, 3) := by decide +kernel
theorem dJx7c733_init_d00df_4 : decode cJx7c733_init_d00df 4 = .ok (.dup, 1) := by decide +kernel
theorem dJx7c733_init_d00df_5 : decode cJx7c733_init_d00df 5 = .ok (.invokespecial 12, 3) := by decide +kernel
theorem dJx7c733_init_d00df_8 : decode cJx7c733_init_d00df 8 = .ok (.ldc 13, 2) := by decide +kernel
theorem dJx7c733_init_d00df_10 : decode cJx7c733_init_d00df 10 = .ok (.invokevirtual 15, 3) := by decide +kernel
theorem dJx7c733_init_d00df_13 : decode cJx7c733_init_d00df 13 = .ok (.iload_n 1, 1) := by decide +kernel
theorem dJx7c733_init_d00df_14 : decode cJx7c733_init_d00df 14 = .ok (.invokevirtual 19, 3) := by decide +kernel
theorem dJx7c733_init_d00df_17 : decode cJx7c733_init_d00df 17 = .ok (.invokevirtual 22, 3) := by decide +kernel
theorem dJx7c733_init_d00df_20 : decode cJx7c733_init_d00df 20 = .ok (.invokespecial 7, 3) := by decide +kernel
theorem dJx7c733_init_d00df_23 : decode cJx7c733_init_d00df 23 = .ok (.return_, 1) := by decide +kernel
theorem dJ1_charAt_3b067_0 : decode cJ1_charAt_3b067 0 = .ok (.iload_n 1, 1) := by decide +kernel
theorem dJ1_charAt_3b067_1 : decode cJ1_charAt_3b067 1 = .ok (.aload_n 0, 1) := by decide +kernel
theorem dJ1_charAt_3b067_2 : decode cJ1_charAt_3b067 2 = .ok (.arraylength, 1) := by decide +kernel
theorem dJ1_charAt_3b067_3 : decode cJ1_charAt_3b067 3 = .ok (.invokestatic 9, 3) := by decide +kernel
theorem dJ1_charAt_3b067_6 : decode cJ1_charAt_3b067 6 = .ok (.aload_n 0, 1) := by decide +kernel
theorem dJ1_charAt_3b067_7 : decode cJ1_charAt_3b067 7 = .ok (.iload_n 1, 1) := by decide +kernel
theorem dJ1_charAt_3b067_8 : decode cJ1_charAt_3b067 8 = .ok (.baload, 1) := by decide +kernel
theorem dJ1_charAt_3b067_9 : decode cJ1_charAt_3b067 9 = .ok (.sipush 255, 3) := by decide +kernel
theorem dJ1_charAt_3b067_12 : decode cJ1_charAt_3b067 12 = .ok (.iand, 1) := by decide +kernel
theorem dJ1_charAt_3b067_13 : decode cJ1_charAt_3b067 13 = .ok (.i2c, 1) := by decide +kernel
theorem dJ1_charAt_3b067_14 : decode cJ1_charAt_3b067 14 = .ok (.ireturn, 1) := by decide +kernel
theorem dJ1_canEncode_fc78d_0 : decode cJ1_canEncode_fc78d 0 = .ok (.iload_n 0, 1) := by decide +kernel
theorem dJ1_canEncode_fc78d_1 : decode cJ1_canEncode_fc78d 1 = .ok (.sipush 255, 3) := by decide +kernel
theorem dJ1_canEncode_fc78d_4 : decode cJ1_canEncode_fc78d 4 = .ok (.if_icmp .gt 7, 3) := by decide +kernel
theorem dJ1_canEncode_fc78d_7 : decode cJ1_canEncode_fc78d 7 = .ok (.iconst 1, 1) := by decide +kernel
theorem dJ1_canEncode_fc78d_8 : decode cJ1_canEncode_fc78d 8 = .ok (.goto 4, 3) := by decide +kernel
theorem dJ1_canEncode_fc78d_11 : decode cJ1_canEncode_fc78d 11 = .ok (.iconst 0, 1) := by decide +kernel
theorem dJ1_canEncode_fc78d_12 : decode cJ1_canEncode_fc78d 12 = .ok (.ireturn, 1) := by decide +kernel
theorem dJ1_canEncode_9a6ad_0 : decode cJ1_canEncode_9a6ad 0 = .ok (.iload_n 0, 1) := by decide +kernel
theorem dJ1_canEncode_9a6ad_1 : decode cJ1_canEncode_9a6ad 1 = .ok (.ifCond .lt 14, 3) := by decide +kernel
theorem dJ1_canEncode_9a6ad_4 : decode cJ1_canEncode_9a6ad 4 = .ok (.iload_n 0, 1) := by decide +kernel
theorem dJ1_canEncode_9a6ad_5 : decode cJ1_canEncode_9a6ad 5 = .ok (.sipush 255, 3) := by decide +kernel
theorem dJ1_canEncode_9a6ad_8 : decode cJ1_canEncode_9a6ad 8 = .ok (.if_icmp .gt 7, 3) := by decide +kernel
theorem dJ1_canEncode_9a6ad_11 : decode cJ1_canEncode_9a6ad 11 = .ok (.iconst 1, 1) := by decide +kernel
theorem dJ1_canEncode_9a6ad_12 : decode cJ1_canEncode_9a6ad 12 = .ok (.goto 4, 3) := by decide +kernel
theorem dJ1_canEncode_9a6ad_15 : decode cJ1_canEncode_9a6ad 15 = .ok (.iconst 0, 1) := by decide +kernel
theorem dJ1_canEncode_9a6ad_16 : decode cJ1_canEncode_9a6ad 16 = .ok (.ireturn, 1) := by decide +kernel
theorem dJ1_indexOf_4cfef_0 : decode cJ1_indexOf_4cfef 0 = .ok (.iload_n 1, 1) := by decide +kernel
theorem dJ1_indexOf_4cfef_1 : decode cJ1_indexOf_4cfef 1 = .ok (.invokestatic 88, 3) := by decide +kernel
theorem dJ1_indexOf_4cfef_4 : decode cJ1_indexOf_4cfef 4 = .ok (.ifCond .ne 5, 3) := by decide +kernel
theorem dJ1_indexOf_4cfef_7 : decode cJ1_indexOf_4cfef 7 = .ok (.iconst (-1), 1) := by decide +kernel
theorem dJ1_indexOf_4cfef_8 : decode cJ1_indexOf_4cfef 8 = .ok (.ireturn, 1) := by decide +kernel
theorem dJ1_indexOf_4cfef_9 : decode cJ1_indexOf_4cfef 9 = .ok (.iload_n 2, 1) := by decide +kernel
theorem dJ1_indexOf_4cfef_10 : decode cJ1_indexOf_4cfef 10 = .ok (.iconst 0, 1) := by decide +kernel
theorem dJ1_indexOf_4cfef_11 : decode cJ1_indexOf_4cfef 11 = .ok (.invokestatic 92, 3) := by decide +kernel
theorem dJ1_indexOf_4cfef_14 : decode cJ1_indexOf_4cfef 14 = .ok (.istore_n 2, 1) := by decide +kernel
theorem dJ1_indexOf_4cfef_15 : decode cJ1_indexOf_4cfef 15 = .ok (.iload_n 3, 1) := by decide +kernel
theorem dJ1_indexOf_4cfef_16 : decode cJ1_indexOf_4cfef 16 = .ok (.aload_n 0, 1) := by decide +kernel
theorem dJ1_indexOf_4cfef_17 : decode cJ1_indexOf_4cfef 17 = .ok (.arraylength, 1) := by decide +kernel
theorem dJ1_indexOf_4cfef_18 : decode cJ1_indexOf_4cfef 18 = .ok (.invokestatic 38, 3) := by decide +kernel
theorem dJ1_indexOf_4cfef_21 : decode cJ1_indexOf_4cfef 21 = .ok (.istore_n 3, 1) := by decide +kernel
theorem dJ1_indexOf_4cfef_22 : decode cJ1_indexOf_4cfef 22 = .ok (.iload_n 2, 1) := by decide +kernel
theorem dJ1_indexOf_4cfef_23 : decode cJ1_indexOf_4cfef 23 = .ok (.iload_n 3, 1) := by decide +kernel
theorem dJ1_indexOf_4cfef_24 : decode cJ1_indexOf_4cfef 24 = .ok (.if_icmp .lt 5, 3) := by decide +kernel
theorem dJ1_indexOf_4cfef_27 : decode cJ1_indexOf_4cfef 27 = .ok (.iconst (-1), 1) := by decide +kernel
theorem dJ1_indexOf_4cfef_28 : decode cJ1_indexOf_4cfef 28 = .ok (.ireturn, 1) := by decide +kernel
theorem dJ1_indexOf_4cfef_29 : decode cJ1_indexOf_4cfef 29 = .ok (.aload_n 0, 1) := by decide +kernel
theorem dJ1_indexOf_4cfef_30 : decode cJ1_indexOf_4cfef 30 = .ok (.iload_n 1, 1) := by decide +kernel
theorem dJ1_indexOf_4cfef_31 : decode cJ1_indexOf_4cfef 31 = .ok (.iload_n 2, 1) := by decide +kernel
theorem dJ1_indexOf_4cfef_32 : decode cJ1_indexOf_4cfef 32 = .ok (.iload_n 3, 1) := by decide +kernel
theorem dJ1_indexOf_4cfef_33 : decode cJ1_indexOf_4cfef 33 = .ok (.invokestatic 95, 3) := by decide +kernel
theorem dJ1_indexOf_4cfef_36 : decode cJ1_indexOf_4cfef 36 = .ok (.ireturn, 1) := by decide +kernel
theorem dJ1_indexOfChar_4cfef_0 : decode cJ1_indexOfChar_4cfef 0 = .ok (.iload_n 1, 1) := by decide +kernel
theorem dJ1_indexOfChar_4cfef_1 : decode cJ1_indexOfChar_4cfef 1 = .ok (.i2b, 1) := by decide +kernel
theorem dJ1_indexOfChar_4cfef_2 : decode cJ1_indexOfChar_4cfef 2 = .ok (.istore 4, 2) := by decide +kernel
theorem dJ1_indexOfChar_4cfef_4 : decode cJ1_indexOfChar_4cfef 4 = .ok (.iload_n 2, 1) := by decide +kernel
theorem dJ1_indexOfChar_4cfef_5 : decode cJ1_indexOfChar_4cfef 5 = .ok (.istore 5, 2) := by decide +kernel
theorem dJ1_indexOfChar_4cfef_7 : decode cJ1_indexOfChar_4cfef 7 = .ok (.iload 5, 2) := by decide +kernel
theorem dJ1_indexOfChar_4cfef_9 : decode cJ1_indexOfChar_4cfef 9 = .ok (.iload_n 3, 1) := by decide +kernel
theorem dJ1_indexOfChar_4cfef_10 : decode cJ1_indexOfChar_4cfef 10 = .ok (.if_icmp .ge 21, 3) := by decide +kernel
theorem dJ1_indexOfChar_4cfef_13 : decode cJ1_indexOfChar_4cfef 13 = .ok (.aload_n 0, 1) := by decide +kernel
theorem dJ1_indexOfChar_4cfef_14 : decode cJ1_indexOfChar_4cfef 14 = .ok (.iload 5, 2) := by decide +kernel
theorem dJ1_indexOfChar_4cfef_16 : decode cJ1_indexOfChar_4cfef 16 = .ok (.baload, 1) := by decide +kernel
theorem dJ1_indexOfChar_4cfef_17 : decode cJ1_indexOfChar_4cfef 17 = .ok (.iload 4, 2) := by decide +kernel
theorem dJ1_indexOfChar_4cfef_19 : decode cJ1_indexOfChar_4cfef 19 = .ok (.if_icmp .ne 6, 3) := by decide +kernel
theorem dJ1_indexOfChar_4cfef_22 : decode cJ1_indexOfChar_4cfef 22 = .ok (.iload 5, 2) := by decide +kernel
theorem dJ1_indexOfChar_4cfef_24 : decode cJ1_indexOfChar_4cfef 24 = .ok (.ireturn, 1) := by decide +kernel
theorem dJ1_indexOfChar_4cfef_25 : decode cJ1_indexOfChar_4cfef 25 = .ok (.iinc 5 1, 3) := by decide +kernel
theorem dJ1_indexOfChar_4cfef_28 : decode cJ1_indexOfChar_4cfef 28 = .ok (.goto (-21), 3) := by decide +kernel
theorem dJ1_indexOfChar_4cfef_31 : decode cJ1_indexOfChar_4cfef 31 = .ok (.iconst (-1), 1) := by decide +kernel
theorem dJ1_indexOfChar_4cfef_32 : decode cJ1_indexOfChar_4cfef 32 = .ok (.ireturn, 1) := by decide +kernel
theorem dJ1_fillNull_b72d1_0 : decode cJ1_fillNull_b72d1 0 = .ok (.aload_n 0, 1) := by decide +kernel
theorem dJ1_fillNull_b72d1_1 : decode cJ1_fillNull_b72d1 1 = .ok (.iload_n 1, 1) := by decide +kernel
theorem dJ1_fillNull_b72d1_2 : decode cJ1_fillNull_b72d1 2 = .ok (.iload_n 2, 1) := by decide +kernel
theorem dJ1_fillNull_b72d1_3 : decode cJ1_fillNull_b72d1 3 = .ok (.iconst 0, 1) := by decide +kernel
theorem dJ1_fillNull_b72d1_4 : decode cJ1_fillNull_b72d1 4 = .ok (.invokestatic 236, 3) := by decide +kernel
theorem dJ1_fillNull_b72d1_7 : decode cJ1_fillNull_b72d1 7 = .ok (.return_, 1) := by decide +kernel
theorem dJ1_inflate_0e8fd_0 : decode cJ1_inflate_0e8fd 0 = .ok (.aload_n 0, 1) := by decide +kernel
theorem dJ1_inflate_0e8fd_1 : decode cJ1_inflate_0e8fd 1 = .ok (.iload_n 1, 1) := by decide +kernel
theorem dJ1_inflate_0e8fd_2 : decode cJ1_inflate_0e8fd 2 = .ok (.aload_n 2, 1) := by decide +kernel
theorem dJ1_inflate_0e8fd_3 : decode cJ1_inflate_0e8fd 3 = .ok (.iload_n 3, 1) := by decide +kernel
theorem dJ1_inflate_0e8fd_4 : decode cJ1_inflate_0e8fd 4 = .ok (.iload 4, 2) := by decide +kernel
theorem dJ1_inflate_0e8fd_6 : decode cJ1_inflate_0e8fd 6 = .ok (.invokestatic 240, 3) := by decide +kernel
theorem dJ1_inflate_0e8fd_9 : decode cJ1_inflate_0e8fd 9 = .ok (.return_, 1) := by decide +kernel
theorem dJ2_newBytesFor_77867_0 : decode cJ2_newBytesFor_77867 0 = .ok (.iload_n 0, 1) := by decide +kernel
theorem dJ2_newBytesFor_77867_1 : decode cJ2_newBytesFor_77867 1 = .ok (.invokestatic 11, 3) := by decide +kernel
theorem dJ2_newBytesFor_77867_4 : decode cJ2_newBytesFor_77867 4 = .ok (.newarray .byte, 2) := by decide +kernel
theorem dJ2_newBytesFor_77867_6 : decode cJ2_newBytesFor_77867 6 = .ok (.areturn, 1) := by decide +kernel
theorem dJ2_newBytesLength_0f7a4_0 : decode cJ2_newBytesLength_0f7a4 0 = .ok (.iload_n 0, 1) := by decide +kernel
theorem dJ2_newBytesLength_0f7a4_1 : decode cJ2_newBytesLength_0f7a4 1 = .ok (.ifCond .ge 11, 3) := by decide +kernel
theorem dJ2_newBytesLength_0f7a4_4 : decode cJ2_newBytesLength_0f7a4 4 = .ok (.new 17, 3) := by decide +kernel
theorem dJ2_newBytesLength_0f7a4_7 : decode cJ2_newBytesLength_0f7a4 7 = .ok (.dup, 1) := by decide +kernel
theorem dJ2_newBytesLength_0f7a4_8 : decode cJ2_newBytesLength_0f7a4 8 = .ok (.invokespecial 19, 3) := by decide +kernel
theorem dJ2_newBytesLength_0f7a4_11 : decode cJ2_newBytesLength_0f7a4 11 = .ok (.athrow, 1) := by decide +kernel
theorem dJ2_newBytesLength_0f7a4_12 : decode cJ2_newBytesLength_0f7a4 12 = .ok (.iload_n 0, 1) := by decide +kernel
theorem dJ2_newBytesLength_0f7a4_13 : decode cJ2_newBytesLength_0f7a4 13 = .ok (.ldc 20, 2) := by decide +kernel
theorem dJ2_newBytesLength_0f7a4_15 : decode cJ2_newBytesLength_0f7a4 15 = .ok (.if_icmp .lt 40, 3) := by decide +kernel
theorem dJ2_newBytesLength_0f7a4_18 : decode cJ2_newBytesLength_0f7a4 18 = .ok (.new 21, 3) := by decide +kernel
theorem dJ2_newBytesLength_0f7a4_21 : decode cJ2_newBytesLength_0f7a4 21 = .ok (.dup, 1) := by decide +kernel
theorem dJ2_newBytesLength_0f7a4_22 : decode cJ2_newBytesLength_0f7a4 22 = .ok (.new 23, 3) := by decide +kernel
theorem dJ2_newBytesLength_0f7a4_25 : decode cJ2_newBytesLength_0f7a4 25 = .ok (.dup, 1) := by decide +kernel
theorem dJ2_newBytesLength_0f7a4_26 : decode cJ2_newBytesLength_0f7a4 26 = .ok (.invokespecial 25, 3) := by decide +kernel
theorem dJ2_newBytesLength_0f7a4_29 : decode cJ2_newBytesLength_0f7a4 29 = .ok (.ldc 26, 2) := by decide +kernel
theorem dJ2_newBytesLength_0f7a4_31 : decode cJ2_newBytesLength_0f7a4 31 = .ok (.invokevirtual 28, 3) := by decide +kernel
theorem dJ2_newBytesLength_0f7a4_34 : decode cJ2_newBytesLength_0f7a4 34 = .ok (.iload_n 0, 1) := by decide +kernel
theorem dJ2_newBytesLength_0f7a4_35 : decode cJ2_newBytesLength_0f7a4 35 = .ok (.invokevirtual 32, 3) := by decide +kernel
theorem dJ2_newBytesLength_0f7a4_38 : decode cJ2_newBytesLength_0f7a4 38 = .ok (.ldc 35, 2) := by decide +kernel
theorem dJ2_newBytesLength_0f7a4_40 : decode cJ2_newBytesLength_0f7a4 40 = .ok (.invokevirtual 28, 3) := by decide +kernel
theorem dJ2_newBytesLength_0f7a4_43 : decode cJ2_newBytesLength_0f7a4 43 = .ok (.ldc 20, 2) := by decide +kernel
theorem dJ2_newBytesLength_0f7a4_45 : decode cJ2_newBytesLength_0f7a4 45 = .ok (.invokevirtual 32, 3) := by decide +kernel
theorem dJ2_newBytesLength_0f7a4_48 : decode cJ2_newBytesLength_0f7a4 48 = .ok (.invokevirtual 37, 3) := by decide +kernel
theorem dJ2_newBytesLength_0f7a4_51 : decode cJ2_newBytesLength_0f7a4 51 = .ok (.invokespecial 41, 3) := by decide +kernel
theorem dJ2_newBytesLength_0f7a4_54 : decode cJ2_newBytesLength_0f7a4 54 = .ok (.athrow, 1) := by decide +kernel
theorem dJ2_newBytesLength_0f7a4_55 : decode cJ2_newBytesLength_0f7a4 55 = .ok (.iload_n 0, 1) := by decide +kernel
theorem dJ2_newBytesLength_0f7a4_56 : decode cJ2_newBytesLength_0f7a4 56 = .ok (.iconst 1, 1) := by decide +kernel
theorem dJ2_newBytesLength_0f7a4_57 : decode cJ2_newBytesLength_0f7a4 57 = .ok (.ishl, 1) := by decide +kernel
theorem dJ2_newBytesLength_0f7a4_58 : decode cJ2_newBytesLength_0f7a4 58 = .ok (.ireturn, 1) := by decide +kernel
theorem dJ2_putChar_b72d1_0 : decode cJ2_putChar_b72d1 0 = .ok (.getstatic 44, 3) := by decide +kernel
theorem dJ2_putChar_b72d1_3 : decode cJ2_putChar_b72d1 3 = .ok (.ifCond .ne 25, 3) := by decide +kernel
theorem dJ2_putChar_b72d1_6 : decode cJ2_putChar_b72d1 6 = .ok (.iload_n 1, 1) := by decide +kernel
theorem dJ2_putChar_b72d1_7 : decode cJ2_putChar_b72d1 7 = .ok (.ifCond .lt 11, 3) := by decide +kernel
theorem dJ2_putChar_b72d1_10 : decode cJ2_putChar_b72d1 10 = .ok (.iload_n 1, 1) := by decide +kernel
theorem dJ2_putChar_b72d1_11 : decode cJ2_putChar_b72d1 11 = .ok (.aload_n 0, 1) := by decide +kernel
theorem dJ2_putChar_b72d1_12 : decode cJ2_putChar_b72d1 12 = .ok (.invokestatic 48, 3) := by decide +kernel
theorem dJ2_putChar_b72d1_15 : decode cJ2_putChar_b72d1 15 = .ok (.if_icmp .lt 13, 3) := by decide +kernel
theorem dJ2_putChar_b72d1_18 : decode cJ2_putChar_b72d1 18 = .ok (.new 52, 3) := by decide +kernel
theorem dJ2_putChar_b72d1_21 : decode cJ2_putChar_b72d1 21 = .ok (.dup, 1) := by decide +kernel
theorem dJ2_putChar_b72d1_22 : decode cJ2_putChar_b72d1 22 = .ok (.ldc 54, 2) := by decide +kernel
theorem dJ2_putChar_b72d1_24 : decode cJ2_putChar_b72d1 24 = .ok (.invokespecial 56, 3) := by decide +kernel
theorem dJ2_putChar_b72d1_27 : decode cJ2_putChar_b72d1 27 = .ok (.athrow, 1) := by decide +kernel
theorem dJ2_putChar_b72d1_28 : decode cJ2_putChar_b72d1 28 = .ok (.iload_n 1, 1) := by decide +kernel
theorem dJ2_putChar_b72d1_29 : decode cJ2_putChar_b72d1 29 = .ok (.iconst 1, 1) := by decide +kernel
theorem dJ2_putChar_b72d1_30 : decode cJ2_putChar_b72d1 30 = .ok (.ishl, 1) := by decide +kernel
theorem dJ2_putChar_b72d1_31 : decode cJ2_putChar_b72d1 31 = .ok (.istore_n 1, 1) := by decide +kernel
theorem dJ2_putChar_b72d1_32 : decode cJ2_putChar_b72d1 32 = .ok (.aload_n 0, 1) := by decide +kernel
theorem dJ2_putChar_b72d1_33 : decode cJ2_putChar_b72d1 33 = .ok (.iload_n 1, 1) := by decide +kernel
theorem dJ2_putChar_b72d1_34 : decode cJ2_putChar_b72d1 34 = .ok (.iinc 1 1, 3) := by decide +kernel
theorem dJ2_putChar_b72d1_37 : decode cJ2_putChar_b72d1 37 = .ok (.iload_n 2, 1) := by decide +kernel
theorem dJ2_putChar_b72d1_38 : decode cJ2_putChar_b72d1 38 = .ok (.getstatic 59, 3) := by decide +kernel
theorem dJ2_putChar_b72d1_41 : decode cJ2_putChar_b72d1 41 = .ok (.ishr, 1) := by decide +kernel
theorem dJ2_putChar_b72d1_42 : decode cJ2_putChar_b72d1 42 = .ok (.i2b, 1) := by decide +kernel
theorem dJ2_putChar_b72d1_43 : decode cJ2_putChar_b72d1 43 = .ok (.bastore, 1) := by decide +kernel
theorem dJ2_putChar_b72d1_44 : decode cJ2_putChar_b72d1 44 = .ok (.aload_n 0, 1) := by decide +kernel
theorem dJ2_putChar_b72d1_45 : decode cJ2_putChar_b72d1 45 = .ok (.iload_n 1, 1) := by decide +kernel
theorem dJ2_putChar_b72d1_46 : decode cJ2_putChar_b72d1 46 = .ok (.iload_n 2, 1) := by decide +kernel
theorem dJ2_putChar_b72d1_47 : decode cJ2_putChar_b72d1 47 = .ok (.getstatic 63, 3) := by decide +kernel
theorem dJ2_putChar_b72d1_50 : decode cJ2_putChar_b72d1 50 = .ok (.ishr, 1) := by decide +kernel
theorem dJ2_putChar_b72d1_51 : decode cJ2_putChar_b72d1 51 = .ok (.i2b, 1) := by decide +kernel
theorem dJ2_putChar_b72d1_52 : decode cJ2_putChar_b72d1 52 = .ok (.bastore, 1) := by decide +kernel
theorem dJ2_putChar_b72d1_53 : decode cJ2_putChar_b72d1 53 = .ok (.return_, 1) := by decide +kernel
theorem dJ2_getChar_3b067_0 : decode cJ2_getChar_3b067 0 = .ok (.getstatic 44, 3) := by decide +kernel
theorem dJ2_getChar_3b067_3 : decode cJ2_getChar_3b067 3 = .ok (.ifCond .ne 25, 3) := by decide +kernel
theorem dJ2_getChar_3b067_6 : decode cJ2_getChar_3b067 6 = .ok (.iload_n 1, 1) := by decide +kernel
theorem dJ2_getChar_3b067_7 : decode cJ2_getChar_3b067 7 = .ok (.ifCond .lt 11, 3) := by decide +kernel
theorem dJ2_getChar_3b067_10 : decode cJ2_getChar_3b067 10 = .ok (.iload_n 1, 1) := by decide +kernel
theorem dJ2_getChar_3b067_11 : decode cJ2_getChar_3b067 11 = .ok (.aload_n 0, 1) := by decide +kernel
theorem dJ2_getChar_3b067_12 : decode cJ2_getChar_3b067 12 = .ok (.invokestatic 48, 3) := by decide +kernel
theorem dJ2_getChar_3b067_15 : decode cJ2_getChar_3b067 15 = .ok (.if_icmp .lt 13, 3) := by decide +kernel
theorem dJ2_getChar_3b067_18 : decode cJ2_getChar_3b067 18 = .ok (.new 52, 3) := by decide +kernel
theorem dJ2_getChar_3b067_21 : decode cJ2_getChar_3b067 21 = .ok (.dup, 1) := by decide +kernel
theorem dJ2_getChar_3b067_22 : decode cJ2_getChar_3b067 22 = .ok (.ldc 54, 2) := by decide +kernel
theorem dJ2_getChar_3b067_24 : decode cJ2_getChar_3b067 24 = .ok (.invokespecial 56, 3) := by decide +kernel
theorem dJ2_getChar_3b067_27 : decode cJ2_getChar_3b067 27 = .ok (.athrow, 1) := by decide +kernel
theorem dJ2_getChar_3b067_28 : decode cJ2_getChar_3b067 28 = .ok (.iload_n 1, 1) := by decide +kernel
theorem dJ2_getChar_3b067_29 : decode cJ2_getChar_3b067 29 = .ok (.iconst 1, 1) := by decide +kernel
theorem dJ2_getChar_3b067_30 : decode cJ2_getChar_3b067 30 = .ok (.ishl, 1) := by decide +kernel
theorem dJ2_getChar_3b067_31 : decode cJ2_getChar_3b067 31 = .ok (.istore_n 1, 1) := by decide +kernel
theorem dJ2_getChar_3b067_32 : decode cJ2_getChar_3b067 32 = .ok (.aload_n 0, 1) := by decide +kernel
theorem dJ2_getChar_3b067_33 : decode cJ2_getChar_3b067 33 = .ok (.iload_n 1, 1) := by decide +kernel
theorem dJ2_getChar_3b067_34 : decode cJ2_getChar_3b067 34 = .ok (.iinc 1 1, 3) := by decide +kernel
theorem dJ2_getChar_3b067_37 : decode cJ2_getChar_3b067 37 = .ok (.baload, 1) := by decide +kernel
theorem dJ2_getChar_3b067_38 : decode cJ2_getChar_3b067 38 = .ok (.sipush 255, 3) := by decide +kernel
theorem dJ2_getChar_3b067_41 : decode cJ2_getChar_3b067 41 = .ok (.iand, 1) := by decide +kernel
theorem dJ2_getChar_3b067_42 : decode cJ2_getChar_3b067 42 = .ok (.getstatic 59, 3) := by decide +kernel
theorem dJ2_getChar_3b067_45 : decode cJ2_getChar_3b067 45 = .ok (.ishl, 1) := by decide +kernel
theorem dJ2_getChar_3b067_46 : decode cJ2_getChar_3b067 46 = .ok (.aload_n 0, 1) := by decide +kernel
theorem dJ2_getChar_3b067_47 : decode cJ2_getChar_3b067 47 = .ok (.iload_n 1, 1) := by decide +kernel
theorem dJ2_getChar_3b067_48 : decode cJ2_getChar_3b067 48 = .ok (.baload, 1) := by decide +kernel
theorem dJ2_getChar_3b067_49 : decode cJ2_getChar_3b067 49 = .ok (.sipush 255, 3) := by decide +kernel
theorem dJ2_getChar_3b067_52 : decode cJ2_getChar_3b067 52 = .ok (.iand, 1) := by decide +kernel
theorem dJ2_getChar_3b067_53 : decode cJ2_getChar_3b067 53 = .ok (.getstatic 63, 3) := by decide +kernel
theorem dJ2_getChar_3b067_56 : decode cJ2_getChar_3b067 56 = .ok (.ishl, 1) := by decide +kernel
theorem dJ2_getChar_3b067_57 : decode cJ2_getChar_3b067 57 = .ok (.ior, 1) := by decide +kernel
theorem dJ2_getChar_3b067_58 : decode cJ2_getChar_3b067 58 = .ok (.i2c, 1) := by decide +kernel
theorem dJ2_getChar_3b067_59 : decode cJ2_getChar_3b067 59 = .ok (.ireturn, 1) := by decide +kernel
theorem dJ2_length_9d52b_0 : decode cJ2_length_9d52b 0 = .ok (.aload_n 0, 1) := by decide +kernel
theorem dJ2_length_9d52b_1 : decode cJ2_length_9d52b 1 = .ok (.arraylength, 1) := by decide +kernel
theorem dJ2_length_9d52b_2 : decode cJ2_length_9d52b 2 = .ok (.iconst 1, 1) := by decide +kernel
theorem dJ2_length_9d52b_3 : decode cJ2_length_9d52b 3 = .ok (.ishr, 1) := by decide +kernel
theorem dJ2_length_9d52b_4 : decode cJ2_length_9d52b 4 = .ok (.ireturn, 1) := by decide +kernel
theorem dJ2_coderFromArrayLen_85cad_0 : decode cJ2_coderFromArrayLen_85cad 0 = .ok (.iload_n 1, 1) := by decide +kernel
theorem dJ2_coderFromArrayLen_85cad_1 : decode cJ2_coderFromArrayLen_85cad 1 = .ok (.aload_n 0, 1) := by decide +kernel
theorem dJ2_coderFromArrayLen_85cad_2 : decode cJ2_coderFromArrayLen_85cad 2 = .ok (.arraylength, 1) := by decide +kernel
theorem dJ2_coderFromArrayLen_85cad_3 : decode cJ2_coderFromArrayLen_85cad 3 = .ok (.isub, 1) := by decide +kernel
theorem dJ2_coderFromArrayLen_85cad_4 : decode cJ2_coderFromArrayLen_85cad 4 = .ok (.bipush 31, 2) := by decide +kernel
theorem dJ2_coderFromArrayLen_85cad_6 : decode cJ2_coderFromArrayLen_85cad 6 = .ok (.iushr, 1) := by decide +kernel
theorem dJ2_coderFromArrayLen_85cad_7 : decode cJ2_coderFromArrayLen_85cad 7 = .ok (.i2b, 1) := by decide +kernel
theorem dJ2_coderFromArrayLen_85cad_8 : decode cJ2_coderFromArrayLen_85cad 8 = .ok (.ireturn, 1) := by decide +kernel
theorem dJ2_compress_39247_0 : decode cJ2_compress_39247 0 = .ok (.iload_n 2, 1) := by decide +kernel
theorem dJ2_compress_39247_1 : decode cJ2_compress_39247 1 = .ok (.newarray .byte, 2) := by decide +kernel
theorem dJ2_compress_39247_3 : decode cJ2_compress_39247 3 = .ok (.astore_n 3, 1) := by decide +kernel
theorem dJ2_compress_39247_4 : decode cJ2_compress_39247 4 = .ok (.aload_n 0, 1) := by decide +kernel
theorem dJ2_compress_39247_5 : decode cJ2_compress_39247 5 = .ok (.iload_n 1, 1) := by decide +kernel
theorem dJ2_compress_39247_6 : decode cJ2_compress_39247 6 = .ok (.aload_n 3, 1) := by decide +kernel
theorem dJ2_compress_39247_7 : decode cJ2_compress_39247 7 = .ok (.iconst 0, 1) := by decide +kernel
theorem dJ2_compress_39247_8 : decode cJ2_compress_39247 8 = .ok (.iload_n 2, 1) := by decide +kernel
theorem dJ2_compress_39247_9 : decode cJ2_compress_39247 9 = .ok (.invokestatic 123, 3) := by decide +kernel
theorem dJ2_compress_39247_12 : decode cJ2_compress_39247 12 = .ok (.istore 4, 2) := by decide +kernel
theorem dJ2_compress_39247_14 : decode cJ2_compress_39247 14 = .ok (.iload 4, 2) := by decide +kernel
theorem dJ2_compress_39247_16 : decode cJ2_compress_39247 16 = .ok (.iload_n 2, 1) := by decide +kernel
theorem dJ2_compress_39247_17 : decode cJ2_compress_39247 17 = .ok (.if_icmp .eq 47, 3) := by decide +kernel
theorem dJ2_compress_39247_20 : decode cJ2_compress_39247 20 = .ok (.aload_n 0, 1) := by decide +kernel
theorem dJ2_compress_39247_21 : decode cJ2_compress_39247 21 = .ok (.iload_n 1, 1) := by decide +kernel
theorem dJ2_compress_39247_22 : decode cJ2_compress_39247 22 = .ok (.iconst 1, 1) := by decide +kernel
theorem dJ2_compress_39247_23 : decode cJ2_compress_39247 23 = .ok (.ishl, 1) := by decide +kernel
theorem dJ2_compress_39247_24 : decode cJ2_compress_39247 24 = .ok (.iload_n 1, 1) := by decide +kernel
theorem dJ2_compress_39247_25 : decode cJ2_compress_39247 25 = .ok (.iload_n 2, 1) := by decide +kernel
theorem dJ2_compress_39247_26 : decode cJ2_compress_39247 26 = .ok (.iadd, 1) := by decide +kernel
theorem dJ2_compress_39247_27 : decode cJ2_compress_39247 27 = .ok (.invokestatic 11, 3) := by decide +kernel
theorem dJ2_compress_39247_30 : decode cJ2_compress_39247 30 = .ok (.invokestatic 126, 3) := by decide +kernel
theorem dJ2_compress_39247_33 : decode cJ2_compress_39247 33 = .ok (.astore 5, 2) := by decide +kernel
theorem dJ2_compress_39247_35 : decode cJ2_compress_39247 35 = .ok (.aload 5, 2) := by decide +kernel
theorem dJ2_compress_39247_37 : decode cJ2_compress_39247 37 = .ok (.iload 4, 2) := by decide +kernel
theorem dJ2_compress_39247_39 : decode cJ2_compress_39247 39 = .ok (.invokestatic 71, 3) := by decide +kernel
theorem dJ2_compress_39247_42 : decode cJ2_compress_39247 42 = .ok (.sipush 255, 3) := by decide +kernel
theorem dJ2_compress_39247_45 : decode cJ2_compress_39247 45 = .ok (.if_icmp .gt 16, 3) := by decide +kernel
theorem dJ2_compress_39247_48 : decode cJ2_compress_39247 48 = .ok (.aload 5, 2) := by decide +kernel
theorem dJ2_compress_39247_50 : decode cJ2_compress_39247 50 = .ok (.iconst 0, 1) := by decide +kernel
theorem dJ2_compress_39247_51 : decode cJ2_compress_39247 51 = .ok (.aload_n 3, 1) := by decide +kernel
theorem dJ2_compress_39247_52 : decode cJ2_compress_39247 52 = .ok (.iconst 0, 1) := by decide +kernel
theorem dJ2_compress_39247_53 : decode cJ2_compress_39247 53 = .ok (.iload_n 2, 1) := by decide +kernel
theorem dJ2_compress_39247_54 : decode cJ2_compress_39247 54 = .ok (.invokestatic 123, 3) := by decide +kernel
theorem dJ2_compress_39247_57 : decode cJ2_compress_39247 57 = .ok (.iload_n 2, 1) := by decide +kernel
theorem dJ2_compress_39247_58 : decode cJ2_compress_39247 58 = .ok (.if_icmp .eq 6, 3) := by decide +kernel
theorem dJ2_compress_39247_61 : decode cJ2_compress_39247 61 = .ok (.aload 5, 2) := by decide +kernel
theorem dJ2_compress_39247_63 : decode cJ2_compress_39247 63 = .ok (.areturn, 1) := by decide +kernel
theorem dJ2_compress_39247_64 : decode cJ2_compress_39247 64 = .ok (.aload_n 3, 1) := by decide +kernel
theorem dJ2_compress_39247_65 : decode cJ2_compress_39247 65 = .ok (.areturn, 1) := by decide +kernel
theorem dJ2_compress_5af95_0 : decode cJ2_compress_5af95 0 = .ok (.iload_n 1, 1) := by decide +kernel
theorem dJ2_compress_5af95_1 : decode cJ2_compress_5af95 1 = .ok (.iload 4, 2) := by decide +kernel
theorem dJ2_compress_5af95_3 : decode cJ2_compress_5af95 3 = .ok (.aload_n 0, 1) := by decide +kernel
theorem dJ2_compress_5af95_4 : decode cJ2_compress_5af95 4 = .ok (.invokestatic 173, 3) := by decide +kernel
theorem dJ2_compress_5af95_7 : decode cJ2_compress_5af95 7 = .ok (.iconst 0, 1) := by decide +kernel
theorem dJ2_compress_5af95_8 : decode cJ2_compress_5af95 8 = .ok (.istore 5, 2) := by decide +kernel
theorem dJ2_compress_5af95_10 : decode cJ2_compress_5af95 10 = .ok (.iload 5, 2) := by decide +kernel
theorem dJ2_compress_5af95_12 : decode cJ2_compress_5af95 12 = .ok (.iload 4, 2) := by decide +kernel
theorem dJ2_compress_5af95_14 : decode cJ2_compress_5af95 14 = .ok (.if_icmp .ge 39, 3) := by decide +kernel
theorem dJ2_compress_5af95_17 : decode cJ2_compress_5af95 17 = .ok (.aload_n 0, 1) := by decide +kernel
theorem dJ2_compress_5af95_18 : decode cJ2_compress_5af95 18 = .ok (.iload_n 1, 1) := by decide +kernel
theorem dJ2_compress_5af95_19 : decode cJ2_compress_5af95 19 = .ok (.invokestatic 71, 3) := by decide +kernel
theorem dJ2_compress_5af95_22 : decode cJ2_compress_5af95 22 = .ok (.istore 6, 2) := by decide +kernel
theorem dJ2_compress_5af95_24 : decode cJ2_compress_5af95 24 = .ok (.iload 6, 2) := by decide +kernel
theorem dJ2_compress_5af95_26 : decode cJ2_compress_5af95 26 = .ok (.sipush 255, 3) := by decide +kernel
theorem dJ2_compress_5af95_29 : decode cJ2_compress_5af95 29 = .ok (.if_icmp .le 6, 3) := by decide +kernel
theorem dJ2_compress_5af95_32 : decode cJ2_compress_5af95 32 = .ok (.iload 5, 2) := by decide +kernel
theorem dJ2_compress_5af95_34 : decode cJ2_compress_5af95 34 = .ok (.ireturn, 1) := by decide +kernel
theorem dJ2_compress_5af95_35 : decode cJ2_compress_5af95 35 = .ok (.aload_n 2, 1) := by decide +kernel
theorem dJ2_compress_5af95_36 : decode cJ2_compress_5af95 36 = .ok (.iload_n 3, 1) := by decide +kernel
theorem dJ2_compress_5af95_37 : decode cJ2_compress_5af95 37 = .ok (.iload 6, 2) := by decide +kernel
theorem dJ2_compress_5af95_39 : decode cJ2_compress_5af95 39 = .ok (.i2b, 1) := by decide +kernel
theorem dJ2_compress_5af95_40 : decode cJ2_compress_5af95 40 = .ok (.bastore, 1) := by decide +kernel
theorem dJ2_compress_5af95_41 : decode cJ2_compress_5af95 41 = .ok (.iinc 1 1, 3) := by decide +kernel
theorem dJ2_compress_5af95_44 : decode cJ2_compress_5af95 44 = .ok (.iinc 3 1, 3) := by decide +kernel
theorem dJ2_compress_5af95_47 : decode cJ2_compress_5af95 47 = .ok (.iinc 5 1, 3) := by decide +kernel
theorem dJ2_compress_5af95_50 : decode cJ2_compress_5af95 50 = .ok (.goto (-40), 3) := by decide +kernel
theorem dJ2_compress_5af95_53 : decode cJ2_compress_5af95 53 = .ok (.iload 4, 2) := by decide +kernel
theorem dJ2_compress_5af95_55 : decode cJ2_compress_5af95 55 = .ok (.ireturn, 1) := by decide +kernel
theorem dJ2_indexOf_4cfef_0 : decode cJ2_indexOf_4cfef 0 = .ok (.iload_n 2, 1) := by decide +kernel
theorem dJ2_indexOf_4cfef_1 : decode cJ2_indexOf_4cfef 1 = .ok (.iconst 0, 1) := by decide +kernel
theorem dJ2_indexOf_4cfef_2 : decode cJ2_indexOf_4cfef 2 = .ok (.invokestatic 224, 3) := by decide +kernel
theorem dJ2_indexOf_4cfef_5 : decode cJ2_indexOf_4cfef 5 = .ok (.istore_n 2, 1) := by decide +kernel
theorem dJ2_indexOf_4cfef_6 : decode cJ2_indexOf_4cfef 6 = .ok (.iload_n 3, 1) := by decide +kernel
theorem dJ2_indexOf_4cfef_7 : decode cJ2_indexOf_4cfef 7 = .ok (.aload_n 0, 1) := by decide +kernel
theorem dJ2_indexOf_4cfef_8 : decode cJ2_indexOf_4cfef 8 = .ok (.arraylength, 1) := by decide +kernel
theorem dJ2_indexOf_4cfef_9 : decode cJ2_indexOf_4cfef 9 = .ok (.iconst 1, 1) := by decide +kernel
theorem dJ2_indexOf_4cfef_10 : decode cJ2_indexOf_4cfef 10 = .ok (.ishr, 1) := by decide +kernel
theorem dJ2_indexOf_4cfef_11 : decode cJ2_indexOf_4cfef 11 = .ok (.invokestatic 183, 3) := by decide +kernel
theorem dJ2_indexOf_4cfef_14 : decode cJ2_indexOf_4cfef 14 = .ok (.istore_n 3, 1) := by decide +kernel
theorem dJ2_indexOf_4cfef_15 : decode cJ2_indexOf_4cfef 15 = .ok (.iload_n 2, 1) := by decide +kernel
theorem dJ2_indexOf_4cfef_16 : decode cJ2_indexOf_4cfef 16 = .ok (.iload_n 3, 1) := by decide +kernel
theorem dJ2_indexOf_4cfef_17 : decode cJ2_indexOf_4cfef 17 = .ok (.if_icmp .lt 5, 3) := by decide +kernel
theorem dJ2_indexOf_4cfef_20 : decode cJ2_indexOf_4cfef 20 = .ok (.iconst (-1), 1) := by decide +kernel
theorem dJ2_indexOf_4cfef_21 : decode cJ2_indexOf_4cfef 21 = .ok (.ireturn, 1) := by decide +kernel
theorem dJ2_indexOf_4cfef_22 : decode cJ2_indexOf_4cfef 22 = .ok (.iload_n 1, 1) := by decide +kernel
theorem dJ2_indexOf_4cfef_23 : decode cJ2_indexOf_4cfef 23 = .ok (.ldc 227, 2) := by decide +kernel
theorem dJ2_indexOf_4cfef_25 : decode cJ2_indexOf_4cfef 25 = .ok (.if_icmp .ge 11, 3) := by decide +kernel
theorem dJ2_indexOf_4cfef_28 : decode cJ2_indexOf_4cfef 28 = .ok (.aload_n 0, 1) := by decide +kernel
theorem dJ2_indexOf_4cfef_29 : decode cJ2_indexOf_4cfef 29 = .ok (.iload_n 1, 1) := by decide +kernel
theorem dJ2_indexOf_4cfef_30 : decode cJ2_indexOf_4cfef 30 = .ok (.iload_n 2, 1) := by decide +kernel
theorem dJ2_indexOf_4cfef_31 : decode cJ2_indexOf_4cfef 31 = .ok (.iload_n 3, 1) := by decide +kernel
theorem dJ2_indexOf_4cfef_32 : decode cJ2_indexOf_4cfef 32 = .ok (.invokestatic 228, 3) := by decide +kernel
theorem dJ2_indexOf_4cfef_35 : decode cJ2_indexOf_4cfef 35 = .ok (.ireturn, 1) := by decide +kernel
theorem dJ2_indexOf_4cfef_36 : decode cJ2_indexOf_4cfef 36 = .ok (.aload_n 0, 1) := by decide +kernel
theorem dJ2_indexOf_4cfef_37 : decode cJ2_indexOf_4cfef 37 = .ok (.iload_n 1, 1) := by decide +kernel
theorem dJ2_indexOf_4cfef_38 : decode cJ2_indexOf_4cfef 38 = .ok (.iload_n 2, 1) := by decide +kernel
theorem dJ2_indexOf_4cfef_39 : decode cJ2_indexOf_4cfef 39 = .ok (.iload_n 3, 1) := by decide +kernel
theorem dJ2_indexOf_4cfef_40 : decode cJ2_indexOf_4cfef 40 = .ok (.invokestatic 232, 3) := by decide +kernel
theorem dJ2_indexOf_4cfef_43 : decode cJ2_indexOf_4cfef 43 = .ok (.ireturn, 1) := by decide +kernel
theorem dJ2_indexOfChar_4cfef_0 : decode cJ2_indexOfChar_4cfef 0 = .ok (.iload_n 2, 1) := by decide +kernel
theorem dJ2_indexOfChar_4cfef_1 : decode cJ2_indexOfChar_4cfef 1 = .ok (.iload_n 3, 1) := by decide +kernel
theorem dJ2_indexOfChar_4cfef_2 : decode cJ2_indexOfChar_4cfef 2 = .ok (.aload_n 0, 1) := by decide +kernel
theorem dJ2_indexOfChar_4cfef_3 : decode cJ2_indexOfChar_4cfef 3 = .ok (.invokestatic 96, 3) := by decide +kernel
theorem dJ2_indexOfChar_4cfef_6 : decode cJ2_indexOfChar_4cfef 6 = .ok (.aload_n 0, 1) := by decide +kernel
theorem dJ2_indexOfChar_4cfef_7 : decode cJ2_indexOfChar_4cfef 7 = .ok (.iload_n 1, 1) := by decide +kernel
theorem dJ2_indexOfChar_4cfef_8 : decode cJ2_indexOfChar_4cfef 8 = .ok (.iload_n 2, 1) := by decide +kernel
theorem dJ2_indexOfChar_4cfef_9 : decode cJ2_indexOfChar_4cfef 9 = .ok (.iload_n 3, 1) := by decide +kernel
theorem dJ2_indexOfChar_4cfef_10 : decode cJ2_indexOfChar_4cfef 10 = .ok (.invokestatic 244, 3) := by decide +kernel
theorem dJ2_indexOfChar_4cfef_13 : decode cJ2_indexOfChar_4cfef 13 = .ok (.ireturn, 1) := by decide +kernel
theorem dJ2_indexOfCharUnsafe_4cfef_0 : decode cJ2_indexOfCharUnsafe_4cfef 0 = .ok (.iload_n 2, 1) := by decide +kernel
theorem dJ2_indexOfCharUnsafe_4cfef_1 : decode cJ2_indexOfCharUnsafe_4cfef 1 = .ok (.istore 4, 2) := by decide +kernel
theorem dJ2_indexOfCharUnsafe_4cfef_3 : decode cJ2_indexOfCharUnsafe_4cfef 3 = .ok (.iload 4, 2) := by decide +kernel
theorem dJ2_indexOfCharUnsafe_4cfef_5 : decode cJ2_indexOfCharUnsafe_4cfef 5 = .ok (.iload_n 3, 1) := by decide +kernel
theorem dJ2_indexOfCharUnsafe_4cfef_6 : decode cJ2_indexOfCharUnsafe_4cfef 6 = .ok (.if_icmp .ge 22, 3) := by decide +kernel
theorem dJ2_indexOfCharUnsafe_4cfef_9 : decode cJ2_indexOfCharUnsafe_4cfef 9 = .ok (.aload_n 0, 1) := by decide +kernel
theorem dJ2_indexOfCharUnsafe_4cfef_10 : decode cJ2_indexOfCharUnsafe_4cfef 10 = .ok (.iload 4, 2) := by decide +kernel
theorem dJ2_indexOfCharUnsafe_4cfef_12 : decode cJ2_indexOfCharUnsafe_4cfef 12 = .ok (.invokestatic 71, 3) := by decide +kernel
theorem dJ2_indexOfCharUnsafe_4cfef_15 : decode cJ2_indexOfCharUnsafe_4cfef 15 = .ok (.iload_n 1, 1) := by decide +kernel
theorem dJ2_indexOfCharUnsafe_4cfef_16 : decode cJ2_indexOfCharUnsafe_4cfef 16 = .ok (.if_icmp .ne 6, 3) := by decide +kernel
theorem dJ2_indexOfCharUnsafe_4cfef_19 : decode cJ2_indexOfCharUnsafe_4cfef 19 = .ok (.iload 4, 2) := by decide +kernel
theorem dJ2_indexOfCharUnsafe_4cfef_21 : decode cJ2_indexOfCharUnsafe_4cfef 21 = .ok (.ireturn, 1) := by decide +kernel
theorem dJ2_indexOfCharUnsafe_4cfef_22 : decode cJ2_indexOfCharUnsafe_4cfef 22 = .ok (.iinc 4 1, 3) := by decide +kernel
theorem dJ2_indexOfCharUnsafe_4cfef_25 : decode cJ2_indexOfCharUnsafe_4cfef 25 = .ok (.goto (-22), 3) := by decide +kernel
theorem dJ2_indexOfCharUnsafe_4cfef_28 : decode cJ2_indexOfCharUnsafe_4cfef 28 = .ok (.iconst (-1), 1) := by decide +kernel
theorem dJ2_indexOfCharUnsafe_4cfef_29 : decode cJ2_indexOfCharUnsafe_4cfef 29 = .ok (.ireturn, 1) := by decide +kernel
theorem dJ2_indexOfSupplementary_4cfef_0 : decode cJ2_indexOfSupplementary_4cfef 0 = .ok (.iload_n 1, 1) := by decide +kernel
theorem dJ2_indexOfSupplementary_4cfef_1 : decode cJ2_indexOfSupplementary_4cfef 1 = .ok (.invokestatic 164, 3) := by decide +kernel
theorem dJ2_indexOfSupplementary_4cfef_4 : decode cJ2_indexOfSupplementary_4cfef 4 = .ok (.ifCond .eq 65, 3) := by decide +kernel
theorem dJ2_indexOfSupplementary_4cfef_7 : decode cJ2_indexOfSupplementary_4cfef 7 = .ok (.iload_n 1, 1) := by decide +kernel
theorem dJ2_indexOfSupplementary_4cfef_8 : decode cJ2_indexOfSupplementary_4cfef 8 = .ok (.invokestatic 157, 3) := by decide +kernel
theorem dJ2_indexOfSupplementary_4cfef_11 : decode cJ2_indexOfSupplementary_4cfef 11 = .ok (.istore 4, 2) := by decide +kernel
theorem dJ2_indexOfSupplementary_4cfef_13 : decode cJ2_indexOfSupplementary_4cfef 13 = .ok (.iload_n 1, 1) := by decide +kernel
theorem dJ2_indexOfSupplementary_4cfef_14 : decode cJ2_indexOfSupplementary_4cfef 14 = .ok (.invokestatic 161, 3) := by decide +kernel
theorem dJ2_indexOfSupplementary_4cfef_17 : decode cJ2_indexOfSupplementary_4cfef 17 = .ok (.istore 5, 2) := by decide +kernel
theorem dJ2_indexOfSupplementary_4cfef_19 : decode cJ2_indexOfSupplementary_4cfef 19 = .ok (.iload_n 2, 1) := by decide +kernel
theorem dJ2_indexOfSupplementary_4cfef_20 : decode cJ2_indexOfSupplementary_4cfef 20 = .ok (.iload_n 3, 1) := by decide +kernel
theorem dJ2_indexOfSupplementary_4cfef_21 : decode cJ2_indexOfSupplementary_4cfef 21 = .ok (.aload_n 0, 1) := by decide +kernel
theorem dJ2_indexOfSupplementary_4cfef_22 : decode cJ2_indexOfSupplementary_4cfef 22 = .ok (.invokestatic 96, 3) := by decide +kernel
theorem dJ2_indexOfSupplementary_4cfef_25 : decode cJ2_indexOfSupplementary_4cfef 25 = .ok (.iload_n 2, 1) := by decide +kernel
theorem dJ2_indexOfSupplementary_4cfef_26 : decode cJ2_indexOfSupplementary_4cfef 26 = .ok (.istore 6, 2) := by decide +kernel
theorem dJ2_indexOfSupplementary_4cfef_28 : decode cJ2_indexOfSupplementary_4cfef 28 = .ok (.iload 6, 2) := by decide +kernel
theorem dJ2_indexOfSupplementary_4cfef_30 : decode cJ2_indexOfSupplementary_4cfef 30 = .ok (.iload_n 3, 1) := by decide +kernel
theorem dJ2_indexOfSupplementary_4cfef_31 : decode cJ2_indexOfSupplementary_4cfef 31 = .ok (.iconst 1, 1) := by decide +kernel
theorem dJ2_indexOfSupplementary_4cfef_32 : decode cJ2_indexOfSupplementary_4cfef 32 = .ok (.isub, 1) := by decide +kernel
theorem dJ2_indexOfSupplementary_4cfef_33 : decode cJ2_indexOfSupplementary_4cfef 33 = .ok (.if_icmp .ge 36, 3) := by decide +kernel
theorem dJ2_indexOfSupplementary_4cfef_36 : decode cJ2_indexOfSupplementary_4cfef 36 = .ok (.aload_n 0, 1) := by decide +kernel
theorem dJ2_indexOfSupplementary_4cfef_37 : decode cJ2_indexOfSupplementary_4cfef 37 = .ok (.iload 6, 2) := by decide +kernel
theorem dJ2_indexOfSupplementary_4cfef_39 : decode cJ2_indexOfSupplementary_4cfef 39 = .ok (.invokestatic 71, 3) := by decide +kernel
theorem dJ2_indexOfSupplementary_4cfef_42 : decode cJ2_indexOfSupplementary_4cfef 42 = .ok (.iload 4, 2) := by decide +kernel
theorem dJ2_indexOfSupplementary_4cfef_44 : decode cJ2_indexOfSupplementary_4cfef 44 = .ok (.if_icmp .ne 19, 3) := by decide +kernel
theorem dJ2_indexOfSupplementary_4cfef_47 : decode cJ2_indexOfSupplementary_4cfef 47 = .ok (.aload_n 0, 1) := by decide +kernel
theorem dJ2_indexOfSupplementary_4cfef_48 : decode cJ2_indexOfSupplementary_4cfef 48 = .ok (.iload 6, 2) := by decide +kernel
theorem dJ2_indexOfSupplementary_4cfef_50 : decode cJ2_indexOfSupplementary_4cfef 50 = .ok (.iconst 1, 1) := by decide +kernel
theorem dJ2_indexOfSupplementary_4cfef_51 : decode cJ2_indexOfSupplementary_4cfef 51 = .ok (.iadd, 1) := by decide +kernel
theorem dJ2_indexOfSupplementary_4cfef_52 : decode cJ2_indexOfSupplementary_4cfef 52 = .ok (.invokestatic 71, 3) := by decide +kernel
theorem dJ2_indexOfSupplementary_4cfef_55 : decode cJ2_indexOfSupplementary_4cfef 55 = .ok (.iload 5, 2) := by decide +kernel
theorem dJ2_indexOfSupplementary_4cfef_57 : decode cJ2_indexOfSupplementary_4cfef 57 = .ok (.if_icmp .ne 6, 3) := by decide +kernel
theorem dJ2_indexOfSupplementary_4cfef_60 : decode cJ2_indexOfSupplementary_4cfef 60 = .ok (.iload 6, 2) := by decide +kernel
theorem dJ2_indexOfSupplementary_4cfef_62 : decode cJ2_indexOfSupplementary_4cfef 62 = .ok (.ireturn, 1) := by decide +kernel
theorem dJ2_indexOfSupplementary_4cfef_63 : decode cJ2_indexOfSupplementary_4cfef 63 = .ok (.iinc 6 1, 3) := by decide +kernel
theorem dJ2_indexOfSupplementary_4cfef_66 : decode cJ2_indexOfSupplementary_4cfef 66 = .ok (.goto (-38), 3) := by decide +kernel
theorem dJ2_indexOfSupplementary_4cfef_69 : decode cJ2_indexOfSupplementary_4cfef 69 = .ok (.iconst (-1), 1) := by decide +kernel
theorem dJ2_indexOfSupplementary_4cfef_70 : decode cJ2_indexOfSupplementary_4cfef 70 = .ok (.ireturn, 1) := by decide +kernel
theorem dJ2_fillNull_b72d1_0 : decode cJ2_fillNull_b72d1 0 = .ok (.aload_n 0, 1) := by decide +kernel
theorem dJ2_fillNull_b72d1_1 : decode cJ2_fillNull_b72d1 1 = .ok (.iload_n 1, 1) := by decide +kernel
theorem dJ2_fillNull_b72d1_2 : decode cJ2_fillNull_b72d1 2 = .ok (.iconst 1, 1) := by decide +kernel
theorem dJ2_fillNull_b72d1_3 : decode cJ2_fillNull_b72d1 3 = .ok (.ishl, 1) := by decide +kernel
theorem dJ2_fillNull_b72d1_4 : decode cJ2_fillNull_b72d1 4 = .ok (.iload_n 2, 1) := by decide +kernel
theorem dJ2_fillNull_b72d1_5 : decode cJ2_fillNull_b72d1 5 = .ok (.iconst 1, 1) := by decide +kernel
theorem dJ2_fillNull_b72d1_6 : decode cJ2_fillNull_b72d1 6 = .ok (.ishl, 1) := by decide +kernel
theorem dJ2_fillNull_b72d1_7 : decode cJ2_fillNull_b72d1 7 = .ok (.iconst 0, 1) := by decide +kernel
theorem dJ2_fillNull_b72d1_8 : decode cJ2_fillNull_b72d1 8 = .ok (.invokestatic 380, 3) := by decide +kernel
theorem dJ2_fillNull_b72d1_11 : decode cJ2_fillNull_b72d1 11 = .ok (.return_, 1) := by decide +kernel
theorem dJ2_putCharSB_b72d1_0 : decode cJ2_putCharSB_b72d1 0 = .ok (.iload_n 1, 1) := by decide +kernel
theorem dJ2_putCharSB_b72d1_1 : decode cJ2_putCharSB_b72d1 1 = .ok (.aload_n 0, 1) := by decide +kernel
theorem dJ2_putCharSB_b72d1_2 : decode cJ2_putCharSB_b72d1 2 = .ok (.invokestatic 67, 3) := by decide +kernel
theorem dJ2_putCharSB_b72d1_5 : decode cJ2_putCharSB_b72d1 5 = .ok (.aload_n 0, 1) := by decide +kernel
theorem dJ2_putCharSB_b72d1_6 : decode cJ2_putCharSB_b72d1 6 = .ok (.iload_n 1, 1) := by decide +kernel
theorem dJ2_putCharSB_b72d1_7 : decode cJ2_putCharSB_b72d1 7 = .ok (.iload_n 2, 1) := by decide +kernel
theorem dJ2_putCharSB_b72d1_8 : decode cJ2_putCharSB_b72d1 8 = .ok (.invokestatic 111, 3) := by decide +kernel
theorem dJ2_putCharSB_b72d1_11 : decode cJ2_putCharSB_b72d1 11 = .ok (.return_, 1) := by decide +kernel
theorem dJ2_getChars_46870_0 : decode cJ2_getChars_46870 0 = .ok (.iload_n 1, 1) := by decide +kernel
theorem dJ2_getChars_46870_1 : decode cJ2_getChars_46870 1 = .ok (.iload_n 2, 1) := by decide +kernel
theorem dJ2_getChars_46870_2 : decode cJ2_getChars_46870 2 = .ok (.aload_n 3, 1) := by decide +kernel
theorem dJ2_getChars_46870_3 : decode cJ2_getChars_46870 3 = .ok (.invokestatic 96, 3) := by decide +kernel
theorem dJ2_getChars_46870_6 : decode cJ2_getChars_46870 6 = .ok (.iload_n 0, 1) := by decide +kernel
theorem dJ2_getChars_46870_7 : decode cJ2_getChars_46870 7 = .ok (.iload_n 2, 1) := by decide +kernel
theorem dJ2_getChars_46870_8 : decode cJ2_getChars_46870 8 = .ok (.aload_n 3, 1) := by decide +kernel
theorem dJ2_getChars_46870_9 : decode cJ2_getChars_46870 9 = .ok (.invokestatic 393, 3) := by decide +kernel
theorem dJ2_getChars_46870_12 : decode cJ2_getChars_46870 12 = .ok (.istore 4, 2) := by decide +kernel
theorem dJ2_getChars_46870_14 : decode cJ2_getChars_46870 14 = .ok (.getstatic 44, 3) := by decide +kernel
theorem dJ2_getChars_46870_17 : decode cJ2_getChars_46870 17 = .ok (.ifCond .ne 17, 3) := by decide +kernel
theorem dJ2_getChars_46870_20 : decode cJ2_getChars_46870 20 = .ok (.iload_n 1, 1) := by decide +kernel
theorem dJ2_getChars_46870_21 : decode cJ2_getChars_46870 21 = .ok (.iload 4, 2) := by decide +kernel
theorem dJ2_getChars_46870_23 : decode cJ2_getChars_46870 23 = .ok (.if_icmp .eq 11, 3) := by decide +kernel
theorem dJ2_getChars_46870_26 : decode cJ2_getChars_46870 26 = .ok (.new 52, 3) := by decide +kernel
theorem dJ2_getChars_46870_29 : decode cJ2_getChars_46870 29 = .ok (.dup, 1) := by decide +kernel
theorem dJ2_getChars_46870_30 : decode cJ2_getChars_46870 30 = .ok (.invokespecial 66, 3) := by decide +kernel
theorem dJ2_getChars_46870_33 : decode cJ2_getChars_46870 33 = .ok (.athrow, 1) := by decide +kernel
theorem dJ2_getChars_46870_34 : decode cJ2_getChars_46870 34 = .ok (.iload 4, 2) := by decide +kernel
theorem dJ2_getChars_46870_36 : decode cJ2_getChars_46870 36 = .ok (.ireturn, 1) := by decide +kernel
theorem dJ2_putCharsAt_cd4e5_0 : decode cJ2_putCharsAt_cd4e5 0 = .ok (.iload_n 1, 1) := by decide +kernel
theorem dJ2_putCharsAt_cd4e5_1 : decode cJ2_putCharsAt_cd4e5 1 = .ok (.iconst 4, 1) := by decide +kernel
theorem dJ2_putCharsAt_cd4e5_2 : decode cJ2_putCharsAt_cd4e5 2 = .ok (.iadd, 1) := by decide +kernel
theorem dJ2_putCharsAt_cd4e5_3 : decode cJ2_putCharsAt_cd4e5 3 = .ok (.istore 6, 2) := by decide +kernel
theorem dJ2_putCharsAt_cd4e5_5 : decode cJ2_putCharsAt_cd4e5 5 = .ok (.iload_n 1, 1) := by decide +kernel
theorem dJ2_putCharsAt_cd4e5_6 : decode cJ2_putCharsAt_cd4e5 6 = .ok (.iload 6, 2) := by decide +kernel
theorem dJ2_putCharsAt_cd4e5_8 : decode cJ2_putCharsAt_cd4e5 8 = .ok (.aload_n 0, 1) := by decide +kernel
theorem dJ2_putCharsAt_cd4e5_9 : decode cJ2_putCharsAt_cd4e5 9 = .ok (.invokestatic 96, 3) := by decide +kernel
theorem dJ2_putCharsAt_cd4e5_12 : decode cJ2_putCharsAt_cd4e5 12 = .ok (.aload_n 0, 1) := by decide +kernel
theorem dJ2_putCharsAt_cd4e5_13 : decode cJ2_putCharsAt_cd4e5 13 = .ok (.iload_n 1, 1) := by decide +kernel
theorem dJ2_putCharsAt_cd4e5_14 : decode cJ2_putCharsAt_cd4e5 14 = .ok (.iinc 1 1, 3) := by decide +kernel
theorem dJ2_putCharsAt_cd4e5_17 : decode cJ2_putCharsAt_cd4e5 17 = .ok (.iload_n 2, 1) := by decide +kernel
theorem dJ2_putCharsAt_cd4e5_18 : decode cJ2_putCharsAt_cd4e5 18 = .ok (.invokestatic 111, 3) := by decide +kernel
theorem dJ2_putCharsAt_cd4e5_21 : decode cJ2_putCharsAt_cd4e5 21 = .ok (.aload_n 0, 1) := by decide +kernel
theorem dJ2_putCharsAt_cd4e5_22 : decode cJ2_putCharsAt_cd4e5 22 = .ok (.iload_n 1, 1) := by decide +kernel
theorem dJ2_putCharsAt_cd4e5_23 : decode cJ2_putCharsAt_cd4e5 23 = .ok (.iinc 1 1, 3) := by decide +kernel
theorem dJ2_putCharsAt_cd4e5_26 : decode cJ2_putCharsAt_cd4e5 26 = .ok (.iload_n 3, 1) := by decide +kernel
theorem dJ2_putCharsAt_cd4e5_27 : decode cJ2_putCharsAt_cd4e5 27 = .ok (.invokestatic 111, 3) := by decide +kernel
theorem dJ2_putCharsAt_cd4e5_30 : decode cJ2_putCharsAt_cd4e5 30 = .ok (.aload_n 0, 1) := by decide +kernel
theorem dJ2_putCharsAt_cd4e5_31 : decode cJ2_putCharsAt_cd4e5 31 = .ok (.iload_n 1, 1) := by decide +kernel
theorem dJ2_putCharsAt_cd4e5_32 : decode cJ2_putCharsAt_cd4e5 32 = .ok (.iinc 1 1, 3) := by decide +kernel
theorem dJ2_putCharsAt_cd4e5_35 : decode cJ2_putCharsAt_cd4e5 35 = .ok (.iload 4, 2) := by decide +kernel
theorem dJ2_putCharsAt_cd4e5_37 : decode cJ2_putCharsAt_cd4e5 37 = .ok (.invokestatic 111, 3) := by decide +kernel
theorem dJ2_putCharsAt_cd4e5_40 : decode cJ2_putCharsAt_cd4e5 40 = .ok (.aload_n 0, 1) := by decide +kernel
theorem dJ2_putCharsAt_cd4e5_41 : decode cJ2_putCharsAt_cd4e5 41 = .ok (.iload_n 1, 1) := by decide +kernel
theorem dJ2_putCharsAt_cd4e5_42 : decode cJ2_putCharsAt_cd4e5 42 = .ok (.iinc 1 1, 3) := by decide +kernel
theorem dJ2_putCharsAt_cd4e5_45 : decode cJ2_putCharsAt_cd4e5 45 = .ok (.iload 5, 2) := by decide +kernel
theorem dJ2_putCharsAt_cd4e5_47 : decode cJ2_putCharsAt_cd4e5 47 = .ok (.invokestatic 111, 3) := by decide +kernel
theorem dJ2_putCharsAt_cd4e5_50 : decode cJ2_putCharsAt_cd4e5 50 = .ok (.getstatic 44, 3) := by decide +kernel
theorem dJ2_putCharsAt_cd4e5_53 : decode cJ2_putCharsAt_cd4e5 53 = .ok (.ifCond .ne 17, 3) := by decide +kernel
theorem dJ2_putCharsAt_cd4e5_56 : decode cJ2_putCharsAt_cd4e5 56 = .ok (.iload_n 1, 1) := by decide +kernel
theorem dJ2_putCharsAt_cd4e5_57 : decode cJ2_putCharsAt_cd4e5 57 = .ok (.iload 6, 2) := by decide +kernel
theorem dJ2_putCharsAt_cd4e5_59 : decode cJ2_putCharsAt_cd4e5 59 = .ok (.if_icmp .eq 11, 3) := by decide +kernel
theorem dJ2_putCharsAt_cd4e5_62 : decode cJ2_putCharsAt_cd4e5 62 = .ok (.new 52, 3) := by decide +kernel
theorem dJ2_putCharsAt_cd4e5_65 : decode cJ2_putCharsAt_cd4e5 65 = .ok (.dup, 1) := by decide +kernel
theorem dJ2_putCharsAt_cd4e5_66 : decode cJ2_putCharsAt_cd4e5 66 = .ok (.invokespecial 66, 3) := by decide +kernel
theorem dJ2_putCharsAt_cd4e5_69 : decode cJ2_putCharsAt_cd4e5 69 = .ok (.athrow, 1) := by decide +kernel
theorem dJ2_putCharsAt_cd4e5_70 : decode cJ2_putCharsAt_cd4e5 70 = .ok (.iload 6, 2) := by decide +kernel
theorem dJ2_putCharsAt_cd4e5_72 : decode cJ2_putCharsAt_cd4e5 72 = .ok (.ireturn, 1) := by decide +kernel
theorem dJ2_charAt_3b067_0 : decode cJ2_charAt_3b067 0 = .ok (.iload_n 1, 1) := by decide +kernel
theorem dJ2_charAt_3b067_1 : decode cJ2_charAt_3b067 1 = .ok (.aload_n 0, 1) := by decide +kernel
theorem dJ2_charAt_3b067_2 : decode cJ2_charAt_3b067 2 = .ok (.invokestatic 67, 3) := by decide +kernel
theorem dJ2_charAt_3b067_5 : decode cJ2_charAt_3b067 5 = .ok (.aload_n 0, 1) := by decide +kernel
theorem dJ2_charAt_3b067_6 : decode cJ2_charAt_3b067 6 = .ok (.iload_n 1, 1) := by decide +kernel
theorem dJ2_charAt_3b067_7 : decode cJ2_charAt_3b067 7 = .ok (.invokestatic 71, 3) := by decide +kernel
theorem dJ2_charAt_3b067_10 : decode cJ2_charAt_3b067 10 = .ok (.ireturn, 1) := by decide +kernel
theorem dJ2_inflate_0e8fd_0 : decode cJ2_inflate_0e8fd 0 = .ok (.iload_n 3, 1) := by decide +kernel
theorem dJ2_inflate_0e8fd_1 : decode cJ2_inflate_0e8fd 1 = .ok (.iload 4, 2) := by decide +kernel
theorem dJ2_inflate_0e8fd_3 : decode cJ2_inflate_0e8fd 3 = .ok (.aload_n 2, 1) := by decide +kernel
theorem dJ2_inflate_0e8fd_4 : decode cJ2_inflate_0e8fd 4 = .ok (.invokestatic 173, 3) := by decide +kernel
theorem dJ2_inflate_0e8fd_7 : decode cJ2_inflate_0e8fd 7 = .ok (.iconst 0, 1) := by decide +kernel
theorem dJ2_inflate_0e8fd_8 : decode cJ2_inflate_0e8fd 8 = .ok (.istore 5, 2) := by decide +kernel
theorem dJ2_inflate_0e8fd_10 : decode cJ2_inflate_0e8fd 10 = .ok (.iload 5, 2) := by decide +kernel
theorem dJ2_inflate_0e8fd_12 : decode cJ2_inflate_0e8fd 12 = .ok (.iload 4, 2) := by decide +kernel
theorem dJ2_inflate_0e8fd_14 : decode cJ2_inflate_0e8fd 14 = .ok (.if_icmp .ge 27, 3) := by decide +kernel
theorem dJ2_inflate_0e8fd_17 : decode cJ2_inflate_0e8fd 17 = .ok (.aload_n 2, 1) := by decide +kernel
theorem dJ2_inflate_0e8fd_18 : decode cJ2_inflate_0e8fd 18 = .ok (.iload_n 3, 1) := by decide +kernel
theorem dJ2_inflate_0e8fd_19 : decode cJ2_inflate_0e8fd 19 = .ok (.iinc 3 1, 3) := by decide +kernel
theorem dJ2_inflate_0e8fd_22 : decode cJ2_inflate_0e8fd 22 = .ok (.aload_n 0, 1) := by decide +kernel
theorem dJ2_inflate_0e8fd_23 : decode cJ2_inflate_0e8fd 23 = .ok (.iload_n 1, 1) := by decide +kernel
theorem dJ2_inflate_0e8fd_24 : decode cJ2_inflate_0e8fd 24 = .ok (.iinc 1 1, 3) := by decide +kernel
theorem dJ2_inflate_0e8fd_27 : decode cJ2_inflate_0e8fd 27 = .ok (.baload, 1) := by decide +kernel
theorem dJ2_inflate_0e8fd_28 : decode cJ2_inflate_0e8fd 28 = .ok (.sipush 255, 3) := by decide +kernel
theorem dJ2_inflate_0e8fd_31 : decode cJ2_inflate_0e8fd 31 = .ok (.iand, 1) := by decide +kernel
theorem dJ2_inflate_0e8fd_32 : decode cJ2_inflate_0e8fd 32 = .ok (.invokestatic 111, 3) := by decide +kernel
theorem dJ2_inflate_0e8fd_35 : decode cJ2_inflate_0e8fd 35 = .ok (.iinc 5 1, 3) := by decide +kernel
theorem dJ2_inflate_0e8fd_38 : decode cJ2_inflate_0e8fd 38 = .ok (.goto (-28), 3) := by decide +kernel
theorem dJ2_inflate_0e8fd_41 : decode cJ2_inflate_0e8fd 41 = .ok (.return_, 1) := by decide +kernel
theorem dJ2_getChars_ba4f3_0 : decode cJ2_getChars_ba4f3 0 = .ok (.iload_n 1, 1) := by decide +kernel
theorem dJ2_getChars_ba4f3_1 : decode cJ2_getChars_ba4f3 1 = .ok (.istore 5, 2) := by decide +kernel
theorem dJ2_getChars_ba4f3_3 : decode cJ2_getChars_ba4f3 3 = .ok (.iload_n 0, 1) := by decide +kernel
theorem dJ2_getChars_ba4f3_4 : decode cJ2_getChars_ba4f3 4 = .ok (.ifCond .ge 7, 3) := by decide +kernel
theorem dJ2_getChars_ba4f3_7 : decode cJ2_getChars_ba4f3 7 = .ok (.iconst 1, 1) := by decide +kernel
theorem dJ2_getChars_ba4f3_8 : decode cJ2_getChars_ba4f3 8 = .ok (.goto 4, 3) := by decide +kernel
theorem dJ2_getChars_ba4f3_11 : decode cJ2_getChars_ba4f3 11 = .ok (.iconst 0, 1) := by decide +kernel
theorem dJ2_getChars_ba4f3_12 : decode cJ2_getChars_ba4f3 12 = .ok (.istore 6, 2) := by decide +kernel
theorem dJ2_getChars_ba4f3_14 : decode cJ2_getChars_ba4f3 14 = .ok (.iload 6, 2) := by decide +kernel
theorem dJ2_getChars_ba4f3_16 : decode cJ2_getChars_ba4f3 16 = .ok (.ifCond .ne 6, 3) := by decide +kernel
theorem dJ2_getChars_ba4f3_19 : decode cJ2_getChars_ba4f3 19 = .ok (.iload_n 0, 1) := by decide +kernel
theorem dJ2_getChars_ba4f3_20 : decode cJ2_getChars_ba4f3 20 = .ok (.ineg, 1) := by decide +kernel
theorem dJ2_getChars_ba4f3_21 : decode cJ2_getChars_ba4f3 21 = .ok (.istore_n 0, 1) := by decide +kernel
theorem dJ2_getChars_ba4f3_22 : decode cJ2_getChars_ba4f3 22 = .ok (.iload_n 0, 1) := by decide +kernel
theorem dJ2_getChars_ba4f3_23 : decode cJ2_getChars_ba4f3 23 = .ok (.bipush (-100), 2) := by decide +kernel
theorem dJ2_getChars_ba4f3_25 : decode cJ2_getChars_ba4f3 25 = .ok (.if_icmp .gt 51, 3) := by decide +kernel
theorem dJ2_getChars_ba4f3_28 : decode cJ2_getChars_ba4f3 28 = .ok (.iload_n 0, 1) := by decide +kernel
theorem dJ2_getChars_ba4f3_29 : decode cJ2_getChars_ba4f3 29 = .ok (.bipush 100, 2) := by decide +kernel
theorem dJ2_getChars_ba4f3_31 : decode cJ2_getChars_ba4f3 31 = .ok (.idiv, 1) := by decide +kernel
theorem dJ2_getChars_ba4f3_32 : decode cJ2_getChars_ba4f3 32 = .ok (.istore_n 3, 1) := by decide +kernel
theorem dJ2_getChars_ba4f3_33 : decode cJ2_getChars_ba4f3 33 = .ok (.iload_n 3, 1) := by decide +kernel
theorem dJ2_getChars_ba4f3_34 : decode cJ2_getChars_ba4f3 34 = .ok (.bipush 100, 2) := by decide +kernel
theorem dJ2_getChars_ba4f3_36 : decode cJ2_getChars_ba4f3 36 = .ok (.imul, 1) := by decide +kernel
theorem dJ2_getChars_ba4f3_37 : decode cJ2_getChars_ba4f3 37 = .ok (.iload_n 0, 1) := by decide +kernel
theorem dJ2_getChars_ba4f3_38 : decode cJ2_getChars_ba4f3 38 = .ok (.isub, 1) := by decide +kernel
theorem dJ2_getChars_ba4f3_39 : decode cJ2_getChars_ba4f3 39 = .ok (.istore 4, 2) := by decide +kernel
theorem dJ2_getChars_ba4f3_41 : decode cJ2_getChars_ba4f3 41 = .ok (.iload_n 3, 1) := by decide +kernel
theorem dJ2_getChars_ba4f3_42 : decode cJ2_getChars_ba4f3 42 = .ok (.istore_n 0, 1) := by decide +kernel
theorem dJ2_getChars_ba4f3_43 : decode cJ2_getChars_ba4f3 43 = .ok (.aload_n 2, 1) := by decide +kernel
theorem dJ2_getChars_ba4f3_44 : decode cJ2_getChars_ba4f3 44 = .ok (.iinc 5 (-1), 3) := by decide +kernel
theorem dJ2_getChars_ba4f3_47 : decode cJ2_getChars_ba4f3 47 = .ok (.iload 5, 2) := by decide +kernel
theorem dJ2_getChars_ba4f3_49 : decode cJ2_getChars_ba4f3 49 = .ok (.getstatic 403, 3) := by decide +kernel
theorem dJ2_getChars_ba4f3_52 : decode cJ2_getChars_ba4f3 52 = .ok (.iload 4, 2) := by decide +kernel
theorem dJ2_getChars_ba4f3_54 : decode cJ2_getChars_ba4f3 54 = .ok (.baload, 1) := by decide +kernel
theorem dJ2_getChars_ba4f3_55 : decode cJ2_getChars_ba4f3 55 = .ok (.invokestatic 111, 3) := by decide +kernel
theorem dJ2_getChars_ba4f3_58 : decode cJ2_getChars_ba4f3 58 = .ok (.aload_n 2, 1) := by decide +kernel
theorem dJ2_getChars_ba4f3_59 : decode cJ2_getChars_ba4f3 59 = .ok (.iinc 5 (-1), 3) := by decide +kernel
theorem dJ2_getChars_ba4f3_62 : decode cJ2_getChars_ba4f3 62 = .ok (.iload 5, 2) := by decide +kernel
theorem dJ2_getChars_ba4f3_64 : decode cJ2_getChars_ba4f3 64 = .ok (.getstatic 407, 3) := by decide +kernel
theorem dJ2_getChars_ba4f3_67 : decode cJ2_getChars_ba4f3 67 = .ok (.iload 4, 2) := by decide +kernel
theorem dJ2_getChars_ba4f3_69 : decode cJ2_getChars_ba4f3 69 = .ok (.baload, 1) := by decide +kernel
theorem dJ2_getChars_ba4f3_70 : decode cJ2_getChars_ba4f3 70 = .ok (.invokestatic 111, 3) := by decide +kernel
theorem dJ2_getChars_ba4f3_73 : decode cJ2_getChars_ba4f3 73 = .ok (.goto (-51), 3) := by decide +kernel
theorem dJ2_getChars_ba4f3_76 : decode cJ2_getChars_ba4f3 76 = .ok (.aload_n 2, 1) := by decide +kernel
theorem dJ2_getChars_ba4f3_77 : decode cJ2_getChars_ba4f3 77 = .ok (.iinc 5 (-1), 3) := by decide +kernel
theorem dJ2_getChars_ba4f3_80 : decode cJ2_getChars_ba4f3 80 = .ok (.iload 5, 2) := by decide +kernel
theorem dJ2_getChars_ba4f3_82 : decode cJ2_getChars_ba4f3 82 = .ok (.getstatic 403, 3) := by decide +kernel
theorem dJ2_getChars_ba4f3_85 : decode cJ2_getChars_ba4f3 85 = .ok (.iload_n 0, 1) := by decide +kernel
theorem dJ2_getChars_ba4f3_86 : decode cJ2_getChars_ba4f3 86 = .ok (.ineg, 1) := by decide +kernel
theorem dJ2_getChars_ba4f3_87 : decode cJ2_getChars_ba4f3 87 = .ok (.baload, 1) := by decide +kernel
theorem dJ2_getChars_ba4f3_88 : decode cJ2_getChars_ba4f3 88 = .ok (.invokestatic 111, 3) := by decide +kernel
theorem dJ2_getChars_ba4f3_91 : decode cJ2_getChars_ba4f3 91 = .ok (.iload_n 0, 1) := by decide +kernel
theorem dJ2_getChars_ba4f3_92 : decode cJ2_getChars_ba4f3 92 = .ok (.bipush (-9), 2) := by decide +kernel
theorem dJ2_getChars_ba4f3_94 : decode cJ2_getChars_ba4f3 94 = .ok (.if_icmp .ge 18, 3) := by decide +kernel
theorem dJ2_getChars_ba4f3_97 : decode cJ2_getChars_ba4f3 97 = .ok (.aload_n 2, 1) := by decide +kernel
theorem dJ2_getChars_ba4f3_98 : decode cJ2_getChars_ba4f3 98 = .ok (.iinc 5 (-1), 3) := by decide +kernel
theorem dJ2_getChars_ba4f3_101 : decode cJ2_getChars_ba4f3 101 = .ok (.iload 5, 2) := by decide +kernel
theorem dJ2_getChars_ba4f3_103 : decode cJ2_getChars_ba4f3 103 = .ok (.getstatic 407, 3) := by decide +kernel
theorem dJ2_getChars_ba4f3_106 : decode cJ2_getChars_ba4f3 106 = .ok (.iload_n 0, 1) := by decide +kernel
theorem dJ2_getChars_ba4f3_107 : decode cJ2_getChars_ba4f3 107 = .ok (.ineg, 1) := by decide +kernel
theorem dJ2_getChars_ba4f3_108 : decode cJ2_getChars_ba4f3 108 = .ok (.baload, 1) := by decide +kernel
theorem dJ2_getChars_ba4f3_109 : decode cJ2_getChars_ba4f3 109 = .ok (.invokestatic 111, 3) := by decide +kernel
theorem dJ2_getChars_ba4f3_112 : decode cJ2_getChars_ba4f3 112 = .ok (.iload 6, 2) := by decide +kernel
theorem dJ2_getChars_ba4f3_114 : decode cJ2_getChars_ba4f3 114 = .ok (.ifCond .eq 14, 3) := by decide +kernel
theorem dJ2_getChars_ba4f3_117 : decode cJ2_getChars_ba4f3 117 = .ok (.aload_n 2, 1) := by decide +kernel
theorem dJ2_getChars_ba4f3_118 : decode cJ2_getChars_ba4f3 118 = .ok (.iinc 5 (-1), 3) := by decide +kernel
theorem dJ2_getChars_ba4f3_121 : decode cJ2_getChars_ba4f3 121 = .ok (.iload 5, 2) := by decide +kernel
theorem dJ2_getChars_ba4f3_123 : decode cJ2_getChars_ba4f3 123 = .ok (.bipush 45, 2) := by decide +kernel
theorem dJ2_getChars_ba4f3_125 : decode cJ2_getChars_ba4f3 125 = .ok (.invokestatic 111, 3) := by decide +kernel
theorem dJ2_getChars_ba4f3_128 : decode cJ2_getChars_ba4f3 128 = .ok (.iload 5, 2) := by decide +kernel
theorem dJ2_getChars_ba4f3_130 : decode cJ2_getChars_ba4f3 130 = .ok (.ireturn, 1) := by decide +kernel
theorem dJ2_checkIndex_2214a_0 : decode cJ2_checkIndex_2214a 0 = .ok (.iload_n 0, 1) := by decide +kernel
theorem dJ2_checkIndex_2214a_1 : decode cJ2_checkIndex_2214a 1 = .ok (.aload_n 1, 1) := by decide +kernel
theorem dJ2_checkIndex_2214a_2 : decode cJ2_checkIndex_2214a 2 = .ok (.invokestatic 48, 3) := by decide +kernel
theorem dJ2_checkIndex_2214a_5 : decode cJ2_checkIndex_2214a 5 = .ok (.invokestatic 414, 3) := by decide +kernel
theorem dJ2_checkIndex_2214a_8 : decode cJ2_checkIndex_2214a 8 = .ok (.return_, 1) := by decide +kernel
theorem dJ2_checkBoundsBeginEnd_d044e_0 : decode cJ2_checkBoundsBeginEnd_d044e 0 = .ok (.iload_n 0, 1) := by decide +kernel
theorem dJ2_checkBoundsBeginEnd_d044e_1 : decode cJ2_checkBoundsBeginEnd_d044e 1 = .ok (.iload_n 1, 1) := by decide +kernel
theorem dJ2_checkBoundsBeginEnd_d044e_2 : decode cJ2_checkBoundsBeginEnd_d044e 2 = .ok (.aload_n 2, 1) := by decide +kernel
theorem dJ2_checkBoundsBeginEnd_d044e_3 : decode cJ2_checkBoundsBeginEnd_d044e 3 = .ok (.invokestatic 48, 3) := by decide +kernel
theorem dJ2_checkBoundsBeginEnd_d044e_6 : decode cJ2_checkBoundsBeginEnd_d044e 6 = .ok (.invokestatic 241, 3) := by decide +kernel
theorem dJ2_checkBoundsBeginEnd_d044e_9 : decode cJ2_checkBoundsBeginEnd_d044e 9 = .ok (.return_, 1) := by decide +kernel
theorem dJ2_checkBoundsOffCount_d044e_0 : decode cJ2_checkBoundsOffCount_d044e 0 = .ok (.iload_n 0, 1) := by decide +kernel
theorem dJ2_checkBoundsOffCount_d044e_1 : decode cJ2_checkBoundsOffCount_d044e 1 = .ok (.iload_n 1, 1) := by decide +kernel
theorem dJ2_checkBoundsOffCount_d044e_2 : decode cJ2_checkBoundsOffCount_d044e 2 = .ok (.aload_n 2, 1) := by decide +kernel
theorem dJ2_checkBoundsOffCount_d044e_3 : decode cJ2_checkBoundsOffCount_d044e 3 = .ok (.invokestatic 48, 3) := by decide +kernel
theorem dJ2_checkBoundsOffCount_d044e_6 : decode cJ2_checkBoundsOffCount_d044e 6 = .ok (.invokestatic 419, 3) := by decide +kernel
theorem dJ2_checkBoundsOffCount_d044e_9 : decode cJ2_checkBoundsOffCount_d044e 9 = .ok (.pop, 1) := by decide +kernel
theorem dJ2_checkBoundsOffCount_d044e_10 : decode cJ2_checkBoundsOffCount_d044e 10 = .ok (.return_, 1) := by decide +kernel
theorem dJ7_rangeCheck_23922_0 : decode cJ7_rangeCheck_23922 0 = .ok (.iload_n 1, 1) := by decide +kernel
theorem dJ7_rangeCheck_23922_1 : decode cJ7_rangeCheck_23922 1 = .ok (.iload_n 2, 1) := by decide +kernel
theorem dJ7_rangeCheck_23922_2 : decode cJ7_rangeCheck_23922 2 = .ok (.if_icmp .le 44, 3) := by decide +kernel
theorem dJ7_rangeCheck_23922_5 : decode cJ7_rangeCheck_23922 5 = .ok (.new 43, 3) := by decide +kernel
theorem dJ7_rangeCheck_23922_8 : decode cJ7_rangeCheck_23922 8 = .ok (.dup, 1) := by decide +kernel
theorem dJ7_rangeCheck_23922_9 : decode cJ7_rangeCheck_23922 9 = .ok (.new 45, 3) := by decide +kernel
theorem dJ7_rangeCheck_23922_12 : decode cJ7_rangeCheck_23922 12 = .ok (.dup, 1) := by decide +kernel
theorem dJ7_rangeCheck_23922_13 : decode cJ7_rangeCheck_23922 13 = .ok (.invokespecial 47, 3) := by decide +kernel
theorem dJ7_rangeCheck_23922_16 : decode cJ7_rangeCheck_23922 16 = .ok (.ldc 48, 2) := by decide +kernel
theorem dJ7_rangeCheck_23922_18 : decode cJ7_rangeCheck_23922 18 = .ok (.invokevirtual 50, 3) := by decide +kernel
theorem dJ7_rangeCheck_23922_21 : decode cJ7_rangeCheck_23922 21 = .ok (.iload_n 1, 1) := by decide +kernel
theorem dJ7_rangeCheck_23922_22 : decode cJ7_rangeCheck_23922 22 = .ok (.invokevirtual 54, 3) := by decide +kernel
theorem dJ7_rangeCheck_23922_25 : decode cJ7_rangeCheck_23922 25 = .ok (.ldc 57, 2) := by decide +kernel
theorem dJ7_rangeCheck_23922_27 : decode cJ7_rangeCheck_23922 27 = .ok (.invokevirtual 50, 3) := by decide +kernel
theorem dJ7_rangeCheck_23922_30 : decode cJ7_rangeCheck_23922 30 = .ok (.iload_n 2, 1) := by decide +kernel
theorem dJ7_rangeCheck_23922_31 : decode cJ7_rangeCheck_23922 31 = .ok (.invokevirtual 54, 3) := by decide +kernel
theorem dJ7_rangeCheck_23922_34 : decode cJ7_rangeCheck_23922 34 = .ok (.ldc 59, 2) := by decide +kernel
theorem dJ7_rangeCheck_23922_36 : decode cJ7_rangeCheck_23922 36 = .ok (.invokevirtual 50, 3) := by decide +kernel
theorem dJ7_rangeCheck_23922_39 : decode cJ7_rangeCheck_23922 39 = .ok (.invokevirtual 61, 3) := by decide +kernel
theorem dJ7_rangeCheck_23922_42 : decode cJ7_rangeCheck_23922 42 = .ok (.invokespecial 65, 3) := by decide +kernel
theorem dJ7_rangeCheck_23922_45 : decode cJ7_rangeCheck_23922 45 = .ok (.athrow, 1) := by decide +kernel
theorem dJ7_rangeCheck_23922_46 : decode cJ7_rangeCheck_23922 46 = .ok (.iload_n 1, 1) := by decide +kernel
theorem dJ7_rangeCheck_23922_47 : decode cJ7_rangeCheck_23922 47 = .ok (.ifCond .ge 12, 3) := by decide +kernel
theorem dJ7_rangeCheck_23922_50 : decode cJ7_rangeCheck_23922 50 = .ok (.new 68, 3) := by decide +kernel
theorem dJ7_rangeCheck_23922_53 : decode cJ7_rangeCheck_23922 53 = .ok (.dup, 1) := by decide +kernel
theorem dJ7_rangeCheck_23922_54 : decode cJ7_rangeCheck_23922 54 = .ok (.iload_n 1, 1) := by decide +kernel
theorem dJ7_rangeCheck_23922_55 : decode cJ7_rangeCheck_23922 55 = .ok (.invokespecial 70, 3) := by decide +kernel
theorem dJ7_rangeCheck_23922_58 : decode cJ7_rangeCheck_23922 58 = .ok (.athrow, 1) := by decide +kernel
theorem dJ7_rangeCheck_23922_59 : decode cJ7_rangeCheck_23922 59 = .ok (.iload_n 2, 1) := by decide +kernel
theorem dJ7_rangeCheck_23922_60 : decode cJ7_rangeCheck_23922 60 = .ok (.iload_n 0, 1) := by decide +kernel
theorem dJ7_rangeCheck_23922_61 : decode cJ7_rangeCheck_23922 61 = .ok (.if_icmp .le 12, 3) := by decide +kernel
theorem dJ7_rangeCheck_23922_64 : decode cJ7_rangeCheck_23922 64 = .ok (.new 68, 3) := by decide +kernel
theorem dJ7_rangeCheck_23922_67 : decode cJ7_rangeCheck_23922 67 = .ok (.dup, 1) := by decide +kernel
theorem dJ7_rangeCheck_23922_68 : decode cJ7_rangeCheck_23922 68 = .ok (.iload_n 2, 1) := by decide +kernel
theorem dJ7_rangeCheck_23922_69 : decode cJ7_rangeCheck_23922 69 = .ok (.invokespecial 70, 3) := by decide +kernel
theorem dJ7_rangeCheck_23922_72 : decode cJ7_rangeCheck_23922 72 = .ok (.athrow, 1) := by decide +kernel
theorem dJ7_rangeCheck_23922_73 : decode cJ7_rangeCheck_23922 73 = .ok (.return_, 1) := by decide +kernel
theorem dJ7_fill_eb02e_0 : decode cJ7_fill_eb02e 0 = .ok (.aload_n 0, 1) := by decide +kernel
theorem dJ7_fill_eb02e_1 : decode cJ7_fill_eb02e 1 = .ok (.arraylength, 1) := by decide +kernel
theorem dJ7_fill_eb02e_2 : decode cJ7_fill_eb02e 2 = .ok (.iload_n 1, 1) := by decide +kernel
theorem dJ7_fill_eb02e_3 : decode cJ7_fill_eb02e 3 = .ok (.iload_n 2, 1) := by decide +kernel
theorem dJ7_fill_eb02e_4 : decode cJ7_fill_eb02e 4 = .ok (.invokestatic 13, 3) := by decide +kernel
theorem dJ7_fill_eb02e_7 : decode cJ7_fill_eb02e 7 = .ok (.iload_n 1, 1) := by decide +kernel
theorem dJ7_fill_eb02e_8 : decode cJ7_fill_eb02e 8 = .ok (.istore 4, 2) := by decide +kernel
theorem dJ7_fill_eb02e_10 : decode cJ7_fill_eb02e 10 = .ok (.iload 4, 2) := by decide +kernel
theorem dJ7_fill_eb02e_12 : decode cJ7_fill_eb02e 12 = .ok (.iload_n 2, 1) := by decide +kernel
theorem dJ7_fill_eb02e_13 : decode cJ7_fill_eb02e 13 = .ok (.if_icmp .ge 14, 3) := by decide +kernel
theorem dJ7_fill_eb02e_16 : decode cJ7_fill_eb02e 16 = .ok (.aload_n 0, 1) := by decide +kernel
theorem dJ7_fill_eb02e_17 : decode cJ7_fill_eb02e 17 = .ok (.iload 4, 2) := by decide +kernel
theorem dJ7_fill_eb02e_19 : decode cJ7_fill_eb02e 19 = .ok (.iload_n 3, 1) := by decide +kernel
theorem dJ7_fill_eb02e_20 : decode cJ7_fill_eb02e 20 = .ok (.bastore, 1) := by decide +kernel
theorem dJ7_fill_eb02e_21 : decode cJ7_fill_eb02e 21 = .ok (.iinc 4 1, 3) := by decide +kernel
theorem dJ7_fill_eb02e_24 : decode cJ7_fill_eb02e 24 = .ok (.goto (-14), 3) := by decide +kernel
theorem dJ7_fill_eb02e_27 : decode cJ7_fill_eb02e 27 = .ok (.return_, 1) := by decide +kernel
theorem dJ7_copyOf_9075b_0 : decode cJ7_copyOf_9075b 0 = .ok (.iload_n 1, 1) := by decide +kernel
theorem dJ7_copyOf_9075b_1 : decode cJ7_copyOf_9075b 1 = .ok (.aload_n 0, 1) := by decide +kernel
theorem dJ7_copyOf_9075b_2 : decode cJ7_copyOf_9075b 2 = .ok (.arraylength, 1) := by decide +kernel
theorem dJ7_copyOf_9075b_3 : decode cJ7_copyOf_9075b 3 = .ok (.if_icmp .ne 11, 3) := by decide +kernel
theorem dJ7_copyOf_9075b_6 : decode cJ7_copyOf_9075b 6 = .ok (.aload_n 0, 1) := by decide +kernel
theorem dJ7_copyOf_9075b_7 : decode cJ7_copyOf_9075b 7 = .ok (.invokevirtual 310, 3) := by decide +kernel
theorem dJ7_copyOf_9075b_10 : decode cJ7_copyOf_9075b 10 = .ok (.checkcast 311, 3) := by decide +kernel
theorem dJ7_copyOf_9075b_13 : decode cJ7_copyOf_9075b 13 = .ok (.areturn, 1) := by decide +kernel
theorem dJ7_copyOf_9075b_14 : decode cJ7_copyOf_9075b 14 = .ok (.iload_n 1, 1) := by decide +kernel
theorem dJ7_copyOf_9075b_15 : decode cJ7_copyOf_9075b 15 = .ok (.newarray .byte, 2) := by decide +kernel
theorem dJ7_copyOf_9075b_17 : decode cJ7_copyOf_9075b 17 = .ok (.astore_n 2, 1) := by decide +kernel
theorem dJ7_copyOf_9075b_18 : decode cJ7_copyOf_9075b 18 = .ok (.aload_n 0, 1) := by decide +kernel
theorem dJ7_copyOf_9075b_19 : decode cJ7_copyOf_9075b 19 = .ok (.iconst 0, 1) := by decide +kernel
theorem dJ7_copyOf_9075b_20 : decode cJ7_copyOf_9075b 20 = .ok (.aload_n 2, 1) := by decide +kernel
theorem dJ7_copyOf_9075b_21 : decode cJ7_copyOf_9075b 21 = .ok (.iconst 0, 1) := by decide +kernel
theorem dJ7_copyOf_9075b_22 : decode cJ7_copyOf_9075b 22 = .ok (.aload_n 0, 1) := by decide +kernel
theorem dJ7_copyOf_9075b_23 : decode cJ7_copyOf_9075b 23 = .ok (.arraylength, 1) := by decide +kernel
theorem dJ7_copyOf_9075b_24 : decode cJ7_copyOf_9075b 24 = .ok (.iload_n 1, 1) := by decide +kernel
theorem dJ7_copyOf_9075b_25 : decode cJ7_copyOf_9075b 25 = .ok (.invokestatic 304, 3) := by decide +kernel
theorem dJ7_copyOf_9075b_28 : decode cJ7_copyOf_9075b 28 = .ok (.invokestatic 150, 3) := by decide +kernel
theorem dJ7_copyOf_9075b_31 : decode cJ7_copyOf_9075b 31 = .ok (.aload_n 2, 1) := by decide +kernel
theorem dJ7_copyOf_9075b_32 : decode cJ7_copyOf_9075b 32 = .ok (.areturn, 1) := by decide +kernel
theorem dJ7_checkLength_df160_0 : decode cJ7_checkLength_df160 0 = .ok (.iload_n 1, 1) := by decide +kernel
theorem dJ7_checkLength_df160_1 : decode cJ7_checkLength_df160 1 = .ok (.iload_n 0, 1) := by decide +kernel
theorem dJ7_checkLength_df160_2 : decode cJ7_checkLength_df160 2 = .ok (.if_icmp .ge 35, 3) := by decide +kernel
theorem dJ7_checkLength_df160_5 : decode cJ7_checkLength_df160 5 = .ok (.new 43, 3) := by decide +kernel
theorem dJ7_checkLength_df160_8 : decode cJ7_checkLength_df160 8 = .ok (.dup, 1) := by decide +kernel
theorem dJ7_checkLength_df160_9 : decode cJ7_checkLength_df160 9 = .ok (.new 45, 3) := by decide +kernel
theorem dJ7_checkLength_df160_12 : decode cJ7_checkLength_df160 12 = .ok (.dup, 1) := by decide +kernel
theorem dJ7_checkLength_df160_13 : decode cJ7_checkLength_df160 13 = .ok (.invokespecial 47, 3) := by decide +kernel
theorem dJ7_checkLength_df160_16 : decode cJ7_checkLength_df160 16 = .ok (.iload_n 0, 1) := by decide +kernel
theorem dJ7_checkLength_df160_17 : decode cJ7_checkLength_df160 17 = .ok (.invokevirtual 54, 3) := by decide +kernel
theorem dJ7_checkLength_df160_20 : decode cJ7_checkLength_df160 20 = .ok (.ldc_w 337, 3) := by decide +kernel
theorem dJ7_checkLength_df160_23 : decode cJ7_checkLength_df160 23 = .ok (.invokevirtual 50, 3) := by decide +kernel
theorem dJ7_checkLength_df160_26 : decode cJ7_checkLength_df160 26 = .ok (.iload_n 1, 1) := by decide +kernel
theorem dJ7_checkLength_df160_27 : decode cJ7_checkLength_df160 27 = .ok (.invokevirtual 54, 3) := by decide +kernel
theorem dJ7_checkLength_df160_30 : decode cJ7_checkLength_df160 30 = .ok (.invokevirtual 61, 3) := by decide +kernel
theorem dJ7_checkLength_df160_33 : decode cJ7_checkLength_df160 33 = .ok (.invokespecial 65, 3) := by decide +kernel
theorem dJ7_checkLength_df160_36 : decode cJ7_checkLength_df160 36 = .ok (.athrow, 1) := by decide +kernel
theorem dJ7_checkLength_df160_37 : decode cJ7_checkLength_df160 37 = .ok (.return_, 1) := by decide +kernel
theorem dJ7_copyOfRange_39247_0 : decode cJ7_copyOfRange_39247 0 = .ok (.iload_n 1, 1) := by decide +kernel
theorem dJ7_copyOfRange_39247_1 : decode cJ7_copyOfRange_39247 1 = .ok (.ifCond .ne 9, 3) := by decide +kernel
theorem dJ7_copyOfRange_39247_4 : decode cJ7_copyOfRange_39247 4 = .ok (.iload_n 2, 1) := by decide +kernel
theorem dJ7_copyOfRange_39247_5 : decode cJ7_copyOfRange_39247 5 = .ok (.aload_n 0, 1) := by decide +kernel
theorem dJ7_copyOfRange_39247_6 : decode cJ7_copyOfRange_39247 6 = .ok (.arraylength, 1) := by decide +kernel
theorem dJ7_copyOfRange_39247_7 : decode cJ7_copyOfRange_39247 7 = .ok (.if_icmp .eq 10, 3) := by decide +kernel
theorem dJ7_copyOfRange_39247_10 : decode cJ7_copyOfRange_39247 10 = .ok (.aload_n 0, 1) := by decide +kernel
theorem dJ7_copyOfRange_39247_11 : decode cJ7_copyOfRange_39247 11 = .ok (.iload_n 1, 1) := by decide +kernel
theorem dJ7_copyOfRange_39247_12 : decode cJ7_copyOfRange_39247 12 = .ok (.iload_n 2, 1) := by decide +kernel
theorem dJ7_copyOfRange_39247_13 : decode cJ7_copyOfRange_39247 13 = .ok (.invokestatic 339, 3) := by decide +kernel
theorem dJ7_copyOfRange_39247_16 : decode cJ7_copyOfRange_39247 16 = .ok (.areturn, 1) := by decide +kernel
theorem dJ7_copyOfRange_39247_17 : decode cJ7_copyOfRange_39247 17 = .ok (.aload_n 0, 1) := by decide +kernel
theorem dJ7_copyOfRange_39247_18 : decode cJ7_copyOfRange_39247 18 = .ok (.invokevirtual 310, 3) := by decide +kernel
theorem dJ7_copyOfRange_39247_21 : decode cJ7_copyOfRange_39247 21 = .ok (.checkcast 311, 3) := by decide +kernel
theorem dJ7_copyOfRange_39247_24 : decode cJ7_copyOfRange_39247 24 = .ok (.areturn, 1) := by decide +kernel
theorem dJ7_copyOfRangeByte_39247_0 : decode cJ7_copyOfRangeByte_39247 0 = .ok (.iload_n 1, 1) := by decide +kernel
theorem dJ7_copyOfRangeByte_39247_1 : decode cJ7_copyOfRangeByte_39247 1 = .ok (.iload_n 2, 1) := by decide +kernel
theorem dJ7_copyOfRangeByte_39247_2 : decode cJ7_copyOfRangeByte_39247 2 = .ok (.invokestatic 343, 3) := by decide +kernel
theorem dJ7_copyOfRangeByte_39247_5 : decode cJ7_copyOfRangeByte_39247 5 = .ok (.iload_n 2, 1) := by decide +kernel
theorem dJ7_copyOfRangeByte_39247_6 : decode cJ7_copyOfRangeByte_39247 6 = .ok (.iload_n 1, 1) := by decide +kernel
theorem dJ7_copyOfRangeByte_39247_7 : decode cJ7_copyOfRangeByte_39247 7 = .ok (.isub, 1) := by decide +kernel
theorem dJ7_copyOfRangeByte_39247_8 : decode cJ7_copyOfRangeByte_39247 8 = .ok (.istore_n 3, 1) := by decide +kernel
theorem dJ7_copyOfRangeByte_39247_9 : decode cJ7_copyOfRangeByte_39247 9 = .ok (.iload_n 3, 1) := by decide +kernel
theorem dJ7_copyOfRangeByte_39247_10 : decode cJ7_copyOfRangeByte_39247 10 = .ok (.newarray .byte, 2) := by decide +kernel
theorem dJ7_copyOfRangeByte_39247_12 : decode cJ7_copyOfRangeByte_39247 12 = .ok (.astore 4, 2) := by decide +kernel
theorem dJ7_copyOfRangeByte_39247_14 : decode cJ7_copyOfRangeByte_39247 14 = .ok (.aload_n 0, 1) := by decide +kernel
theorem dJ7_copyOfRangeByte_39247_15 : decode cJ7_copyOfRangeByte_39247 15 = .ok (.iload_n 1, 1) := by decide +kernel
theorem dJ7_copyOfRangeByte_39247_16 : decode cJ7_copyOfRangeByte_39247 16 = .ok (.aload 4, 2) := by decide +kernel
theorem dJ7_copyOfRangeByte_39247_18 : decode cJ7_copyOfRangeByte_39247 18 = .ok (.iconst 0, 1) := by decide +kernel
theorem dJ7_copyOfRangeByte_39247_19 : decode cJ7_copyOfRangeByte_39247 19 = .ok (.aload_n 0, 1) := by decide +kernel
theorem dJ7_copyOfRangeByte_39247_20 : decode cJ7_copyOfRangeByte_39247 20 = .ok (.arraylength, 1) := by decide +kernel
theorem dJ7_copyOfRangeByte_39247_21 : decode cJ7_copyOfRangeByte_39247 21 = .ok (.iload_n 1, 1) := by decide +kernel
theorem dJ7_copyOfRangeByte_39247_22 : decode cJ7_copyOfRangeByte_39247 22 = .ok (.isub, 1) := by decide +kernel
theorem dJ7_copyOfRangeByte_39247_23 : decode cJ7_copyOfRangeByte_39247 23 = .ok (.iload_n 3, 1) := by decide +kernel
theorem dJ7_copyOfRangeByte_39247_24 : decode cJ7_copyOfRangeByte_39247 24 = .ok (.invokestatic 304, 3) := by decide +kernel
theorem dJ7_copyOfRangeByte_39247_27 : decode cJ7_copyOfRangeByte_39247 27 = .ok (.invokestatic 150, 3) := by decide +kernel
theorem dJ7_copyOfRangeByte_39247_30 : decode cJ7_copyOfRangeByte_39247 30 = .ok (.aload 4, 2) := by decide +kernel
theorem dJ7_copyOfRangeByte_39247_32 : decode cJ7_copyOfRangeByte_39247 32 = .ok (.areturn, 1) := by decide +kernel
theorem dJ8_newLength_cabcc_0 : decode cJ8_newLength_cabcc 0 = .ok (.iload_n 0, 1) := by decide +kernel
theorem dJ8_newLength_cabcc_1 : decode cJ8_newLength_cabcc 1 = .ok (.iload_n 1, 1) := by decide +kernel
theorem dJ8_newLength_cabcc_2 : decode cJ8_newLength_cabcc 2 = .ok (.iload_n 2, 1) := by decide +kernel
theorem dJ8_newLength_cabcc_3 : decode cJ8_newLength_cabcc 3 = .ok (.invokestatic 194, 3) := by decide +kernel
theorem dJ8_newLength_cabcc_6 : decode cJ8_newLength_cabcc 6 = .ok (.iadd, 1) := by decide +kernel
theorem dJ8_newLength_cabcc_7 : decode cJ8_newLength_cabcc 7 = .ok (.istore_n 3, 1) := by decide +kernel
theorem dJ8_newLength_cabcc_8 : decode cJ8_newLength_cabcc 8 = .ok (.iconst 0, 1) := by decide +kernel
theorem dJ8_newLength_cabcc_9 : decode cJ8_newLength_cabcc 9 = .ok (.iload_n 3, 1) := by decide +kernel
theorem dJ8_newLength_cabcc_10 : decode cJ8_newLength_cabcc 10 = .ok (.if_icmp .ge 11, 3) := by decide +kernel
theorem dJ8_newLength_cabcc_13 : decode cJ8_newLength_cabcc 13 = .ok (.iload_n 3, 1) := by decide +kernel
theorem dJ8_newLength_cabcc_14 : decode cJ8_newLength_cabcc 14 = .ok (.ldc 200, 2) := by decide +kernel
theorem dJ8_newLength_cabcc_16 : decode cJ8_newLength_cabcc 16 = .ok (.if_icmp .gt 5, 3) := by decide +kernel
theorem dJ8_newLength_cabcc_19 : decode cJ8_newLength_cabcc 19 = .ok (.iload_n 3, 1) := by decide +kernel
theorem dJ8_newLength_cabcc_20 : decode cJ8_newLength_cabcc 20 = .ok (.ireturn, 1) := by decide +kernel
theorem dJ8_newLength_cabcc_21 : decode cJ8_newLength_cabcc 21 = .ok (.iload_n 0, 1) := by decide +kernel
theorem dJ8_newLength_cabcc_22 : decode cJ8_newLength_cabcc 22 = .ok (.iload_n 1, 1) := by decide +kernel
theorem dJ8_newLength_cabcc_23 : decode cJ8_newLength_cabcc 23 = .ok (.invokestatic 201, 3) := by decide +kernel
theorem dJ8_newLength_cabcc_26 : decode cJ8_newLength_cabcc 26 = .ok (.ireturn, 1) := by decide +kernel
theorem dJ8_hugeLength_7cf53_0 : decode cJ8_hugeLength_7cf53 0 = .ok (.iload_n 0, 1) := by decide +kernel
theorem dJ8_hugeLength_7cf53_1 : decode cJ8_hugeLength_7cf53 1 = .ok (.iload_n 1, 1) := by decide +kernel
theorem dJ8_hugeLength_7cf53_2 : decode cJ8_hugeLength_7cf53 2 = .ok (.iadd, 1) := by decide +kernel
theorem dJ8_hugeLength_7cf53_3 : decode cJ8_hugeLength_7cf53 3 = .ok (.istore_n 2, 1) := by decide +kernel
theorem dJ8_hugeLength_7cf53_4 : decode cJ8_hugeLength_7cf53 4 = .ok (.iload_n 2, 1) := by decide +kernel
theorem dJ8_hugeLength_7cf53_5 : decode cJ8_hugeLength_7cf53 5 = .ok (.ifCond .ge 44, 3) := by decide +kernel
theorem dJ8_hugeLength_7cf53_8 : decode cJ8_hugeLength_7cf53 8 = .ok (.new 204, 3) := by decide +kernel
theorem dJ8_hugeLength_7cf53_11 : decode cJ8_hugeLength_7cf53 11 = .ok (.dup, 1) := by decide +kernel
theorem dJ8_hugeLength_7cf53_12 : decode cJ8_hugeLength_7cf53 12 = .ok (.new 89, 3) := by decide +kernel
theorem dJ8_hugeLength_7cf53_15 : decode cJ8_hugeLength_7cf53 15 = .ok (.dup, 1) := by decide +kernel
theorem dJ8_hugeLength_7cf53_16 : decode cJ8_hugeLength_7cf53 16 = .ok (.invokespecial 91, 3) := by decide +kernel
theorem dJ8_hugeLength_7cf53_19 : decode cJ8_hugeLength_7cf53 19 = .ok (.ldc 206, 2) := by decide +kernel
theorem dJ8_hugeLength_7cf53_21 : decode cJ8_hugeLength_7cf53 21 = .ok (.invokevirtual 94, 3) := by decide +kernel
theorem dJ8_hugeLength_7cf53_24 : decode cJ8_hugeLength_7cf53 24 = .ok (.iload_n 0, 1) := by decide +kernel
theorem dJ8_hugeLength_7cf53_25 : decode cJ8_hugeLength_7cf53 25 = .ok (.invokevirtual 98, 3) := by decide +kernel
theorem dJ8_hugeLength_7cf53_28 : decode cJ8_hugeLength_7cf53 28 = .ok (.ldc 208, 2) := by decide +kernel
theorem dJ8_hugeLength_7cf53_30 : decode cJ8_hugeLength_7cf53 30 = .ok (.invokevirtual 94, 3) := by decide +kernel
theorem dJ8_hugeLength_7cf53_33 : decode cJ8_hugeLength_7cf53 33 = .ok (.iload_n 1, 1) := by decide +kernel
theorem dJ8_hugeLength_7cf53_34 : decode cJ8_hugeLength_7cf53 34 = .ok (.invokevirtual 98, 3) := by decide +kernel
theorem dJ8_hugeLength_7cf53_37 : decode cJ8_hugeLength_7cf53 37 = .ok (.ldc 210, 2) := by decide +kernel
theorem dJ8_hugeLength_7cf53_39 : decode cJ8_hugeLength_7cf53 39 = .ok (.invokevirtual 94, 3) := by decide +kernel
theorem dJ8_hugeLength_7cf53_42 : decode cJ8_hugeLength_7cf53 42 = .ok (.invokevirtual 101, 3) := by decide +kernel
theorem dJ8_hugeLength_7cf53_45 : decode cJ8_hugeLength_7cf53 45 = .ok (.invokespecial 212, 3) := by decide +kernel
theorem dJ8_hugeLength_7cf53_48 : decode cJ8_hugeLength_7cf53 48 = .ok (.athrow, 1) := by decide +kernel
theorem dJ8_hugeLength_7cf53_49 : decode cJ8_hugeLength_7cf53 49 = .ok (.iload_n 2, 1) := by decide +kernel
theorem dJ8_hugeLength_7cf53_50 : decode cJ8_hugeLength_7cf53 50 = .ok (.ldc 200, 2) := by decide +kernel
theorem dJ8_hugeLength_7cf53_52 : decode cJ8_hugeLength_7cf53 52 = .ok (.if_icmp .gt 6, 3) := by decide +kernel
theorem dJ8_hugeLength_7cf53_55 : decode cJ8_hugeLength_7cf53 55 = .ok (.ldc 200, 2) := by decide +kernel
theorem dJ8_hugeLength_7cf53_57 : decode cJ8_hugeLength_7cf53 57 = .ok (.ireturn, 1) := by decide +kernel
theorem dJ8_hugeLength_7cf53_58 : decode cJ8_hugeLength_7cf53 58 = .ok (.iload_n 2, 1) := by decide +kernel
theorem dJ8_hugeLength_7cf53_59 : decode cJ8_hugeLength_7cf53 59 = .ok (.ireturn, 1) := by decide +kernel
theorem dJ3_checkIndex_8e157_0 : decode cJ3_checkIndex_8e157 0 = .ok (.iload_n 0, 1) := by decide +kernel
theorem dJ3_checkIndex_8e157_1 : decode cJ3_checkIndex_8e157 1 = .ok (.ifCond .lt 8, 3) := by decide +kernel
theorem dJ3_checkIndex_8e157_4 : decode cJ3_checkIndex_8e157 4 = .ok (.iload_n 0, 1) := by decide +kernel
theorem dJ3_checkIndex_8e157_5 : decode cJ3_checkIndex_8e157 5 = .ok (.iload_n 1, 1) := by decide +kernel
theorem dJ3_checkIndex_8e157_6 : decode cJ3_checkIndex_8e157 6 = .ok (.if_icmp .lt 10, 3) := by decide +kernel
theorem dJ3_checkIndex_8e157_9 : decode cJ3_checkIndex_8e157 9 = .ok (.aload_n 2, 1) := by decide +kernel
theorem dJ3_checkIndex_8e157_10 : decode cJ3_checkIndex_8e157 10 = .ok (.iload_n 0, 1) := by decide +kernel
theorem dJ3_checkIndex_8e157_11 : decode cJ3_checkIndex_8e157 11 = .ok (.iload_n 1, 1) := by decide +kernel
theorem dJ3_checkIndex_8e157_12 : decode cJ3_checkIndex_8e157 12 = .ok (.invokestatic 95, 3) := by decide +kernel
theorem dJ3_checkIndex_8e157_15 : decode cJ3_checkIndex_8e157 15 = .ok (.athrow, 1) := by decide +kernel
theorem dJ3_checkIndex_8e157_16 : decode cJ3_checkIndex_8e157 16 = .ok (.iload_n 0, 1) := by decide +kernel
theorem dJ3_checkIndex_8e157_17 : decode cJ3_checkIndex_8e157 17 = .ok (.ireturn, 1) := by decide +kernel
theorem dJ3_checkFromToIndex_8c36e_0 : decode cJ3_checkFromToIndex_8c36e 0 = .ok (.iload_n 0, 1) := by decide +kernel
theorem dJ3_checkFromToIndex_8c36e_1 : decode cJ3_checkFromToIndex_8c36e 1 = .ok (.ifCond .lt 13, 3) := by decide +kernel
theorem dJ3_checkFromToIndex_8c36e_4 : decode cJ3_checkFromToIndex_8c36e 4 = .ok (.iload_n 0, 1) := by decide +kernel
theorem dJ3_checkFromToIndex_8c36e_5 : decode cJ3_checkFromToIndex_8c36e 5 = .ok (.iload_n 1, 1) := by decide +kernel
theorem dJ3_checkFromToIndex_8c36e_6 : decode cJ3_checkFromToIndex_8c36e 6 = .ok (.if_icmp .gt 8, 3) := by decide +kernel
theorem dJ3_checkFromToIndex_8c36e_9 : decode cJ3_checkFromToIndex_8c36e 9 = .ok (.iload_n 1, 1) := by decide +kernel
theorem dJ3_checkFromToIndex_8c36e_10 : decode cJ3_checkFromToIndex_8c36e 10 = .ok (.iload_n 2, 1) := by decide +kernel
theorem dJ3_checkFromToIndex_8c36e_11 : decode cJ3_checkFromToIndex_8c36e 11 = .ok (.if_icmp .le 11, 3) := by decide +kernel
theorem dJ3_checkFromToIndex_8c36e_14 : decode cJ3_checkFromToIndex_8c36e 14 = .ok (.aload_n 3, 1) := by decide +kernel
theorem dJ3_checkFromToIndex_8c36e_15 : decode cJ3_checkFromToIndex_8c36e 15 = .ok (.iload_n 0, 1) := by decide +kernel
theorem dJ3_checkFromToIndex_8c36e_16 : decode cJ3_checkFromToIndex_8c36e 16 = .ok (.iload_n 1, 1) := by decide +kernel
theorem dJ3_checkFromToIndex_8c36e_17 : decode cJ3_checkFromToIndex_8c36e 17 = .ok (.iload_n 2, 1) := by decide +kernel
theorem dJ3_checkFromToIndex_8c36e_18 : decode cJ3_checkFromToIndex_8c36e 18 = .ok (.invokestatic 99, 3) := by decide +kernel
theorem dJ3_checkFromToIndex_8c36e_21 : decode cJ3_checkFromToIndex_8c36e 21 = .ok (.athrow, 1) := by decide +kernel
theorem dJ3_checkFromToIndex_8c36e_22 : decode cJ3_checkFromToIndex_8c36e 22 = .ok (.iload_n 0, 1) := by decide +kernel
theorem dJ3_checkFromToIndex_8c36e_23 : decode cJ3_checkFromToIndex_8c36e 23 = .ok (.ireturn, 1) := by decide +kernel
theorem dJ3_checkFromIndexSize_8c36e_0 : decode cJ3_checkFromIndexSize_8c36e 0 = .ok (.iload_n 2, 1) := by decide +kernel
theorem dJ3_checkFromIndexSize_8c36e_1 : decode cJ3_checkFromIndexSize_8c36e 1 = .ok (.iload_n 0, 1) := by decide +kernel
theorem dJ3_checkFromIndexSize_8c36e_2 : decode cJ3_checkFromIndexSize_8c36e 2 = .ok (.ior, 1) := by decide +kernel
theorem dJ3_checkFromIndexSize_8c36e_3 : decode cJ3_checkFromIndexSize_8c36e 3 = .ok (.iload_n 1, 1) := by decide +kernel
theorem dJ3_checkFromIndexSize_8c36e_4 : decode cJ3_checkFromIndexSize_8c36e 4 = .ok (.ior, 1) := by decide +kernel
theorem dJ3_checkFromIndexSize_8c36e_5 : decode cJ3_checkFromIndexSize_8c36e 5 = .ok (.ifCond .lt 10, 3) := by decide +kernel
theorem dJ3_checkFromIndexSize_8c36e_8 : decode cJ3_checkFromIndexSize_8c36e 8 = .ok (.iload_n 1, 1) := by decide +kernel
theorem dJ3_checkFromIndexSize_8c36e_9 : decode cJ3_checkFromIndexSize_8c36e 9 = .ok (.iload_n 2, 1) := by decide +kernel
theorem dJ3_checkFromIndexSize_8c36e_10 : decode cJ3_checkFromIndexSize_8c36e 10 = .ok (.iload_n 0, 1) := by decide +kernel
theorem dJ3_checkFromIndexSize_8c36e_11 : decode cJ3_checkFromIndexSize_8c36e 11 = .ok (.isub, 1) := by decide +kernel
theorem dJ3_checkFromIndexSize_8c36e_12 : decode cJ3_checkFromIndexSize_8c36e 12 = .ok (.if_icmp .le 11, 3) := by decide +kernel
theorem dJ3_checkFromIndexSize_8c36e_15 : decode cJ3_checkFromIndexSize_8c36e 15 = .ok (.aload_n 3, 1) := by decide +kernel
theorem dJ3_checkFromIndexSize_8c36e_16 : decode cJ3_checkFromIndexSize_8c36e 16 = .ok (.iload_n 0, 1) := by decide +kernel
theorem dJ3_checkFromIndexSize_8c36e_17 : decode cJ3_checkFromIndexSize_8c36e 17 = .ok (.iload_n 1, 1) := by decide +kernel
theorem dJ3_checkFromIndexSize_8c36e_18 : decode cJ3_checkFromIndexSize_8c36e 18 = .ok (.iload_n 2, 1) := by decide +kernel
theorem dJ3_checkFromIndexSize_8c36e_19 : decode cJ3_checkFromIndexSize_8c36e 19 = .ok (.invokestatic 103, 3) := by decide +kernel
theorem dJ3_checkFromIndexSize_8c36e_22 : decode cJ3_checkFromIndexSize_8c36e 22 = .ok (.athrow, 1) := by decide +kernel
theorem dJ3_checkFromIndexSize_8c36e_23 : decode cJ3_checkFromIndexSize_8c36e 23 = .ok (.iload_n 0, 1) := by decide +kernel
theorem dJ3_checkFromIndexSize_8c36e_24 : decode cJ3_checkFromIndexSize_8c36e 24 = .ok (.ireturn, 1) := by decide +kernel
end
section
theorem dL_cell_0 : decode cL_cell 0 = .ok (.ldc 7, 2) := by decide +kernel
theorem dL_cell_2 : decode cL_cell 2 = .ok (.iload_n 1, 1) := by decide +kernel
theorem dL_cell_3 : decode cL_cell 3 = .ok (.aload_n 0, 1) := by decide +kernel
theorem dL_cell_4 : decode cL_cell 4 = .ok (.arraylength, 1) := by decide +kernel
theorem dL_cell_5 : decode cL_cell 5 = .ok (.if_icmp .ge 9, 3) := by decide +kernel
theorem dL_cell_8 : decode cL_cell 8 = .ok (.aload_n 0, 1) := by decide +kernel
theorem dL_cell_9 : decode cL_cell 9 = .ok (.iload_n 1, 1) := by decide +kernel
theorem dL_cell_10 : decode cL_cell 10 = .ok (.iaload, 1) := by decide +kernel
theorem dL_cell_11 : decode cL_cell 11 = .ok (.goto 4, 3) := by decide +kernel
theorem dL_cell_14 : decode cL_cell 14 = .ok (.iconst 0, 1) := by decide +kernel
theorem dL_cell_15 : decode cL_cell 15 = .ok (.sipush 1009, 3) := by decide +kernel
theorem dL_cell_18 : decode cL_cell 18 = .ok (.iload_n 1, 1) := by decide +kernel
theorem dL_cell_19 : decode cL_cell 19 = .ok (.imul, 1) := by decide +kernel
theorem dL_cell_20 : decode cL_cell 20 = .ok (.iadd, 1) := by decide +kernel
theorem dL_cell_21 : decode cL_cell 21 = .ok (.imul, 1) := by decide +kernel
theorem dL_cell_22 : decode cL_cell 22 = .ok (.sipush 12345, 3) := by decide +kernel
theorem dL_cell_25 : decode cL_cell 25 = .ok (.iadd, 1) := by decide +kernel
theorem dL_cell_26 : decode cL_cell 26 = .ok (.istore_n 2, 1) := by decide +kernel
theorem dL_cell_27 : decode cL_cell 27 = .ok (.iload_n 2, 1) := by decide +kernel
theorem dL_cell_28 : decode cL_cell 28 = .ok (.iload_n 2, 1) := by decide +kernel
theorem dL_cell_29 : decode cL_cell 29 = .ok (.bipush 13, 2) := by decide +kernel
theorem dL_cell_31 : decode cL_cell 31 = .ok (.iushr, 1) := by decide +kernel
theorem dL_cell_32 : decode cL_cell 32 = .ok (.ixor, 1) := by decide +kernel
theorem dL_cell_33 : decode cL_cell 33 = .ok (.ldc 8, 2) := by decide +kernel
theorem dL_cell_35 : decode cL_cell 35 = .ok (.imul, 1) := by decide +kernel
theorem dL_cell_36 : decode cL_cell 36 = .ok (.istore_n 2, 1) := by decide +kernel
theorem dL_cell_37 : decode cL_cell 37 = .ok (.iload_n 2, 1) := by decide +kernel
theorem dL_cell_38 : decode cL_cell 38 = .ok (.iload_n 2, 1) := by decide +kernel
theorem dL_cell_39 : decode cL_cell 39 = .ok (.bipush 16, 2) := by decide +kernel
theorem dL_cell_41 : decode cL_cell 41 = .ok (.iushr, 1) := by decide +kernel
theorem dL_cell_42 : decode cL_cell 42 = .ok (.ixor, 1) := by decide +kernel
theorem dL_cell_43 : decode cL_cell 43 = .ok (.ireturn, 1) := by decide +kernel
theorem dL_pick_0 : decode cL_pick 0 = .ok (.aload_n 0, 1) := by decide +kernel
theorem dL_pick_1 : decode cL_pick 1 = .ok (.iload_n 1, 1) := by decide +kernel
theorem dL_pick_2 : decode cL_pick 2 = .ok (.invokestatic 9, 3) := by decide +kernel
theorem dL_pick_5 : decode cL_pick 5 = .ok (.bipush 8, 2) := by decide +kernel
theorem dL_pick_7 : decode cL_pick 7 = .ok (.iushr, 1) := by decide +kernel
theorem dL_pick_8 : decode cL_pick 8 = .ok (.iload_n 2, 1) := by decide +kernel
theorem dL_pick_9 : decode cL_pick 9 = .ok (.irem, 1) := by decide +kernel
theorem dL_pick_10 : decode cL_pick 10 = .ok (.ireturn, 1) := by decide +kernel
theorem dL_told_0 : decode cL_told 0 = .ok (.iload_n 0, 1) := by decide +kernel
theorem dL_told_1 : decode cL_told 1 = .ok (.ifCond .eq 7, 3) := by decide +kernel
theorem dL_told_4 : decode cL_told 4 = .ok (.iconst 1, 1) := by decide +kernel
theorem dL_told_5 : decode cL_told 5 = .ok (.goto 4, 3) := by decide +kernel
theorem dL_told_8 : decode cL_told 8 = .ok (.iconst 0, 1) := by decide +kernel
theorem dL_told_9 : decode cL_told 9 = .ok (.ireturn, 1) := by decide +kernel
theorem dL_plain_0 : decode cL_plain 0 = .ok (.iload_n 1, 1) := by decide +kernel
theorem dL_plain_1 : decode cL_plain 1 = .ok (.tableswitch 93 0 6 #[43, 49, 56, 63, 70, 81, 87], 43) := by decide +kernel
theorem dL_plain_44 : decode cL_plain 44 = .ok (.aload_n 0, 1) := by decide +kernel
theorem dL_plain_45 : decode cL_plain 45 = .ok (.iload_n 2, 1) := by decide +kernel
theorem dL_plain_46 : decode cL_plain 46 = .ok (.invokevirtual 15, 3) := by decide +kernel
theorem dL_plain_49 : decode cL_plain 49 = .ok (.ireturn, 1) := by decide +kernel
theorem dL_plain_50 : decode cL_plain 50 = .ok (.aload_n 0, 1) := by decide +kernel
theorem dL_plain_51 : decode cL_plain 51 = .ok (.iload_n 2, 1) := by decide +kernel
theorem dL_plain_52 : decode cL_plain 52 = .ok (.iload_n 3, 1) := by decide +kernel
theorem dL_plain_53 : decode cL_plain 53 = .ok (.invokevirtual 21, 3) := by decide +kernel
theorem dL_plain_56 : decode cL_plain 56 = .ok (.ireturn, 1) := by decide +kernel
theorem dL_plain_57 : decode cL_plain 57 = .ok (.aload_n 0, 1) := by decide +kernel
theorem dL_plain_58 : decode cL_plain 58 = .ok (.iload_n 2, 1) := by decide +kernel
theorem dL_plain_59 : decode cL_plain 59 = .ok (.iload_n 3, 1) := by decide +kernel
theorem dL_plain_60 : decode cL_plain 60 = .ok (.invokevirtual 25, 3) := by decide +kernel
theorem dL_plain_63 : decode cL_plain 63 = .ok (.ireturn, 1) := by decide +kernel
theorem dL_plain_64 : decode cL_plain 64 = .ok (.aload_n 0, 1) := by decide +kernel
theorem dL_plain_65 : decode cL_plain 65 = .ok (.iload_n 2, 1) := by decide +kernel
theorem dL_plain_66 : decode cL_plain 66 = .ok (.iload_n 3, 1) := by decide +kernel
theorem dL_plain_67 : decode cL_plain 67 = .ok (.invokevirtual 28, 3) := by decide +kernel
theorem dL_plain_70 : decode cL_plain 70 = .ok (.ireturn, 1) := by decide +kernel
theorem dL_plain_71 : decode cL_plain 71 = .ok (.aload_n 0, 1) := by decide +kernel
theorem dL_plain_72 : decode cL_plain 72 = .ok (.iload_n 2, 1) := by decide +kernel
theorem dL_plain_73 : decode cL_plain 73 = .ok (.iload_n 3, 1) := by decide +kernel
theorem dL_plain_74 : decode cL_plain 74 = .ok (.iload 4, 2) := by decide +kernel
theorem dL_plain_76 : decode cL_plain 76 = .ok (.iload 5, 2) := by decide +kernel
theorem dL_plain_78 : decode cL_plain 78 = .ok (.invokevirtual 31, 3) := by decide +kernel
theorem dL_plain_81 : decode cL_plain 81 = .ok (.ireturn, 1) := by decide +kernel
theorem dL_plain_82 : decode cL_plain 82 = .ok (.aload_n 0, 1) := by decide +kernel
theorem dL_plain_83 : decode cL_plain 83 = .ok (.iload_n 2, 1) := by decide +kernel
theorem dL_plain_84 : decode cL_plain 84 = .ok (.invokevirtual 35, 3) := by decide +kernel
theorem dL_plain_87 : decode cL_plain 87 = .ok (.ireturn, 1) := by decide +kernel
theorem dL_plain_88 : decode cL_plain 88 = .ok (.aload_n 0, 1) := by decide +kernel
theorem dL_plain_89 : decode cL_plain 89 = .ok (.iload_n 2, 1) := by decide +kernel
theorem dL_plain_90 : decode cL_plain 90 = .ok (.invokevirtual 38, 3) := by decide +kernel
theorem dL_plain_93 : decode cL_plain 93 = .ok (.ireturn, 1) := by decide +kernel
theorem dL_plain_94 : decode cL_plain 94 = .ok (.aload_n 0, 1) := by decide +kernel
theorem dL_plain_95 : decode cL_plain 95 = .ok (.invokevirtual 41, 3) := by decide +kernel
theorem dL_plain_98 : decode cL_plain 98 = .ok (.ireturn, 1) := by decide +kernel
theorem dL_deed_0 : decode cL_deed 0 = .ok (.aload_n 0, 1) := by decide +kernel
theorem dL_deed_1 : decode cL_deed 1 = .ok (.iload_n 1, 1) := by decide +kernel
theorem dL_deed_2 : decode cL_deed 2 = .ok (.iload_n 2, 1) := by decide +kernel
theorem dL_deed_3 : decode cL_deed 3 = .ok (.iload_n 3, 1) := by decide +kernel
theorem dL_deed_4 : decode cL_deed 4 = .ok (.iload 4, 2) := by decide +kernel
theorem dL_deed_6 : decode cL_deed 6 = .ok (.iload 5, 2) := by decide +kernel
theorem dL_deed_8 : decode cL_deed 8 = .ok (.invokestatic 45, 3) := by decide +kernel
theorem dL_deed_11 : decode cL_deed 11 = .ok (.ireturn, 1) := by decide +kernel
theorem dL_deed_12 : decode cL_deed 12 = .ok (.astore 6, 2) := by decide +kernel
theorem dL_deed_14 : decode cL_deed 14 = .ok (.sipush (-20002), 3) := by decide +kernel
theorem dL_deed_17 : decode cL_deed 17 = .ok (.ireturn, 1) := by decide +kernel
theorem dL_deed_18 : decode cL_deed 18 = .ok (.astore 6, 2) := by decide +kernel
theorem dL_deed_20 : decode cL_deed 20 = .ok (.sipush (-20003), 3) := by decide +kernel
theorem dL_deed_23 : decode cL_deed 23 = .ok (.ireturn, 1) := by decide +kernel
theorem dL_deed_24 : decode cL_deed 24 = .ok (.astore 6, 2) := by decide +kernel
theorem dL_deed_26 : decode cL_deed 26 = .ok (.sipush (-20001), 3) := by decide +kernel
theorem dL_deed_29 : decode cL_deed 29 = .ok (.ireturn, 1) := by decide +kernel
theorem dL_deed_30 : decode cL_deed 30 = .ok (.astore 6, 2) := by decide +kernel
theorem dL_deed_32 : decode cL_deed 32 = .ok (.sipush (-20005), 3) := by decide +kernel
theorem dL_deed_35 : decode cL_deed 35 = .ok (.ireturn, 1) := by decide +kernel
theorem dL_deed_36 : decode cL_deed 36 = .ok (.astore 6, 2) := by decide +kernel
theorem dL_deed_38 : decode cL_deed 38 = .ok (.sipush (-20004), 3) := by decide +kernel
theorem dL_deed_41 : decode cL_deed 41 = .ok (.ireturn, 1) := by decide +kernel
theorem dL_asked_0 : decode cL_asked 0 = .ok (.iload_n 1, 1) := by decide +kernel
theorem dL_asked_1 : decode cL_asked 1 = .ok (.tableswitch 131 0 10 #[59, 65, 71, 78, 84, 90, 99, 105, 115, 121, 126], 59) := by decide +kernel
theorem dL_asked_60 : decode cL_asked 60 = .ok (.aload_n 0, 1) := by decide +kernel
theorem dL_asked_61 : decode cL_asked 61 = .ok (.iload_n 2, 1) := by decide +kernel
theorem dL_asked_62 : decode cL_asked 62 = .ok (.invokevirtual 59, 3) := by decide +kernel
theorem dL_asked_65 : decode cL_asked 65 = .ok (.ireturn, 1) := by decide +kernel
theorem dL_asked_66 : decode cL_asked 66 = .ok (.aload_n 0, 1) := by decide +kernel
theorem dL_asked_67 : decode cL_asked 67 = .ok (.iload_n 2, 1) := by decide +kernel
theorem dL_asked_68 : decode cL_asked 68 = .ok (.invokevirtual 62, 3) := by decide +kernel
theorem dL_asked_71 : decode cL_asked 71 = .ok (.ireturn, 1) := by decide +kernel
theorem dL_asked_72 : decode cL_asked 72 = .ok (.aload_n 0, 1) := by decide +kernel
theorem dL_asked_73 : decode cL_asked 73 = .ok (.iload_n 2, 1) := by decide +kernel
theorem dL_asked_74 : decode cL_asked 74 = .ok (.iload_n 3, 1) := by decide +kernel
theorem dL_asked_75 : decode cL_asked 75 = .ok (.invokevirtual 65, 3) := by decide +kernel
theorem dL_asked_78 : decode cL_asked 78 = .ok (.ireturn, 1) := by decide +kernel
theorem dL_asked_79 : decode cL_asked 79 = .ok (.aload_n 0, 1) := by decide +kernel
theorem dL_asked_80 : decode cL_asked 80 = .ok (.iload_n 2, 1) := by decide +kernel
theorem dL_asked_81 : decode cL_asked 81 = .ok (.invokevirtual 68, 3) := by decide +kernel
theorem dL_asked_84 : decode cL_asked 84 = .ok (.ireturn, 1) := by decide +kernel
theorem dL_asked_85 : decode cL_asked 85 = .ok (.aload_n 0, 1) := by decide +kernel
theorem dL_asked_86 : decode cL_asked 86 = .ok (.iload_n 2, 1) := by decide +kernel
theorem dL_asked_87 : decode cL_asked 87 = .ok (.invokevirtual 71, 3) := by decide +kernel
theorem dL_asked_90 : decode cL_asked 90 = .ok (.ireturn, 1) := by decide +kernel
theorem dL_asked_91 : decode cL_asked 91 = .ok (.aload_n 0, 1) := by decide +kernel
theorem dL_asked_92 : decode cL_asked 92 = .ok (.iload_n 2, 1) := by decide +kernel
theorem dL_asked_93 : decode cL_asked 93 = .ok (.invokevirtual 74, 3) := by decide +kernel
theorem dL_asked_96 : decode cL_asked 96 = .ok (.invokestatic 78, 3) := by decide +kernel
theorem dL_asked_99 : decode cL_asked 99 = .ok (.ireturn, 1) := by decide +kernel
theorem dL_asked_100 : decode cL_asked 100 = .ok (.aload_n 0, 1) := by decide +kernel
theorem dL_asked_101 : decode cL_asked 101 = .ok (.iload_n 2, 1) := by decide +kernel
theorem dL_asked_102 : decode cL_asked 102 = .ok (.invokevirtual 82, 3) := by decide +kernel
theorem dL_asked_105 : decode cL_asked 105 = .ok (.ireturn, 1) := by decide +kernel
theorem dL_asked_106 : decode cL_asked 106 = .ok (.aload_n 0, 1) := by decide +kernel
theorem dL_asked_107 : decode cL_asked 107 = .ok (.iload_n 2, 1) := by decide +kernel
theorem dL_asked_108 : decode cL_asked 108 = .ok (.iload_n 3, 1) := by decide +kernel
theorem dL_asked_109 : decode cL_asked 109 = .ok (.invokevirtual 85, 3) := by decide +kernel
theorem dL_asked_112 : decode cL_asked 112 = .ok (.invokestatic 78, 3) := by decide +kernel
theorem dL_asked_115 : decode cL_asked 115 = .ok (.ireturn, 1) := by decide +kernel
theorem dL_asked_116 : decode cL_asked 116 = .ok (.aload_n 0, 1) := by decide +kernel
theorem dL_asked_117 : decode cL_asked 117 = .ok (.iload_n 2, 1) := by decide +kernel
theorem dL_asked_118 : decode cL_asked 118 = .ok (.invokevirtual 89, 3) := by decide +kernel
theorem dL_asked_121 : decode cL_asked 121 = .ok (.ireturn, 1) := by decide +kernel
theorem dL_asked_122 : decode cL_asked 122 = .ok (.aload_n 0, 1) := by decide +kernel
theorem dL_asked_123 : decode cL_asked 123 = .ok (.invokevirtual 92, 3) := by decide +kernel
theorem dL_asked_126 : decode cL_asked 126 = .ok (.ireturn, 1) := by decide +kernel
theorem dL_asked_127 : decode cL_asked 127 = .ok (.aload_n 0, 1) := by decide +kernel
theorem dL_asked_128 : decode cL_asked 128 = .ok (.invokevirtual 95, 3) := by decide +kernel
theorem dL_asked_131 : decode cL_asked 131 = .ok (.ireturn, 1) := by decide +kernel
theorem dL_asked_132 : decode cL_asked 132 = .ok (.aload_n 0, 1) := by decide +kernel
theorem dL_asked_133 : decode cL_asked 133 = .ok (.iload_n 2, 1) := by decide +kernel
theorem dL_asked_134 : decode cL_asked 134 = .ok (.invokevirtual 98, 3) := by decide +kernel
theorem dL_asked_137 : decode cL_asked 137 = .ok (.ireturn, 1) := by decide +kernel
theorem dL_ask_0 : decode cL_ask 0 = .ok (.aload_n 0, 1) := by decide +kernel
theorem dL_ask_1 : decode cL_ask 1 = .ok (.iload_n 1, 1) := by decide +kernel
theorem dL_ask_2 : decode cL_ask 2 = .ok (.iload_n 2, 1) := by decide +kernel
theorem dL_ask_3 : decode cL_ask 3 = .ok (.iload_n 3, 1) := by decide +kernel
theorem dL_ask_4 : decode cL_ask 4 = .ok (.invokestatic 101, 3) := by decide +kernel
theorem dL_ask_7 : decode cL_ask 7 = .ok (.ireturn, 1) := by decide +kernel
theorem dL_ask_8 : decode cL_ask 8 = .ok (.astore 4, 2) := by decide +kernel
theorem dL_ask_10 : decode cL_ask 10 = .ok (.sipush (-20002), 3) := by decide +kernel
theorem dL_ask_13 : decode cL_ask 13 = .ok (.ireturn, 1) := by decide +kernel
theorem dL_ask_14 : decode cL_ask 14 = .ok (.astore 4, 2) := by decide +kernel
theorem dL_ask_16 : decode cL_ask 16 = .ok (.sipush (-20003), 3) := by decide +kernel
theorem dL_ask_19 : decode cL_ask 19 = .ok (.ireturn, 1) := by decide +kernel
theorem dL_ask_20 : decode cL_ask 20 = .ok (.astore 4, 2) := by decide +kernel
theorem dL_ask_22 : decode cL_ask 22 = .ok (.sipush (-20004), 3) := by decide +kernel
theorem dL_ask_25 : decode cL_ask 25 = .ok (.ireturn, 1) := by decide +kernel
theorem dL_lay_0 : decode cL_lay 0 = .ok (.iconst 0, 1) := by decide +kernel
theorem dL_lay_1 : decode cL_lay 1 = .ok (.istore_n 2, 1) := by decide +kernel
theorem dL_lay_2 : decode cL_lay 2 = .ok (.aload_n 1, 1) := by decide +kernel
theorem dL_lay_3 : decode cL_lay 3 = .ok (.iconst 0, 1) := by decide +kernel
theorem dL_lay_4 : decode cL_lay 4 = .ok (.bipush 9, 2) := by decide +kernel
theorem dL_lay_6 : decode cL_lay 6 = .ok (.invokestatic 105, 3) := by decide +kernel
theorem dL_lay_9 : decode cL_lay 9 = .ok (.istore_n 3, 1) := by decide +kernel
theorem dL_lay_10 : decode cL_lay 10 = .ok (.iconst 0, 1) := by decide +kernel
theorem dL_lay_11 : decode cL_lay 11 = .ok (.istore 4, 2) := by decide +kernel
theorem dL_lay_13 : decode cL_lay 13 = .ok (.iload 4, 2) := by decide +kernel
theorem dL_lay_15 : decode cL_lay 15 = .ok (.iload_n 3, 1) := by decide +kernel
theorem dL_lay_16 : decode cL_lay 16 = .ok (.if_icmp .ge 132, 3) := by decide +kernel
theorem dL_lay_19 : decode cL_lay 19 = .ok (.iload_n 2, 1) := by decide +kernel
theorem dL_lay_20 : decode cL_lay 20 = .ok (.aload_n 0, 1) := by decide +kernel
theorem dL_lay_21 : decode cL_lay 21 = .ok (.iconst 0, 1) := by decide +kernel
theorem dL_lay_22 : decode cL_lay 22 = .ok (.aload_n 1, 1) := by decide +kernel
theorem dL_lay_23 : decode cL_lay 23 = .ok (.bipush 11, 2) := by decide +kernel
theorem dL_lay_25 : decode cL_lay 25 = .ok (.iload 4, 2) := by decide +kernel
theorem dL_lay_27 : decode cL_lay 27 = .ok (.iadd, 1) := by decide +kernel
theorem dL_lay_28 : decode cL_lay 28 = .ok (.iconst 4, 1) := by decide +kernel
theorem dL_lay_29 : decode cL_lay 29 = .ok (.invokestatic 105, 3) := by decide +kernel
theorem dL_lay_32 : decode cL_lay 32 = .ok (.iconst 0, 1) := by decide +kernel
theorem dL_lay_33 : decode cL_lay 33 = .ok (.iconst 0, 1) := by decide +kernel
theorem dL_lay_34 : decode cL_lay 34 = .ok (.iconst 0, 1) := by decide +kernel
theorem dL_lay_35 : decode cL_lay 35 = .ok (.invokestatic 109, 3) := by decide +kernel
theorem dL_lay_38 : decode cL_lay 38 = .ok (.iadd, 1) := by decide +kernel
theorem dL_lay_39 : decode cL_lay 39 = .ok (.istore_n 2, 1) := by decide +kernel
theorem dL_lay_40 : decode cL_lay 40 = .ok (.iload_n 2, 1) := by decide +kernel
theorem dL_lay_41 : decode cL_lay 41 = .ok (.aload_n 0, 1) := by decide +kernel
theorem dL_lay_42 : decode cL_lay 42 = .ok (.iconst 1, 1) := by decide +kernel
theorem dL_lay_43 : decode cL_lay 43 = .ok (.iload 4, 2) := by decide +kernel
theorem dL_lay_45 : decode cL_lay 45 = .ok (.iconst 1, 1) := by decide +kernel
theorem dL_lay_46 : decode cL_lay 46 = .ok (.aload_n 1, 1) := by decide +kernel
theorem dL_lay_47 : decode cL_lay 47 = .ok (.bipush 21, 2) := by decide +kernel
theorem dL_lay_49 : decode cL_lay 49 = .ok (.iload 4, 2) := by decide +kernel
theorem dL_lay_51 : decode cL_lay 51 = .ok (.iadd, 1) := by decide +kernel
theorem dL_lay_52 : decode cL_lay 52 = .ok (.sipush 999, 3) := by decide +kernel
theorem dL_lay_55 : decode cL_lay 55 = .ok (.invokestatic 105, 3) := by decide +kernel
theorem dL_lay_58 : decode cL_lay 58 = .ok (.iadd, 1) := by decide +kernel
theorem dL_lay_59 : decode cL_lay 59 = .ok (.iconst 0, 1) := by decide +kernel
theorem dL_lay_60 : decode cL_lay 60 = .ok (.iconst 0, 1) := by decide +kernel
theorem dL_lay_61 : decode cL_lay 61 = .ok (.invokestatic 109, 3) := by decide +kernel
theorem dL_lay_64 : decode cL_lay 64 = .ok (.aload_n 1, 1) := by decide +kernel
theorem dL_lay_65 : decode cL_lay 65 = .ok (.bipush 31, 2) := by decide +kernel
theorem dL_lay_67 : decode cL_lay 67 = .ok (.iload 4, 2) := by decide +kernel
theorem dL_lay_69 : decode cL_lay 69 = .ok (.iadd, 1) := by decide +kernel
theorem dL_lay_70 : decode cL_lay 70 = .ok (.iconst 2, 1) := by decide +kernel
theorem dL_lay_71 : decode cL_lay 71 = .ok (.invokestatic 105, 3) := by decide +kernel
theorem dL_lay_74 : decode cL_lay 74 = .ok (.aload_n 0, 1) := by decide +kernel
theorem dL_lay_75 : decode cL_lay 75 = .ok (.iconst 3, 1) := by decide +kernel
theorem dL_lay_76 : decode cL_lay 76 = .ok (.iload 4, 2) := by decide +kernel
theorem dL_lay_78 : decode cL_lay 78 = .ok (.aload_n 1, 1) := by decide +kernel
theorem dL_lay_79 : decode cL_lay 79 = .ok (.bipush 41, 2) := by decide +kernel
theorem dL_lay_81 : decode cL_lay 81 = .ok (.iload 4, 2) := by decide +kernel
theorem dL_lay_83 : decode cL_lay 83 = .ok (.iadd, 1) := by decide +kernel
theorem dL_lay_84 : decode cL_lay 84 = .ok (.sipush 501, 3) := by decide +kernel
theorem dL_lay_87 : decode cL_lay 87 = .ok (.invokestatic 105, 3) := by decide +kernel
theorem dL_lay_90 : decode cL_lay 90 = .ok (.iconst 0, 1) := by decide +kernel
theorem dL_lay_91 : decode cL_lay 91 = .ok (.iconst 0, 1) := by decide +kernel
theorem dL_lay_92 : decode cL_lay 92 = .ok (.invokestatic 109, 3) := by decide +kernel
theorem dL_lay_95 : decode cL_lay 95 = .ok (.imul, 1) := by decide +kernel
theorem dL_lay_96 : decode cL_lay 96 = .ok (.iadd, 1) := by decide +kernel
theorem dL_lay_97 : decode cL_lay 97 = .ok (.iadd, 1) := by decide +kernel
theorem dL_lay_98 : decode cL_lay 98 = .ok (.istore_n 2, 1) := by decide +kernel
theorem dL_lay_99 : decode cL_lay 99 = .ok (.iload_n 2, 1) := by decide +kernel
theorem dL_lay_100 : decode cL_lay 100 = .ok (.aload_n 1, 1) := by decide +kernel
theorem dL_lay_101 : decode cL_lay 101 = .ok (.bipush 51, 2) := by decide +kernel
theorem dL_lay_103 : decode cL_lay 103 = .ok (.iload 4, 2) := by decide +kernel
theorem dL_lay_105 : decode cL_lay 105 = .ok (.iadd, 1) := by decide +kernel
theorem dL_lay_106 : decode cL_lay 106 = .ok (.iconst 3, 1) := by decide +kernel
theorem dL_lay_107 : decode cL_lay 107 = .ok (.invokestatic 105, 3) := by decide +kernel
theorem dL_lay_110 : decode cL_lay 110 = .ok (.ifCond .ne 29, 3) := by decide +kernel
theorem dL_lay_113 : decode cL_lay 113 = .ok (.aload_n 0, 1) := by decide +kernel
theorem dL_lay_114 : decode cL_lay 114 = .ok (.iconst 2, 1) := by decide +kernel
theorem dL_lay_115 : decode cL_lay 115 = .ok (.iload 4, 2) := by decide +kernel
theorem dL_lay_117 : decode cL_lay 117 = .ok (.iconst 1, 1) := by decide +kernel
theorem dL_lay_118 : decode cL_lay 118 = .ok (.aload_n 1, 1) := by decide +kernel
theorem dL_lay_119 : decode cL_lay 119 = .ok (.bipush 61, 2) := by decide +kernel
theorem dL_lay_121 : decode cL_lay 121 = .ok (.iload 4, 2) := by decide +kernel
theorem dL_lay_123 : decode cL_lay 123 = .ok (.iadd, 1) := by decide +kernel
theorem dL_lay_124 : decode cL_lay 124 = .ok (.sipush 999, 3) := by decide +kernel
theorem dL_lay_127 : decode cL_lay 127 = .ok (.invokestatic 105, 3) := by decide +kernel
theorem dL_lay_130 : decode cL_lay 130 = .ok (.iadd, 1) := by decide +kernel
theorem dL_lay_131 : decode cL_lay 131 = .ok (.iconst 0, 1) := by decide +kernel
theorem dL_lay_132 : decode cL_lay 132 = .ok (.iconst 0, 1) := by decide +kernel
theorem dL_lay_133 : decode cL_lay 133 = .ok (.invokestatic 109, 3) := by decide +kernel
theorem dL_lay_136 : decode cL_lay 136 = .ok (.goto 4, 3) := by decide +kernel
theorem dL_lay_139 : decode cL_lay 139 = .ok (.iconst 0, 1) := by decide +kernel
theorem dL_lay_140 : decode cL_lay 140 = .ok (.iadd, 1) := by decide +kernel
theorem dL_lay_141 : decode cL_lay 141 = .ok (.istore_n 2, 1) := by decide +kernel
theorem dL_lay_142 : decode cL_lay 142 = .ok (.iinc 4 1, 3) := by decide +kernel
theorem dL_lay_145 : decode cL_lay 145 = .ok (.goto (-132), 3) := by decide +kernel
theorem dL_lay_148 : decode cL_lay 148 = .ok (.iconst 0, 1) := by decide +kernel
theorem dL_lay_149 : decode cL_lay 149 = .ok (.istore 4, 2) := by decide +kernel
theorem dL_lay_151 : decode cL_lay 151 = .ok (.iload 4, 2) := by decide +kernel
theorem dL_lay_153 : decode cL_lay 153 = .ok (.aload_n 1, 1) := by decide +kernel
theorem dL_lay_154 : decode cL_lay 154 = .ok (.iconst 1, 1) := by decide +kernel
theorem dL_lay_155 : decode cL_lay 155 = .ok (.bipush 12, 2) := by decide +kernel
theorem dL_lay_157 : decode cL_lay 157 = .ok (.invokestatic 105, 3) := by decide +kernel
theorem dL_lay_160 : decode cL_lay 160 = .ok (.if_icmp .ge 66, 3) := by decide +kernel
theorem dL_lay_163 : decode cL_lay 163 = .ok (.iload_n 3, 1) := by decide +kernel
theorem dL_lay_164 : decode cL_lay 164 = .ok (.ifCond .le 62, 3) := by decide +kernel
theorem dL_lay_167 : decode cL_lay 167 = .ok (.iload_n 2, 1) := by decide +kernel
theorem dL_lay_168 : decode cL_lay 168 = .ok (.aload_n 0, 1) := by decide +kernel
theorem dL_lay_169 : decode cL_lay 169 = .ok (.iconst 4, 1) := by decide +kernel
theorem dL_lay_170 : decode cL_lay 170 = .ok (.aload_n 1, 1) := by decide +kernel
theorem dL_lay_171 : decode cL_lay 171 = .ok (.bipush 71, 2) := by decide +kernel
theorem dL_lay_173 : decode cL_lay 173 = .ok (.iload 4, 2) := by decide +kernel
theorem dL_lay_175 : decode cL_lay 175 = .ok (.iadd, 1) := by decide +kernel
theorem dL_lay_176 : decode cL_lay 176 = .ok (.iload_n 3, 1) := by decide +kernel
theorem dL_lay_177 : decode cL_lay 177 = .ok (.invokestatic 105, 3) := by decide +kernel
theorem dL_lay_180 : decode cL_lay 180 = .ok (.aload_n 1, 1) := by decide +kernel
theorem dL_lay_181 : decode cL_lay 181 = .ok (.bipush 91, 2) := by decide +kernel
theorem dL_lay_183 : decode cL_lay 183 = .ok (.iload 4, 2) := by decide +kernel
theorem dL_lay_185 : decode cL_lay 185 = .ok (.iadd, 1) := by decide +kernel
theorem dL_lay_186 : decode cL_lay 186 = .ok (.iload_n 3, 1) := by decide +kernel
theorem dL_lay_187 : decode cL_lay 187 = .ok (.invokestatic 105, 3) := by decide +kernel
theorem dL_lay_190 : decode cL_lay 190 = .ok (.iconst 1, 1) := by decide +kernel
theorem dL_lay_191 : decode cL_lay 191 = .ok (.aload_n 1, 1) := by decide +kernel
theorem dL_lay_192 : decode cL_lay 192 = .ok (.bipush 111, 2) := by decide +kernel
theorem dL_lay_194 : decode cL_lay 194 = .ok (.iload 4, 2) := by decide +kernel
theorem dL_lay_196 : decode cL_lay 196 = .ok (.iadd, 1) := by decide +kernel
theorem dL_lay_197 : decode cL_lay 197 = .ok (.sipush 700, 3) := by decide +kernel
theorem dL_lay_200 : decode cL_lay 200 = .ok (.invokestatic 105, 3) := by decide +kernel
theorem dL_lay_203 : decode cL_lay 203 = .ok (.iadd, 1) := by decide +kernel
theorem dL_lay_204 : decode cL_lay 204 = .ok (.aload_n 1, 1) := by decide +kernel
theorem dL_lay_205 : decode cL_lay 205 = .ok (.sipush 131, 3) := by decide +kernel
theorem dL_lay_208 : decode cL_lay 208 = .ok (.iload 4, 2) := by decide +kernel
theorem dL_lay_210 : decode cL_lay 210 = .ok (.iadd, 1) := by decide +kernel
theorem dL_lay_211 : decode cL_lay 211 = .ok (.iconst 5, 1) := by decide +kernel
theorem dL_lay_212 : decode cL_lay 212 = .ok (.invokestatic 105, 3) := by decide +kernel
theorem dL_lay_215 : decode cL_lay 215 = .ok (.invokestatic 109, 3) := by decide +kernel
theorem dL_lay_218 : decode cL_lay 218 = .ok (.iadd, 1) := by decide +kernel
theorem dL_lay_219 : decode cL_lay 219 = .ok (.istore_n 2, 1) := by decide +kernel
theorem dL_lay_220 : decode cL_lay 220 = .ok (.iinc 4 1, 3) := by decide +kernel
theorem dL_lay_223 : decode cL_lay 223 = .ok (.goto (-72), 3) := by decide +kernel
theorem dL_lay_226 : decode cL_lay 226 = .ok (.iload_n 2, 1) := by decide +kernel
theorem dL_lay_227 : decode cL_lay 227 = .ok (.aload_n 1, 1) := by decide +kernel
theorem dL_lay_228 : decode cL_lay 228 = .ok (.iconst 2, 1) := by decide +kernel
theorem dL_lay_229 : decode cL_lay 229 = .ok (.iconst 2, 1) := by decide +kernel
theorem dL_lay_230 : decode cL_lay 230 = .ok (.invokestatic 105, 3) := by decide +kernel
theorem dL_lay_233 : decode cL_lay 233 = .ok (.ifCond .ne 23, 3) := by decide +kernel
theorem dL_lay_236 : decode cL_lay 236 = .ok (.aload_n 0, 1) := by decide +kernel
theorem dL_lay_237 : decode cL_lay 237 = .ok (.bipush 6, 2) := by decide +kernel
theorem dL_lay_239 : decode cL_lay 239 = .ok (.iconst 1, 1) := by decide +kernel
theorem dL_lay_240 : decode cL_lay 240 = .ok (.aload_n 1, 1) := by decide +kernel
theorem dL_lay_241 : decode cL_lay 241 = .ok (.iconst 3, 1) := by decide +kernel
theorem dL_lay_242 : decode cL_lay 242 = .ok (.iconst 4, 1) := by decide +kernel
theorem dL_lay_243 : decode cL_lay 243 = .ok (.invokestatic 105, 3) := by decide +kernel
theorem dL_lay_246 : decode cL_lay 246 = .ok (.iadd, 1) := by decide +kernel
theorem dL_lay_247 : decode cL_lay 247 = .ok (.iconst 0, 1) := by decide +kernel
theorem dL_lay_248 : decode cL_lay 248 = .ok (.iconst 0, 1) := by decide +kernel
theorem dL_lay_249 : decode cL_lay 249 = .ok (.iconst 0, 1) := by decide +kernel
theorem dL_lay_250 : decode cL_lay 250 = .ok (.invokestatic 109, 3) := by decide +kernel
theorem dL_lay_253 : decode cL_lay 253 = .ok (.goto 4, 3) := by decide +kernel
theorem dL_lay_256 : decode cL_lay 256 = .ok (.iconst 0, 1) := by decide +kernel
theorem dL_lay_257 : decode cL_lay 257 = .ok (.iadd, 1) := by decide +kernel
theorem dL_lay_258 : decode cL_lay 258 = .ok (.istore_n 2, 1) := by decide +kernel
theorem dL_lay_259 : decode cL_lay 259 = .ok (.return_, 1) := by decide +kernel
theorem dL_id_0 : decode cL_id 0 = .ok (.aload_n 0, 1) := by decide +kernel
theorem dL_id_1 : decode cL_id 1 = .ok (.invokevirtual 112, 3) := by decide +kernel
theorem dL_id_4 : decode cL_id 4 = .ok (.ifCond .ne 7, 3) := by decide +kernel
theorem dL_id_7 : decode cL_id 7 = .ok (.iconst 0, 1) := by decide +kernel
theorem dL_id_8 : decode cL_id 8 = .ok (.goto 13, 3) := by decide +kernel
theorem dL_id_11 : decode cL_id 11 = .ok (.aload_n 0, 1) := by decide +kernel
theorem dL_id_12 : decode cL_id 12 = .ok (.iload_n 1, 1) := by decide +kernel
theorem dL_id_13 : decode cL_id 13 = .ok (.aload_n 0, 1) := by decide +kernel
theorem dL_id_14 : decode cL_id 14 = .ok (.invokevirtual 112, 3) := by decide +kernel
theorem dL_id_17 : decode cL_id 17 = .ok (.irem, 1) := by decide +kernel
theorem dL_id_18 : decode cL_id 18 = .ok (.invokevirtual 68, 3) := by decide +kernel
theorem dL_id_21 : decode cL_id 21 = .ok (.ireturn, 1) := by decide +kernel
theorem dL_any_0 : decode cL_any 0 = .ok (.iconst 1, 1) := by decide +kernel
theorem dL_any_1 : decode cL_any 1 = .ok (.aload_n 0, 1) := by decide +kernel
theorem dL_any_2 : decode cL_any 2 = .ok (.invokevirtual 115, 3) := by decide +kernel
theorem dL_any_5 : decode cL_any 5 = .ok (.invokestatic 118, 3) := by decide +kernel
theorem dL_any_8 : decode cL_any 8 = .ok (.istore_n 3, 1) := by decide +kernel
theorem dL_any_9 : decode cL_any 9 = .ok (.aload_n 1, 1) := by decide +kernel
theorem dL_any_10 : decode cL_any 10 = .ok (.iload_n 2, 1) := by decide +kernel
theorem dL_any_11 : decode cL_any 11 = .ok (.iconst 1, 1) := by decide +kernel
theorem dL_any_12 : decode cL_any 12 = .ok (.iadd, 1) := by decide +kernel
theorem dL_any_13 : decode cL_any 13 = .ok (.iload_n 3, 1) := by decide +kernel
theorem dL_any_14 : decode cL_any 14 = .ok (.invokestatic 105, 3) := by decide +kernel
theorem dL_any_17 : decode cL_any 17 = .ok (.istore 4, 2) := by decide +kernel
theorem dL_any_19 : decode cL_any 19 = .ok (.aload_n 1, 1) := by decide +kernel
theorem dL_any_20 : decode cL_any 20 = .ok (.iload_n 2, 1) := by decide +kernel
theorem dL_any_21 : decode cL_any 21 = .ok (.bipush 20, 2) := by decide +kernel
theorem dL_any_23 : decode cL_any 23 = .ok (.invokestatic 105, 3) := by decide +kernel
theorem dL_any_26 : decode cL_any 26 = .ok (.tableswitch 246 0 14 #[74, 91, 91, 91, 113, 113, 113, 151, 151, 171, 171, 171, 171, 171, 224], 74) := by decide +kernel
theorem dL_any_100 : decode cL_any 100 = .ok (.aload_n 0, 1) := by decide +kernel
theorem dL_any_101 : decode cL_any 101 = .ok (.iconst 0, 1) := by decide +kernel
theorem dL_any_102 : decode cL_any 102 = .ok (.aload_n 1, 1) := by decide +kernel
theorem dL_any_103 : decode cL_any 103 = .ok (.iload_n 2, 1) := by decide +kernel
theorem dL_any_104 : decode cL_any 104 = .ok (.iconst 2, 1) := by decide +kernel
theorem dL_any_105 : decode cL_any 105 = .ok (.iadd, 1) := by decide +kernel
theorem dL_any_106 : decode cL_any 106 = .ok (.iconst 4, 1) := by decide +kernel
theorem dL_any_107 : decode cL_any 107 = .ok (.invokestatic 105, 3) := by decide +kernel
theorem dL_any_110 : decode cL_any 110 = .ok (.iconst 0, 1) := by decide +kernel
theorem dL_any_111 : decode cL_any 111 = .ok (.iconst 0, 1) := by decide +kernel
theorem dL_any_112 : decode cL_any 112 = .ok (.iconst 0, 1) := by decide +kernel
theorem dL_any_113 : decode cL_any 113 = .ok (.invokestatic 109, 3) := by decide +kernel
theorem dL_any_116 : decode cL_any 116 = .ok (.ireturn, 1) := by decide +kernel
theorem dL_any_117 : decode cL_any 117 = .ok (.aload_n 0, 1) := by decide +kernel
theorem dL_any_118 : decode cL_any 118 = .ok (.iconst 1, 1) := by decide +kernel
theorem dL_any_119 : decode cL_any 119 = .ok (.iload 4, 2) := by decide +kernel
theorem dL_any_121 : decode cL_any 121 = .ok (.iconst 1, 1) := by decide +kernel
theorem dL_any_122 : decode cL_any 122 = .ok (.aload_n 1, 1) := by decide +kernel
theorem dL_any_123 : decode cL_any 123 = .ok (.iload_n 2, 1) := by decide +kernel
theorem dL_any_124 : decode cL_any 124 = .ok (.iconst 2, 1) := by decide +kernel
theorem dL_any_125 : decode cL_any 125 = .ok (.iadd, 1) := by decide +kernel
theorem dL_any_126 : decode cL_any 126 = .ok (.sipush 999, 3) := by decide +kernel
theorem dL_any_129 : decode cL_any 129 = .ok (.invokestatic 105, 3) := by decide +kernel
theorem dL_any_132 : decode cL_any 132 = .ok (.iadd, 1) := by decide +kernel
theorem dL_any_133 : decode cL_any 133 = .ok (.iconst 0, 1) := by decide +kernel
theorem dL_any_134 : decode cL_any 134 = .ok (.iconst 0, 1) := by decide +kernel
theorem dL_any_135 : decode cL_any 135 = .ok (.invokestatic 109, 3) := by decide +kernel
theorem dL_any_138 : decode cL_any 138 = .ok (.ireturn, 1) := by decide +kernel
theorem dL_any_139 : decode cL_any 139 = .ok (.aload_n 0, 1) := by decide +kernel
theorem dL_any_140 : decode cL_any 140 = .ok (.iconst 2, 1) := by decide +kernel
theorem dL_any_141 : decode cL_any 141 = .ok (.iload 4, 2) := by decide +kernel
theorem dL_any_143 : decode cL_any 143 = .ok (.iconst 1, 1) := by decide +kernel
theorem dL_any_144 : decode cL_any 144 = .ok (.aload_n 1, 1) := by decide +kernel
theorem dL_any_145 : decode cL_any 145 = .ok (.iload_n 2, 1) := by decide +kernel
theorem dL_any_146 : decode cL_any 146 = .ok (.iconst 2, 1) := by decide +kernel
theorem dL_any_147 : decode cL_any 147 = .ok (.iadd, 1) := by decide +kernel
theorem dL_any_148 : decode cL_any 148 = .ok (.aload_n 1, 1) := by decide +kernel
theorem dL_any_149 : decode cL_any 149 = .ok (.iload_n 2, 1) := by decide +kernel
theorem dL_any_150 : decode cL_any 150 = .ok (.iconst 3, 1) := by decide +kernel
theorem dL_any_151 : decode cL_any 151 = .ok (.iadd, 1) := by decide +kernel
theorem dL_any_152 : decode cL_any 152 = .ok (.iconst 2, 1) := by decide +kernel
theorem dL_any_153 : decode cL_any 153 = .ok (.invokestatic 105, 3) := by decide +kernel
theorem dL_any_156 : decode cL_any 156 = .ok (.ifCond .ne 8, 3) := by decide +kernel
theorem dL_any_159 : decode cL_any 159 = .ok (.bipush 60, 2) := by decide +kernel
theorem dL_any_161 : decode cL_any 161 = .ok (.goto 6, 3) := by decide +kernel
theorem dL_any_164 : decode cL_any 164 = .ok (.sipush 999, 3) := by decide +kernel
theorem dL_any_167 : decode cL_any 167 = .ok (.invokestatic 105, 3) := by decide +kernel
theorem dL_any_170 : decode cL_any 170 = .ok (.iadd, 1) := by decide +kernel
theorem dL_any_171 : decode cL_any 171 = .ok (.iconst 0, 1) := by decide +kernel
theorem dL_any_172 : decode cL_any 172 = .ok (.iconst 0, 1) := by decide +kernel
theorem dL_any_173 : decode cL_any 173 = .ok (.invokestatic 109, 3) := by decide +kernel
theorem dL_any_176 : decode cL_any 176 = .ok (.ireturn, 1) := by decide +kernel
theorem dL_any_177 : decode cL_any 177 = .ok (.aload_n 0, 1) := by decide +kernel
theorem dL_any_178 : decode cL_any 178 = .ok (.iconst 3, 1) := by decide +kernel
theorem dL_any_179 : decode cL_any 179 = .ok (.iload 4, 2) := by decide +kernel
theorem dL_any_181 : decode cL_any 181 = .ok (.aload_n 1, 1) := by decide +kernel
theorem dL_any_182 : decode cL_any 182 = .ok (.iload_n 2, 1) := by decide +kernel
theorem dL_any_183 : decode cL_any 183 = .ok (.iconst 2, 1) := by decide +kernel
theorem dL_any_184 : decode cL_any 184 = .ok (.iadd, 1) := by decide +kernel
theorem dL_any_185 : decode cL_any 185 = .ok (.sipush 501, 3) := by decide +kernel
theorem dL_any_188 : decode cL_any 188 = .ok (.invokestatic 105, 3) := by decide +kernel
theorem dL_any_191 : decode cL_any 191 = .ok (.iconst 0, 1) := by decide +kernel
theorem dL_any_192 : decode cL_any 192 = .ok (.iconst 0, 1) := by decide +kernel
theorem dL_any_193 : decode cL_any 193 = .ok (.invokestatic 109, 3) := by decide +kernel
theorem dL_any_196 : decode cL_any 196 = .ok (.ireturn, 1) := by decide +kernel
theorem dL_any_197 : decode cL_any 197 = .ok (.aload_n 0, 1) := by decide +kernel
theorem dL_any_198 : decode cL_any 198 = .ok (.iconst 4, 1) := by decide +kernel
theorem dL_any_199 : decode cL_any 199 = .ok (.iload 4, 2) := by decide +kernel
theorem dL_any_201 : decode cL_any 201 = .ok (.aload_n 1, 1) := by decide +kernel
theorem dL_any_202 : decode cL_any 202 = .ok (.iload_n 2, 1) := by decide +kernel
theorem dL_any_203 : decode cL_any 203 = .ok (.iconst 2, 1) := by decide +kernel
theorem dL_any_204 : decode cL_any 204 = .ok (.iadd, 1) := by decide +kernel
theorem dL_any_205 : decode cL_any 205 = .ok (.iload_n 3, 1) := by decide +kernel
theorem dL_any_206 : decode cL_any 206 = .ok (.invokestatic 105, 3) := by decide +kernel
theorem dL_any_209 : decode cL_any 209 = .ok (.iconst 1, 1) := by decide +kernel
theorem dL_any_210 : decode cL_any 210 = .ok (.aload_n 1, 1) := by decide +kernel
theorem dL_any_211 : decode cL_any 211 = .ok (.iload_n 2, 1) := by decide +kernel
theorem dL_any_212 : decode cL_any 212 = .ok (.iconst 3, 1) := by decide +kernel
theorem dL_any_213 : decode cL_any 213 = .ok (.iadd, 1) := by decide +kernel
theorem dL_any_214 : decode cL_any 214 = .ok (.aload_n 1, 1) := by decide +kernel
theorem dL_any_215 : decode cL_any 215 = .ok (.iload_n 2, 1) := by decide +kernel
theorem dL_any_216 : decode cL_any 216 = .ok (.iconst 4, 1) := by decide +kernel
theorem dL_any_217 : decode cL_any 217 = .ok (.iadd, 1) := by decide +kernel
theorem dL_any_218 : decode cL_any 218 = .ok (.iconst 2, 1) := by decide +kernel
theorem dL_any_219 : decode cL_any 219 = .ok (.invokestatic 105, 3) := by decide +kernel
theorem dL_any_222 : decode cL_any 222 = .ok (.ifCond .ne 8, 3) := by decide +kernel
theorem dL_any_225 : decode cL_any 225 = .ok (.bipush 60, 2) := by decide +kernel
theorem dL_any_227 : decode cL_any 227 = .ok (.goto 6, 3) := by decide +kernel
theorem dL_any_230 : decode cL_any 230 = .ok (.sipush 999, 3) := by decide +kernel
theorem dL_any_233 : decode cL_any 233 = .ok (.invokestatic 105, 3) := by decide +kernel
theorem dL_any_236 : decode cL_any 236 = .ok (.iadd, 1) := by decide +kernel
theorem dL_any_237 : decode cL_any 237 = .ok (.aload_n 1, 1) := by decide +kernel
theorem dL_any_238 : decode cL_any 238 = .ok (.iload_n 2, 1) := by decide +kernel
theorem dL_any_239 : decode cL_any 239 = .ok (.iconst 5, 1) := by decide +kernel
theorem dL_any_240 : decode cL_any 240 = .ok (.iadd, 1) := by decide +kernel
theorem dL_any_241 : decode cL_any 241 = .ok (.bipush 6, 2) := by decide +kernel
theorem dL_any_243 : decode cL_any 243 = .ok (.invokestatic 105, 3) := by decide +kernel
theorem dL_any_246 : decode cL_any 246 = .ok (.invokestatic 109, 3) := by decide +kernel
theorem dL_any_249 : decode cL_any 249 = .ok (.ireturn, 1) := by decide +kernel
theorem dL_any_250 : decode cL_any 250 = .ok (.aload_n 0, 1) := by decide +kernel
theorem dL_any_251 : decode cL_any 251 = .ok (.iconst 5, 1) := by decide +kernel
theorem dL_any_252 : decode cL_any 252 = .ok (.aload_n 0, 1) := by decide +kernel
theorem dL_any_253 : decode cL_any 253 = .ok (.aload_n 1, 1) := by decide +kernel
theorem dL_any_254 : decode cL_any 254 = .ok (.iload_n 2, 1) := by decide +kernel
theorem dL_any_255 : decode cL_any 255 = .ok (.iconst 2, 1) := by decide +kernel
theorem dL_any_256 : decode cL_any 256 = .ok (.iadd, 1) := by decide +kernel
theorem dL_any_257 : decode cL_any 257 = .ok (.bipush 10, 2) := by decide +kernel
theorem dL_any_259 : decode cL_any 259 = .ok (.invokestatic 105, 3) := by decide +kernel
theorem dL_any_262 : decode cL_any 262 = .ok (.invokestatic 123, 3) := by decide +kernel
theorem dL_any_265 : decode cL_any 265 = .ok (.iconst 0, 1) := by decide +kernel
theorem dL_any_266 : decode cL_any 266 = .ok (.iconst 0, 1) := by decide +kernel
theorem dL_any_267 : decode cL_any 267 = .ok (.iconst 0, 1) := by decide +kernel
theorem dL_any_268 : decode cL_any 268 = .ok (.invokestatic 109, 3) := by decide +kernel
theorem dL_any_271 : decode cL_any 271 = .ok (.ireturn, 1) := by decide +kernel
theorem dL_any_272 : decode cL_any 272 = .ok (.aload_n 0, 1) := by decide +kernel
theorem dL_any_273 : decode cL_any 273 = .ok (.bipush 6, 2) := by decide +kernel
theorem dL_any_275 : decode cL_any 275 = .ok (.iconst 1, 1) := by decide +kernel
theorem dL_any_276 : decode cL_any 276 = .ok (.aload_n 1, 1) := by decide +kernel
theorem dL_any_277 : decode cL_any 277 = .ok (.iload_n 2, 1) := by decide +kernel
theorem dL_any_278 : decode cL_any 278 = .ok (.iconst 2, 1) := by decide +kernel
theorem dL_any_279 : decode cL_any 279 = .ok (.iadd, 1) := by decide +kernel
theorem dL_any_280 : decode cL_any 280 = .ok (.aload_n 1, 1) := by decide +kernel
theorem dL_any_281 : decode cL_any 281 = .ok (.iload_n 2, 1) := by decide +kernel
theorem dL_any_282 : decode cL_any 282 = .ok (.iconst 3, 1) := by decide +kernel
theorem dL_any_283 : decode cL_any 283 = .ok (.iadd, 1) := by decide +kernel
theorem dL_any_284 : decode cL_any 284 = .ok (.iconst 2, 1) := by decide +kernel
theorem dL_any_285 : decode cL_any 285 = .ok (.invokestatic 105, 3) := by decide +kernel
theorem dL_any_288 : decode cL_any 288 = .ok (.ifCond .ne 7, 3) := by decide +kernel
theorem dL_any_291 : decode cL_any 291 = .ok (.iconst 3, 1) := by decide +kernel
theorem dL_any_292 : decode cL_any 292 = .ok (.goto 5, 3) := by decide +kernel
theorem dL_any_295 : decode cL_any 295 = .ok (.bipush 60, 2) := by decide +kernel
theorem dL_any_297 : decode cL_any 297 = .ok (.invokestatic 105, 3) := by decide +kernel
theorem dL_any_300 : decode cL_any 300 = .ok (.iadd, 1) := by decide +kernel
theorem dL_any_301 : decode cL_any 301 = .ok (.iconst 0, 1) := by decide +kernel
theorem dL_any_302 : decode cL_any 302 = .ok (.iconst 0, 1) := by decide +kernel
theorem dL_any_303 : decode cL_any 303 = .ok (.iconst 0, 1) := by decide +kernel
theorem dL_any_304 : decode cL_any 304 = .ok (.invokestatic 109, 3) := by decide +kernel
theorem dL_any_307 : decode cL_any 307 = .ok (.ireturn, 1) := by decide +kernel
theorem dL_interest_0 : decode cL_interest 0 = .ok (.iload_n 1, 1) := by decide +kernel
theorem dL_interest_1 : decode cL_interest 1 = .ok (.sipush 9999, 3) := by decide +kernel
theorem dL_interest_4 : decode cL_interest 4 = .ok (.invokestatic 174, 3) := by decide +kernel
theorem dL_interest_7 : decode cL_interest 7 = .ok (.bipush 100, 2) := by decide +kernel
theorem dL_interest_9 : decode cL_interest 9 = .ok (.idiv, 1) := by decide +kernel
theorem dL_interest_10 : decode cL_interest 10 = .ok (.istore 4, 2) := by decide +kernel
theorem dL_interest_12 : decode cL_interest 12 = .ok (.iload_n 0, 1) := by decide +kernel
theorem dL_interest_13 : decode cL_interest 13 = .ok (.iconst 1, 1) := by decide +kernel
theorem dL_interest_14 : decode cL_interest 14 = .ok (.if_icmp .ne 13, 3) := by decide +kernel
theorem dL_interest_17 : decode cL_interest 17 = .ok (.bipush 30, 2) := by decide +kernel
theorem dL_interest_19 : decode cL_interest 19 = .ok (.iconst 3, 1) := by decide +kernel
theorem dL_interest_20 : decode cL_interest 20 = .ok (.iload 4, 2) := by decide +kernel
theorem dL_interest_22 : decode cL_interest 22 = .ok (.imul, 1) := by decide +kernel
theorem dL_interest_23 : decode cL_interest 23 = .ok (.invokestatic 174, 3) := by decide +kernel
theorem dL_interest_26 : decode cL_interest 26 = .ok (.ireturn, 1) := by decide +kernel
theorem dL_interest_27 : decode cL_interest 27 = .ok (.iload_n 0, 1) := by decide +kernel
theorem dL_interest_28 : decode cL_interest 28 = .ok (.iconst 3, 1) := by decide +kernel
theorem dL_interest_29 : decode cL_interest 29 = .ok (.if_icmp .ne 16, 3) := by decide +kernel
theorem dL_interest_32 : decode cL_interest 32 = .ok (.iload_n 3, 1) := by decide +kernel
theorem dL_interest_33 : decode cL_interest 33 = .ok (.ifCond .eq 7, 3) := by decide +kernel
theorem dL_interest_36 : decode cL_interest 36 = .ok (.iconst 0, 1) := by decide +kernel
theorem dL_interest_37 : decode cL_interest 37 = .ok (.goto 7, 3) := by decide +kernel
theorem dL_interest_40 : decode cL_interest 40 = .ok (.iconst 5, 1) := by decide +kernel
theorem dL_interest_41 : decode cL_interest 41 = .ok (.iload 4, 2) := by decide +kernel
theorem dL_interest_43 : decode cL_interest 43 = .ok (.imul, 1) := by decide +kernel
theorem dL_interest_44 : decode cL_interest 44 = .ok (.ireturn, 1) := by decide +kernel
theorem dL_interest_45 : decode cL_interest 45 = .ok (.iload_n 1, 1) := by decide +kernel
theorem dL_interest_46 : decode cL_interest 46 = .ok (.ifCond .lt 14, 3) := by decide +kernel
theorem dL_interest_49 : decode cL_interest 49 = .ok (.iload_n 0, 1) := by decide +kernel
theorem dL_interest_50 : decode cL_interest 50 = .ok (.ifCond .ne 8, 3) := by decide +kernel
theorem dL_interest_53 : decode cL_interest 53 = .ok (.iload 4, 2) := by decide +kernel
theorem dL_interest_55 : decode cL_interest 55 = .ok (.goto 4, 3) := by decide +kernel
theorem dL_interest_58 : decode cL_interest 58 = .ok (.iconst 0, 1) := by decide +kernel
theorem dL_interest_59 : decode cL_interest 59 = .ok (.ireturn, 1) := by decide +kernel
theorem dL_interest_60 : decode cL_interest 60 = .ok (.iload_n 0, 1) := by decide +kernel
theorem dL_interest_61 : decode cL_interest 61 = .ok (.iconst 2, 1) := by decide +kernel
theorem dL_interest_62 : decode cL_interest 62 = .ok (.if_icmp .ne 7, 3) := by decide +kernel
theorem dL_interest_65 : decode cL_interest 65 = .ok (.iconst 5, 1) := by decide +kernel
theorem dL_interest_66 : decode cL_interest 66 = .ok (.goto 14, 3) := by decide +kernel
theorem dL_interest_69 : decode cL_interest 69 = .ok (.iconst 1, 1) := by decide +kernel
theorem dL_interest_70 : decode cL_interest 70 = .ok (.iconst 2, 1) := by decide +kernel
theorem dL_interest_71 : decode cL_interest 71 = .ok (.iload_n 1, 1) := by decide +kernel
theorem dL_interest_72 : decode cL_interest 72 = .ok (.ineg, 1) := by decide +kernel
theorem dL_interest_73 : decode cL_interest 73 = .ok (.bipush 50, 2) := by decide +kernel
theorem dL_interest_75 : decode cL_interest 75 = .ok (.idiv, 1) := by decide +kernel
theorem dL_interest_76 : decode cL_interest 76 = .ok (.imul, 1) := by decide +kernel
theorem dL_interest_77 : decode cL_interest 77 = .ok (.invokestatic 118, 3) := by decide +kernel
theorem dL_interest_80 : decode cL_interest 80 = .ok (.istore 5, 2) := by decide +kernel
theorem dL_interest_82 : decode cL_interest 82 = .ok (.iload 5, 2) := by decide +kernel
theorem dL_interest_84 : decode cL_interest 84 = .ok (.iload_n 1, 1) := by decide +kernel
theorem dL_interest_85 : decode cL_interest 85 = .ok (.iload_n 2, 1) := by decide +kernel
theorem dL_interest_86 : decode cL_interest 86 = .ok (.iadd, 1) := by decide +kernel
theorem dL_interest_87 : decode cL_interest 87 = .ok (.invokestatic 174, 3) := by decide +kernel
theorem dL_interest_90 : decode cL_interest 90 = .ok (.ineg, 1) := by decide +kernel
theorem dL_interest_91 : decode cL_interest 91 = .ok (.ireturn, 1) := by decide +kernel
theorem dL_isLine_0 : decode cL_isLine 0 = .ok (.iload_n 1, 1) := by decide +kernel
theorem dL_isLine_1 : decode cL_isLine 1 = .ok (.aload_n 2, 1) := by decide +kernel
theorem dL_isLine_2 : decode cL_isLine 2 = .ok (.invokevirtual 177, 3) := by decide +kernel
theorem dL_isLine_5 : decode cL_isLine 5 = .ok (.if_icmp .ne 7, 3) := by decide +kernel
theorem dL_isLine_8 : decode cL_isLine 8 = .ok (.iconst 1, 1) := by decide +kernel
theorem dL_isLine_9 : decode cL_isLine 9 = .ok (.goto 4, 3) := by decide +kernel
theorem dL_isLine_12 : decode cL_isLine 12 = .ok (.iconst 0, 1) := by decide +kernel
theorem dL_isLine_13 : decode cL_isLine 13 = .ok (.istore_n 3, 1) := by decide +kernel
theorem dL_isLine_14 : decode cL_isLine 14 = .ok (.iconst 0, 1) := by decide +kernel
theorem dL_isLine_15 : decode cL_isLine 15 = .ok (.istore 4, 2) := by decide +kernel
theorem dL_isLine_17 : decode cL_isLine 17 = .ok (.iload 4, 2) := by decide +kernel
theorem dL_isLine_19 : decode cL_isLine 19 = .ok (.aload_n 2, 1) := by decide +kernel
theorem dL_isLine_20 : decode cL_isLine 20 = .ok (.invokevirtual 177, 3) := by decide +kernel
theorem dL_isLine_23 : decode cL_isLine 23 = .ok (.if_icmp .ge 34, 3) := by decide +kernel
theorem dL_isLine_26 : decode cL_isLine 26 = .ok (.iload_n 3, 1) := by decide +kernel
theorem dL_isLine_27 : decode cL_isLine 27 = .ok (.ifCond .eq 30, 3) := by decide +kernel
theorem dL_isLine_30 : decode cL_isLine 30 = .ok (.aload_n 0, 1) := by decide +kernel
theorem dL_isLine_31 : decode cL_isLine 31 = .ok (.iload 4, 2) := by decide +kernel
theorem dL_isLine_33 : decode cL_isLine 33 = .ok (.invokevirtual 182, 3) := by decide +kernel
theorem dL_isLine_36 : decode cL_isLine 36 = .ok (.aload_n 2, 1) := by decide +kernel
theorem dL_isLine_37 : decode cL_isLine 37 = .ok (.iload 4, 2) := by decide +kernel
theorem dL_isLine_39 : decode cL_isLine 39 = .ok (.invokevirtual 185, 3) := by decide +kernel
theorem dL_isLine_42 : decode cL_isLine 42 = .ok (.if_icmp .ne 7, 3) := by decide +kernel
theorem dL_isLine_45 : decode cL_isLine 45 = .ok (.iconst 1, 1) := by decide +kernel
theorem dL_isLine_46 : decode cL_isLine 46 = .ok (.goto 4, 3) := by decide +kernel
theorem dL_isLine_49 : decode cL_isLine 49 = .ok (.iconst 0, 1) := by decide +kernel
theorem dL_isLine_50 : decode cL_isLine 50 = .ok (.istore_n 3, 1) := by decide +kernel
theorem dL_isLine_51 : decode cL_isLine 51 = .ok (.iinc 4 1, 3) := by decide +kernel
theorem dL_isLine_54 : decode cL_isLine 54 = .ok (.goto (-37), 3) := by decide +kernel
theorem dL_isLine_57 : decode cL_isLine 57 = .ok (.iload_n 3, 1) := by decide +kernel
theorem dL_isLine_58 : decode cL_isLine 58 = .ok (.ireturn, 1) := by decide +kernel
theorem dL_areAccountsRight_0 : decode cL_areAccountsRight 0 = .ok (.aload_n 0, 1) := by decide +kernel
theorem dL_areAccountsRight_1 : decode cL_areAccountsRight 1 = .ok (.invokevirtual 115, 3) := by decide +kernel
theorem dL_areAccountsRight_4 : decode cL_areAccountsRight 4 = .ok (.istore_n 1, 1) := by decide +kernel
theorem dL_areAccountsRight_5 : decode cL_areAccountsRight 5 = .ok (.lconst 0, 1) := by decide +kernel
theorem dL_areAccountsRight_6 : decode cL_areAccountsRight 6 = .ok (.lstore_n 2, 1) := by decide +kernel
theorem dL_areAccountsRight_7 : decode cL_areAccountsRight 7 = .ok (.aload_n 0, 1) := by decide +kernel
theorem dL_areAccountsRight_8 : decode cL_areAccountsRight 8 = .ok (.iconst 0, 1) := by decide +kernel
theorem dL_areAccountsRight_9 : decode cL_areAccountsRight 9 = .ok (.iload_n 1, 1) := by decide +kernel
theorem dL_areAccountsRight_10 : decode cL_areAccountsRight 10 = .ok (.iconst 0, 1) := by decide +kernel
theorem dL_areAccountsRight_11 : decode cL_areAccountsRight 11 = .ok (.invokestatic 188, 3) := by decide +kernel
theorem dL_areAccountsRight_14 : decode cL_areAccountsRight 14 = .ok (.sipush (-20002), 3) := by decide +kernel
theorem dL_areAccountsRight_17 : decode cL_areAccountsRight 17 = .ok (.if_icmp .ne 46, 3) := by decide +kernel
theorem dL_areAccountsRight_20 : decode cL_areAccountsRight 20 = .ok (.aload_n 0, 1) := by decide +kernel
theorem dL_areAccountsRight_21 : decode cL_areAccountsRight 21 = .ok (.iconst 0, 1) := by decide +kernel
theorem dL_areAccountsRight_22 : decode cL_areAccountsRight 22 = .ok (.iconst (-1), 1) := by decide +kernel
theorem dL_areAccountsRight_23 : decode cL_areAccountsRight 23 = .ok (.iconst 0, 1) := by decide +kernel
theorem dL_areAccountsRight_24 : decode cL_areAccountsRight 24 = .ok (.invokestatic 188, 3) := by decide +kernel
theorem dL_areAccountsRight_27 : decode cL_areAccountsRight 27 = .ok (.sipush (-20002), 3) := by decide +kernel
theorem dL_areAccountsRight_30 : decode cL_areAccountsRight 30 = .ok (.if_icmp .ne 33, 3) := by decide +kernel
theorem dL_areAccountsRight_33 : decode cL_areAccountsRight 33 = .ok (.aload_n 0, 1) := by decide +kernel
theorem dL_areAccountsRight_34 : decode cL_areAccountsRight 34 = .ok (.iconst 1, 1) := by decide +kernel
theorem dL_areAccountsRight_35 : decode cL_areAccountsRight 35 = .ok (.iload_n 1, 1) := by decide +kernel
theorem dL_areAccountsRight_36 : decode cL_areAccountsRight 36 = .ok (.iconst 0, 1) := by decide +kernel
theorem dL_areAccountsRight_37 : decode cL_areAccountsRight 37 = .ok (.invokestatic 188, 3) := by decide +kernel
theorem dL_areAccountsRight_40 : decode cL_areAccountsRight 40 = .ok (.sipush (-20004), 3) := by decide +kernel
theorem dL_areAccountsRight_43 : decode cL_areAccountsRight 43 = .ok (.if_icmp .ne 20, 3) := by decide +kernel
theorem dL_areAccountsRight_46 : decode cL_areAccountsRight 46 = .ok (.aload_n 0, 1) := by decide +kernel
theorem dL_areAccountsRight_47 : decode cL_areAccountsRight 47 = .ok (.iconst 1, 1) := by decide +kernel
theorem dL_areAccountsRight_48 : decode cL_areAccountsRight 48 = .ok (.iconst (-1), 1) := by decide +kernel
theorem dL_areAccountsRight_49 : decode cL_areAccountsRight 49 = .ok (.iconst 0, 1) := by decide +kernel
theorem dL_areAccountsRight_50 : decode cL_areAccountsRight 50 = .ok (.invokestatic 188, 3) := by decide +kernel
theorem dL_areAccountsRight_53 : decode cL_areAccountsRight 53 = .ok (.sipush (-20004), 3) := by decide +kernel
theorem dL_areAccountsRight_56 : decode cL_areAccountsRight 56 = .ok (.if_icmp .ne 7, 3) := by decide +kernel
theorem dL_areAccountsRight_59 : decode cL_areAccountsRight 59 = .ok (.iconst 1, 1) := by decide +kernel
theorem dL_areAccountsRight_60 : decode cL_areAccountsRight 60 = .ok (.goto 4, 3) := by decide +kernel
theorem dL_areAccountsRight_63 : decode cL_areAccountsRight 63 = .ok (.iconst 0, 1) := by decide +kernel
theorem dL_areAccountsRight_64 : decode cL_areAccountsRight 64 = .ok (.istore 4, 2) := by decide +kernel
theorem dL_areAccountsRight_66 : decode cL_areAccountsRight 66 = .ok (.iconst 0, 1) := by decide +kernel
theorem dL_areAccountsRight_67 : decode cL_areAccountsRight 67 = .ok (.istore 5, 2) := by decide +kernel
theorem dL_areAccountsRight_69 : decode cL_areAccountsRight 69 = .ok (.iload 5, 2) := by decide +kernel
theorem dL_areAccountsRight_71 : decode cL_areAccountsRight 71 = .ok (.iload_n 1, 1) := by decide +kernel
theorem dL_areAccountsRight_72 : decode cL_areAccountsRight 72 = .ok (.if_icmp .ge 213, 3) := by decide +kernel
theorem dL_areAccountsRight_75 : decode cL_areAccountsRight 75 = .ok (.aload_n 0, 1) := by decide +kernel
theorem dL_areAccountsRight_76 : decode cL_areAccountsRight 76 = .ok (.iload 5, 2) := by decide +kernel
theorem dL_areAccountsRight_78 : decode cL_areAccountsRight 78 = .ok (.invokevirtual 59, 3) := by decide +kernel
theorem dL_areAccountsRight_81 : decode cL_areAccountsRight 81 = .ok (.istore 6, 2) := by decide +kernel
theorem dL_areAccountsRight_83 : decode cL_areAccountsRight 83 = .ok (.aload_n 0, 1) := by decide +kernel
theorem dL_areAccountsRight_84 : decode cL_areAccountsRight 84 = .ok (.iload 5, 2) := by decide +kernel
theorem dL_areAccountsRight_86 : decode cL_areAccountsRight 86 = .ok (.invokevirtual 152, 3) := by decide +kernel
theorem dL_areAccountsRight_89 : decode cL_areAccountsRight 89 = .ok (.istore 7, 2) := by decide +kernel
theorem dL_areAccountsRight_91 : decode cL_areAccountsRight 91 = .ok (.aload_n 0, 1) := by decide +kernel
theorem dL_areAccountsRight_92 : decode cL_areAccountsRight 92 = .ok (.iload 5, 2) := by decide +kernel
theorem dL_areAccountsRight_94 : decode cL_areAccountsRight 94 = .ok (.invokevirtual 149, 3) := by decide +kernel
theorem dL_areAccountsRight_97 : decode cL_areAccountsRight 97 = .ok (.ifCond .ne 8, 3) := by decide +kernel
theorem dL_areAccountsRight_100 : decode cL_areAccountsRight 100 = .ok (.ldc 191, 2) := by decide +kernel
theorem dL_areAccountsRight_102 : decode cL_areAccountsRight 102 = .ok (.goto 35, 3) := by decide +kernel
theorem dL_areAccountsRight_105 : decode cL_areAccountsRight 105 = .ok (.aload_n 0, 1) := by decide +kernel
theorem dL_areAccountsRight_106 : decode cL_areAccountsRight 106 = .ok (.iload 5, 2) := by decide +kernel
theorem dL_areAccountsRight_108 : decode cL_areAccountsRight 108 = .ok (.invokevirtual 149, 3) := by decide +kernel
theorem dL_areAccountsRight_111 : decode cL_areAccountsRight 111 = .ok (.iconst 1, 1) := by decide +kernel
theorem dL_areAccountsRight_112 : decode cL_areAccountsRight 112 = .ok (.if_icmp .ne 8, 3) := by decide +kernel
theorem dL_areAccountsRight_115 : decode cL_areAccountsRight 115 = .ok (.ldc 193, 2) := by decide +kernel
theorem dL_areAccountsRight_117 : decode cL_areAccountsRight 117 = .ok (.goto 20, 3) := by decide +kernel
theorem dL_areAccountsRight_120 : decode cL_areAccountsRight 120 = .ok (.aload_n 0, 1) := by decide +kernel
theorem dL_areAccountsRight_121 : decode cL_areAccountsRight 121 = .ok (.iload 5, 2) := by decide +kernel
theorem dL_areAccountsRight_123 : decode cL_areAccountsRight 123 = .ok (.invokevirtual 149, 3) := by decide +kernel
theorem dL_areAccountsRight_126 : decode cL_areAccountsRight 126 = .ok (.iconst 2, 1) := by decide +kernel
theorem dL_areAccountsRight_127 : decode cL_areAccountsRight 127 = .ok (.if_icmp .ne 8, 3) := by decide +kernel
theorem dL_areAccountsRight_130 : decode cL_areAccountsRight 130 = .ok (.ldc 195, 2) := by decide +kernel
theorem dL_areAccountsRight_132 : decode cL_areAccountsRight 132 = .ok (.goto 5, 3) := by decide +kernel
theorem dL_areAccountsRight_135 : decode cL_areAccountsRight 135 = .ok (.ldc 197, 2) := by decide +kernel
theorem dL_areAccountsRight_137 : decode cL_areAccountsRight 137 = .ok (.astore 8, 2) := by decide +kernel
theorem dL_areAccountsRight_139 : decode cL_areAccountsRight 139 = .ok (.lload_n 2, 1) := by decide +kernel
theorem dL_areAccountsRight_140 : decode cL_areAccountsRight 140 = .ok (.iload 6, 2) := by decide +kernel
theorem dL_areAccountsRight_142 : decode cL_areAccountsRight 142 = .ok (.i2l, 1) := by decide +kernel
theorem dL_areAccountsRight_143 : decode cL_areAccountsRight 143 = .ok (.ladd, 1) := by decide +kernel
theorem dL_areAccountsRight_144 : decode cL_areAccountsRight 144 = .ok (.lstore_n 2, 1) := by decide +kernel
theorem dL_areAccountsRight_145 : decode cL_areAccountsRight 145 = .ok (.iload 4, 2) := by decide +kernel
theorem dL_areAccountsRight_147 : decode cL_areAccountsRight 147 = .ok (.ifCond .eq 129, 3) := by decide +kernel
theorem dL_areAccountsRight_150 : decode cL_areAccountsRight 150 = .ok (.aload_n 0, 1) := by decide +kernel
theorem dL_areAccountsRight_151 : decode cL_areAccountsRight 151 = .ok (.iload 5, 2) := by decide +kernel
theorem dL_areAccountsRight_153 : decode cL_areAccountsRight 153 = .ok (.invokevirtual 199, 3) := by decide +kernel
theorem dL_areAccountsRight_156 : decode cL_areAccountsRight 156 = .ok (.iload 6, 2) := by decide +kernel
theorem dL_areAccountsRight_158 : decode cL_areAccountsRight 158 = .ok (.iload 7, 2) := by decide +kernel
theorem dL_areAccountsRight_160 : decode cL_areAccountsRight 160 = .ok (.iadd, 1) := by decide +kernel
theorem dL_areAccountsRight_161 : decode cL_areAccountsRight 161 = .ok (.if_icmp .ne 115, 3) := by decide +kernel
theorem dL_areAccountsRight_164 : decode cL_areAccountsRight 164 = .ok (.iload 6, 2) := by decide +kernel
theorem dL_areAccountsRight_166 : decode cL_areAccountsRight 166 = .ok (.iload 7, 2) := by decide +kernel
theorem dL_areAccountsRight_168 : decode cL_areAccountsRight 168 = .ok (.iadd, 1) := by decide +kernel
theorem dL_areAccountsRight_169 : decode cL_areAccountsRight 169 = .ok (.ifCond .lt 107, 3) := by decide +kernel
theorem dL_areAccountsRight_172 : decode cL_areAccountsRight 172 = .ok (.aload_n 0, 1) := by decide +kernel
theorem dL_areAccountsRight_173 : decode cL_areAccountsRight 173 = .ok (.iload 5, 2) := by decide +kernel
theorem dL_areAccountsRight_175 : decode cL_areAccountsRight 175 = .ok (.invokevirtual 202, 3) := by decide +kernel
theorem dL_areAccountsRight_178 : decode cL_areAccountsRight 178 = .ok (.aload_n 0, 1) := by decide +kernel
theorem dL_areAccountsRight_179 : decode cL_areAccountsRight 179 = .ok (.iload 5, 2) := by decide +kernel
theorem dL_areAccountsRight_181 : decode cL_areAccountsRight 181 = .ok (.invokevirtual 149, 3) := by decide +kernel
theorem dL_areAccountsRight_184 : decode cL_areAccountsRight 184 = .ok (.iload 6, 2) := by decide +kernel
theorem dL_areAccountsRight_186 : decode cL_areAccountsRight 186 = .ok (.iload 7, 2) := by decide +kernel
theorem dL_areAccountsRight_188 : decode cL_areAccountsRight 188 = .ok (.aload_n 0, 1) := by decide +kernel
theorem dL_areAccountsRight_189 : decode cL_areAccountsRight 189 = .ok (.iload 5, 2) := by decide +kernel
theorem dL_areAccountsRight_191 : decode cL_areAccountsRight 191 = .ok (.invokevirtual 155, 3) := by decide +kernel
theorem dL_areAccountsRight_194 : decode cL_areAccountsRight 194 = .ok (.invokestatic 205, 3) := by decide +kernel
theorem dL_areAccountsRight_197 : decode cL_areAccountsRight 197 = .ok (.if_icmp .ne 79, 3) := by decide +kernel
theorem dL_areAccountsRight_200 : decode cL_areAccountsRight 200 = .ok (.aload_n 0, 1) := by decide +kernel
theorem dL_areAccountsRight_201 : decode cL_areAccountsRight 201 = .ok (.aload_n 0, 1) := by decide +kernel
theorem dL_areAccountsRight_202 : decode cL_areAccountsRight 202 = .ok (.iload 5, 2) := by decide +kernel
theorem dL_areAccountsRight_204 : decode cL_areAccountsRight 204 = .ok (.invokevirtual 209, 3) := by decide +kernel
theorem dL_areAccountsRight_207 : decode cL_areAccountsRight 207 = .ok (.new 212, 3) := by decide +kernel
theorem dL_areAccountsRight_210 : decode cL_areAccountsRight 210 = .ok (.dup, 1) := by decide +kernel
theorem dL_areAccountsRight_211 : decode cL_areAccountsRight 211 = .ok (.invokespecial 214, 3) := by decide +kernel
theorem dL_areAccountsRight_214 : decode cL_areAccountsRight 214 = .ok (.aload 8, 2) := by decide +kernel
theorem dL_areAccountsRight_216 : decode cL_areAccountsRight 216 = .ok (.invokevirtual 215, 3) := by decide +kernel
theorem dL_areAccountsRight_219 : decode cL_areAccountsRight 219 = .ok (.iload 5, 2) := by decide +kernel
theorem dL_areAccountsRight_221 : decode cL_areAccountsRight 221 = .ok (.invokevirtual 219, 3) := by decide +kernel
theorem dL_areAccountsRight_224 : decode cL_areAccountsRight 224 = .ok (.ldc 222, 2) := by decide +kernel
theorem dL_areAccountsRight_226 : decode cL_areAccountsRight 226 = .ok (.invokevirtual 215, 3) := by decide +kernel
theorem dL_areAccountsRight_229 : decode cL_areAccountsRight 229 = .ok (.iload 6, 2) := by decide +kernel
theorem dL_areAccountsRight_231 : decode cL_areAccountsRight 231 = .ok (.invokevirtual 219, 3) := by decide +kernel
theorem dL_areAccountsRight_234 : decode cL_areAccountsRight 234 = .ok (.ldc 224, 2) := by decide +kernel
theorem dL_areAccountsRight_236 : decode cL_areAccountsRight 236 = .ok (.invokevirtual 215, 3) := by decide +kernel
theorem dL_areAccountsRight_239 : decode cL_areAccountsRight 239 = .ok (.iload 7, 2) := by decide +kernel
theorem dL_areAccountsRight_241 : decode cL_areAccountsRight 241 = .ok (.invokevirtual 219, 3) := by decide +kernel
theorem dL_areAccountsRight_244 : decode cL_areAccountsRight 244 = .ok (.aload_n 0, 1) := by decide +kernel
theorem dL_areAccountsRight_245 : decode cL_areAccountsRight 245 = .ok (.iload 5, 2) := by decide +kernel
theorem dL_areAccountsRight_247 : decode cL_areAccountsRight 247 = .ok (.invokevirtual 155, 3) := by decide +kernel
theorem dL_areAccountsRight_250 : decode cL_areAccountsRight 250 = .ok (.ifCond .eq 8, 3) := by decide +kernel
theorem dL_areAccountsRight_253 : decode cL_areAccountsRight 253 = .ok (.ldc 226, 2) := by decide +kernel
theorem dL_areAccountsRight_255 : decode cL_areAccountsRight 255 = .ok (.goto 5, 3) := by decide +kernel
theorem dL_areAccountsRight_258 : decode cL_areAccountsRight 258 = .ok (.ldc 228, 2) := by decide +kernel
theorem dL_areAccountsRight_260 : decode cL_areAccountsRight 260 = .ok (.invokevirtual 215, 3) := by decide +kernel
theorem dL_areAccountsRight_263 : decode cL_areAccountsRight 263 = .ok (.invokevirtual 230, 3) := by decide +kernel
theorem dL_areAccountsRight_266 : decode cL_areAccountsRight 266 = .ok (.invokestatic 234, 3) := by decide +kernel
theorem dL_areAccountsRight_269 : decode cL_areAccountsRight 269 = .ok (.ifCond .eq 7, 3) := by decide +kernel
theorem dL_areAccountsRight_272 : decode cL_areAccountsRight 272 = .ok (.iconst 1, 1) := by decide +kernel
theorem dL_areAccountsRight_273 : decode cL_areAccountsRight 273 = .ok (.goto 4, 3) := by decide +kernel
theorem dL_areAccountsRight_276 : decode cL_areAccountsRight 276 = .ok (.iconst 0, 1) := by decide +kernel
theorem dL_areAccountsRight_277 : decode cL_areAccountsRight 277 = .ok (.istore 4, 2) := by decide +kernel
theorem dL_areAccountsRight_279 : decode cL_areAccountsRight 279 = .ok (.iinc 5 1, 3) := by decide +kernel
theorem dL_areAccountsRight_282 : decode cL_areAccountsRight 282 = .ok (.goto (-213), 3) := by decide +kernel
theorem dL_areAccountsRight_285 : decode cL_areAccountsRight 285 = .ok (.iconst 0, 1) := by decide +kernel
theorem dL_areAccountsRight_286 : decode cL_areAccountsRight 286 = .ok (.istore 5, 2) := by decide +kernel
theorem dL_areAccountsRight_288 : decode cL_areAccountsRight 288 = .ok (.iload 5, 2) := by decide +kernel
theorem dL_areAccountsRight_290 : decode cL_areAccountsRight 290 = .ok (.iconst 1, 1) := by decide +kernel
theorem dL_areAccountsRight_291 : decode cL_areAccountsRight 291 = .ok (.iadd, 1) := by decide +kernel
theorem dL_areAccountsRight_292 : decode cL_areAccountsRight 292 = .ok (.iload_n 1, 1) := by decide +kernel
theorem dL_areAccountsRight_293 : decode cL_areAccountsRight 293 = .ok (.if_icmp .ge 76, 3) := by decide +kernel
theorem dL_areAccountsRight_296 : decode cL_areAccountsRight 296 = .ok (.aload_n 0, 1) := by decide +kernel
theorem dL_areAccountsRight_297 : decode cL_areAccountsRight 297 = .ok (.iload 5, 2) := by decide +kernel
theorem dL_areAccountsRight_299 : decode cL_areAccountsRight 299 = .ok (.invokevirtual 62, 3) := by decide +kernel
theorem dL_areAccountsRight_302 : decode cL_areAccountsRight 302 = .ok (.istore 6, 2) := by decide +kernel
theorem dL_areAccountsRight_304 : decode cL_areAccountsRight 304 = .ok (.aload_n 0, 1) := by decide +kernel
theorem dL_areAccountsRight_305 : decode cL_areAccountsRight 305 = .ok (.iload 5, 2) := by decide +kernel
theorem dL_areAccountsRight_307 : decode cL_areAccountsRight 307 = .ok (.iconst 1, 1) := by decide +kernel
theorem dL_areAccountsRight_308 : decode cL_areAccountsRight 308 = .ok (.iadd, 1) := by decide +kernel
theorem dL_areAccountsRight_309 : decode cL_areAccountsRight 309 = .ok (.invokevirtual 62, 3) := by decide +kernel
theorem dL_areAccountsRight_312 : decode cL_areAccountsRight 312 = .ok (.istore 7, 2) := by decide +kernel
theorem dL_areAccountsRight_314 : decode cL_areAccountsRight 314 = .ok (.iload 4, 2) := by decide +kernel
theorem dL_areAccountsRight_316 : decode cL_areAccountsRight 316 = .ok (.ifCond .eq 44, 3) := by decide +kernel
theorem dL_areAccountsRight_319 : decode cL_areAccountsRight 319 = .ok (.aload_n 0, 1) := by decide +kernel
theorem dL_areAccountsRight_320 : decode cL_areAccountsRight 320 = .ok (.iload 6, 2) := by decide +kernel
theorem dL_areAccountsRight_322 : decode cL_areAccountsRight 322 = .ok (.invokevirtual 59, 3) := by decide +kernel
theorem dL_areAccountsRight_325 : decode cL_areAccountsRight 325 = .ok (.aload_n 0, 1) := by decide +kernel
theorem dL_areAccountsRight_326 : decode cL_areAccountsRight 326 = .ok (.iload 7, 2) := by decide +kernel
theorem dL_areAccountsRight_328 : decode cL_areAccountsRight 328 = .ok (.invokevirtual 59, 3) := by decide +kernel
theorem dL_areAccountsRight_331 : decode cL_areAccountsRight 331 = .ok (.if_icmp .gt 25, 3) := by decide +kernel
theorem dL_areAccountsRight_334 : decode cL_areAccountsRight 334 = .ok (.aload_n 0, 1) := by decide +kernel
theorem dL_areAccountsRight_335 : decode cL_areAccountsRight 335 = .ok (.iload 6, 2) := by decide +kernel
theorem dL_areAccountsRight_337 : decode cL_areAccountsRight 337 = .ok (.invokevirtual 59, 3) := by decide +kernel
theorem dL_areAccountsRight_340 : decode cL_areAccountsRight 340 = .ok (.aload_n 0, 1) := by decide +kernel
theorem dL_areAccountsRight_341 : decode cL_areAccountsRight 341 = .ok (.iload 7, 2) := by decide +kernel
theorem dL_areAccountsRight_343 : decode cL_areAccountsRight 343 = .ok (.invokevirtual 59, 3) := by decide +kernel
theorem dL_areAccountsRight_346 : decode cL_areAccountsRight 346 = .ok (.if_icmp .ne 14, 3) := by decide +kernel
theorem dL_areAccountsRight_349 : decode cL_areAccountsRight 349 = .ok (.iload 6, 2) := by decide +kernel
theorem dL_areAccountsRight_351 : decode cL_areAccountsRight 351 = .ok (.iload 7, 2) := by decide +kernel
theorem dL_areAccountsRight_353 : decode cL_areAccountsRight 353 = .ok (.if_icmp .ge 7, 3) := by decide +kernel
theorem dL_areAccountsRight_356 : decode cL_areAccountsRight 356 = .ok (.iconst 1, 1) := by decide +kernel
theorem dL_areAccountsRight_357 : decode cL_areAccountsRight 357 = .ok (.goto 4, 3) := by decide +kernel
theorem dL_areAccountsRight_360 : decode cL_areAccountsRight 360 = .ok (.iconst 0, 1) := by decide +kernel
theorem dL_areAccountsRight_361 : decode cL_areAccountsRight 361 = .ok (.istore 4, 2) := by decide +kernel
theorem dL_areAccountsRight_363 : decode cL_areAccountsRight 363 = .ok (.iinc 5 1, 3) := by decide +kernel
theorem dL_areAccountsRight_366 : decode cL_areAccountsRight 366 = .ok (.goto (-78), 3) := by decide +kernel
theorem dL_areAccountsRight_369 : decode cL_areAccountsRight 369 = .ok (.iload 4, 2) := by decide +kernel
theorem dL_areAccountsRight_371 : decode cL_areAccountsRight 371 = .ok (.ifCond .eq 52, 3) := by decide +kernel
theorem dL_areAccountsRight_374 : decode cL_areAccountsRight 374 = .ok (.aload_n 0, 1) := by decide +kernel
theorem dL_areAccountsRight_375 : decode cL_areAccountsRight 375 = .ok (.invokevirtual 238, 3) := by decide +kernel
theorem dL_areAccountsRight_378 : decode cL_areAccountsRight 378 = .ok (.lload_n 2, 1) := by decide +kernel
theorem dL_areAccountsRight_379 : decode cL_areAccountsRight 379 = .ok (.aload_n 0, 1) := by decide +kernel
theorem dL_areAccountsRight_380 : decode cL_areAccountsRight 380 = .ok (.invokevirtual 130, 3) := by decide +kernel
theorem dL_areAccountsRight_383 : decode cL_areAccountsRight 383 = .ok (.i2l, 1) := by decide +kernel
theorem dL_areAccountsRight_384 : decode cL_areAccountsRight 384 = .ok (.ladd, 1) := by decide +kernel
theorem dL_areAccountsRight_385 : decode cL_areAccountsRight 385 = .ok (.lcmp, 1) := by decide +kernel
theorem dL_areAccountsRight_386 : decode cL_areAccountsRight 386 = .ok (.ifCond .ne 37, 3) := by decide +kernel
theorem dL_areAccountsRight_389 : decode cL_areAccountsRight 389 = .ok (.aload_n 0, 1) := by decide +kernel
theorem dL_areAccountsRight_390 : decode cL_areAccountsRight 390 = .ok (.invokevirtual 146, 3) := by decide +kernel
theorem dL_areAccountsRight_393 : decode cL_areAccountsRight 393 = .ok (.aload_n 0, 1) := by decide +kernel
theorem dL_areAccountsRight_394 : decode cL_areAccountsRight 394 = .ok (.invokevirtual 238, 3) := by decide +kernel
theorem dL_areAccountsRight_397 : decode cL_areAccountsRight 397 = .ok (.lcmp, 1) := by decide +kernel
theorem dL_areAccountsRight_398 : decode cL_areAccountsRight 398 = .ok (.ifCond .ne 25, 3) := by decide +kernel
theorem dL_areAccountsRight_401 : decode cL_areAccountsRight 401 = .ok (.aload_n 0, 1) := by decide +kernel
theorem dL_areAccountsRight_402 : decode cL_areAccountsRight 402 = .ok (.invokevirtual 130, 3) := by decide +kernel
theorem dL_areAccountsRight_405 : decode cL_areAccountsRight 405 = .ok (.i2l, 1) := by decide +kernel
theorem dL_areAccountsRight_406 : decode cL_areAccountsRight 406 = .ok (.aload_n 0, 1) := by decide +kernel
theorem dL_areAccountsRight_407 : decode cL_areAccountsRight 407 = .ok (.invokevirtual 143, 3) := by decide +kernel
theorem dL_areAccountsRight_410 : decode cL_areAccountsRight 410 = .ok (.aload_n 0, 1) := by decide +kernel
theorem dL_areAccountsRight_411 : decode cL_areAccountsRight 411 = .ok (.invokevirtual 140, 3) := by decide +kernel
theorem dL_areAccountsRight_414 : decode cL_areAccountsRight 414 = .ok (.lsub, 1) := by decide +kernel
theorem dL_areAccountsRight_415 : decode cL_areAccountsRight 415 = .ok (.lcmp, 1) := by decide +kernel
theorem dL_areAccountsRight_416 : decode cL_areAccountsRight 416 = .ok (.ifCond .ne 7, 3) := by decide +kernel
theorem dL_areAccountsRight_419 : decode cL_areAccountsRight 419 = .ok (.iconst 1, 1) := by decide +kernel
theorem dL_areAccountsRight_420 : decode cL_areAccountsRight 420 = .ok (.goto 4, 3) := by decide +kernel
theorem dL_areAccountsRight_423 : decode cL_areAccountsRight 423 = .ok (.iconst 0, 1) := by decide +kernel
theorem dL_areAccountsRight_424 : decode cL_areAccountsRight 424 = .ok (.istore 4, 2) := by decide +kernel
theorem dL_areAccountsRight_426 : decode cL_areAccountsRight 426 = .ok (.iload 4, 2) := by decide +kernel
theorem dL_areAccountsRight_428 : decode cL_areAccountsRight 428 = .ok (.ifCond .eq 24, 3) := by decide +kernel
theorem dL_areAccountsRight_431 : decode cL_areAccountsRight 431 = .ok (.iload_n 1, 1) := by decide +kernel
theorem dL_areAccountsRight_432 : decode cL_areAccountsRight 432 = .ok (.ifCond .eq 16, 3) := by decide +kernel
theorem dL_areAccountsRight_435 : decode cL_areAccountsRight 435 = .ok (.aload_n 0, 1) := by decide +kernel
theorem dL_areAccountsRight_436 : decode cL_areAccountsRight 436 = .ok (.invokevirtual 241, 3) := by decide +kernel
theorem dL_areAccountsRight_439 : decode cL_areAccountsRight 439 = .ok (.lload_n 2, 1) := by decide +kernel
theorem dL_areAccountsRight_440 : decode cL_areAccountsRight 440 = .ok (.l2d, 1) := by decide +kernel
theorem dL_areAccountsRight_441 : decode cL_areAccountsRight 441 = .ok (.iload_n 1, 1) := by decide +kernel
theorem dL_areAccountsRight_442 : decode cL_areAccountsRight 442 = .ok (.i2d, 1) := by decide +kernel
theorem dL_areAccountsRight_443 : decode cL_areAccountsRight 443 = .ok (.ddiv, 1) := by decide +kernel
theorem dL_areAccountsRight_444 : decode cL_areAccountsRight 444 = .ok (.dcmp .l, 1) := by decide +kernel
theorem dL_areAccountsRight_445 : decode cL_areAccountsRight 445 = .ok (.ifCond .ne 7, 3) := by decide +kernel
theorem dL_areAccountsRight_448 : decode cL_areAccountsRight 448 = .ok (.iconst 1, 1) := by decide +kernel
theorem dL_areAccountsRight_449 : decode cL_areAccountsRight 449 = .ok (.goto 4, 3) := by decide +kernel
theorem dL_areAccountsRight_452 : decode cL_areAccountsRight 452 = .ok (.iconst 0, 1) := by decide +kernel
theorem dL_areAccountsRight_453 : decode cL_areAccountsRight 453 = .ok (.ireturn, 1) := by decide +kernel
theorem dL_leads_0 : decode cL_leads 0 = .ok (.iconst 0, 1) := by decide +kernel
theorem dL_leads_1 : decode cL_leads 1 = .ok (.istore 4, 2) := by decide +kernel
theorem dL_leads_3 : decode cL_leads 3 = .ok (.iload 4, 2) := by decide +kernel
theorem dL_leads_5 : decode cL_leads 5 = .ok (.aload_n 0, 1) := by decide +kernel
theorem dL_leads_6 : decode cL_leads 6 = .ok (.invokevirtual 112, 3) := by decide +kernel
theorem dL_leads_9 : decode cL_leads 9 = .ok (.if_icmp .ge 61, 3) := by decide +kernel
theorem dL_leads_12 : decode cL_leads 12 = .ok (.aload_n 0, 1) := by decide +kernel
theorem dL_leads_13 : decode cL_leads 13 = .ok (.iload 4, 2) := by decide +kernel
theorem dL_leads_15 : decode cL_leads 15 = .ok (.invokevirtual 68, 3) := by decide +kernel
theorem dL_leads_18 : decode cL_leads 18 = .ok (.istore 5, 2) := by decide +kernel
theorem dL_leads_20 : decode cL_leads 20 = .ok (.aload_n 0, 1) := by decide +kernel
theorem dL_leads_21 : decode cL_leads 21 = .ok (.iload 5, 2) := by decide +kernel
theorem dL_leads_23 : decode cL_leads 23 = .ok (.invokevirtual 158, 3) := by decide +kernel
theorem dL_leads_26 : decode cL_leads 26 = .ok (.iload_n 1, 1) := by decide +kernel
theorem dL_leads_27 : decode cL_leads 27 = .ok (.if_icmp .ne 37, 3) := by decide +kernel
theorem dL_leads_30 : decode cL_leads 30 = .ok (.aload_n 0, 1) := by decide +kernel
theorem dL_leads_31 : decode cL_leads 31 = .ok (.iload 5, 2) := by decide +kernel
theorem dL_leads_33 : decode cL_leads 33 = .ok (.invokevirtual 161, 3) := by decide +kernel
theorem dL_leads_36 : decode cL_leads 36 = .ok (.iload_n 2, 1) := by decide +kernel
theorem dL_leads_37 : decode cL_leads 37 = .ok (.if_icmp .eq 25, 3) := by decide +kernel
theorem dL_leads_40 : decode cL_leads 40 = .ok (.iload_n 3, 1) := by decide +kernel
theorem dL_leads_41 : decode cL_leads 41 = .ok (.iconst 1, 1) := by decide +kernel
theorem dL_leads_42 : decode cL_leads 42 = .ok (.if_icmp .le 22, 3) := by decide +kernel
theorem dL_leads_45 : decode cL_leads 45 = .ok (.aload_n 0, 1) := by decide +kernel
theorem dL_leads_46 : decode cL_leads 46 = .ok (.aload_n 0, 1) := by decide +kernel
theorem dL_leads_47 : decode cL_leads 47 = .ok (.iload 5, 2) := by decide +kernel
theorem dL_leads_49 : decode cL_leads 49 = .ok (.invokevirtual 161, 3) := by decide +kernel
theorem dL_leads_52 : decode cL_leads 52 = .ok (.iload_n 2, 1) := by decide +kernel
theorem dL_leads_53 : decode cL_leads 53 = .ok (.iload_n 3, 1) := by decide +kernel
theorem dL_leads_54 : decode cL_leads 54 = .ok (.iconst 1, 1) := by decide +kernel
theorem dL_leads_55 : decode cL_leads 55 = .ok (.isub, 1) := by decide +kernel
theorem dL_leads_56 : decode cL_leads 56 = .ok (.invokestatic 245, 3) := by decide +kernel
theorem dL_leads_59 : decode cL_leads 59 = .ok (.ifCond .eq 5, 3) := by decide +kernel
theorem dL_leads_62 : decode cL_leads 62 = .ok (.iconst 1, 1) := by decide +kernel
theorem dL_leads_63 : decode cL_leads 63 = .ok (.ireturn, 1) := by decide +kernel
theorem dL_leads_64 : decode cL_leads 64 = .ok (.iinc 4 1, 3) := by decide +kernel
theorem dL_leads_67 : decode cL_leads 67 = .ok (.goto (-64), 3) := by decide +kernel
theorem dL_leads_70 : decode cL_leads 70 = .ok (.iconst 0, 1) := by decide +kernel
theorem dL_leads_71 : decode cL_leads 71 = .ok (.ireturn, 1) := by decide +kernel
theorem dL_areTransfersRight_0 : decode cL_areTransfersRight 0 = .ok (.aload_n 0, 1) := by decide +kernel
theorem dL_areTransfersRight_1 : decode cL_areTransfersRight 1 = .ok (.invokevirtual 115, 3) := by decide +kernel
theorem dL_areTransfersRight_4 : decode cL_areTransfersRight 4 = .ok (.istore_n 3, 1) := by decide +kernel
theorem dL_areTransfersRight_5 : decode cL_areTransfersRight 5 = .ok (.aload_n 0, 1) := by decide +kernel
theorem dL_areTransfersRight_6 : decode cL_areTransfersRight 6 = .ok (.iconst 3, 1) := by decide +kernel
theorem dL_areTransfersRight_7 : decode cL_areTransfersRight 7 = .ok (.aload_n 0, 1) := by decide +kernel
theorem dL_areTransfersRight_8 : decode cL_areTransfersRight 8 = .ok (.invokevirtual 112, 3) := by decide +kernel
theorem dL_areTransfersRight_11 : decode cL_areTransfersRight 11 = .ok (.iconst 0, 1) := by decide +kernel
theorem dL_areTransfersRight_12 : decode cL_areTransfersRight 12 = .ok (.invokestatic 188, 3) := by decide +kernel
theorem dL_areTransfersRight_15 : decode cL_areTransfersRight 15 = .ok (.sipush (-20002), 3) := by decide +kernel
theorem dL_areTransfersRight_18 : decode cL_areTransfersRight 18 = .ok (.if_icmp .ne 74, 3) := by decide +kernel
theorem dL_areTransfersRight_21 : decode cL_areTransfersRight 21 = .ok (.aload_n 0, 1) := by decide +kernel
theorem dL_areTransfersRight_22 : decode cL_areTransfersRight 22 = .ok (.iconst 3, 1) := by decide +kernel
theorem dL_areTransfersRight_23 : decode cL_areTransfersRight 23 = .ok (.iconst (-1), 1) := by decide +kernel
theorem dL_areTransfersRight_24 : decode cL_areTransfersRight 24 = .ok (.iconst 0, 1) := by decide +kernel
theorem dL_areTransfersRight_25 : decode cL_areTransfersRight 25 = .ok (.invokestatic 188, 3) := by decide +kernel
theorem dL_areTransfersRight_28 : decode cL_areTransfersRight 28 = .ok (.sipush (-20002), 3) := by decide +kernel
theorem dL_areTransfersRight_31 : decode cL_areTransfersRight 31 = .ok (.if_icmp .ne 61, 3) := by decide +kernel
theorem dL_areTransfersRight_34 : decode cL_areTransfersRight 34 = .ok (.aload_n 0, 1) := by decide +kernel
theorem dL_areTransfersRight_35 : decode cL_areTransfersRight 35 = .ok (.iconst 4, 1) := by decide +kernel
theorem dL_areTransfersRight_36 : decode cL_areTransfersRight 36 = .ok (.iconst (-1), 1) := by decide +kernel
theorem dL_areTransfersRight_37 : decode cL_areTransfersRight 37 = .ok (.iconst 0, 1) := by decide +kernel
theorem dL_areTransfersRight_38 : decode cL_areTransfersRight 38 = .ok (.invokestatic 188, 3) := by decide +kernel
theorem dL_areTransfersRight_41 : decode cL_areTransfersRight 41 = .ok (.sipush (-20004), 3) := by decide +kernel
theorem dL_areTransfersRight_44 : decode cL_areTransfersRight 44 = .ok (.if_icmp .ne 48, 3) := by decide +kernel
theorem dL_areTransfersRight_47 : decode cL_areTransfersRight 47 = .ok (.aload_n 0, 1) := by decide +kernel
theorem dL_areTransfersRight_48 : decode cL_areTransfersRight 48 = .ok (.iconst 5, 1) := by decide +kernel
theorem dL_areTransfersRight_49 : decode cL_areTransfersRight 49 = .ok (.iconst (-1), 1) := by decide +kernel
theorem dL_areTransfersRight_50 : decode cL_areTransfersRight 50 = .ok (.iconst 0, 1) := by decide +kernel
theorem dL_areTransfersRight_51 : decode cL_areTransfersRight 51 = .ok (.invokestatic 188, 3) := by decide +kernel
theorem dL_areTransfersRight_54 : decode cL_areTransfersRight 54 = .ok (.sipush (-20004), 3) := by decide +kernel
theorem dL_areTransfersRight_57 : decode cL_areTransfersRight 57 = .ok (.if_icmp .ne 35, 3) := by decide +kernel
theorem dL_areTransfersRight_60 : decode cL_areTransfersRight 60 = .ok (.aload_n 0, 1) := by decide +kernel
theorem dL_areTransfersRight_61 : decode cL_areTransfersRight 61 = .ok (.bipush 6, 2) := by decide +kernel
theorem dL_areTransfersRight_63 : decode cL_areTransfersRight 63 = .ok (.iload_n 3, 1) := by decide +kernel
theorem dL_areTransfersRight_64 : decode cL_areTransfersRight 64 = .ok (.iconst 0, 1) := by decide +kernel
theorem dL_areTransfersRight_65 : decode cL_areTransfersRight 65 = .ok (.invokestatic 188, 3) := by decide +kernel
theorem dL_areTransfersRight_68 : decode cL_areTransfersRight 68 = .ok (.sipush (-20002), 3) := by decide +kernel
theorem dL_areTransfersRight_71 : decode cL_areTransfersRight 71 = .ok (.if_icmp .ne 21, 3) := by decide +kernel
theorem dL_areTransfersRight_74 : decode cL_areTransfersRight 74 = .ok (.aload_n 0, 1) := by decide +kernel
theorem dL_areTransfersRight_75 : decode cL_areTransfersRight 75 = .ok (.bipush 7, 2) := by decide +kernel
theorem dL_areTransfersRight_77 : decode cL_areTransfersRight 77 = .ok (.iload_n 3, 1) := by decide +kernel
theorem dL_areTransfersRight_78 : decode cL_areTransfersRight 78 = .ok (.iconst 0, 1) := by decide +kernel
theorem dL_areTransfersRight_79 : decode cL_areTransfersRight 79 = .ok (.invokestatic 188, 3) := by decide +kernel
theorem dL_areTransfersRight_82 : decode cL_areTransfersRight 82 = .ok (.sipush (-20002), 3) := by decide +kernel
theorem dL_areTransfersRight_85 : decode cL_areTransfersRight 85 = .ok (.if_icmp .ne 7, 3) := by decide +kernel
theorem dL_areTransfersRight_88 : decode cL_areTransfersRight 88 = .ok (.iconst 1, 1) := by decide +kernel
theorem dL_areTransfersRight_89 : decode cL_areTransfersRight 89 = .ok (.goto 4, 3) := by decide +kernel
theorem dL_areTransfersRight_92 : decode cL_areTransfersRight 92 = .ok (.iconst 0, 1) := by decide +kernel
theorem dL_areTransfersRight_93 : decode cL_areTransfersRight 93 = .ok (.istore 4, 2) := by decide +kernel
theorem dL_areTransfersRight_95 : decode cL_areTransfersRight 95 = .ok (.iconst 0, 1) := by decide +kernel
theorem dL_areTransfersRight_96 : decode cL_areTransfersRight 96 = .ok (.istore 5, 2) := by decide +kernel
theorem dL_areTransfersRight_98 : decode cL_areTransfersRight 98 = .ok (.iload 5, 2) := by decide +kernel
theorem dL_areTransfersRight_100 : decode cL_areTransfersRight 100 = .ok (.iconst 1, 1) := by decide +kernel
theorem dL_areTransfersRight_101 : decode cL_areTransfersRight 101 = .ok (.iadd, 1) := by decide +kernel
theorem dL_areTransfersRight_102 : decode cL_areTransfersRight 102 = .ok (.aload_n 0, 1) := by decide +kernel
theorem dL_areTransfersRight_103 : decode cL_areTransfersRight 103 = .ok (.invokevirtual 112, 3) := by decide +kernel
theorem dL_areTransfersRight_106 : decode cL_areTransfersRight 106 = .ok (.if_icmp .ge 80, 3) := by decide +kernel
theorem dL_areTransfersRight_109 : decode cL_areTransfersRight 109 = .ok (.aload_n 0, 1) := by decide +kernel
theorem dL_areTransfersRight_110 : decode cL_areTransfersRight 110 = .ok (.iload 5, 2) := by decide +kernel
theorem dL_areTransfersRight_112 : decode cL_areTransfersRight 112 = .ok (.invokevirtual 68, 3) := by decide +kernel
theorem dL_areTransfersRight_115 : decode cL_areTransfersRight 115 = .ok (.istore 6, 2) := by decide +kernel
theorem dL_areTransfersRight_117 : decode cL_areTransfersRight 117 = .ok (.aload_n 0, 1) := by decide +kernel
theorem dL_areTransfersRight_118 : decode cL_areTransfersRight 118 = .ok (.iload 5, 2) := by decide +kernel
theorem dL_areTransfersRight_120 : decode cL_areTransfersRight 120 = .ok (.iconst 1, 1) := by decide +kernel
theorem dL_areTransfersRight_121 : decode cL_areTransfersRight 121 = .ok (.iadd, 1) := by decide +kernel
theorem dL_areTransfersRight_122 : decode cL_areTransfersRight 122 = .ok (.invokevirtual 68, 3) := by decide +kernel
theorem dL_areTransfersRight_125 : decode cL_areTransfersRight 125 = .ok (.istore 7, 2) := by decide +kernel
theorem dL_areTransfersRight_127 : decode cL_areTransfersRight 127 = .ok (.aload_n 0, 1) := by decide +kernel
theorem dL_areTransfersRight_128 : decode cL_areTransfersRight 128 = .ok (.iload 7, 2) := by decide +kernel
theorem dL_areTransfersRight_130 : decode cL_areTransfersRight 130 = .ok (.invokevirtual 98, 3) := by decide +kernel
theorem dL_areTransfersRight_133 : decode cL_areTransfersRight 133 = .ok (.aload_n 0, 1) := by decide +kernel
theorem dL_areTransfersRight_134 : decode cL_areTransfersRight 134 = .ok (.iload 6, 2) := by decide +kernel
theorem dL_areTransfersRight_136 : decode cL_areTransfersRight 136 = .ok (.invokevirtual 98, 3) := by decide +kernel
theorem dL_areTransfersRight_139 : decode cL_areTransfersRight 139 = .ok (.isub, 1) := by decide +kernel
theorem dL_areTransfersRight_140 : decode cL_areTransfersRight 140 = .ok (.istore 8, 2) := by decide +kernel
theorem dL_areTransfersRight_142 : decode cL_areTransfersRight 142 = .ok (.iload 4, 2) := by decide +kernel
theorem dL_areTransfersRight_144 : decode cL_areTransfersRight 144 = .ok (.ifCond .eq 33, 3) := by decide +kernel
theorem dL_areTransfersRight_147 : decode cL_areTransfersRight 147 = .ok (.iload 8, 2) := by decide +kernel
theorem dL_areTransfersRight_149 : decode cL_areTransfersRight 149 = .ok (.ifCond .gt 15, 3) := by decide +kernel
theorem dL_areTransfersRight_152 : decode cL_areTransfersRight 152 = .ok (.iload 8, 2) := by decide +kernel
theorem dL_areTransfersRight_154 : decode cL_areTransfersRight 154 = .ok (.ifCond .ne 23, 3) := by decide +kernel
theorem dL_areTransfersRight_157 : decode cL_areTransfersRight 157 = .ok (.iload 6, 2) := by decide +kernel
theorem dL_areTransfersRight_159 : decode cL_areTransfersRight 159 = .ok (.iload 7, 2) := by decide +kernel
theorem dL_areTransfersRight_161 : decode cL_areTransfersRight 161 = .ok (.if_icmp .ge 16, 3) := by decide +kernel
theorem dL_areTransfersRight_164 : decode cL_areTransfersRight 164 = .ok (.aload_n 0, 1) := by decide +kernel
theorem dL_areTransfersRight_165 : decode cL_areTransfersRight 165 = .ok (.iload 6, 2) := by decide +kernel
theorem dL_areTransfersRight_167 : decode cL_areTransfersRight 167 = .ok (.invokevirtual 98, 3) := by decide +kernel
theorem dL_areTransfersRight_170 : decode cL_areTransfersRight 170 = .ok (.ifCond .lt 7, 3) := by decide +kernel
theorem dL_areTransfersRight_173 : decode cL_areTransfersRight 173 = .ok (.iconst 1, 1) := by decide +kernel
theorem dL_areTransfersRight_174 : decode cL_areTransfersRight 174 = .ok (.goto 4, 3) := by decide +kernel
theorem dL_areTransfersRight_177 : decode cL_areTransfersRight 177 = .ok (.iconst 0, 1) := by decide +kernel
theorem dL_areTransfersRight_178 : decode cL_areTransfersRight 178 = .ok (.istore 4, 2) := by decide +kernel
theorem dL_areTransfersRight_180 : decode cL_areTransfersRight 180 = .ok (.iinc 5 1, 3) := by decide +kernel
theorem dL_areTransfersRight_183 : decode cL_areTransfersRight 183 = .ok (.goto (-85), 3) := by decide +kernel
theorem dL_areTransfersRight_186 : decode cL_areTransfersRight 186 = .ok (.iconst 0, 1) := by decide +kernel
theorem dL_areTransfersRight_187 : decode cL_areTransfersRight 187 = .ok (.istore 5, 2) := by decide +kernel
theorem dL_areTransfersRight_189 : decode cL_areTransfersRight 189 = .ok (.iload 5, 2) := by decide +kernel
theorem dL_areTransfersRight_191 : decode cL_areTransfersRight 191 = .ok (.iload_n 3, 1) := by decide +kernel
theorem dL_areTransfersRight_192 : decode cL_areTransfersRight 192 = .ok (.if_icmp .ge 124, 3) := by decide +kernel
theorem dL_areTransfersRight_195 : decode cL_areTransfersRight 195 = .ok (.iconst 0, 1) := by decide +kernel
theorem dL_areTransfersRight_196 : decode cL_areTransfersRight 196 = .ok (.istore 6, 2) := by decide +kernel
theorem dL_areTransfersRight_198 : decode cL_areTransfersRight 198 = .ok (.iconst 0, 1) := by decide +kernel
theorem dL_areTransfersRight_199 : decode cL_areTransfersRight 199 = .ok (.istore 7, 2) := by decide +kernel
theorem dL_areTransfersRight_201 : decode cL_areTransfersRight 201 = .ok (.iload 7, 2) := by decide +kernel
theorem dL_areTransfersRight_203 : decode cL_areTransfersRight 203 = .ok (.aload_n 0, 1) := by decide +kernel
theorem dL_areTransfersRight_204 : decode cL_areTransfersRight 204 = .ok (.invokevirtual 112, 3) := by decide +kernel
theorem dL_areTransfersRight_207 : decode cL_areTransfersRight 207 = .ok (.if_icmp .ge 69, 3) := by decide +kernel
theorem dL_areTransfersRight_210 : decode cL_areTransfersRight 210 = .ok (.aload_n 0, 1) := by decide +kernel
theorem dL_areTransfersRight_211 : decode cL_areTransfersRight 211 = .ok (.iload 7, 2) := by decide +kernel
theorem dL_areTransfersRight_213 : decode cL_areTransfersRight 213 = .ok (.invokevirtual 68, 3) := by decide +kernel
theorem dL_areTransfersRight_216 : decode cL_areTransfersRight 216 = .ok (.istore 8, 2) := by decide +kernel
theorem dL_areTransfersRight_218 : decode cL_areTransfersRight 218 = .ok (.iload 6, 2) := by decide +kernel
theorem dL_areTransfersRight_220 : decode cL_areTransfersRight 220 = .ok (.aload_n 0, 1) := by decide +kernel
theorem dL_areTransfersRight_221 : decode cL_areTransfersRight 221 = .ok (.iload 8, 2) := by decide +kernel
theorem dL_areTransfersRight_223 : decode cL_areTransfersRight 223 = .ok (.invokevirtual 161, 3) := by decide +kernel
theorem dL_areTransfersRight_226 : decode cL_areTransfersRight 226 = .ok (.iload 5, 2) := by decide +kernel
theorem dL_areTransfersRight_228 : decode cL_areTransfersRight 228 = .ok (.if_icmp .ne 12, 3) := by decide +kernel
theorem dL_areTransfersRight_231 : decode cL_areTransfersRight 231 = .ok (.aload_n 0, 1) := by decide +kernel
theorem dL_areTransfersRight_232 : decode cL_areTransfersRight 232 = .ok (.iload 8, 2) := by decide +kernel
theorem dL_areTransfersRight_234 : decode cL_areTransfersRight 234 = .ok (.invokevirtual 71, 3) := by decide +kernel
theorem dL_areTransfersRight_237 : decode cL_areTransfersRight 237 = .ok (.goto 4, 3) := by decide +kernel
theorem dL_areTransfersRight_240 : decode cL_areTransfersRight 240 = .ok (.iconst 0, 1) := by decide +kernel
theorem dL_areTransfersRight_241 : decode cL_areTransfersRight 241 = .ok (.iadd, 1) := by decide +kernel
theorem dL_areTransfersRight_242 : decode cL_areTransfersRight 242 = .ok (.istore 6, 2) := by decide +kernel
theorem dL_areTransfersRight_244 : decode cL_areTransfersRight 244 = .ok (.iload 6, 2) := by decide +kernel
theorem dL_areTransfersRight_246 : decode cL_areTransfersRight 246 = .ok (.aload_n 0, 1) := by decide +kernel
theorem dL_areTransfersRight_247 : decode cL_areTransfersRight 247 = .ok (.iload 8, 2) := by decide +kernel
theorem dL_areTransfersRight_249 : decode cL_areTransfersRight 249 = .ok (.invokevirtual 158, 3) := by decide +kernel
theorem dL_areTransfersRight_252 : decode cL_areTransfersRight 252 = .ok (.iload 5, 2) := by decide +kernel
theorem dL_areTransfersRight_254 : decode cL_areTransfersRight 254 = .ok (.if_icmp .ne 12, 3) := by decide +kernel
theorem dL_areTransfersRight_257 : decode cL_areTransfersRight 257 = .ok (.aload_n 0, 1) := by decide +kernel
theorem dL_areTransfersRight_258 : decode cL_areTransfersRight 258 = .ok (.iload 8, 2) := by decide +kernel
theorem dL_areTransfersRight_260 : decode cL_areTransfersRight 260 = .ok (.invokevirtual 71, 3) := by decide +kernel
theorem dL_areTransfersRight_263 : decode cL_areTransfersRight 263 = .ok (.goto 4, 3) := by decide +kernel
theorem dL_areTransfersRight_266 : decode cL_areTransfersRight 266 = .ok (.iconst 0, 1) := by decide +kernel
theorem dL_areTransfersRight_267 : decode cL_areTransfersRight 267 = .ok (.isub, 1) := by decide +kernel
theorem dL_areTransfersRight_268 : decode cL_areTransfersRight 268 = .ok (.istore 6, 2) := by decide +kernel
theorem dL_areTransfersRight_270 : decode cL_areTransfersRight 270 = .ok (.iinc 7 1, 3) := by decide +kernel
theorem dL_areTransfersRight_273 : decode cL_areTransfersRight 273 = .ok (.goto (-72), 3) := by decide +kernel
theorem dL_areTransfersRight_276 : decode cL_areTransfersRight 276 = .ok (.iload 4, 2) := by decide +kernel
theorem dL_areTransfersRight_278 : decode cL_areTransfersRight 278 = .ok (.ifCond .eq 29, 3) := by decide +kernel
theorem dL_areTransfersRight_281 : decode cL_areTransfersRight 281 = .ok (.aload_n 0, 1) := by decide +kernel
theorem dL_areTransfersRight_282 : decode cL_areTransfersRight 282 = .ok (.iload 5, 2) := by decide +kernel
theorem dL_areTransfersRight_284 : decode cL_areTransfersRight 284 = .ok (.invokevirtual 82, 3) := by decide +kernel
theorem dL_areTransfersRight_287 : decode cL_areTransfersRight 287 = .ok (.iload 6, 2) := by decide +kernel
theorem dL_areTransfersRight_289 : decode cL_areTransfersRight 289 = .ok (.if_icmp .ne 18, 3) := by decide +kernel
theorem dL_areTransfersRight_292 : decode cL_areTransfersRight 292 = .ok (.aload_n 0, 1) := by decide +kernel
theorem dL_areTransfersRight_293 : decode cL_areTransfersRight 293 = .ok (.iload 5, 2) := by decide +kernel
theorem dL_areTransfersRight_295 : decode cL_areTransfersRight 295 = .ok (.invokevirtual 249, 3) := by decide +kernel
theorem dL_areTransfersRight_298 : decode cL_areTransfersRight 298 = .ok (.iload 6, 2) := by decide +kernel
theorem dL_areTransfersRight_300 : decode cL_areTransfersRight 300 = .ok (.if_icmp .ne 7, 3) := by decide +kernel
theorem dL_areTransfersRight_303 : decode cL_areTransfersRight 303 = .ok (.iconst 1, 1) := by decide +kernel
theorem dL_areTransfersRight_304 : decode cL_areTransfersRight 304 = .ok (.goto 4, 3) := by decide +kernel
theorem dL_areTransfersRight_307 : decode cL_areTransfersRight 307 = .ok (.iconst 0, 1) := by decide +kernel
theorem dL_areTransfersRight_308 : decode cL_areTransfersRight 308 = .ok (.istore 4, 2) := by decide +kernel
theorem dL_areTransfersRight_310 : decode cL_areTransfersRight 310 = .ok (.iinc 5 1, 3) := by decide +kernel
theorem dL_areTransfersRight_313 : decode cL_areTransfersRight 313 = .ok (.goto (-124), 3) := by decide +kernel
theorem dL_areTransfersRight_316 : decode cL_areTransfersRight 316 = .ok (.iload 4, 2) := by decide +kernel
theorem dL_areTransfersRight_318 : decode cL_areTransfersRight 318 = .ok (.ifCond .eq 35, 3) := by decide +kernel
theorem dL_areTransfersRight_321 : decode cL_areTransfersRight 321 = .ok (.iload_n 3, 1) := by decide +kernel
theorem dL_areTransfersRight_322 : decode cL_areTransfersRight 322 = .ok (.ifCond .eq 27, 3) := by decide +kernel
theorem dL_areTransfersRight_325 : decode cL_areTransfersRight 325 = .ok (.aload_n 0, 1) := by decide +kernel
theorem dL_areTransfersRight_326 : decode cL_areTransfersRight 326 = .ok (.iload_n 1, 1) := by decide +kernel
theorem dL_areTransfersRight_327 : decode cL_areTransfersRight 327 = .ok (.iload_n 2, 1) := by decide +kernel
theorem dL_areTransfersRight_328 : decode cL_areTransfersRight 328 = .ok (.invokevirtual 85, 3) := by decide +kernel
theorem dL_areTransfersRight_331 : decode cL_areTransfersRight 331 = .ok (.aload_n 0, 1) := by decide +kernel
theorem dL_areTransfersRight_332 : decode cL_areTransfersRight 332 = .ok (.iload_n 1, 1) := by decide +kernel
theorem dL_areTransfersRight_333 : decode cL_areTransfersRight 333 = .ok (.iload_n 2, 1) := by decide +kernel
theorem dL_areTransfersRight_334 : decode cL_areTransfersRight 334 = .ok (.iconst 4, 1) := by decide +kernel
theorem dL_areTransfersRight_335 : decode cL_areTransfersRight 335 = .ok (.invokestatic 245, 3) := by decide +kernel
theorem dL_areTransfersRight_338 : decode cL_areTransfersRight 338 = .ok (.if_icmp .eq 11, 3) := by decide +kernel
theorem dL_areTransfersRight_341 : decode cL_areTransfersRight 341 = .ok (.aload_n 0, 1) := by decide +kernel
theorem dL_areTransfersRight_342 : decode cL_areTransfersRight 342 = .ok (.invokevirtual 112, 3) := by decide +kernel
theorem dL_areTransfersRight_345 : decode cL_areTransfersRight 345 = .ok (.iconst 4, 1) := by decide +kernel
theorem dL_areTransfersRight_346 : decode cL_areTransfersRight 346 = .ok (.if_icmp .le 7, 3) := by decide +kernel
theorem dL_areTransfersRight_349 : decode cL_areTransfersRight 349 = .ok (.iconst 1, 1) := by decide +kernel
theorem dL_areTransfersRight_350 : decode cL_areTransfersRight 350 = .ok (.goto 4, 3) := by decide +kernel
theorem dL_areTransfersRight_353 : decode cL_areTransfersRight 353 = .ok (.iconst 0, 1) := by decide +kernel
theorem dL_areTransfersRight_354 : decode cL_areTransfersRight 354 = .ok (.ireturn, 1) := by decide +kernel
theorem dL_arePredictionsRight_0 : decode cL_arePredictionsRight 0 = .ok (.aload_n 0, 1) := by decide +kernel
theorem dL_arePredictionsRight_1 : decode cL_arePredictionsRight 1 = .ok (.invokevirtual 115, 3) := by decide +kernel
theorem dL_arePredictionsRight_4 : decode cL_arePredictionsRight 4 = .ok (.istore_n 2, 1) := by decide +kernel
theorem dL_arePredictionsRight_5 : decode cL_arePredictionsRight 5 = .ok (.aload_n 0, 1) := by decide +kernel
theorem dL_arePredictionsRight_6 : decode cL_arePredictionsRight 6 = .ok (.invokevirtual 112, 3) := by decide +kernel
theorem dL_arePredictionsRight_9 : decode cL_arePredictionsRight 9 = .ok (.istore_n 3, 1) := by decide +kernel
theorem dL_arePredictionsRight_10 : decode cL_arePredictionsRight 10 = .ok (.iload_n 2, 1) := by decide +kernel
theorem dL_arePredictionsRight_11 : decode cL_arePredictionsRight 11 = .ok (.newarray .int, 2) := by decide +kernel
theorem dL_arePredictionsRight_13 : decode cL_arePredictionsRight 13 = .ok (.astore 4, 2) := by decide +kernel
theorem dL_arePredictionsRight_15 : decode cL_arePredictionsRight 15 = .ok (.iload_n 3, 1) := by decide +kernel
theorem dL_arePredictionsRight_16 : decode cL_arePredictionsRight 16 = .ok (.newarray .int, 2) := by decide +kernel
theorem dL_arePredictionsRight_18 : decode cL_arePredictionsRight 18 = .ok (.astore 5, 2) := by decide +kernel
theorem dL_arePredictionsRight_20 : decode cL_arePredictionsRight 20 = .ok (.iload_n 3, 1) := by decide +kernel
theorem dL_arePredictionsRight_21 : decode cL_arePredictionsRight 21 = .ok (.newarray .int, 2) := by decide +kernel
theorem dL_arePredictionsRight_23 : decode cL_arePredictionsRight 23 = .ok (.astore 6, 2) := by decide +kernel
theorem dL_arePredictionsRight_25 : decode cL_arePredictionsRight 25 = .ok (.iload_n 3, 1) := by decide +kernel
theorem dL_arePredictionsRight_26 : decode cL_arePredictionsRight 26 = .ok (.newarray .boolean, 2) := by decide +kernel
theorem dL_arePredictionsRight_28 : decode cL_arePredictionsRight 28 = .ok (.astore 7, 2) := by decide +kernel
theorem dL_arePredictionsRight_30 : decode cL_arePredictionsRight 30 = .ok (.aload_n 0, 1) := by decide +kernel
theorem dL_arePredictionsRight_31 : decode cL_arePredictionsRight 31 = .ok (.iconst 2, 1) := by decide +kernel
theorem dL_arePredictionsRight_32 : decode cL_arePredictionsRight 32 = .ok (.iload_n 2, 1) := by decide +kernel
theorem dL_arePredictionsRight_33 : decode cL_arePredictionsRight 33 = .ok (.iconst 1, 1) := by decide +kernel
theorem dL_arePredictionsRight_34 : decode cL_arePredictionsRight 34 = .ok (.invokestatic 188, 3) := by decide +kernel
theorem dL_arePredictionsRight_37 : decode cL_arePredictionsRight 37 = .ok (.sipush (-20002), 3) := by decide +kernel
theorem dL_arePredictionsRight_40 : decode cL_arePredictionsRight 40 = .ok (.if_icmp .ne 52, 3) := by decide +kernel
theorem dL_arePredictionsRight_43 : decode cL_arePredictionsRight 43 = .ok (.iload_n 2, 1) := by decide +kernel
theorem dL_arePredictionsRight_44 : decode cL_arePredictionsRight 44 = .ok (.ifCond .eq 44, 3) := by decide +kernel
theorem dL_arePredictionsRight_47 : decode cL_arePredictionsRight 47 = .ok (.aload_n 0, 1) := by decide +kernel
theorem dL_arePredictionsRight_48 : decode cL_arePredictionsRight 48 = .ok (.iconst 2, 1) := by decide +kernel
theorem dL_arePredictionsRight_49 : decode cL_arePredictionsRight 49 = .ok (.iconst 0, 1) := by decide +kernel
theorem dL_arePredictionsRight_50 : decode cL_arePredictionsRight 50 = .ok (.bipush 61, 2) := by decide +kernel
theorem dL_arePredictionsRight_52 : decode cL_arePredictionsRight 52 = .ok (.invokestatic 188, 3) := by decide +kernel
theorem dL_arePredictionsRight_55 : decode cL_arePredictionsRight 55 = .ok (.sipush (-20003), 3) := by decide +kernel
theorem dL_arePredictionsRight_58 : decode cL_arePredictionsRight 58 = .ok (.if_icmp .ne 34, 3) := by decide +kernel
theorem dL_arePredictionsRight_61 : decode cL_arePredictionsRight 61 = .ok (.aload_n 0, 1) := by decide +kernel
theorem dL_arePredictionsRight_62 : decode cL_arePredictionsRight 62 = .ok (.iconst 2, 1) := by decide +kernel
theorem dL_arePredictionsRight_63 : decode cL_arePredictionsRight 63 = .ok (.iconst 0, 1) := by decide +kernel
theorem dL_arePredictionsRight_64 : decode cL_arePredictionsRight 64 = .ok (.iconst (-1), 1) := by decide +kernel
theorem dL_arePredictionsRight_65 : decode cL_arePredictionsRight 65 = .ok (.invokestatic 188, 3) := by decide +kernel
theorem dL_arePredictionsRight_68 : decode cL_arePredictionsRight 68 = .ok (.sipush (-20003), 3) := by decide +kernel
theorem dL_arePredictionsRight_71 : decode cL_arePredictionsRight 71 = .ok (.if_icmp .ne 21, 3) := by decide +kernel
theorem dL_arePredictionsRight_74 : decode cL_arePredictionsRight 74 = .ok (.aload_n 0, 1) := by decide +kernel
theorem dL_arePredictionsRight_75 : decode cL_arePredictionsRight 75 = .ok (.iconst 0, 1) := by decide +kernel
theorem dL_arePredictionsRight_76 : decode cL_arePredictionsRight 76 = .ok (.iconst 0, 1) := by decide +kernel
theorem dL_arePredictionsRight_77 : decode cL_arePredictionsRight 77 = .ok (.invokevirtual 65, 3) := by decide +kernel
theorem dL_arePredictionsRight_80 : decode cL_arePredictionsRight 80 = .ok (.aload_n 0, 1) := by decide +kernel
theorem dL_arePredictionsRight_81 : decode cL_arePredictionsRight 81 = .ok (.iconst 0, 1) := by decide +kernel
theorem dL_arePredictionsRight_82 : decode cL_arePredictionsRight 82 = .ok (.invokevirtual 59, 3) := by decide +kernel
theorem dL_arePredictionsRight_85 : decode cL_arePredictionsRight 85 = .ok (.if_icmp .ne 7, 3) := by decide +kernel
theorem dL_arePredictionsRight_88 : decode cL_arePredictionsRight 88 = .ok (.iconst 1, 1) := by decide +kernel
theorem dL_arePredictionsRight_89 : decode cL_arePredictionsRight 89 = .ok (.goto 4, 3) := by decide +kernel
theorem dL_arePredictionsRight_92 : decode cL_arePredictionsRight 92 = .ok (.iconst 0, 1) := by decide +kernel
theorem dL_arePredictionsRight_93 : decode cL_arePredictionsRight 93 = .ok (.istore 8, 2) := by decide +kernel
theorem dL_arePredictionsRight_95 : decode cL_arePredictionsRight 95 = .ok (.iconst 0, 1) := by decide +kernel
theorem dL_arePredictionsRight_96 : decode cL_arePredictionsRight 96 = .ok (.istore 9, 2) := by decide +kernel
theorem dL_arePredictionsRight_98 : decode cL_arePredictionsRight 98 = .ok (.iload 9, 2) := by decide +kernel
theorem dL_arePredictionsRight_100 : decode cL_arePredictionsRight 100 = .ok (.iload_n 2, 1) := by decide +kernel
theorem dL_arePredictionsRight_101 : decode cL_arePredictionsRight 101 = .ok (.if_icmp .ge 21, 3) := by decide +kernel
theorem dL_arePredictionsRight_104 : decode cL_arePredictionsRight 104 = .ok (.aload 4, 2) := by decide +kernel
theorem dL_arePredictionsRight_106 : decode cL_arePredictionsRight 106 = .ok (.iload 9, 2) := by decide +kernel
theorem dL_arePredictionsRight_108 : decode cL_arePredictionsRight 108 = .ok (.aload_n 0, 1) := by decide +kernel
theorem dL_arePredictionsRight_109 : decode cL_arePredictionsRight 109 = .ok (.iload 9, 2) := by decide +kernel
theorem dL_arePredictionsRight_111 : decode cL_arePredictionsRight 111 = .ok (.iload_n 1, 1) := by decide +kernel
theorem dL_arePredictionsRight_112 : decode cL_arePredictionsRight 112 = .ok (.invokevirtual 65, 3) := by decide +kernel
theorem dL_arePredictionsRight_115 : decode cL_arePredictionsRight 115 = .ok (.iastore, 1) := by decide +kernel
theorem dL_arePredictionsRight_116 : decode cL_arePredictionsRight 116 = .ok (.iinc 9 1, 3) := by decide +kernel
theorem dL_arePredictionsRight_119 : decode cL_arePredictionsRight 119 = .ok (.goto (-21), 3) := by decide +kernel
theorem dL_arePredictionsRight_122 : decode cL_arePredictionsRight 122 = .ok (.iconst 0, 1) := by decide +kernel
theorem dL_arePredictionsRight_123 : decode cL_arePredictionsRight 123 = .ok (.istore 9, 2) := by decide +kernel
theorem dL_arePredictionsRight_125 : decode cL_arePredictionsRight 125 = .ok (.iload 9, 2) := by decide +kernel
theorem dL_arePredictionsRight_127 : decode cL_arePredictionsRight 127 = .ok (.iload_n 3, 1) := by decide +kernel
theorem dL_arePredictionsRight_128 : decode cL_arePredictionsRight 128 = .ok (.if_icmp .ge 48, 3) := by decide +kernel
theorem dL_arePredictionsRight_131 : decode cL_arePredictionsRight 131 = .ok (.aload 5, 2) := by decide +kernel
theorem dL_arePredictionsRight_133 : decode cL_arePredictionsRight 133 = .ok (.iload 9, 2) := by decide +kernel
theorem dL_arePredictionsRight_135 : decode cL_arePredictionsRight 135 = .ok (.aload_n 0, 1) := by decide +kernel
theorem dL_arePredictionsRight_136 : decode cL_arePredictionsRight 136 = .ok (.iload 9, 2) := by decide +kernel
theorem dL_arePredictionsRight_138 : decode cL_arePredictionsRight 138 = .ok (.invokevirtual 68, 3) := by decide +kernel
theorem dL_arePredictionsRight_141 : decode cL_arePredictionsRight 141 = .ok (.iastore, 1) := by decide +kernel
theorem dL_arePredictionsRight_142 : decode cL_arePredictionsRight 142 = .ok (.aload 6, 2) := by decide +kernel
theorem dL_arePredictionsRight_144 : decode cL_arePredictionsRight 144 = .ok (.iload 9, 2) := by decide +kernel
theorem dL_arePredictionsRight_146 : decode cL_arePredictionsRight 146 = .ok (.aload_n 0, 1) := by decide +kernel
theorem dL_arePredictionsRight_147 : decode cL_arePredictionsRight 147 = .ok (.aload 5, 2) := by decide +kernel
theorem dL_arePredictionsRight_149 : decode cL_arePredictionsRight 149 = .ok (.iload 9, 2) := by decide +kernel
theorem dL_arePredictionsRight_151 : decode cL_arePredictionsRight 151 = .ok (.iaload, 1) := by decide +kernel
theorem dL_arePredictionsRight_152 : decode cL_arePredictionsRight 152 = .ok (.invokevirtual 98, 3) := by decide +kernel
theorem dL_arePredictionsRight_155 : decode cL_arePredictionsRight 155 = .ok (.iastore, 1) := by decide +kernel
theorem dL_arePredictionsRight_156 : decode cL_arePredictionsRight 156 = .ok (.aload 7, 2) := by decide +kernel
theorem dL_arePredictionsRight_158 : decode cL_arePredictionsRight 158 = .ok (.iload 9, 2) := by decide +kernel
theorem dL_arePredictionsRight_160 : decode cL_arePredictionsRight 160 = .ok (.aload_n 0, 1) := by decide +kernel
theorem dL_arePredictionsRight_161 : decode cL_arePredictionsRight 161 = .ok (.aload 5, 2) := by decide +kernel
theorem dL_arePredictionsRight_163 : decode cL_arePredictionsRight 163 = .ok (.iload 9, 2) := by decide +kernel
theorem dL_arePredictionsRight_165 : decode cL_arePredictionsRight 165 = .ok (.iaload, 1) := by decide +kernel
theorem dL_arePredictionsRight_166 : decode cL_arePredictionsRight 166 = .ok (.invokevirtual 74, 3) := by decide +kernel
theorem dL_arePredictionsRight_169 : decode cL_arePredictionsRight 169 = .ok (.bastore, 1) := by decide +kernel
theorem dL_arePredictionsRight_170 : decode cL_arePredictionsRight 170 = .ok (.iinc 9 1, 3) := by decide +kernel
theorem dL_arePredictionsRight_173 : decode cL_arePredictionsRight 173 = .ok (.goto (-48), 3) := by decide +kernel
theorem dL_arePredictionsRight_176 : decode cL_arePredictionsRight 176 = .ok (.aload_n 0, 1) := by decide +kernel
theorem dL_arePredictionsRight_177 : decode cL_arePredictionsRight 177 = .ok (.invokevirtual 252, 3) := by decide +kernel
theorem dL_arePredictionsRight_180 : decode cL_arePredictionsRight 180 = .ok (.istore 9, 2) := by decide +kernel
theorem dL_arePredictionsRight_182 : decode cL_arePredictionsRight 182 = .ok (.aload_n 0, 1) := by decide +kernel
theorem dL_arePredictionsRight_183 : decode cL_arePredictionsRight 183 = .ok (.invokevirtual 133, 3) := by decide +kernel
theorem dL_arePredictionsRight_186 : decode cL_arePredictionsRight 186 = .ok (.istore 10, 2) := by decide +kernel
theorem dL_arePredictionsRight_188 : decode cL_arePredictionsRight 188 = .ok (.aload_n 0, 1) := by decide +kernel
theorem dL_arePredictionsRight_189 : decode cL_arePredictionsRight 189 = .ok (.iload_n 1, 1) := by decide +kernel
theorem dL_arePredictionsRight_190 : decode cL_arePredictionsRight 190 = .ok (.invokevirtual 38, 3) := by decide +kernel
theorem dL_arePredictionsRight_193 : decode cL_arePredictionsRight 193 = .ok (.istore 11, 2) := by decide +kernel
theorem dL_arePredictionsRight_195 : decode cL_arePredictionsRight 195 = .ok (.iconst 0, 1) := by decide +kernel
theorem dL_arePredictionsRight_196 : decode cL_arePredictionsRight 196 = .ok (.istore 12, 2) := by decide +kernel
theorem dL_arePredictionsRight_198 : decode cL_arePredictionsRight 198 = .ok (.iload 12, 2) := by decide +kernel
theorem dL_arePredictionsRight_200 : decode cL_arePredictionsRight 200 = .ok (.iload_n 2, 1) := by decide +kernel
theorem dL_arePredictionsRight_201 : decode cL_arePredictionsRight 201 = .ok (.if_icmp .ge 44, 3) := by decide +kernel
theorem dL_arePredictionsRight_204 : decode cL_arePredictionsRight 204 = .ok (.iload 8, 2) := by decide +kernel
theorem dL_arePredictionsRight_206 : decode cL_arePredictionsRight 206 = .ok (.ifCond .eq 30, 3) := by decide +kernel
theorem dL_arePredictionsRight_209 : decode cL_arePredictionsRight 209 = .ok (.aload_n 0, 1) := by decide +kernel
theorem dL_arePredictionsRight_210 : decode cL_arePredictionsRight 210 = .ok (.iload 12, 2) := by decide +kernel
theorem dL_arePredictionsRight_212 : decode cL_arePredictionsRight 212 = .ok (.invokevirtual 59, 3) := by decide +kernel
theorem dL_arePredictionsRight_215 : decode cL_arePredictionsRight 215 = .ok (.aload 4, 2) := by decide +kernel
theorem dL_arePredictionsRight_217 : decode cL_arePredictionsRight 217 = .ok (.iload 12, 2) := by decide +kernel
theorem dL_arePredictionsRight_219 : decode cL_arePredictionsRight 219 = .ok (.iaload, 1) := by decide +kernel
theorem dL_arePredictionsRight_220 : decode cL_arePredictionsRight 220 = .ok (.if_icmp .ne 16, 3) := by decide +kernel
theorem dL_arePredictionsRight_223 : decode cL_arePredictionsRight 223 = .ok (.aload_n 0, 1) := by decide +kernel
theorem dL_arePredictionsRight_224 : decode cL_arePredictionsRight 224 = .ok (.iload 12, 2) := by decide +kernel
theorem dL_arePredictionsRight_226 : decode cL_arePredictionsRight 226 = .ok (.invokevirtual 155, 3) := by decide +kernel
theorem dL_arePredictionsRight_229 : decode cL_arePredictionsRight 229 = .ok (.ifCond .ne 7, 3) := by decide +kernel
theorem dL_arePredictionsRight_232 : decode cL_arePredictionsRight 232 = .ok (.iconst 1, 1) := by decide +kernel
theorem dL_arePredictionsRight_233 : decode cL_arePredictionsRight 233 = .ok (.goto 4, 3) := by decide +kernel
theorem dL_arePredictionsRight_236 : decode cL_arePredictionsRight 236 = .ok (.iconst 0, 1) := by decide +kernel
theorem dL_arePredictionsRight_237 : decode cL_arePredictionsRight 237 = .ok (.istore 8, 2) := by decide +kernel
theorem dL_arePredictionsRight_239 : decode cL_arePredictionsRight 239 = .ok (.iinc 12 1, 3) := by decide +kernel
theorem dL_arePredictionsRight_242 : decode cL_arePredictionsRight 242 = .ok (.goto (-44), 3) := by decide +kernel
theorem dL_arePredictionsRight_245 : decode cL_arePredictionsRight 245 = .ok (.iconst 0, 1) := by decide +kernel
theorem dL_arePredictionsRight_246 : decode cL_arePredictionsRight 246 = .ok (.istore 12, 2) := by decide +kernel
theorem dL_arePredictionsRight_248 : decode cL_arePredictionsRight 248 = .ok (.iconst 0, 1) := by decide +kernel
theorem dL_arePredictionsRight_249 : decode cL_arePredictionsRight 249 = .ok (.istore 13, 2) := by decide +kernel
theorem dL_arePredictionsRight_251 : decode cL_arePredictionsRight 251 = .ok (.iconst 0, 1) := by decide +kernel
theorem dL_arePredictionsRight_252 : decode cL_arePredictionsRight 252 = .ok (.istore 14, 2) := by decide +kernel
theorem dL_arePredictionsRight_254 : decode cL_arePredictionsRight 254 = .ok (.iload 14, 2) := by decide +kernel
theorem dL_arePredictionsRight_256 : decode cL_arePredictionsRight 256 = .ok (.iload_n 3, 1) := by decide +kernel
theorem dL_arePredictionsRight_257 : decode cL_arePredictionsRight 257 = .ok (.if_icmp .ge 111, 3) := by decide +kernel
theorem dL_arePredictionsRight_260 : decode cL_arePredictionsRight 260 = .ok (.aload 6, 2) := by decide +kernel
theorem dL_arePredictionsRight_262 : decode cL_arePredictionsRight 262 = .ok (.iload 14, 2) := by decide +kernel
theorem dL_arePredictionsRight_264 : decode cL_arePredictionsRight 264 = .ok (.iaload, 1) := by decide +kernel
theorem dL_arePredictionsRight_265 : decode cL_arePredictionsRight 265 = .ok (.iload_n 1, 1) := by decide +kernel
theorem dL_arePredictionsRight_266 : decode cL_arePredictionsRight 266 = .ok (.if_icmp .ge 7, 3) := by decide +kernel
theorem dL_arePredictionsRight_269 : decode cL_arePredictionsRight 269 = .ok (.iconst 1, 1) := by decide +kernel
theorem dL_arePredictionsRight_270 : decode cL_arePredictionsRight 270 = .ok (.goto 4, 3) := by decide +kernel
theorem dL_arePredictionsRight_273 : decode cL_arePredictionsRight 273 = .ok (.iconst 0, 1) := by decide +kernel
theorem dL_arePredictionsRight_274 : decode cL_arePredictionsRight 274 = .ok (.istore 15, 2) := by decide +kernel
theorem dL_arePredictionsRight_276 : decode cL_arePredictionsRight 276 = .ok (.iload 12, 2) := by decide +kernel
theorem dL_arePredictionsRight_278 : decode cL_arePredictionsRight 278 = .ok (.iload 15, 2) := by decide +kernel
theorem dL_arePredictionsRight_280 : decode cL_arePredictionsRight 280 = .ok (.ifCond .eq 15, 3) := by decide +kernel
theorem dL_arePredictionsRight_283 : decode cL_arePredictionsRight 283 = .ok (.aload 7, 2) := by decide +kernel
theorem dL_arePredictionsRight_285 : decode cL_arePredictionsRight 285 = .ok (.iload 14, 2) := by decide +kernel
theorem dL_arePredictionsRight_287 : decode cL_arePredictionsRight 287 = .ok (.baload, 1) := by decide +kernel
theorem dL_arePredictionsRight_288 : decode cL_arePredictionsRight 288 = .ok (.ifCond .ne 7, 3) := by decide +kernel
theorem dL_arePredictionsRight_291 : decode cL_arePredictionsRight 291 = .ok (.iconst 1, 1) := by decide +kernel
theorem dL_arePredictionsRight_292 : decode cL_arePredictionsRight 292 = .ok (.goto 4, 3) := by decide +kernel
theorem dL_arePredictionsRight_295 : decode cL_arePredictionsRight 295 = .ok (.iconst 0, 1) := by decide +kernel
theorem dL_arePredictionsRight_296 : decode cL_arePredictionsRight 296 = .ok (.iadd, 1) := by decide +kernel
theorem dL_arePredictionsRight_297 : decode cL_arePredictionsRight 297 = .ok (.istore 12, 2) := by decide +kernel
theorem dL_arePredictionsRight_299 : decode cL_arePredictionsRight 299 = .ok (.iload 13, 2) := by decide +kernel
theorem dL_arePredictionsRight_301 : decode cL_arePredictionsRight 301 = .ok (.iload 15, 2) := by decide +kernel
theorem dL_arePredictionsRight_303 : decode cL_arePredictionsRight 303 = .ok (.ifCond .eq 15, 3) := by decide +kernel
theorem dL_arePredictionsRight_306 : decode cL_arePredictionsRight 306 = .ok (.aload 7, 2) := by decide +kernel
theorem dL_arePredictionsRight_308 : decode cL_arePredictionsRight 308 = .ok (.iload 14, 2) := by decide +kernel
theorem dL_arePredictionsRight_310 : decode cL_arePredictionsRight 310 = .ok (.baload, 1) := by decide +kernel
theorem dL_arePredictionsRight_311 : decode cL_arePredictionsRight 311 = .ok (.ifCond .eq 7, 3) := by decide +kernel
theorem dL_arePredictionsRight_314 : decode cL_arePredictionsRight 314 = .ok (.iconst 1, 1) := by decide +kernel
theorem dL_arePredictionsRight_315 : decode cL_arePredictionsRight 315 = .ok (.goto 4, 3) := by decide +kernel
theorem dL_arePredictionsRight_318 : decode cL_arePredictionsRight 318 = .ok (.iconst 0, 1) := by decide +kernel
theorem dL_arePredictionsRight_319 : decode cL_arePredictionsRight 319 = .ok (.iadd, 1) := by decide +kernel
theorem dL_arePredictionsRight_320 : decode cL_arePredictionsRight 320 = .ok (.istore 13, 2) := by decide +kernel
theorem dL_arePredictionsRight_322 : decode cL_arePredictionsRight 322 = .ok (.iload 8, 2) := by decide +kernel
theorem dL_arePredictionsRight_324 : decode cL_arePredictionsRight 324 = .ok (.ifCond .eq 35, 3) := by decide +kernel
theorem dL_arePredictionsRight_327 : decode cL_arePredictionsRight 327 = .ok (.aload_n 0, 1) := by decide +kernel
theorem dL_arePredictionsRight_328 : decode cL_arePredictionsRight 328 = .ok (.bipush 11, 2) := by decide +kernel
theorem dL_arePredictionsRight_330 : decode cL_arePredictionsRight 330 = .ok (.aload 5, 2) := by decide +kernel
theorem dL_arePredictionsRight_332 : decode cL_arePredictionsRight 332 = .ok (.iload 14, 2) := by decide +kernel
theorem dL_arePredictionsRight_334 : decode cL_arePredictionsRight 334 = .ok (.iaload, 1) := by decide +kernel
theorem dL_arePredictionsRight_335 : decode cL_arePredictionsRight 335 = .ok (.iconst 0, 1) := by decide +kernel
theorem dL_arePredictionsRight_336 : decode cL_arePredictionsRight 336 = .ok (.invokestatic 188, 3) := by decide +kernel
theorem dL_arePredictionsRight_339 : decode cL_arePredictionsRight 339 = .ok (.sipush (-20004), 3) := by decide +kernel
theorem dL_arePredictionsRight_342 : decode cL_arePredictionsRight 342 = .ok (.if_icmp .ne 7, 3) := by decide +kernel
theorem dL_arePredictionsRight_345 : decode cL_arePredictionsRight 345 = .ok (.iconst 1, 1) := by decide +kernel
theorem dL_arePredictionsRight_346 : decode cL_arePredictionsRight 346 = .ok (.goto 4, 3) := by decide +kernel
theorem dL_arePredictionsRight_349 : decode cL_arePredictionsRight 349 = .ok (.iconst 0, 1) := by decide +kernel
theorem dL_arePredictionsRight_350 : decode cL_arePredictionsRight 350 = .ok (.iload 15, 2) := by decide +kernel
theorem dL_arePredictionsRight_352 : decode cL_arePredictionsRight 352 = .ok (.if_icmp .ne 7, 3) := by decide +kernel
theorem dL_arePredictionsRight_355 : decode cL_arePredictionsRight 355 = .ok (.iconst 1, 1) := by decide +kernel
theorem dL_arePredictionsRight_356 : decode cL_arePredictionsRight 356 = .ok (.goto 4, 3) := by decide +kernel
theorem dL_arePredictionsRight_359 : decode cL_arePredictionsRight 359 = .ok (.iconst 0, 1) := by decide +kernel
theorem dL_arePredictionsRight_360 : decode cL_arePredictionsRight 360 = .ok (.istore 8, 2) := by decide +kernel
theorem dL_arePredictionsRight_362 : decode cL_arePredictionsRight 362 = .ok (.iinc 14 1, 3) := by decide +kernel
theorem dL_arePredictionsRight_365 : decode cL_arePredictionsRight 365 = .ok (.goto (-111), 3) := by decide +kernel
theorem dL_arePredictionsRight_368 : decode cL_arePredictionsRight 368 = .ok (.iload 8, 2) := by decide +kernel
theorem dL_arePredictionsRight_370 : decode cL_arePredictionsRight 370 = .ok (.ifCond .eq 26, 3) := by decide +kernel
theorem dL_arePredictionsRight_373 : decode cL_arePredictionsRight 373 = .ok (.iload 11, 2) := by decide +kernel
theorem dL_arePredictionsRight_375 : decode cL_arePredictionsRight 375 = .ok (.iload 12, 2) := by decide +kernel
theorem dL_arePredictionsRight_377 : decode cL_arePredictionsRight 377 = .ok (.if_icmp .ne 19, 3) := by decide +kernel
theorem dL_arePredictionsRight_380 : decode cL_arePredictionsRight 380 = .ok (.aload_n 0, 1) := by decide +kernel
theorem dL_arePredictionsRight_381 : decode cL_arePredictionsRight 381 = .ok (.invokevirtual 133, 3) := by decide +kernel
theorem dL_arePredictionsRight_384 : decode cL_arePredictionsRight 384 = .ok (.iload 10, 2) := by decide +kernel
theorem dL_arePredictionsRight_386 : decode cL_arePredictionsRight 386 = .ok (.iload 13, 2) := by decide +kernel
theorem dL_arePredictionsRight_388 : decode cL_arePredictionsRight 388 = .ok (.iadd, 1) := by decide +kernel
theorem dL_arePredictionsRight_389 : decode cL_arePredictionsRight 389 = .ok (.if_icmp .ne 7, 3) := by decide +kernel
theorem dL_arePredictionsRight_392 : decode cL_arePredictionsRight 392 = .ok (.iconst 1, 1) := by decide +kernel
theorem dL_arePredictionsRight_393 : decode cL_arePredictionsRight 393 = .ok (.goto 4, 3) := by decide +kernel
theorem dL_arePredictionsRight_396 : decode cL_arePredictionsRight 396 = .ok (.iconst 0, 1) := by decide +kernel
theorem dL_arePredictionsRight_397 : decode cL_arePredictionsRight 397 = .ok (.istore 8, 2) := by decide +kernel
theorem dL_arePredictionsRight_399 : decode cL_arePredictionsRight 399 = .ok (.aload_n 0, 1) := by decide +kernel
theorem dL_arePredictionsRight_400 : decode cL_arePredictionsRight 400 = .ok (.invokevirtual 255, 3) := by decide +kernel
theorem dL_arePredictionsRight_403 : decode cL_arePredictionsRight 403 = .ok (.istore 9, 2) := by decide +kernel
theorem dL_arePredictionsRight_405 : decode cL_arePredictionsRight 405 = .ok (.iload 8, 2) := by decide +kernel
theorem dL_arePredictionsRight_407 : decode cL_arePredictionsRight 407 = .ok (.ireturn, 1) := by decide +kernel
theorem dL_isJournalRight_0 : decode cL_isJournalRight 0 = .ok (.aload_n 0, 1) := by decide +kernel
theorem dL_isJournalRight_1 : decode cL_isJournalRight 1 = .ok (.invokevirtual 164, 3) := by decide +kernel
theorem dL_isJournalRight_4 : decode cL_isJournalRight 4 = .ok (.istore_n 1, 1) := by decide +kernel
theorem dL_isJournalRight_5 : decode cL_isJournalRight 5 = .ok (.iload_n 1, 1) := by decide +kernel
theorem dL_isJournalRight_6 : decode cL_isJournalRight 6 = .ok (.bipush 10, 2) := by decide +kernel
theorem dL_isJournalRight_8 : decode cL_isJournalRight 8 = .ok (.if_icmp .gt 35, 3) := by decide +kernel
theorem dL_isJournalRight_11 : decode cL_isJournalRight 11 = .ok (.aload_n 0, 1) := by decide +kernel
theorem dL_isJournalRight_12 : decode cL_isJournalRight 12 = .ok (.bipush 8, 2) := by decide +kernel
theorem dL_isJournalRight_14 : decode cL_isJournalRight 14 = .ok (.iload_n 1, 1) := by decide +kernel
theorem dL_isJournalRight_15 : decode cL_isJournalRight 15 = .ok (.iconst 0, 1) := by decide +kernel
theorem dL_isJournalRight_16 : decode cL_isJournalRight 16 = .ok (.invokestatic 188, 3) := by decide +kernel
theorem dL_isJournalRight_19 : decode cL_isJournalRight 19 = .ok (.sipush (-20004), 3) := by decide +kernel
theorem dL_isJournalRight_22 : decode cL_isJournalRight 22 = .ok (.if_icmp .ne 21, 3) := by decide +kernel
theorem dL_isJournalRight_25 : decode cL_isJournalRight 25 = .ok (.aload_n 0, 1) := by decide +kernel
theorem dL_isJournalRight_26 : decode cL_isJournalRight 26 = .ok (.bipush 8, 2) := by decide +kernel
theorem dL_isJournalRight_28 : decode cL_isJournalRight 28 = .ok (.iconst (-1), 1) := by decide +kernel
theorem dL_isJournalRight_29 : decode cL_isJournalRight 29 = .ok (.iconst 0, 1) := by decide +kernel
theorem dL_isJournalRight_30 : decode cL_isJournalRight 30 = .ok (.invokestatic 188, 3) := by decide +kernel
theorem dL_isJournalRight_33 : decode cL_isJournalRight 33 = .ok (.sipush (-20004), 3) := by decide +kernel
theorem dL_isJournalRight_36 : decode cL_isJournalRight 36 = .ok (.if_icmp .ne 7, 3) := by decide +kernel
theorem dL_isJournalRight_39 : decode cL_isJournalRight 39 = .ok (.iconst 1, 1) := by decide +kernel
theorem dL_isJournalRight_40 : decode cL_isJournalRight 40 = .ok (.goto 4, 3) := by decide +kernel
theorem dL_isJournalRight_43 : decode cL_isJournalRight 43 = .ok (.iconst 0, 1) := by decide +kernel
theorem dL_isJournalRight_44 : decode cL_isJournalRight 44 = .ok (.istore_n 2, 1) := by decide +kernel
theorem dL_isJournalRight_45 : decode cL_isJournalRight 45 = .ok (.iconst 0, 1) := by decide +kernel
theorem dL_isJournalRight_46 : decode cL_isJournalRight 46 = .ok (.istore_n 3, 1) := by decide +kernel
theorem dL_isJournalRight_47 : decode cL_isJournalRight 47 = .ok (.iload_n 3, 1) := by decide +kernel
theorem dL_isJournalRight_48 : decode cL_isJournalRight 48 = .ok (.iload_n 1, 1) := by decide +kernel
theorem dL_isJournalRight_49 : decode cL_isJournalRight 49 = .ok (.if_icmp .ge 100, 3) := by decide +kernel
theorem dL_isJournalRight_52 : decode cL_isJournalRight 52 = .ok (.aload_n 0, 1) := by decide +kernel
theorem dL_isJournalRight_53 : decode cL_isJournalRight 53 = .ok (.iload_n 3, 1) := by decide +kernel
theorem dL_isJournalRight_54 : decode cL_isJournalRight 54 = .ok (.invokevirtual 167, 3) := by decide +kernel
theorem dL_isJournalRight_57 : decode cL_isJournalRight 57 = .ok (.istore 4, 2) := by decide +kernel
theorem dL_isJournalRight_59 : decode cL_isJournalRight 59 = .ok (.iload 4, 2) := by decide +kernel
theorem dL_isJournalRight_61 : decode cL_isJournalRight 61 = .ok (.bipush 100, 2) := by decide +kernel
theorem dL_isJournalRight_63 : decode cL_isJournalRight 63 = .ok (.if_icmp .eq 38, 3) := by decide +kernel
theorem dL_isJournalRight_66 : decode cL_isJournalRight 66 = .ok (.iload 4, 2) := by decide +kernel
theorem dL_isJournalRight_68 : decode cL_isJournalRight 68 = .ok (.bipush 119, 2) := by decide +kernel
theorem dL_isJournalRight_70 : decode cL_isJournalRight 70 = .ok (.if_icmp .eq 31, 3) := by decide +kernel
theorem dL_isJournalRight_73 : decode cL_isJournalRight 73 = .ok (.iload 4, 2) := by decide +kernel
theorem dL_isJournalRight_75 : decode cL_isJournalRight 75 = .ok (.bipush 116, 2) := by decide +kernel
theorem dL_isJournalRight_77 : decode cL_isJournalRight 77 = .ok (.if_icmp .eq 24, 3) := by decide +kernel
theorem dL_isJournalRight_80 : decode cL_isJournalRight 80 = .ok (.iload 4, 2) := by decide +kernel
theorem dL_isJournalRight_82 : decode cL_isJournalRight 82 = .ok (.bipush 105, 2) := by decide +kernel
theorem dL_isJournalRight_84 : decode cL_isJournalRight 84 = .ok (.if_icmp .eq 17, 3) := by decide +kernel
theorem dL_isJournalRight_87 : decode cL_isJournalRight 87 = .ok (.iload 4, 2) := by decide +kernel
theorem dL_isJournalRight_89 : decode cL_isJournalRight 89 = .ok (.bipush 99, 2) := by decide +kernel
theorem dL_isJournalRight_91 : decode cL_isJournalRight 91 = .ok (.if_icmp .eq 10, 3) := by decide +kernel
theorem dL_isJournalRight_94 : decode cL_isJournalRight 94 = .ok (.iload 4, 2) := by decide +kernel
theorem dL_isJournalRight_96 : decode cL_isJournalRight 96 = .ok (.bipush 102, 2) := by decide +kernel
theorem dL_isJournalRight_98 : decode cL_isJournalRight 98 = .ok (.if_icmp .ne 7, 3) := by decide +kernel
theorem dL_isJournalRight_101 : decode cL_isJournalRight 101 = .ok (.iconst 1, 1) := by decide +kernel
theorem dL_isJournalRight_102 : decode cL_isJournalRight 102 = .ok (.goto 4, 3) := by decide +kernel
theorem dL_isJournalRight_105 : decode cL_isJournalRight 105 = .ok (.iconst 0, 1) := by decide +kernel
theorem dL_isJournalRight_106 : decode cL_isJournalRight 106 = .ok (.istore 5, 2) := by decide +kernel
theorem dL_isJournalRight_108 : decode cL_isJournalRight 108 = .ok (.iload_n 2, 1) := by decide +kernel
theorem dL_isJournalRight_109 : decode cL_isJournalRight 109 = .ok (.ifCond .eq 32, 3) := by decide +kernel
theorem dL_isJournalRight_112 : decode cL_isJournalRight 112 = .ok (.iload 5, 2) := by decide +kernel
theorem dL_isJournalRight_114 : decode cL_isJournalRight 114 = .ok (.ifCond .eq 27, 3) := by decide +kernel
theorem dL_isJournalRight_117 : decode cL_isJournalRight 117 = .ok (.aload_n 0, 1) := by decide +kernel
theorem dL_isJournalRight_118 : decode cL_isJournalRight 118 = .ok (.iload_n 3, 1) := by decide +kernel
theorem dL_isJournalRight_119 : decode cL_isJournalRight 119 = .ok (.invokevirtual 89, 3) := by decide +kernel
theorem dL_isJournalRight_122 : decode cL_isJournalRight 122 = .ok (.ifCond .le 19, 3) := by decide +kernel
theorem dL_isJournalRight_125 : decode cL_isJournalRight 125 = .ok (.aload_n 0, 1) := by decide +kernel
theorem dL_isJournalRight_126 : decode cL_isJournalRight 126 = .ok (.iload_n 3, 1) := by decide +kernel
theorem dL_isJournalRight_127 : decode cL_isJournalRight 127 = .ok (.invokevirtual 171, 3) := by decide +kernel
theorem dL_isJournalRight_130 : decode cL_isJournalRight 130 = .ok (.aload_n 0, 1) := by decide +kernel
theorem dL_isJournalRight_131 : decode cL_isJournalRight 131 = .ok (.invokevirtual 115, 3) := by decide +kernel
theorem dL_isJournalRight_134 : decode cL_isJournalRight 134 = .ok (.if_icmp .ge 7, 3) := by decide +kernel
theorem dL_isJournalRight_137 : decode cL_isJournalRight 137 = .ok (.iconst 1, 1) := by decide +kernel
theorem dL_isJournalRight_138 : decode cL_isJournalRight 138 = .ok (.goto 4, 3) := by decide +kernel
theorem dL_isJournalRight_141 : decode cL_isJournalRight 141 = .ok (.iconst 0, 1) := by decide +kernel
theorem dL_isJournalRight_142 : decode cL_isJournalRight 142 = .ok (.istore_n 2, 1) := by decide +kernel
theorem dL_isJournalRight_143 : decode cL_isJournalRight 143 = .ok (.iinc 3 1, 3) := by decide +kernel
theorem dL_isJournalRight_146 : decode cL_isJournalRight 146 = .ok (.goto (-99), 3) := by decide +kernel
theorem dL_isJournalRight_149 : decode cL_isJournalRight 149 = .ok (.iload_n 2, 1) := by decide +kernel
theorem dL_isJournalRight_150 : decode cL_isJournalRight 150 = .ok (.ireturn, 1) := by decide +kernel
theorem dL_law_0 : decode cL_law 0 = .ok (.new 16, 3) := by decide +kernel
theorem dL_law_3 : decode cL_law 3 = .ok (.dup, 1) := by decide +kernel
theorem dL_law_4 : decode cL_law 4 = .ok (.invokespecial 258, 3) := by decide +kernel
theorem dL_law_7 : decode cL_law 7 = .ok (.astore_n 1, 1) := by decide +kernel
theorem dL_law_8 : decode cL_law 8 = .ok (.aload_n 1, 1) := by decide +kernel
theorem dL_law_9 : decode cL_law 9 = .ok (.aload_n 0, 1) := by decide +kernel
theorem dL_law_10 : decode cL_law 10 = .ok (.invokestatic 259, 3) := by decide +kernel
theorem dL_law_13 : decode cL_law 13 = .ok (.iconst 0, 1) := by decide +kernel
theorem dL_law_14 : decode cL_law 14 = .ok (.istore_n 2, 1) := by decide +kernel
theorem dL_law_15 : decode cL_law 15 = .ok (.iload_n 2, 1) := by decide +kernel
theorem dL_law_16 : decode cL_law 16 = .ok (.bipush 14, 2) := by decide +kernel
theorem dL_law_18 : decode cL_law 18 = .ok (.if_icmp .ge 98, 3) := by decide +kernel
theorem dL_law_21 : decode cL_law 21 = .ok (.aload_n 1, 1) := by decide +kernel
theorem dL_law_22 : decode cL_law 22 = .ok (.aload_n 0, 1) := by decide +kernel
theorem dL_law_23 : decode cL_law 23 = .ok (.sipush 200, 3) := by decide +kernel
theorem dL_law_26 : decode cL_law 26 = .ok (.bipush 6, 2) := by decide +kernel
theorem dL_law_28 : decode cL_law 28 = .ok (.iload_n 2, 1) := by decide +kernel
theorem dL_law_29 : decode cL_law 29 = .ok (.imul, 1) := by decide +kernel
theorem dL_law_30 : decode cL_law 30 = .ok (.iadd, 1) := by decide +kernel
theorem dL_law_31 : decode cL_law 31 = .ok (.invokestatic 263, 3) := by decide +kernel
theorem dL_law_34 : decode cL_law 34 = .ok (.istore_n 3, 1) := by decide +kernel
theorem dL_law_35 : decode cL_law 35 = .ok (.iconst 1, 1) := by decide +kernel
theorem dL_law_36 : decode cL_law 36 = .ok (.aload_n 1, 1) := by decide +kernel
theorem dL_law_37 : decode cL_law 37 = .ok (.invokevirtual 115, 3) := by decide +kernel
theorem dL_law_40 : decode cL_law 40 = .ok (.invokestatic 118, 3) := by decide +kernel
theorem dL_law_43 : decode cL_law 43 = .ok (.istore 4, 2) := by decide +kernel
theorem dL_law_45 : decode cL_law 45 = .ok (.aload_n 1, 1) := by decide +kernel
theorem dL_law_46 : decode cL_law 46 = .ok (.invokestatic 267, 3) := by decide +kernel
theorem dL_law_49 : decode cL_law 49 = .ok (.ifCond .eq 59, 3) := by decide +kernel
theorem dL_law_52 : decode cL_law 52 = .ok (.aload_n 1, 1) := by decide +kernel
theorem dL_law_53 : decode cL_law 53 = .ok (.aload_n 0, 1) := by decide +kernel
theorem dL_law_54 : decode cL_law 54 = .ok (.sipush 300, 3) := by decide +kernel
theorem dL_law_57 : decode cL_law 57 = .ok (.iload_n 2, 1) := by decide +kernel
theorem dL_law_58 : decode cL_law 58 = .ok (.iadd, 1) := by decide +kernel
theorem dL_law_59 : decode cL_law 59 = .ok (.iload 4, 2) := by decide +kernel
theorem dL_law_61 : decode cL_law 61 = .ok (.invokestatic 105, 3) := by decide +kernel
theorem dL_law_64 : decode cL_law 64 = .ok (.aload_n 0, 1) := by decide +kernel
theorem dL_law_65 : decode cL_law 65 = .ok (.sipush 320, 3) := by decide +kernel
theorem dL_law_68 : decode cL_law 68 = .ok (.iload_n 2, 1) := by decide +kernel
theorem dL_law_69 : decode cL_law 69 = .ok (.iadd, 1) := by decide +kernel
theorem dL_law_70 : decode cL_law 70 = .ok (.iload 4, 2) := by decide +kernel
theorem dL_law_72 : decode cL_law 72 = .ok (.invokestatic 105, 3) := by decide +kernel
theorem dL_law_75 : decode cL_law 75 = .ok (.invokestatic 271, 3) := by decide +kernel
theorem dL_law_78 : decode cL_law 78 = .ok (.ifCond .eq 30, 3) := by decide +kernel
theorem dL_law_81 : decode cL_law 81 = .ok (.aload_n 1, 1) := by decide +kernel
theorem dL_law_82 : decode cL_law 82 = .ok (.iconst 1, 1) := by decide +kernel
theorem dL_law_83 : decode cL_law 83 = .ok (.aload_n 0, 1) := by decide +kernel
theorem dL_law_84 : decode cL_law 84 = .ok (.sipush 340, 3) := by decide +kernel
theorem dL_law_87 : decode cL_law 87 = .ok (.iload_n 2, 1) := by decide +kernel
theorem dL_law_88 : decode cL_law 88 = .ok (.iadd, 1) := by decide +kernel
theorem dL_law_89 : decode cL_law 89 = .ok (.bipush 9, 2) := by decide +kernel
theorem dL_law_91 : decode cL_law 91 = .ok (.invokestatic 105, 3) := by decide +kernel
theorem dL_law_94 : decode cL_law 94 = .ok (.iadd, 1) := by decide +kernel
theorem dL_law_95 : decode cL_law 95 = .ok (.invokestatic 275, 3) := by decide +kernel
theorem dL_law_98 : decode cL_law 98 = .ok (.ifCond .eq 10, 3) := by decide +kernel
theorem dL_law_101 : decode cL_law 101 = .ok (.aload_n 1, 1) := by decide +kernel
theorem dL_law_102 : decode cL_law 102 = .ok (.invokestatic 279, 3) := by decide +kernel
theorem dL_law_105 : decode cL_law 105 = .ok (.ifCond .ne 5, 3) := by decide +kernel
theorem dL_law_108 : decode cL_law 108 = .ok (.iconst 0, 1) := by decide +kernel
theorem dL_law_109 : decode cL_law 109 = .ok (.ireturn, 1) := by decide +kernel
theorem dL_law_110 : decode cL_law 110 = .ok (.iinc 2 1, 3) := by decide +kernel
theorem dL_law_113 : decode cL_law 113 = .ok (.goto (-98), 3) := by decide +kernel
theorem dL_law_116 : decode cL_law 116 = .ok (.iconst 1, 1) := by decide +kernel
theorem dL_law_117 : decode cL_law 117 = .ok (.ireturn, 1) := by decide +kernel
end
section
/-! the layer: a world of places, the judgement X, its rows -/
abbrev GT : Type := va_G × (Nat → ClassId) × (Nat → Nat) × (Nat → Nat) × (Nat → Nat)
abbrev StB : Type := (Nat → Nat → Int32) × (Nat → Nat → Int64) × (Nat → Nat → Int32) × Nat
abbrev StM : Type := (Nat → Int32) × (Nat → Nat → Int32)
abbrev StO : Type := Int64 × UInt64
def bi (B : StB) (p k : Nat) : Int32 := B.1 p k
def bl (B : StB) (p k : Nat) : Int64 := B.2.1 p k
def ba (B : StB) (p k : Nat) : Int32 := B.2.2.1 p k
def bz (B : StB) : Nat := B.2.2.2
def up2 {α : Type} (f : Nat → Nat → α) (p k : Nat) (v : α) : Nat → Nat → α := fun a b => if a = p ∧ b = k then v else f a b
def sbi (B : StB) (p k : Nat) (v : Int32) : StB := (up2 B.1 p k v, B.2.1, B.2.2.1, B.2.2.2)
def sbl (B : StB) (p k : Nat) (v : Int64) : StB := (B.1, up2 B.2.1 p k v, B.2.2.1, B.2.2.2)
def sba (B : StB) (p k : Nat) (v : Int32) : StB := (B.1, B.2.1, up2 B.2.2.1 p k v, B.2.2.2)
def mi (M : StM) (k : Nat) : Int32 := M.1 k
def ma (M : StM) (q k : Nat) : Int32 := M.2 q k
def smi (M : StM) (k : Nat) (v : Int32) : StM := (fun b => if b = k then v else M.1 b, M.2)
def sma (M : StM) (q k : Nat) (v : Int32) : StM := (M.1, up2 M.2 q k v)
/-- the place of an int in an array -/
def ix (x : Int32) : Nat := x.toNatClampNeg
def nm {α β : Type} (v : α) (k : α → β) : β := k v
theorem nmE {α β : Type} {v : α} {k : α → β} {R : β} {x : α} (h : R = nm v k) (e : x = v) : R = k x := by rw [e]; exact h

def entC (G : GT) (ad : Nat → Nat) (p : Nat) (fi : Nat → Int32) (fl : Nat → Int64) (fa : Nat → Int32) (z : Nat) : va_E := if p < 176 then (match p % 16 with
  | 0 => .inr (7, [.ref (ad (p + 1)), .ref (ad (p + 6)), .ref (ad (p + 12)), .int (fi 3), .int (fi 4), .int (fi 5), .long (fl 6), .long (fl 7), .long (fl 8), .long (fl 9), .long (fl 10)])
  | 1 => .inr (4, [.int (fi 0), .ref (ad (p + 1)), .ref (ad (p + 2)), .ref (ad (p + 3)), .ref (ad (p + 4))])
  | 2 => .inl (G.2.1 2, 8, .inl fa)
  | 3 => .inl (G.2.1 2, 8, .inl fa)
  | 4 => .inl (G.2.1 2, 8, .inl fa)
  | 5 => .inl (G.2.1 3, 8, .inl fa)
  | 6 => .inr (9, [.int (fi 0), .int (fi 1), .ref (ad (p + 1)), .ref (ad (p + 2)), .ref (ad (p + 3)), .ref (ad (p + 4)), .ref (ad (p + 5))])
  | 7 => .inl (G.2.1 2, 10, .inl fa)
  | 8 => .inl (G.2.1 2, 10, .inl fa)
  | 9 => .inl (G.2.1 2, 10, .inl fa)
  | 10 => .inl (G.2.1 2, 10, .inl fa)
  | 11 => .inl (G.2.1 2, 10, .inl fa)
  | 12 => .inr (6, [.int (fi 0), .int (fi 1), .ref (ad (p + 1)), .ref (ad (p + 2)), .ref (ad (p + 3))])
  | 13 => .inl (G.2.1 1, 10, .inl fa)
  | 14 => .inl (G.2.1 2, 10, .inl fa)
  | _ => .inl (G.2.1 2, 10, .inl fa)
  ) else (match p - 176 with
  | 0 => .inr (10, [.ref (ad 0), .ref (ad 16), .ref (ad 32), .ref (ad 177), .ref (ad 179), .ref (ad 191), .ref (ad 182), .int (fi 7), .int (fi 8), .int (fi 9)])
  | 1 => .inr (5, [.int (fi 0), .int (fi 1), .ref (ad 178)])
  | 2 => .inl (G.2.1 4, 8, .inr (.inr (.inr (.inr (fun j => if j < 8 then some (ad (48 + 16 * j)) else none)))))
  | 3 => .inr (8, [.ref (ad 180), .int (fi 1), .int (fi 2), .int (fi 3), .ref (ad 181)])
  | 4 => .inl (G.2.1 1, 60, .inl fa)
  | 5 => .inl (G.2.1 2, 4, .inl fa)
  | 6 => .inl (G.2.1 5, 8, .inr (.inr (.inr (.inr (fun j => if j < 8 then some (ad (183 + j)) else none)))))
  | 15 => .inr (1, [.ref (ad 192), .int 0, .int (fi 2), .int (fi 3)])
  | 16 => .inl (G.2.1 0, z, .inl fa)
  | _ => .inl (G.2.1 2, 8, .inl fa))
def entM (G : GT) (ad : Nat → Nat) (p : Nat) (fi : Nat → Int32) (fa : Nat → Int32) : va_E := match G.2.2.2.2 2 with
  | 1 => (match p - 193 with
    | 0 => .inl (G.2.1 2, ix (fi 9), .inl fa)
    | 1 => .inl (G.2.1 2, ix (fi 9), .inl fa)
    | 2 => .inl (G.2.1 2, ix (fi 9), .inl fa)
    | _ => .inl (G.2.1 3, ix (fi 9), .inl fa))
  | 2 => (match p - 193 with
    | 0 => .inr (1, [.ref (ad 194), .int 0, .int (fi 2), .int (fi 3)])
    | _ => .inl (G.2.1 0, ix (fi 9), .inl fa))
  | _ => (match p - 193 with
    | 0 => .inr (0, [.ref (ad 194), .int 0, .int 0, .int 0])
    | _ => .inl (G.2.1 0, ix (fi 9), .inl fa))
def ent (G : GT) (ad : Nat → Nat) (B : StB) (_ : StM) (_ : StO) (p : Nat) : va_E := if p < 193 then entC G ad p (B.1 p) (B.2.1 p) (B.2.2.1 p) B.2.2.2 else entM G ad p (B.1 p) (B.2.2.1 p)
def wl (G : GT) (ad : Nat → Nat) (B : StB) (M : StM) (O : StO) : va_W := (List.range (193 + G.2.2.2.2 3)).map fun p => (ad p, ent G ad B M O p)
theorem wl_at {G : GT} {ad : Nat → Nat} {B : StB} {M : StM} {O : StO} {p : Nat} {E : va_E} (h : p < 193 + G.2.2.2.2 3 ∧ ent G ad B M O p = E) : (wl G ad B M O)[p]? = some (ad p, E) := by
  rw [← h.2]
  simp [wl, h.1]
theorem wl_set {G : GT} {ad : Nat → Nat} {B B' : StB} {M M' : StM} {O O' : StO} {p : Nat} {E : va_E} (hp : p < 193 + G.2.2.2.2 3) (h : ent G ad B' M' O' p = E) (ho : ∀ q, q ≠ p → ent G ad B' M' O' q = ent G ad B M O q) : (wl G ad B M O).set p (ad p, E) = wl G ad B' M' O' := by
  apply List.ext_getElem?
  intro i
  by_cases hi : i = p
  · subst hi
    rw [List.getElem?_set_self (by simp [wl, hp]), wl_at ⟨hp, h⟩]
  · rw [List.getElem?_set_ne (Ne.symm hi)]
    by_cases h2 : i < 193 + G.2.2.2.2 3
    · rw [wl_at ⟨h2, rfl⟩, wl_at ⟨h2, rfl⟩, ho i hi]
    · rw [List.getElem?_eq_none (by simp [wl]; omega), List.getElem?_eq_none (by simp [wl]; omega)]
/-- the addresses are apart, and of the kind -/
def AdOk (A : Nat → Prop) (G : GT) (ad : Nat → Nat) : Prop := (∀ i j, i < 193 + G.2.2.2.2 3 → j < 193 + G.2.2.2.2 3 → ad i = ad j → i = j) ∧ ∀ i, i < 193 + G.2.2.2.2 3 → A (ad i)
theorem wl_D {A : Nat → Prop} {G : GT} {ad : Nat → Nat} {B : StB} {M : StM} {O : StO} (h : AdOk A G ad) : va_D A (wl G ad B M O) := by
  have key : ∀ (k : Nat) (q : Nat × va_E), (wl G ad B M O)[k]? = some q → k < 193 + G.2.2.2.2 3 ∧ q.1 = ad k := by
    intro k q hk
    have hl : k < 193 + G.2.2.2.2 3 := by
      have := (List.getElem?_eq_some_iff.mp hk).1
      simpa [wl] using this
    rw [wl_at ⟨hl, rfl⟩] at hk
    cases hk
    exact ⟨hl, rfl⟩
  refine ⟨fun i j a b hi hj hab => ?_, fun k q hk => ?_⟩
  · obtain ⟨h1, h2⟩ := key i a hi
    obtain ⟨h3, h4⟩ := key j b hj
    exact h.1 i j h1 h3 (by rw [← h2, ← h4]; exact hab)
  · obtain ⟨h1, h2⟩ := key k q hk
    rw [h2]
    exact h.2 k h1

theorem e_L {G : GT} {ad : Nat → Nat} {B : StB} {M : StM} {O : StO} {p : Nat} (h : p < 176 ∧ p % 16 = 0) : p < 193 + G.2.2.2.2 3 ∧ ent G ad B M O p = .inr (7, [.ref (ad (p + 1)), .ref (ad (p + 6)), .ref (ad (p + 12)), .int (bi B p 3), .int (bi B p 4), .int (bi B p 5), .long (bl B p 6), .long (bl B p 7), .long (bl B p 8), .long (bl B p 9), .long (bl B p 10)]) := ⟨by omega, by simp only [ent, entC, h.1, h.2, if_pos (show p < 193 by omega), if_true]; rfl⟩
theorem e_A {G : GT} {ad : Nat → Nat} {B : StB} {M : StM} {O : StO} {p : Nat} (h : p < 176 ∧ p % 16 = 1) : p < 193 + G.2.2.2.2 3 ∧ ent G ad B M O p = .inr (4, [.int (bi B p 0), .ref (ad (p + 1)), .ref (ad (p + 2)), .ref (ad (p + 3)), .ref (ad (p + 4))]) := ⟨by omega, by simp only [ent, entC, h.1, h.2, if_pos (show p < 193 by omega), if_true]; rfl⟩
theorem e_Ak {G : GT} {ad : Nat → Nat} {B : StB} {M : StM} {O : StO} {p : Nat} (h : p < 176 ∧ p % 16 = 2) : p < 193 + G.2.2.2.2 3 ∧ ent G ad B M O p = .inl (G.2.1 2, 8, .inl (ba B p)) := ⟨by omega, by simp only [ent, entC, h.1, h.2, if_pos (show p < 193 by omega), if_true]; rfl⟩
theorem e_Ab {G : GT} {ad : Nat → Nat} {B : StB} {M : StM} {O : StO} {p : Nat} (h : p < 176 ∧ p % 16 = 3) : p < 193 + G.2.2.2.2 3 ∧ ent G ad B M O p = .inl (G.2.1 2, 8, .inl (ba B p)) := ⟨by omega, by simp only [ent, entC, h.1, h.2, if_pos (show p < 193 by omega), if_true]; rfl⟩
theorem e_Al {G : GT} {ad : Nat → Nat} {B : StB} {M : StM} {O : StO} {p : Nat} (h : p < 176 ∧ p % 16 = 4) : p < 193 + G.2.2.2.2 3 ∧ ent G ad B M O p = .inl (G.2.1 2, 8, .inl (ba B p)) := ⟨by omega, by simp only [ent, entC, h.1, h.2, if_pos (show p < 193 by omega), if_true]; rfl⟩
theorem e_At {G : GT} {ad : Nat → Nat} {B : StB} {M : StM} {O : StO} {p : Nat} (h : p < 176 ∧ p % 16 = 5) : p < 193 + G.2.2.2.2 3 ∧ ent G ad B M O p = .inl (G.2.1 3, 8, .inl (ba B p)) := ⟨by omega, by simp only [ent, entC, h.1, h.2, if_pos (show p < 193 by omega), if_true]; rfl⟩
theorem e_T {G : GT} {ad : Nat → Nat} {B : StB} {M : StM} {O : StO} {p : Nat} (h : p < 176 ∧ p % 16 = 6) : p < 193 + G.2.2.2.2 3 ∧ ent G ad B M O p = .inr (9, [.int (bi B p 0), .int (bi B p 1), .ref (ad (p + 1)), .ref (ad (p + 2)), .ref (ad (p + 3)), .ref (ad (p + 4)), .ref (ad (p + 5))]) := ⟨by omega, by simp only [ent, entC, h.1, h.2, if_pos (show p < 193 by omega), if_true]; rfl⟩
theorem e_Ti {G : GT} {ad : Nat → Nat} {B : StB} {M : StM} {O : StO} {p : Nat} (h : p < 176 ∧ p % 16 = 7) : p < 193 + G.2.2.2.2 3 ∧ ent G ad B M O p = .inl (G.2.1 2, 10, .inl (ba B p)) := ⟨by omega, by simp only [ent, entC, h.1, h.2, if_pos (show p < 193 by omega), if_true]; rfl⟩
theorem e_Ts {G : GT} {ad : Nat → Nat} {B : StB} {M : StM} {O : StO} {p : Nat} (h : p < 176 ∧ p % 16 = 8) : p < 193 + G.2.2.2.2 3 ∧ ent G ad B M O p = .inl (G.2.1 2, 10, .inl (ba B p)) := ⟨by omega, by simp only [ent, entC, h.1, h.2, if_pos (show p < 193 by omega), if_true]; rfl⟩
theorem e_Tr {G : GT} {ad : Nat → Nat} {B : StB} {M : StM} {O : StO} {p : Nat} (h : p < 176 ∧ p % 16 = 9) : p < 193 + G.2.2.2.2 3 ∧ ent G ad B M O p = .inl (G.2.1 2, 10, .inl (ba B p)) := ⟨by omega, by simp only [ent, entC, h.1, h.2, if_pos (show p < 193 by omega), if_true]; rfl⟩
theorem e_Ta {G : GT} {ad : Nat → Nat} {B : StB} {M : StM} {O : StO} {p : Nat} (h : p < 176 ∧ p % 16 = 10) : p < 193 + G.2.2.2.2 3 ∧ ent G ad B M O p = .inl (G.2.1 2, 10, .inl (ba B p)) := ⟨by omega, by simp only [ent, entC, h.1, h.2, if_pos (show p < 193 by omega), if_true]; rfl⟩
theorem e_Td {G : GT} {ad : Nat → Nat} {B : StB} {M : StM} {O : StO} {p : Nat} (h : p < 176 ∧ p % 16 = 11) : p < 193 + G.2.2.2.2 3 ∧ ent G ad B M O p = .inl (G.2.1 2, 10, .inl (ba B p)) := ⟨by omega, by simp only [ent, entC, h.1, h.2, if_pos (show p < 193 by omega), if_true]; rfl⟩
theorem e_J {G : GT} {ad : Nat → Nat} {B : StB} {M : StM} {O : StO} {p : Nat} (h : p < 176 ∧ p % 16 = 12) : p < 193 + G.2.2.2.2 3 ∧ ent G ad B M O p = .inr (6, [.int (bi B p 0), .int (bi B p 1), .ref (ad (p + 1)), .ref (ad (p + 2)), .ref (ad (p + 3))]) := ⟨by omega, by simp only [ent, entC, h.1, h.2, if_pos (show p < 193 by omega), if_true]; rfl⟩
theorem e_Jk {G : GT} {ad : Nat → Nat} {B : StB} {M : StM} {O : StO} {p : Nat} (h : p < 176 ∧ p % 16 = 13) : p < 193 + G.2.2.2.2 3 ∧ ent G ad B M O p = .inl (G.2.1 1, 10, .inl (ba B p)) := ⟨by omega, by simp only [ent, entC, h.1, h.2, if_pos (show p < 193 by omega), if_true]; rfl⟩
theorem e_Ja {G : GT} {ad : Nat → Nat} {B : StB} {M : StM} {O : StO} {p : Nat} (h : p < 176 ∧ p % 16 = 14) : p < 193 + G.2.2.2.2 3 ∧ ent G ad B M O p = .inl (G.2.1 2, 10, .inl (ba B p)) := ⟨by omega, by simp only [ent, entC, h.1, h.2, if_pos (show p < 193 by omega), if_true]; rfl⟩
theorem e_Jc {G : GT} {ad : Nat → Nat} {B : StB} {M : StM} {O : StO} {p : Nat} (h : p < 176 ∧ p % 16 = 15) : p < 193 + G.2.2.2.2 3 ∧ ent G ad B M O p = .inl (G.2.1 2, 10, .inl (ba B p)) := ⟨by omega, by simp only [ent, entC, h.1, h.2, if_pos (show p < 193 by omega), if_true]; rfl⟩
theorem e_I {G : GT} {ad : Nat → Nat} {B : StB} {M : StM} {O : StO} : 176 < 193 + G.2.2.2.2 3 ∧ ent G ad B M O 176 = .inr (10, [.ref (ad 0), .ref (ad 16), .ref (ad 32), .ref (ad 177), .ref (ad 179), .ref (ad 191), .ref (ad 182), .int (bi B 176 7), .int (bi B 176 8), .int (bi B 176 9)]) := ⟨by omega, rfl⟩
theorem e_H {G : GT} {ad : Nat → Nat} {B : StB} {M : StM} {O : StO} : 177 < 193 + G.2.2.2.2 3 ∧ ent G ad B M O 177 = .inr (5, [.int (bi B 177 0), .int (bi B 177 1), .ref (ad 178)]) := ⟨by omega, rfl⟩
theorem e_Hs {G : GT} {ad : Nat → Nat} {B : StB} {M : StM} {O : StO} : 178 < 193 + G.2.2.2.2 3 ∧ ent G ad B M O 178 = .inl (G.2.1 4, 8, .inr (.inr (.inr (.inr (fun j => if j < 8 then some (ad (48 + 16 * j)) else none))))) := ⟨by omega, rfl⟩
theorem e_R {G : GT} {ad : Nat → Nat} {B : StB} {M : StM} {O : StO} : 179 < 193 + G.2.2.2.2 3 ∧ ent G ad B M O 179 = .inr (8, [.ref (ad 180), .int (bi B 179 1), .int (bi B 179 2), .int (bi B 179 3), .ref (ad 181)]) := ⟨by omega, rfl⟩
theorem e_Rt {G : GT} {ad : Nat → Nat} {B : StB} {M : StM} {O : StO} : 180 < 193 + G.2.2.2.2 3 ∧ ent G ad B M O 180 = .inl (G.2.1 1, 60, .inl (ba B 180)) := ⟨by omega, rfl⟩
theorem e_Rv {G : GT} {ad : Nat → Nat} {B : StB} {M : StM} {O : StO} : 181 < 193 + G.2.2.2.2 3 ∧ ent G ad B M O 181 = .inl (G.2.1 2, 4, .inl (ba B 181)) := ⟨by omega, rfl⟩
theorem e_S {G : GT} {ad : Nat → Nat} {B : StB} {M : StM} {O : StO} : 182 < 193 + G.2.2.2.2 3 ∧ ent G ad B M O 182 = .inl (G.2.1 5, 8, .inr (.inr (.inr (.inr (fun j => if j < 8 then some (ad (183 + j)) else none))))) := ⟨by omega, rfl⟩
theorem e_B {G : GT} {ad : Nat → Nat} {B : StB} {M : StM} {O : StO} : 191 < 193 + G.2.2.2.2 3 ∧ ent G ad B M O 191 = .inr (1, [.ref (ad 192), .int 0, .int (bi B 191 2), .int (bi B 191 3)]) := ⟨by omega, rfl⟩
theorem e_Bb {G : GT} {ad : Nat → Nat} {B : StB} {M : StM} {O : StO} : 192 < 193 + G.2.2.2.2 3 ∧ ent G ad B M O 192 = .inl (G.2.1 0, bz B, .inl (ba B 192)) := ⟨by omega, rfl⟩
theorem e_Si {G : GT} {ad : Nat → Nat} {B : StB} {M : StM} {O : StO} {i : Nat} (h : i < 8) : 183 + i < 193 + G.2.2.2.2 3 ∧ ent G ad B M O (183 + i) = .inl (G.2.1 2, 8, .inl (ba B (183 + i))) := by
  refine ⟨by omega, ?_⟩
  match i, h with
  | 0, _ => rfl
  | 1, _ => rfl
  | 2, _ => rfl
  | 3, _ => rfl
  | 4, _ => rfl
  | 5, _ => rfl
  | 6, _ => rfl
  | 7, _ => rfl
theorem up2_ne {α : Type} (f : Nat → Nat → α) (p k : Nat) (v : α) {q : Nat} (h : q ≠ p) : up2 f p k v q = f q := by
  funext b
  simp [up2, h]
theorem up2_eq (f : Nat → Nat → Int32) (p k : Nat) (v : Int32) : up2 f p k v p = upd (f p) k v := by
  funext b
  simp [up2, upd]
theorem o_sbi {G : GT} {ad : Nat → Nat} {B : StB} {M : StM} {O : StO} (p k : Nat) (v : Int32) : ∀ q, q ≠ p → ent G ad (sbi B p k v) M O q = ent G ad B M O q := fun q h => by
  simp only [ent, sbi, up2_ne _ _ _ _ h]
theorem o_sbl {G : GT} {ad : Nat → Nat} {B : StB} {M : StM} {O : StO} (p k : Nat) (v : Int64) : ∀ q, q ≠ p → ent G ad (sbl B p k v) M O q = ent G ad B M O q := fun q h => by
  simp only [ent, sbl, up2_ne _ _ _ _ h]
theorem o_sba {G : GT} {ad : Nat → Nat} {B : StB} {M : StM} {O : StO} (p k : Nat) (v : Int32) : ∀ q, q ≠ p → ent G ad (sba B p k v) M O q = ent G ad B M O q := fun q h => by
  simp only [ent, sba, up2_ne _ _ _ _ h]
theorem e_Q0 {G : GT} {ad : Nat → Nat} {B : StB} {M : StM} {O : StO} (h : G.2.2.2.2 2 = 1 ∧ G.2.2.2.2 3 = 4) : 193 < 193 + G.2.2.2.2 3 ∧ ent G ad B M O 193 = .inl (G.2.1 2, ix (bi B 193 9), .inl (ba B 193)) := ⟨by omega, by simp only [ent, entM, h.1]; rfl⟩
theorem e_Q1 {G : GT} {ad : Nat → Nat} {B : StB} {M : StM} {O : StO} (h : G.2.2.2.2 2 = 1 ∧ G.2.2.2.2 3 = 4) : 194 < 193 + G.2.2.2.2 3 ∧ ent G ad B M O 194 = .inl (G.2.1 2, ix (bi B 194 9), .inl (ba B 194)) := ⟨by omega, by simp only [ent, entM, h.1]; rfl⟩
theorem e_Q2 {G : GT} {ad : Nat → Nat} {B : StB} {M : StM} {O : StO} (h : G.2.2.2.2 2 = 1 ∧ G.2.2.2.2 3 = 4) : 195 < 193 + G.2.2.2.2 3 ∧ ent G ad B M O 195 = .inl (G.2.1 2, ix (bi B 195 9), .inl (ba B 195)) := ⟨by omega, by simp only [ent, entM, h.1]; rfl⟩
theorem e_Q3 {G : GT} {ad : Nat → Nat} {B : StB} {M : StM} {O : StO} (h : G.2.2.2.2 2 = 1 ∧ G.2.2.2.2 3 = 4) : 196 < 193 + G.2.2.2.2 3 ∧ ent G ad B M O 196 = .inl (G.2.1 3, ix (bi B 196 9), .inl (ba B 196)) := ⟨by omega, by simp only [ent, entM, h.1]; rfl⟩
theorem e_Db {G : GT} {ad : Nat → Nat} {B : StB} {M : StM} {O : StO} (h : G.2.2.2.2 2 = 2 ∧ G.2.2.2.2 3 = 2) : 194 < 193 + G.2.2.2.2 3 ∧ ent G ad B M O 194 = .inl (G.2.1 0, ix (bi B 194 9), .inl (ba B 194)) := ⟨by omega, by simp only [ent, entM, h.1]; rfl⟩
theorem e_Wv {G : GT} {ad : Nat → Nat} {B : StB} {M : StM} {O : StO} (h : G.2.2.2.2 2 = 3 ∧ G.2.2.2.2 3 = 2) : 194 < 193 + G.2.2.2.2 3 ∧ ent G ad B M O 194 = .inl (G.2.1 0, ix (bi B 194 9), .inl (ba B 194)) := ⟨by omega, by simp only [ent, entM, h.1]; rfl⟩
theorem e_D {G : GT} {ad : Nat → Nat} {B : StB} {M : StM} {O : StO} (h : G.2.2.2.2 2 = 2 ∧ G.2.2.2.2 3 = 2) : 193 < 193 + G.2.2.2.2 3 ∧ ent G ad B M O 193 = .inr (1, [.ref (ad 194), .int 0, .int (bi B 193 2), .int (bi B 193 3)]) := ⟨by omega, by simp only [ent, entM, h.1]; rfl⟩
theorem e_W {G : GT} {ad : Nat → Nat} {B : StB} {M : StM} {O : StO} (h : G.2.2.2.2 2 = 3 ∧ G.2.2.2.2 3 = 2) : 193 < 193 + G.2.2.2.2 3 ∧ ent G ad B M O 193 = .inr (0, [.ref (ad 194), .int 0, .int 0, .int 0]) := ⟨by omega, by simp only [ent, entM, h.1]; rfl⟩
end
section
/-- the tables' words that are good for calls -/
def TT : List Cond := lw_tbl.filter goodWord
theorem tt_in {w : Cond} (h : w ∈ tables_1) (g : goodWord w = true) : w ∈ TT := List.mem_filter.mpr ⟨List.mem_append_right _ h, g⟩
theorem tt_s {w : Cond} (h : w ∈ k2_sels lw_privs) (g : goodWord w = true) : w ∈ TT := List.mem_filter.mpr ⟨List.mem_append_left _ h, g⟩
theorem tt_1 {w : Cond} (h : w ∈ tables_1_1) (g : goodWord w = true) : w ∈ TT := tt_in (List.mem_append_left _ h) g
theorem tt_2 {w : Cond} (h : w ∈ tables_1_2) (g : goodWord w = true) : w ∈ TT := tt_in (List.mem_append_right _ (List.mem_append_left _ h)) g
theorem tt_3 {w : Cond} (h : w ∈ tables_1_3) (g : goodWord w = true) : w ∈ TT := tt_in (List.mem_append_right _ (List.mem_append_right _ (List.mem_append_left _ h))) g
theorem tt_4 {w : Cond} (h : w ∈ tables_1_4) (g : goodWord w = true) : w ∈ TT := tt_in (List.mem_append_right _ (List.mem_append_right _ (List.mem_append_right _ (List.mem_append_left _ h)))) g
theorem tt_5 {w : Cond} (h : w ∈ tables_1_5) (g : goodWord w = true) : w ∈ TT := tt_in (List.mem_append_right _ (List.mem_append_right _ (List.mem_append_right _ (List.mem_append_right _ (List.mem_append_left _ h))))) g
theorem tt_6 {w : Cond} (h : w ∈ tables_1_6) (g : goodWord w = true) : w ∈ TT := tt_in (List.mem_append_right _ (List.mem_append_right _ (List.mem_append_right _ (List.mem_append_right _ (List.mem_append_right _ h))))) g
def kOwn : List String := ["InkBank", "InkBankLaw", "InkBankLaw", "InkBankLaw", "InkBankLaw", "InkBankLaw", "InkBankLaw", "InkBankLaw", "InkBankLaw"]
def kIdx : List Nat := [258, 191, 193, 195, 197, 222, 224, 226, 228]
def kTx : List String := ["CSQV", "C", "S", "Q", "V", ":", "/", "*", ""]
def kLen : List Nat := [4, 1, 1, 1, 1, 1, 1, 1, 0]
def kByt : List (List Int32) := [[67, 83, 81, 86], [67], [83], [81], [86], [58], [47], [42], []]
def dgT : List Int32 := [48, 48, 48, 48, 48, 48, 48, 48, 48, 48, 49, 49, 49, 49, 49, 49, 49, 49, 49, 49, 50, 50, 50, 50, 50, 50, 50, 50, 50, 50, 51, 51, 51, 51, 51, 51, 51, 51, 51, 51, 52, 52, 52, 52, 52, 52, 52, 52, 52, 52, 53, 53, 53, 53, 53, 53, 53, 53, 53, 53, 54, 54, 54, 54, 54, 54, 54, 54, 54, 54, 55, 55, 55, 55, 55, 55, 55, 55, 55, 55, 56, 56, 56, 56, 56, 56, 56, 56, 56, 56, 57, 57, 57, 57, 57, 57, 57, 57, 57, 57]
def dgO : List Int32 := [48, 49, 50, 51, 52, 53, 54, 55, 56, 57, 48, 49, 50, 51, 52, 53, 54, 55, 56, 57, 48, 49, 50, 51, 52, 53, 54, 55, 56, 57, 48, 49, 50, 51, 52, 53, 54, 55, 56, 57, 48, 49, 50, 51, 52, 53, 54, 55, 56, 57, 48, 49, 50, 51, 52, 53, 54, 55, 56, 57, 48, 49, 50, 51, 52, 53, 54, 55, 56, 57, 48, 49, 50, 51, 52, 53, 54, 55, 56, 57, 48, 49, 50, 51, 52, 53, 54, 55, 56, 57, 48, 49, 50, 51, 52, 53, 54, 55, 56, 57]
def nestL : List (String × Nat × MethodName × String) := [("InkBank", 9, ⟨"InkBank$Ledger", "<init>", "()V"⟩, "InkBank"), ("InkBank$Ledger", 11, ⟨"InkBank$Accounts", "<init>", "()V"⟩, "InkBank"), ("InkBank$Ledger", 20, ⟨"InkBank$Transfers", "<init>", "()V"⟩, "InkBank"), ("InkBank$Ledger", 27, ⟨"InkBank$Journal", "<init>", "()V"⟩, "InkBank"), ("InkBank$History", 17, ⟨"InkBank$Ledger", "<init>", "()V"⟩, "InkBank"), ("InkBank", 31, ⟨"InkBank$Reader", "<init>", "()V"⟩, "InkBank"), ("InkBank$Ledger", 68, ⟨"InkBank", "isIn", "(III)Z"⟩, "InkBank")]
def castL : List (String × String) := [("java/lang/IndexOutOfBoundsException", "java/lang/IndexOutOfBoundsException"), ("java/lang/IllegalArgumentException", "java/lang/IllegalArgumentException"), ("java/lang/UnsupportedOperationException", "java/lang/UnsupportedOperationException"), ("java/lang/IllegalStateException", "java/lang/IllegalStateException"), ("java/util/NoSuchElementException", "java/util/NoSuchElementException"), ("java/lang/ArrayIndexOutOfBoundsException", "java/lang/ArrayIndexOutOfBoundsException"), ("java/lang/ArithmeticException", "java/lang/ArithmeticException"), ("[B", "java/lang/Cloneable"), ("java/lang/ArrayIndexOutOfBoundsException", "java/lang/IndexOutOfBoundsException"), ("java/lang/StringIndexOutOfBoundsException", "java/lang/IndexOutOfBoundsException"), ("InkBank", "java/lang/Object"), ("InkBank$Ledger", "java/lang/Object"), ("InkBank$Accounts", "java/lang/Object"), ("InkBank$Transfers", "java/lang/Object"), ("InkBank$Journal", "java/lang/Object"), ("InkBank$History", "java/lang/Object"), ("InkBank$Reader", "java/lang/Object"), ("java/lang/StringBuilder", "java/lang/Object"), ("java/lang/IndexOutOfBoundsException", "java/lang/Object"), ("java/lang/IllegalArgumentException", "java/lang/Object"), ("java/lang/UnsupportedOperationException", "java/lang/Object"), ("java/lang/IllegalStateException", "java/lang/Object"), ("java/util/NoSuchElementException", "java/lang/Object"), ("java/lang/ArrayIndexOutOfBoundsException", "java/lang/Object"), ("java/lang/ArithmeticException", "java/lang/Object"), ("java/lang/StringIndexOutOfBoundsException", "java/lang/Object"), ("java/lang/String", "java/lang/Object"), ("java/lang/Throwable", "java/lang/Object")]
def declL : List MethodName := [⟨"java/lang/RuntimeException", "<init>", "()V"⟩, ⟨"java/lang/RuntimeException", "<init>", "(Ljava/lang/String;)V"⟩, ⟨"java/lang/Exception", "<init>", "()V"⟩, ⟨"java/lang/Exception", "<init>", "(Ljava/lang/String;)V"⟩, ⟨"java/lang/Throwable", "<init>", "()V"⟩, ⟨"java/lang/Throwable", "<init>", "(Ljava/lang/String;)V"⟩, ⟨"java/lang/IndexOutOfBoundsException", "<init>", "()V"⟩, ⟨"java/lang/IndexOutOfBoundsException", "<init>", "(Ljava/lang/String;)V"⟩]
def ySBisL : MethodName := ⟨"java/lang/AbstractStringBuilder", "isLatin1", "()Z"⟩
def ySBens : MethodName := ⟨"java/lang/AbstractStringBuilder", "ensureCapacityInternal", "(I)V"⟩
def ncL : List (String × String) := [("java/lang/IndexOutOfBoundsException", "java/lang/IllegalArgumentException"), ("java/lang/UnsupportedOperationException", "java/lang/IllegalArgumentException"), ("java/lang/IllegalStateException", "java/lang/IllegalArgumentException"), ("java/util/NoSuchElementException", "java/lang/IllegalArgumentException"), ("java/lang/ArithmeticException", "java/lang/IllegalArgumentException"), ("java/lang/IndexOutOfBoundsException", "java/lang/IllegalStateException"), ("java/lang/IllegalArgumentException", "java/lang/IllegalStateException"), ("java/lang/UnsupportedOperationException", "java/lang/IllegalStateException"), ("java/util/NoSuchElementException", "java/lang/IllegalStateException"), ("java/lang/ArithmeticException", "java/lang/IllegalStateException"), ("java/lang/IllegalArgumentException", "java/lang/IndexOutOfBoundsException"), ("java/lang/UnsupportedOperationException", "java/lang/IndexOutOfBoundsException"), ("java/lang/IllegalStateException", "java/lang/IndexOutOfBoundsException"), ("java/util/NoSuchElementException", "java/lang/IndexOutOfBoundsException"), ("java/lang/ArithmeticException", "java/lang/IndexOutOfBoundsException"), ("java/lang/IndexOutOfBoundsException", "java/lang/UnsupportedOperationException"), ("java/lang/IllegalArgumentException", "java/lang/UnsupportedOperationException"), ("java/lang/IllegalStateException", "java/lang/UnsupportedOperationException"), ("java/util/NoSuchElementException", "java/lang/UnsupportedOperationException"), ("java/lang/ArithmeticException", "java/lang/UnsupportedOperationException"), ("java/lang/IndexOutOfBoundsException", "java/util/NoSuchElementException"), ("java/lang/IllegalArgumentException", "java/util/NoSuchElementException"), ("java/lang/UnsupportedOperationException", "java/util/NoSuchElementException"), ("java/lang/IllegalStateException", "java/util/NoSuchElementException"), ("java/lang/ArithmeticException", "java/util/NoSuchElementException")]
abbrev IntC : String := "java/lang/Integer"
/-- what stands below the world, and stays -/
def Fx (G : GT) (A : Nat → Prop) (U : State) : Prop :=
  vx_Zq Bundle.tN "UNASSIGNED_STACK" Bundle.steD A U U.heap ∧ vx_Zq Bundle.tN "SUPPRESSED_SENTINEL" Bundle.listD A U U.heap ∧
  va_Z "java/lang/String" "COMPACT_STRINGS" "Z" (.int 1) A U U.heap ∧ vk_S 9 kLen kByt G.2.2.1 G.2.2.2.1 A U U.heap ∧
  (∀ i : Nat, i < 9 → vk_R (kOwn.getD i "") (kIdx.getD i 0) (kTx.getD i "") (G.2.2.1 i) U) ∧
  va_Z IntC "DigitTens" "[B" (.ref (G.2.2.2.2 0)) A U U.heap ∧ va_T .byte (G.2.2.2.2 0) 100 (fun j => .int (dgT.getD j 0)) A U U.heap ∧
  va_Z IntC "DigitOnes" "[B" (.ref (G.2.2.2.2 1)) A U U.heap ∧ va_T .byte (G.2.2.2.2 1) 100 (fun j => .int (dgO.getD j 0)) A U U.heap ∧
  (∀ q ∈ nestL, va_Nw (.methodLinkNest q.1 q.2.1 q.2.2.1 q.2.2.2) U) ∧ (∀ q ∈ castL, va_Nw (.castable q.1 q.2) U) ∧ (∀ q ∈ declL, va_Nw (.declares q) U) ∧ (∀ q ∈ ncL, va_Nc q.1 q.2 U) ∧
  va_Zq "jdk/internal/util/Preconditions" "SIOOBE_FORMATTER" "Ljava/util/function/BiFunction;" A U U.heap ∧ (Cond.selects RJ4 ySBens ySBens).before #[] U = true
theorem fx_step {G : GT} {A : Nat → Prop} {s U : State} {H : Heap} {locs : List Loc} (h : Fx G A s) (hS : va_S A s.heap H locs) (hU : U.heap = H) (hW : s.WarmedH U.vm) : Fx G A U := by
  obtain ⟨h1, h2, h3, h4, h5, h6, h7, h8, h9, i1, i2, i3, i4, i5, i6⟩ := h
  subst hU
  exact ⟨(h1.kept hS.2.1).moved hW.alike, (h2.kept hS.2.1).moved hW.alike, (h3.kept hS.2.1).moved hW.alike, (h4.kept hS.2.1).moved hW.alike, fun i hi => vk_R.warm hW (h5 i hi), (h6.kept hS.2.1).moved hW.alike, (h7.kept hS.2.1).moved hW.alike, (h8.kept hS.2.1).moved hW.alike, (h9.kept hS.2.1).moved hW.alike, fun q hq => va_Nw.warmM hW (i1 q hq), fun q hq => va_Nw.warmC hW (i2 q hq), fun q hq => va_Nw.warmD hW (i3 q hq), fun q hq => (i4 q hq).moved hW.alike, (i5.kept hS.2.1).moved hW.alike, word_at hW (good_of_word rfl) i6⟩
theorem fx_blind {G : GT} {A : Nat → Prop} {U : State} (g : JFrame) (mk : MethodId) (a : Array Value) (h : Fx G A U) : Fx G A (U.calling g mk a) := by
  obtain ⟨h1, h2, h3, h4, h5, h6, h7, h8, h9, i1, i2, i3, i4, i5, i6⟩ := h
  have q : U.vm.Alike (U.calling g mk a).vm := Vm.Alike.refl U.vm
  exact ⟨h1.moved q, h2.moved q, h3.moved q, h4.moved q, fun i hi => vk_R.same rfl (h5 i hi), h6.moved q, h7.moved q, h8.moved q, h9.moved q, fun z hz => va_Nw.same rfl rfl (i1 z hz), fun z hz => va_Nw.same rfl rfl (i2 z hz), fun z hz => va_Nw.same rfl rfl (i3 z hz), fun z hz => (i4 z hz).moved q, i5.moved q, va_tabs (u := U) (A := #[]) rfl rfl i6⟩
/-- the arrays' classes -/
def tyG (G : GT) : List (ClassId × FieldType) := [(G.2.1 0, .byte), (G.2.1 1, .char), (G.2.1 2, .int), (G.2.1 3, .boolean), (G.2.1 4, .object "InkBank$Ledger"), (G.2.1 5, .array .int), (G.2.1 6, .long), (G.2.1 7, .double)]
/-- a method's start: the world -/
def PW (G : GT) (A : Nat → Prop) (ad : Nat → Nat) (B : StB) (M : StM) (O : StO) : State → Prop := fun U => va_P G.1 vwCl (wl G ad B M O) U.heap ∧ va_K G.1 vwCl (tyG G) U ∧ Fx G A U ∧ ∀ q, U.heap.size ≤ q → A q
theorem pw_blind {G : GT} {A : Nat → Prop} {ad : Nat → Nat} {B : StB} {M : StM} {O : StO} {as : List Value} : FrameBlind (va_Pc as (PW G A ad B M O)) := by
  intro a U g mk h
  obtain ⟨h0, h1, h2, h3, h4⟩ := h
  exact ⟨h0, h1, va_K.moved (u := U) (U := U.calling g mk a) (Vm.Alike.refl U.vm) h2, fx_blind g mk a h3, h4⟩
/-- a method's end: its answer, the world, and that nothing else was written -/
def QI (G : GT) (A : Nat → Prop) (ad : Nat → Nat) (r0 : Int32) (B : StB) (M : StM) (O : StO) : Array Value → State → Outcome → State → Prop := va_Qi (fun r (_ : Unit) => r = r0) (fun _ t => va_P G.1 vwCl (wl G ad B M O) t.heap) A
def QL (G : GT) (A : Nat → Prop) (ad : Nat → Nat) (r0 : Int64) (B : StB) (M : StM) (O : StO) : Array Value → State → Outcome → State → Prop := va_Ql (fun r (_ : Unit) => r = r0) (fun _ t => va_P G.1 vwCl (wl G ad B M O) t.heap) A
def QD (G : GT) (A : Nat → Prop) (ad : Nat → Nat) (r0 : UInt64) (B : StB) (M : StM) (O : StO) : Array Value → State → Outcome → State → Prop := va_Qd (fun r (_ : Unit) => r = r0) (fun _ t => va_P G.1 vwCl (wl G ad B M O) t.heap) A
def QV (G : GT) (A : Nat → Prop) (ad : Nat → Nat) (B : StB) (M : StM) (O : StO) : Array Value → State → Outcome → State → Prop := va_Qv (fun (_ : Unit) => True) (fun _ t => va_P G.1 vwCl (wl G ad B M O) t.heap) A
def rmd (d mc ms : Nat) : Room := { frames := d, cells := mc, slots := ms, locals := 48 * d }
def wof (y : MethodName) (cd : ByteArray) (ml : Nat) (rt : Option FieldType) : List Cond := .code y cd ml rt :: TT
theorem tt_good : ∀ w ∈ TT, goodWord w = true := fun w h => (List.mem_filter.mp h).2
theorem gd_wof {y0 y : MethodName} {c0 cd : ByteArray} {n0 ml : Nat} {r0 rt : Option FieldType} (hc : Cond.code y cd ml rt ∈ TT) : GoodIn (wof y0 c0 n0 r0) (wof y cd ml rt) := by
  intro w hw
  have h : w ∈ TT := by
    rcases List.mem_cons.mp hw with h | h
    · rw [h]; exact hc
    · exact h
  exact ⟨List.mem_cons_of_mem _ h, good_of_word (tt_good w h)⟩
/-- what a call needs of its callee -/
def Card (y : MethodName) (cd : ByteArray) (ml : Nat) (rt : Option FieldType) (n : Nat) : Prop :=
  Cond.code y cd ml rt ∈ TT ∧ Cond.initialized y.cls ∈ TT ∧ y.cls ≠ "java/lang/invoke/MethodHandle" ∧ y.cls ≠ "java/lang/invoke/VarHandle" ∧ (parseMethodDescriptor y.desc).map (fun d => d.parameters.length) = some n
def CardV (y : MethodName) : Prop := Cond.instanceMethod y ∈ TT ∧ Cond.selects y.cls y y ∈ TT
section XX
variable {p : Program} {l : Launch} {e : Env} {R : Room} {s : State} {m : MethodId} {args : Array Value} {below : List Frame} {meth : Method} {c : Code} {cells slots : Nat} {Q : State → Prop}
variable {A : Nat → Prop} {G : GT} {ad : Nat → Nat} {cc : ByteArray} {own : String} {nL : Nat} {ret : Option FieldType} {B : StB} {M : StM} {O : StO} {ls : List (Nat × Value)} {pc : Nat} {rest stk : List Value}
/-- the launch and the addresses -/
def Gl (l : Launch) (A : Nat → Prop) (G : GT) (ad : Nat → Nat) : Prop := l.stackTraces = false ∧ AdOk A G ad
/-- all that stays the same through a body -/
def CX (p : Program) (l : Launch) (s : State) (m : MethodId) (args : Array Value) (meth : Method) (c : Code) (A : Nat → Prop) (G : GT) (ad : Nat → Nat) (cc : ByteArray) (own : String) (nL : Nat) (ret : Option FieldType) : Prop :=
  p.tables.exec = Jvm.exec ∧ c.code = cc ∧ c.maxLocals = nL ∧ s.vm.findClass own = some m.cls ∧ (∀ w ∈ TT, w.before args s = true) ∧ va_K G.1 vwCl (tyG G) s ∧ Fx G A s ∧ Gl l A G ad ∧ meth.sig.returnType = ret ∧ meth.locks = false ∧ (∀ q, s.heap.size ≤ q → A q)
def X (p : Program) (l : Launch) (e : Env) (R : Room) (s : State) (m : MethodId) (args : Array Value) (below : List Frame) (meth : Method) (c : Code) (A : Nat → Prop) (G : GT) (ad : Nat → Nat) (nL : Nat) (cells slots : Nat) (Q : State → Prop) (B : StB) (M : StM) (O : StO) (ls : List (Nat × Value)) (pc : Nat) (stk : List Value) : Prop :=
  ∀ (H : Heap) (locs : List Loc) (la : Array Slot), va_P G.1 vwCl (wl G ad B M O) H → va_S A s.heap H locs → lv_has la nL ls → W p l e R s m args below meth c H locs cells slots Q (F0 m pc la stk)

theorem x_iconst (C : CX p l s m args meth c A G ad cc own nL ret) {n : Int} {v : Int32} (d : decode cc pc = .ok (.iconst n, 1)) (hv : Int32.ofInt n = v) (k : X p l e R s m args below meth c A G ad nL cells slots Q B M O ls (pc + 1) (.int v :: rest)) : X p l e R s m args below meth c A G ad nL cells slots Q B M O ls (pc) (rest) := fun H locs la hP hS hl => lv_iconst C.1 C.2.1 d hv (k H locs la hP hS hl)
theorem x_bipush (C : CX p l s m args meth c A G ad cc own nL ret) {n : Int} {v : Int32} (d : decode cc pc = .ok (.bipush n, 2)) (hv : (Int8.ofInt n).toInt32 = v) (k : X p l e R s m args below meth c A G ad nL cells slots Q B M O ls (pc + 2) (.int v :: rest)) : X p l e R s m args below meth c A G ad nL cells slots Q B M O ls (pc) (rest) := fun H locs la hP hS hl => lv_bipush C.1 C.2.1 d hv (k H locs la hP hS hl)
theorem x_sipush (C : CX p l s m args meth c A G ad cc own nL ret) {n : Int} {v : Int32} (d : decode cc pc = .ok (.sipush n, 3)) (hv : (Int16.ofInt n).toInt32 = v) (k : X p l e R s m args below meth c A G ad nL cells slots Q B M O ls (pc + 3) (.int v :: rest)) : X p l e R s m args below meth c A G ad nL cells slots Q B M O ls (pc) (rest) := fun H locs la hP hS hl => lv_sipush C.1 C.2.1 d hv (k H locs la hP hS hl)
theorem x_lconst (C : CX p l s m args meth c A G ad cc own nL ret) {n : Fin 2} {v : Int64} (d : decode cc pc = .ok (.lconst n, 1)) (hv : Int64.ofNat (n : Nat) = v) (k : X p l e R s m args below meth c A G ad nL cells slots Q B M O ls (pc + 1) (.long v :: rest)) : X p l e R s m args below meth c A G ad nL cells slots Q B M O ls (pc) (rest) := fun H locs la hP hS hl => lv_lconst C.1 C.2.1 d hv (k H locs la hP hS hl)
theorem x_iadd (C : CX p l s m args meth c A G ad cc own nL ret) {x y : Int32} (d : decode cc pc = .ok (.iadd, 1))  (k : X p l e R s m args below meth c A G ad nL cells slots Q B M O ls (pc + 1) (.int (x + y) :: rest)) : X p l e R s m args below meth c A G ad nL cells slots Q B M O ls (pc) (.int y :: .int x :: rest) := fun H locs la hP hS hl => lv_iadd C.1 C.2.1 d (k H locs la hP hS hl)
theorem x_isub (C : CX p l s m args meth c A G ad cc own nL ret) {x y : Int32} (d : decode cc pc = .ok (.isub, 1))  (k : X p l e R s m args below meth c A G ad nL cells slots Q B M O ls (pc + 1) (.int (x - y) :: rest)) : X p l e R s m args below meth c A G ad nL cells slots Q B M O ls (pc) (.int y :: .int x :: rest) := fun H locs la hP hS hl => lv_isub C.1 C.2.1 d (k H locs la hP hS hl)
theorem x_imul (C : CX p l s m args meth c A G ad cc own nL ret) {x y : Int32} (d : decode cc pc = .ok (.imul, 1))  (k : X p l e R s m args below meth c A G ad nL cells slots Q B M O ls (pc + 1) (.int (x * y) :: rest)) : X p l e R s m args below meth c A G ad nL cells slots Q B M O ls (pc) (.int y :: .int x :: rest) := fun H locs la hP hS hl => lv_imul C.1 C.2.1 d (k H locs la hP hS hl)
theorem x_iand (C : CX p l s m args meth c A G ad cc own nL ret) {x y : Int32} (d : decode cc pc = .ok (.iand, 1))  (k : X p l e R s m args below meth c A G ad nL cells slots Q B M O ls (pc + 1) (.int (x &&& y) :: rest)) : X p l e R s m args below meth c A G ad nL cells slots Q B M O ls (pc) (.int y :: .int x :: rest) := fun H locs la hP hS hl => lv_iand C.1 C.2.1 d (k H locs la hP hS hl)
theorem x_ior (C : CX p l s m args meth c A G ad cc own nL ret) {x y : Int32} (d : decode cc pc = .ok (.ior, 1))  (k : X p l e R s m args below meth c A G ad nL cells slots Q B M O ls (pc + 1) (.int (x ||| y) :: rest)) : X p l e R s m args below meth c A G ad nL cells slots Q B M O ls (pc) (.int y :: .int x :: rest) := fun H locs la hP hS hl => lv_ior C.1 C.2.1 d (k H locs la hP hS hl)
theorem x_ishl (C : CX p l s m args meth c A G ad cc own nL ret) {x y : Int32} (d : decode cc pc = .ok (.ishl, 1))  (k : X p l e R s m args below meth c A G ad nL cells slots Q B M O ls (pc + 1) (.int (x <<< (y &&& 31)) :: rest)) : X p l e R s m args below meth c A G ad nL cells slots Q B M O ls (pc) (.int y :: .int x :: rest) := fun H locs la hP hS hl => lv_ishl C.1 C.2.1 d (k H locs la hP hS hl)
theorem x_ishr (C : CX p l s m args meth c A G ad cc own nL ret) {x y : Int32} (d : decode cc pc = .ok (.ishr, 1))  (k : X p l e R s m args below meth c A G ad nL cells slots Q B M O ls (pc + 1) (.int (x >>> (y &&& 31)) :: rest)) : X p l e R s m args below meth c A G ad nL cells slots Q B M O ls (pc) (.int y :: .int x :: rest) := fun H locs la hP hS hl => lv_ishr C.1 C.2.1 d (k H locs la hP hS hl)
theorem x_idiv (C : CX p l s m args meth c A G ad cc own nL ret) {x y : Int32} (d : decode cc pc = .ok (.idiv, 1)) (hne : ¬ y = 0) (k : X p l e R s m args below meth c A G ad nL cells slots Q B M O ls (pc + 1) (.int (x / y) :: rest)) : X p l e R s m args below meth c A G ad nL cells slots Q B M O ls (pc) (.int y :: .int x :: rest) := fun H locs la hP hS hl => lv_idiv C.1 C.2.1 d hne (k H locs la hP hS hl)
theorem x_irem (C : CX p l s m args meth c A G ad cc own nL ret) {x y : Int32} (d : decode cc pc = .ok (.irem, 1)) (hne : ¬ y = 0) (k : X p l e R s m args below meth c A G ad nL cells slots Q B M O ls (pc + 1) (.int (x - x / y * y) :: rest)) : X p l e R s m args below meth c A G ad nL cells slots Q B M O ls (pc) (.int y :: .int x :: rest) := fun H locs la hP hS hl => lv_irem C.1 C.2.1 d hne (k H locs la hP hS hl)
theorem x_ineg (C : CX p l s m args meth c A G ad cc own nL ret) {x : Int32} (d : decode cc pc = .ok (.ineg, 1))  (k : X p l e R s m args below meth c A G ad nL cells slots Q B M O ls (pc + 1) (.int (-x) :: rest)) : X p l e R s m args below meth c A G ad nL cells slots Q B M O ls (pc) (.int x :: rest) := fun H locs la hP hS hl => lv_ineg C.1 C.2.1 d (k H locs la hP hS hl)
theorem x_ladd (C : CX p l s m args meth c A G ad cc own nL ret) {x y : Int64} (d : decode cc pc = .ok (.ladd, 1))  (k : X p l e R s m args below meth c A G ad nL cells slots Q B M O ls (pc + 1) (.long (x + y) :: rest)) : X p l e R s m args below meth c A G ad nL cells slots Q B M O ls (pc) (.long y :: .long x :: rest) := fun H locs la hP hS hl => lv_ladd C.1 C.2.1 d (k H locs la hP hS hl)
theorem x_lsub (C : CX p l s m args meth c A G ad cc own nL ret) {x y : Int64} (d : decode cc pc = .ok (.lsub, 1))  (k : X p l e R s m args below meth c A G ad nL cells slots Q B M O ls (pc + 1) (.long (x - y) :: rest)) : X p l e R s m args below meth c A G ad nL cells slots Q B M O ls (pc) (.long y :: .long x :: rest) := fun H locs la hP hS hl => lv_lsub C.1 C.2.1 d (k H locs la hP hS hl)
theorem x_lcmp (C : CX p l s m args meth c A G ad cc own nL ret) {x y : Int64} (d : decode cc pc = .ok (.lcmp, 1)) (k : X p l e R s m args below meth c A G ad nL cells slots Q B M O ls (pc + 1) (.int (lg_cmp x y) :: rest)) : X p l e R s m args below meth c A G ad nL cells slots Q B M O ls (pc) (.long y :: .long x :: rest) := fun H locs la hP hS hl => W.lcmp C.1 C.2.1 d (k H locs la hP hS hl)
theorem x_i2l (C : CX p l s m args meth c A G ad cc own nL ret) {x : Int32} (d : decode cc pc = .ok (.i2l, 1))  (k : X p l e R s m args below meth c A G ad nL cells slots Q B M O ls (pc + 1) (.long x.toInt64 :: rest)) : X p l e R s m args below meth c A G ad nL cells slots Q B M O ls (pc) (.int x :: rest) := fun H locs la hP hS hl => lv_i2l C.1 C.2.1 d rfl (k H locs la hP hS hl)
theorem x_i2c (C : CX p l s m args meth c A G ad cc own nL ret) {x : Int32} (d : decode cc pc = .ok (.i2c, 1))  (k : X p l e R s m args below meth c A G ad nL cells slots Q B M O ls (pc + 1) (.int (x.toUInt32 % 65536).toInt32 :: rest)) : X p l e R s m args below meth c A G ad nL cells slots Q B M O ls (pc) (.int x :: rest) := fun H locs la hP hS hl => lv_i2c C.1 C.2.1 d rfl (k H locs la hP hS hl)
theorem x_i2d (C : CX p l s m args meth c A G ad cc own nL ret) {x : Int32} (d : decode cc pc = .ok (.i2d, 1))  (k : X p l e R s m args below meth c A G ad nL cells slots Q B M O ls (pc + 1) (.double (FP.i2d x) :: rest)) : X p l e R s m args below meth c A G ad nL cells slots Q B M O ls (pc) (.int x :: rest) := fun H locs la hP hS hl => lv_i2d C.1 C.2.1 d (k H locs la hP hS hl)
theorem x_l2d (C : CX p l s m args meth c A G ad cc own nL ret) {x : Int64} (d : decode cc pc = .ok (.l2d, 1))  (k : X p l e R s m args below meth c A G ad nL cells slots Q B M O ls (pc + 1) (.double (FP.l2d x) :: rest)) : X p l e R s m args below meth c A G ad nL cells slots Q B M O ls (pc) (.long x :: rest) := fun H locs la hP hS hl => lv_l2d C.1 C.2.1 d (k H locs la hP hS hl)
theorem x_dup (C : CX p l s m args meth c A G ad cc own nL ret) {va : Value} (d : decode cc pc = .ok (.dup, 1)) (hva : va.category = 1) (k : X p l e R s m args below meth c A G ad nL cells slots Q B M O ls (pc + 1) (va :: va :: rest)) : X p l e R s m args below meth c A G ad nL cells slots Q B M O ls (pc) (va :: rest) := fun H locs la hP hS hl => lv_dup C.1 C.2.1 d hva (k H locs la hP hS hl)
theorem x_pop (C : CX p l s m args meth c A G ad cc own nL ret) {va : Value} (d : decode cc pc = .ok (.pop, 1)) (hva : va.category = 1) (k : X p l e R s m args below meth c A G ad nL cells slots Q B M O ls (pc + 1) (rest)) : X p l e R s m args below meth c A G ad nL cells slots Q B M O ls (pc) (va :: rest) := fun H locs la hP hS hl => lv_pop C.1 C.2.1 d hva (k H locs la hP hS hl)
theorem x_dup2 (C : CX p l s m args meth c A G ad cc own nL ret) {va vb : Value} (d : decode cc pc = .ok (.dup2, 1)) (hva : va.category = 1) (hvb : vb.category = 1) (k : X p l e R s m args below meth c A G ad nL cells slots Q B M O ls (pc + 1) (va :: vb :: va :: vb :: rest)) : X p l e R s m args below meth c A G ad nL cells slots Q B M O ls (pc) (va :: vb :: rest) := fun H locs la hP hS hl => lv_dup2_11 C.1 C.2.1 d hva hvb (k H locs la hP hS hl)
theorem x_if_eq (C : CX p l s m args meth c A G ad cc own nL ret) {x : Int32} {off : Int} {tgt : Nat} (d : decode cc pc = .ok (.ifCond .eq off, 3)) (ht : (pc : Int) + off = (tgt : Int)) (kt : x = 0 → X p l e R s m args below meth c A G ad nL cells slots Q B M O ls (tgt) (rest)) (kf : ¬ x = 0 → X p l e R s m args below meth c A G ad nL cells slots Q B M O ls (pc + 3) (rest)) : X p l e R s m args below meth c A G ad nL cells slots Q B M O ls (pc) (.int x :: rest) := fun H locs la hP hS hl => lv_if_eq C.1 C.2.1 d ht (fun z => kt z H locs la hP hS hl) (fun z => kf z H locs la hP hS hl)
theorem x_icmp_eq (C : CX p l s m args meth c A G ad cc own nL ret) {x y : Int32} {off : Int} {tgt : Nat} (d : decode cc pc = .ok (.if_icmp .eq off, 3)) (ht : (pc : Int) + off = (tgt : Int)) (kt : x = y → X p l e R s m args below meth c A G ad nL cells slots Q B M O ls (tgt) (rest)) (kf : ¬ x = y → X p l e R s m args below meth c A G ad nL cells slots Q B M O ls (pc + 3) (rest)) : X p l e R s m args below meth c A G ad nL cells slots Q B M O ls (pc) (.int y :: .int x :: rest) := fun H locs la hP hS hl => lv_icmp_eq C.1 C.2.1 d ht (fun z => kt z H locs la hP hS hl) (fun z => kf z H locs la hP hS hl)
theorem x_if_ne (C : CX p l s m args meth c A G ad cc own nL ret) {x : Int32} {off : Int} {tgt : Nat} (d : decode cc pc = .ok (.ifCond .ne off, 3)) (ht : (pc : Int) + off = (tgt : Int)) (kt : ¬ x = 0 → X p l e R s m args below meth c A G ad nL cells slots Q B M O ls (tgt) (rest)) (kf : x = 0 → X p l e R s m args below meth c A G ad nL cells slots Q B M O ls (pc + 3) (rest)) : X p l e R s m args below meth c A G ad nL cells slots Q B M O ls (pc) (.int x :: rest) := fun H locs la hP hS hl => lv_if_ne C.1 C.2.1 d ht (fun z => kt z H locs la hP hS hl) (fun z => kf z H locs la hP hS hl)
theorem x_icmp_ne (C : CX p l s m args meth c A G ad cc own nL ret) {x y : Int32} {off : Int} {tgt : Nat} (d : decode cc pc = .ok (.if_icmp .ne off, 3)) (ht : (pc : Int) + off = (tgt : Int)) (kt : ¬ x = y → X p l e R s m args below meth c A G ad nL cells slots Q B M O ls (tgt) (rest)) (kf : x = y → X p l e R s m args below meth c A G ad nL cells slots Q B M O ls (pc + 3) (rest)) : X p l e R s m args below meth c A G ad nL cells slots Q B M O ls (pc) (.int y :: .int x :: rest) := fun H locs la hP hS hl => lv_icmp_ne C.1 C.2.1 d ht (fun z => kt z H locs la hP hS hl) (fun z => kf z H locs la hP hS hl)
theorem x_if_lt (C : CX p l s m args meth c A G ad cc own nL ret) {x : Int32} {off : Int} {tgt : Nat} (d : decode cc pc = .ok (.ifCond .lt off, 3)) (ht : (pc : Int) + off = (tgt : Int)) (kt : x < 0 → X p l e R s m args below meth c A G ad nL cells slots Q B M O ls (tgt) (rest)) (kf : ¬ x < 0 → X p l e R s m args below meth c A G ad nL cells slots Q B M O ls (pc + 3) (rest)) : X p l e R s m args below meth c A G ad nL cells slots Q B M O ls (pc) (.int x :: rest) := fun H locs la hP hS hl => lv_if_lt C.1 C.2.1 d ht (fun z => kt z H locs la hP hS hl) (fun z => kf z H locs la hP hS hl)
theorem x_icmp_lt (C : CX p l s m args meth c A G ad cc own nL ret) {x y : Int32} {off : Int} {tgt : Nat} (d : decode cc pc = .ok (.if_icmp .lt off, 3)) (ht : (pc : Int) + off = (tgt : Int)) (kt : x < y → X p l e R s m args below meth c A G ad nL cells slots Q B M O ls (tgt) (rest)) (kf : ¬ x < y → X p l e R s m args below meth c A G ad nL cells slots Q B M O ls (pc + 3) (rest)) : X p l e R s m args below meth c A G ad nL cells slots Q B M O ls (pc) (.int y :: .int x :: rest) := fun H locs la hP hS hl => lv_icmp_lt C.1 C.2.1 d ht (fun z => kt z H locs la hP hS hl) (fun z => kf z H locs la hP hS hl)
theorem x_if_ge (C : CX p l s m args meth c A G ad cc own nL ret) {x : Int32} {off : Int} {tgt : Nat} (d : decode cc pc = .ok (.ifCond .ge off, 3)) (ht : (pc : Int) + off = (tgt : Int)) (kt : 0 ≤ x → X p l e R s m args below meth c A G ad nL cells slots Q B M O ls (tgt) (rest)) (kf : ¬ 0 ≤ x → X p l e R s m args below meth c A G ad nL cells slots Q B M O ls (pc + 3) (rest)) : X p l e R s m args below meth c A G ad nL cells slots Q B M O ls (pc) (.int x :: rest) := fun H locs la hP hS hl => lv_if_ge C.1 C.2.1 d ht (fun z => kt z H locs la hP hS hl) (fun z => kf z H locs la hP hS hl)
theorem x_icmp_ge (C : CX p l s m args meth c A G ad cc own nL ret) {x y : Int32} {off : Int} {tgt : Nat} (d : decode cc pc = .ok (.if_icmp .ge off, 3)) (ht : (pc : Int) + off = (tgt : Int)) (kt : y ≤ x → X p l e R s m args below meth c A G ad nL cells slots Q B M O ls (tgt) (rest)) (kf : ¬ y ≤ x → X p l e R s m args below meth c A G ad nL cells slots Q B M O ls (pc + 3) (rest)) : X p l e R s m args below meth c A G ad nL cells slots Q B M O ls (pc) (.int y :: .int x :: rest) := fun H locs la hP hS hl => lv_icmp_ge C.1 C.2.1 d ht (fun z => kt z H locs la hP hS hl) (fun z => kf z H locs la hP hS hl)
theorem x_if_gt (C : CX p l s m args meth c A G ad cc own nL ret) {x : Int32} {off : Int} {tgt : Nat} (d : decode cc pc = .ok (.ifCond .gt off, 3)) (ht : (pc : Int) + off = (tgt : Int)) (kt : 0 < x → X p l e R s m args below meth c A G ad nL cells slots Q B M O ls (tgt) (rest)) (kf : ¬ 0 < x → X p l e R s m args below meth c A G ad nL cells slots Q B M O ls (pc + 3) (rest)) : X p l e R s m args below meth c A G ad nL cells slots Q B M O ls (pc) (.int x :: rest) := fun H locs la hP hS hl => lv_if_gt C.1 C.2.1 d ht (fun z => kt z H locs la hP hS hl) (fun z => kf z H locs la hP hS hl)
theorem x_icmp_gt (C : CX p l s m args meth c A G ad cc own nL ret) {x y : Int32} {off : Int} {tgt : Nat} (d : decode cc pc = .ok (.if_icmp .gt off, 3)) (ht : (pc : Int) + off = (tgt : Int)) (kt : y < x → X p l e R s m args below meth c A G ad nL cells slots Q B M O ls (tgt) (rest)) (kf : ¬ y < x → X p l e R s m args below meth c A G ad nL cells slots Q B M O ls (pc + 3) (rest)) : X p l e R s m args below meth c A G ad nL cells slots Q B M O ls (pc) (.int y :: .int x :: rest) := fun H locs la hP hS hl => lv_icmp_gt C.1 C.2.1 d ht (fun z => kt z H locs la hP hS hl) (fun z => kf z H locs la hP hS hl)
theorem x_if_le (C : CX p l s m args meth c A G ad cc own nL ret) {x : Int32} {off : Int} {tgt : Nat} (d : decode cc pc = .ok (.ifCond .le off, 3)) (ht : (pc : Int) + off = (tgt : Int)) (kt : x ≤ 0 → X p l e R s m args below meth c A G ad nL cells slots Q B M O ls (tgt) (rest)) (kf : ¬ x ≤ 0 → X p l e R s m args below meth c A G ad nL cells slots Q B M O ls (pc + 3) (rest)) : X p l e R s m args below meth c A G ad nL cells slots Q B M O ls (pc) (.int x :: rest) := fun H locs la hP hS hl => lv_if_le C.1 C.2.1 d ht (fun z => kt z H locs la hP hS hl) (fun z => kf z H locs la hP hS hl)
theorem x_icmp_le (C : CX p l s m args meth c A G ad cc own nL ret) {x y : Int32} {off : Int} {tgt : Nat} (d : decode cc pc = .ok (.if_icmp .le off, 3)) (ht : (pc : Int) + off = (tgt : Int)) (kt : x ≤ y → X p l e R s m args below meth c A G ad nL cells slots Q B M O ls (tgt) (rest)) (kf : ¬ x ≤ y → X p l e R s m args below meth c A G ad nL cells slots Q B M O ls (pc + 3) (rest)) : X p l e R s m args below meth c A G ad nL cells slots Q B M O ls (pc) (.int y :: .int x :: rest) := fun H locs la hP hS hl => lv_icmp_le C.1 C.2.1 d ht (fun z => kt z H locs la hP hS hl) (fun z => kf z H locs la hP hS hl)
theorem x_goto (C : CX p l s m args meth c A G ad cc own nL ret) {off : Int} {tgt : Nat} (d : decode cc pc = .ok (.goto off, 3)) (ht : (pc : Int) + off = (tgt : Int)) (k : X p l e R s m args below meth c A G ad nL cells slots Q B M O ls (tgt) (rest)) : X p l e R s m args below meth c A G ad nL cells slots Q B M O ls (pc) (rest) := fun H locs la hP hS hl => lv_goto C.1 C.2.1 d ht (k H locs la hP hS hl)
theorem x_iload_n (C : CX p l s m args meth c A G ad cc own nL ret) {j : Fin 4} {i : Nat} {x : Int32} (k0 : Nat) (d : decode cc pc = .ok (.iload_n j, 1)) (hi : (j : Nat) = i) (h : ls[k0]? = some (i, .int x)) (k : X p l e R s m args below meth c A G ad nL cells slots Q B M O ls (pc + 1) (.int x :: rest)) : X p l e R s m args below meth c A G ad nL cells slots Q B M O ls (pc) (rest) := fun H locs la hP hS hl => lv_iload_n C.1 C.2.1 d hi (lv_at hl k0 h) (k H locs la hP hS hl)
theorem x_iload (C : CX p l s m args meth c A G ad cc own nL ret) {i : Nat} {x : Int32} (k0 : Nat) (d : decode cc pc = .ok (.iload i, 2)) (h : ls[k0]? = some (i, .int x)) (k : X p l e R s m args below meth c A G ad nL cells slots Q B M O ls (pc + 2) (.int x :: rest)) : X p l e R s m args below meth c A G ad nL cells slots Q B M O ls (pc) (rest) := fun H locs la hP hS hl => lv_iload C.1 C.2.1 d (lv_at hl k0 h) (k H locs la hP hS hl)
theorem x_lload_n (C : CX p l s m args meth c A G ad cc own nL ret) {j : Fin 4} {i : Nat} {x : Int64} (k0 : Nat) (d : decode cc pc = .ok (.lload_n j, 1)) (hi : (j : Nat) = i) (h : ls[k0]? = some (i, .long x)) (k : X p l e R s m args below meth c A G ad nL cells slots Q B M O ls (pc + 1) (.long x :: rest)) : X p l e R s m args below meth c A G ad nL cells slots Q B M O ls (pc) (rest) := fun H locs la hP hS hl => lv_lload_n C.1 C.2.1 d hi (lv_at hl k0 h) (k H locs la hP hS hl)
theorem x_lload (C : CX p l s m args meth c A G ad cc own nL ret) {i : Nat} {x : Int64} (k0 : Nat) (d : decode cc pc = .ok (.lload i, 2)) (h : ls[k0]? = some (i, .long x)) (k : X p l e R s m args below meth c A G ad nL cells slots Q B M O ls (pc + 2) (.long x :: rest)) : X p l e R s m args below meth c A G ad nL cells slots Q B M O ls (pc) (rest) := fun H locs la hP hS hl => lv_lload C.1 C.2.1 d (lv_at hl k0 h) (k H locs la hP hS hl)
theorem x_aload_n (C : CX p l s m args meth c A G ad cc own nL ret) {j : Fin 4} {i : Nat} {x : Nat} (k0 : Nat) (d : decode cc pc = .ok (.aload_n j, 1)) (hi : (j : Nat) = i) (h : ls[k0]? = some (i, .ref x)) (k : X p l e R s m args below meth c A G ad nL cells slots Q B M O ls (pc + 1) (.ref x :: rest)) : X p l e R s m args below meth c A G ad nL cells slots Q B M O ls (pc) (rest) := fun H locs la hP hS hl => lv_aload_n C.1 C.2.1 d hi (lv_at hl k0 h) (k H locs la hP hS hl)
theorem x_aload (C : CX p l s m args meth c A G ad cc own nL ret) {i : Nat} {x : Nat} (k0 : Nat) (d : decode cc pc = .ok (.aload i, 2)) (h : ls[k0]? = some (i, .ref x)) (k : X p l e R s m args below meth c A G ad nL cells slots Q B M O ls (pc + 2) (.ref x :: rest)) : X p l e R s m args below meth c A G ad nL cells slots Q B M O ls (pc) (rest) := fun H locs la hP hS hl => lv_aload C.1 C.2.1 d (lv_at hl k0 h) (k H locs la hP hS hl)
theorem x_dload_n (C : CX p l s m args meth c A G ad cc own nL ret) {j : Fin 4} {i : Nat} {x : UInt64} (k0 : Nat) (d : decode cc pc = .ok (.dload_n j, 1)) (hi : (j : Nat) = i) (h : ls[k0]? = some (i, .double x)) (k : X p l e R s m args below meth c A G ad nL cells slots Q B M O ls (pc + 1) (.double x :: rest)) : X p l e R s m args below meth c A G ad nL cells slots Q B M O ls (pc) (rest) := fun H locs la hP hS hl => lv_dload_n C.1 C.2.1 d hi (lv_at hl k0 h) (k H locs la hP hS hl)
theorem x_dload (C : CX p l s m args meth c A G ad cc own nL ret) {i : Nat} {x : UInt64} (k0 : Nat) (d : decode cc pc = .ok (.dload i, 2)) (h : ls[k0]? = some (i, .double x)) (k : X p l e R s m args below meth c A G ad nL cells slots Q B M O ls (pc + 2) (.double x :: rest)) : X p l e R s m args below meth c A G ad nL cells slots Q B M O ls (pc) (rest) := fun H locs la hP hS hl => lv_dload C.1 C.2.1 d (lv_at hl k0 h) (k H locs la hP hS hl)
theorem x_istore_n (C : CX p l s m args meth c A G ad cc own nL ret) {j : Fin 4} {i : Nat} {x : Int32} {ls2 : List (Nat × Value)} (d : decode cc pc = .ok (.istore_n j, 1)) (hi : (j : Nat) = i) (hn : i < nL) (h : (i, Value.int x) :: ls.filter (fun q => !(q.1 == i) && !(q.1 + 1 == i && q.2.category == 2)) = ls2) (k : X p l e R s m args below meth c A G ad nL cells slots Q B M O ls2 (pc + 1) (rest)) : X p l e R s m args below meth c A G ad nL cells slots Q B M O ls (pc) (.int x :: rest) := fun H locs la hP hS hl => lv_istore_n C.1 C.2.1 d hi hl hn h (fun la2 hl2 => k H locs la2 hP hS hl2)
theorem x_istore (C : CX p l s m args meth c A G ad cc own nL ret) {i : Nat} {x : Int32} {ls2 : List (Nat × Value)} (d : decode cc pc = .ok (.istore i, 2)) (hn : i < nL) (h : (i, Value.int x) :: ls.filter (fun q => !(q.1 == i) && !(q.1 + 1 == i && q.2.category == 2)) = ls2) (k : X p l e R s m args below meth c A G ad nL cells slots Q B M O ls2 (pc + 2) (rest)) : X p l e R s m args below meth c A G ad nL cells slots Q B M O ls (pc) (.int x :: rest) := fun H locs la hP hS hl => lv_istore C.1 C.2.1 d hl hn h (fun la2 hl2 => k H locs la2 hP hS hl2)
theorem x_lstore_n (C : CX p l s m args meth c A G ad cc own nL ret) {j : Fin 4} {i : Nat} {x : Int64} {ls2 : List (Nat × Value)} (d : decode cc pc = .ok (.lstore_n j, 1)) (hi : (j : Nat) = i) (hn : i + 1 < nL) (h : (i, Value.long x) :: ls.filter (fun q => !(q.1 == i) && (!(q.1 == i + 1) && !(q.1 + 1 == i && q.2.category == 2))) = ls2) (k : X p l e R s m args below meth c A G ad nL cells slots Q B M O ls2 (pc + 1) (rest)) : X p l e R s m args below meth c A G ad nL cells slots Q B M O ls (pc) (.long x :: rest) := fun H locs la hP hS hl => lv_lstore_n C.1 C.2.1 d hi hl hn h (fun la2 hl2 => k H locs la2 hP hS hl2)
theorem x_lstore (C : CX p l s m args meth c A G ad cc own nL ret) {i : Nat} {x : Int64} {ls2 : List (Nat × Value)} (d : decode cc pc = .ok (.lstore i, 2)) (hn : i + 1 < nL) (h : (i, Value.long x) :: ls.filter (fun q => !(q.1 == i) && (!(q.1 == i + 1) && !(q.1 + 1 == i && q.2.category == 2))) = ls2) (k : X p l e R s m args below meth c A G ad nL cells slots Q B M O ls2 (pc + 2) (rest)) : X p l e R s m args below meth c A G ad nL cells slots Q B M O ls (pc) (.long x :: rest) := fun H locs la hP hS hl => lv_lstore C.1 C.2.1 d hl hn h (fun la2 hl2 => k H locs la2 hP hS hl2)
theorem x_astore_n (C : CX p l s m args meth c A G ad cc own nL ret) {j : Fin 4} {i : Nat} {x : Nat} {ls2 : List (Nat × Value)} (d : decode cc pc = .ok (.astore_n j, 1)) (hi : (j : Nat) = i) (hn : i < nL) (h : (i, Value.ref x) :: ls.filter (fun q => !(q.1 == i) && !(q.1 + 1 == i && q.2.category == 2)) = ls2) (k : X p l e R s m args below meth c A G ad nL cells slots Q B M O ls2 (pc + 1) (rest)) : X p l e R s m args below meth c A G ad nL cells slots Q B M O ls (pc) (.ref x :: rest) := fun H locs la hP hS hl => lv_astore_n C.1 C.2.1 d hi hl hn h (fun la2 hl2 => k H locs la2 hP hS hl2)
theorem x_astore (C : CX p l s m args meth c A G ad cc own nL ret) {i : Nat} {x : Nat} {ls2 : List (Nat × Value)} (d : decode cc pc = .ok (.astore i, 2)) (hn : i < nL) (h : (i, Value.ref x) :: ls.filter (fun q => !(q.1 == i) && !(q.1 + 1 == i && q.2.category == 2)) = ls2) (k : X p l e R s m args below meth c A G ad nL cells slots Q B M O ls2 (pc + 2) (rest)) : X p l e R s m args below meth c A G ad nL cells slots Q B M O ls (pc) (.ref x :: rest) := fun H locs la hP hS hl => lv_astore C.1 C.2.1 d hl hn h (fun la2 hl2 => k H locs la2 hP hS hl2)
theorem x_dstore_n (C : CX p l s m args meth c A G ad cc own nL ret) {j : Fin 4} {i : Nat} {x : UInt64} {ls2 : List (Nat × Value)} (d : decode cc pc = .ok (.dstore_n j, 1)) (hi : (j : Nat) = i) (hn : i + 1 < nL) (h : (i, Value.double x) :: ls.filter (fun q => !(q.1 == i) && (!(q.1 == i + 1) && !(q.1 + 1 == i && q.2.category == 2))) = ls2) (k : X p l e R s m args below meth c A G ad nL cells slots Q B M O ls2 (pc + 1) (rest)) : X p l e R s m args below meth c A G ad nL cells slots Q B M O ls (pc) (.double x :: rest) := fun H locs la hP hS hl => lv_dstore_n C.1 C.2.1 d hi hl hn h (fun la2 hl2 => k H locs la2 hP hS hl2)
theorem x_dstore (C : CX p l s m args meth c A G ad cc own nL ret) {i : Nat} {x : UInt64} {ls2 : List (Nat × Value)} (d : decode cc pc = .ok (.dstore i, 2)) (hn : i + 1 < nL) (h : (i, Value.double x) :: ls.filter (fun q => !(q.1 == i) && (!(q.1 == i + 1) && !(q.1 + 1 == i && q.2.category == 2))) = ls2) (k : X p l e R s m args below meth c A G ad nL cells slots Q B M O ls2 (pc + 2) (rest)) : X p l e R s m args below meth c A G ad nL cells slots Q B M O ls (pc) (.double x :: rest) := fun H locs la hP hS hl => lv_dstore C.1 C.2.1 d hl hn h (fun la2 hl2 => k H locs la2 hP hS hl2)
theorem x_iinc (C : CX p l s m args meth c A G ad cc own nL ret) {i : Nat} {n : Int} {x v : Int32} {ls2 : List (Nat × Value)} (k0 : Nat) (d : decode cc pc = .ok (.iinc i n, 3)) (hk : ls[k0]? = some (i, .int x)) (hv : x + Int32.ofInt n = v) (hn : i < nL) (h : (i, Value.int v) :: ls.filter (fun q => !(q.1 == i) && !(q.1 + 1 == i && q.2.category == 2)) = ls2) (k : X p l e R s m args below meth c A G ad nL cells slots Q B M O ls2 (pc + 3) (rest)) : X p l e R s m args below meth c A G ad nL cells slots Q B M O ls (pc) (rest) := fun H locs la hP hS hl => lv_iinc C.1 C.2.1 d hl hk hv hn h (fun la2 hl2 => k H locs la2 hP hS hl2)
theorem x_sub (ks : List Nat) {ls2 : List (Nat × Value)} (h : lv_pick ls ks = ls2) (k : X p l e R s m args below meth c A G ad nL cells slots Q B M O ls2 (pc) (rest)) : X p l e R s m args below meth c A G ad nL cells slots Q B M O ls (pc) (rest) := fun H locs la hP hS hl => k H locs la hP hS (lv_sub hl ks h)
theorem x_nmB {B1 : StB} (k : ∀ B2 : StB, B2 = B1 → X p l e R s m args below meth c A G ad nL cells slots Q B2 M O ls (pc) (rest)) : X p l e R s m args below meth c A G ad nL cells slots Q B1 M O ls (pc) (rest) := k B1 rfl
theorem x_nmM {M1 : StM} (k : ∀ M2 : StM, M2 = M1 → X p l e R s m args below meth c A G ad nL cells slots Q B M2 O ls (pc) (rest)) : X p l e R s m args below meth c A G ad nL cells slots Q B M1 O ls (pc) (rest) := k M1 rfl
theorem x_nmI {x : Int32} (k : ∀ y : Int32, y = x → X p l e R s m args below meth c A G ad nL cells slots Q B M O ls (pc) (.int y :: rest)) : X p l e R s m args below meth c A G ad nL cells slots Q B M O ls (pc) (.int x :: rest) := k x rfl
theorem x_nmIB {f : Int32 × StB} (k : ∀ z : Int32 × StB, z = f → X p l e R s m args below meth c A G ad nL cells slots Q z.2 M O ls (pc) (.int z.1 :: rest)) : X p l e R s m args below meth c A G ad nL cells slots Q f.2 M O ls (pc) (.int f.1 :: rest) := k f rfl
theorem x_nmIM {f : Int32 × StM} (k : ∀ z : Int32 × StM, z = f → X p l e R s m args below meth c A G ad nL cells slots Q B z.2 O ls (pc) (.int z.1 :: rest)) : X p l e R s m args below meth c A G ad nL cells slots Q B f.2 O ls (pc) (.int f.1 :: rest) := k f rfl
theorem x_nmL {x : Int64} (k : ∀ y : Int64, y = x → X p l e R s m args below meth c A G ad nL cells slots Q B M O ls (pc) (.long y :: rest)) : X p l e R s m args below meth c A G ad nL cells slots Q B M O ls (pc) (.long x :: rest) := k x rfl
theorem x_wid {k0 n0 : Nat} (h1 : cells ≤ k0) (h2 : slots ≤ n0) (k : X p l e R s m args below meth c A G ad nL k0 n0 Q B M O ls (pc) (rest)) : X p l e R s m args below meth c A G ad nL cells slots Q B M O ls (pc) (rest) := fun H locs la hP hS hl => W.widen h1 h2 (k H locs la hP hS hl)
theorem x_get (C : CX p l s m args meth c A G ad cc own nL ret) {q ci idx N i : Nat} {Cn : String} {T : u_T} {fs : List Value} {v : Value} (he : q < 193 + G.2.2.2.2 3 ∧ ent G ad B M O q = .inr (ci, fs)) (hc : vwCl[ci]? = some (Cn, T, N)) (hin : ∀ w ∈ u_ws Cn T N, w ∈ TT) (hi : i < N) (hl0 : Cond.fieldLink own idx (T i).1 (T i).2.1 (T i).2.2.1 ∈ TT) (hv : fs[i]? = some v) (d : decode cc pc = .ok (.getfield idx, 3)) (k : X p l e R s m args below meth c A G ad nL cells slots Q B M O ls (pc + 3) (v :: rest)) : X p l e R s m args below meth c A G ad nL cells slots Q B M O ls (pc) (.ref (ad q) :: rest) := fun H locs la hP hS hl =>
  va_get C.1 C.2.1 C.2.2.2.2.1 hin C.2.2.2.1 C.2.2.2.2.2.1 hP q (wl_at he) hc i hi (C.2.2.2.2.1 _ hl0) (fun _ h9 => h9) hv d (k H locs la hP hS hl)
theorem x_put (C : CX p l s m args meth c A G ad cc own nL ret) {q ci idx N i : Nat} {Cn : String} {T : u_T} {fs : List Value} {v : Value} {B2 : StB} {M2 : StM} {O2 : StO} (ty0 : Nat → FieldType) (hty : ∀ k, k < N → parseFieldDescriptor (T k).2.2.1 = some (ty0 k)) (hnm : ∀ a, a < N → ∀ b, b < N → a ≠ b → (T a).2.1 ≠ (T b).2.1) (he : q < 193 + G.2.2.2.2 3 ∧ ent G ad B M O q = .inr (ci, fs)) (hc : vwCl[ci]? = some (Cn, T, N)) (hin : ∀ w ∈ u_ws Cn T N, w ∈ TT) (hi : i < N) (hl0 : Cond.fieldLink own idx (T i).1 (T i).2.1 (T i).2.2.1 ∈ TT) (hfin : (T i).2.2.2 = false) (hn : narrow (ty0 i) v = v) (hfit : fits (ty0 i) v = true) (hlen : i < fs.length) (d : decode cc pc = .ok (.putfield idx, 3))
  (h2 : ent G ad B2 M2 O2 q = .inr (ci, fs.set i v)) (ho : ∀ z, z ≠ q → ent G ad B2 M2 O2 z = ent G ad B M O z) (k : X p l e R s m args below meth c A G ad nL cells slots Q B2 M2 O2 ls (pc + 3) (rest)) : X p l e R s m args below meth c A G ad nL cells slots Q B M O ls (pc) (v :: .ref (ad q) :: rest) := fun H locs la hP hS hl =>
  va_put C.1 C.2.1 C.2.2.2.2.1 hin ty0 hty hnm C.2.2.2.1 C.2.2.2.2.2.1 hP (wl_D C.2.2.2.2.2.2.2.1.2) hS q (wl_at he) hc i hi (C.2.2.2.2.1 _ hl0) (fun _ h9 => h9) hfin (hty i hi) hn hfit hlen d (fun H1 locs1 hP1 _ hS1 => k H1 locs1 la (by rw [wl_set he.1 h2 ho] at hP1; exact hP1) hS1 hl)
theorem x_iald (C : CX p l s m args meth c A G ad cc own nL ret) {q n : Nat} {f : Nat → Int32} {i : Int32} (he : q < 193 + G.2.2.2.2 3 ∧ ent G ad B M O q = .inl (G.2.1 2, n, .inl f)) (hin : vp_in i n) (d : decode cc pc = .ok (.iaload, 1)) (k : X p l e R s m args below meth c A G ad nL cells slots Q B M O ls (pc + 1) (.int (f (ix i)) :: rest)) : X p l e R s m args below meth c A G ad nL cells slots Q B M O ls (pc) (.int i :: .ref (ad q) :: rest) := fun H locs la hP hS hl =>
  va_iald C.1 C.2.1 C.2.2.2.2.2.1 hP q 2 (wl_at he) rfl hin d (k H locs la hP hS hl)
theorem x_zald (C : CX p l s m args meth c A G ad cc own nL ret) {q n : Nat} {f : Nat → Int32} {i : Int32} (he : q < 193 + G.2.2.2.2 3 ∧ ent G ad B M O q = .inl (G.2.1 3, n, .inl f)) (hin : vp_in i n) (d : decode cc pc = .ok (.baload, 1)) (k : X p l e R s m args below meth c A G ad nL cells slots Q B M O ls (pc + 1) (.int (f (ix i)) :: rest)) : X p l e R s m args below meth c A G ad nL cells slots Q B M O ls (pc) (.int i :: .ref (ad q) :: rest) := fun H locs la hP hS hl =>
  va_zald C.1 C.2.1 C.2.2.2.2.2.1 hP q 3 (wl_at he) rfl hin d (k H locs la hP hS hl)
theorem x_bald (C : CX p l s m args meth c A G ad cc own nL ret) {q n : Nat} {f : Nat → Int32} {i : Int32} (he : q < 193 + G.2.2.2.2 3 ∧ ent G ad B M O q = .inl (G.2.1 0, n, .inl f)) (hin : vp_in i n) (d : decode cc pc = .ok (.baload, 1)) (k : X p l e R s m args below meth c A G ad nL cells slots Q B M O ls (pc + 1) (.int (f (ix i)) :: rest)) : X p l e R s m args below meth c A G ad nL cells slots Q B M O ls (pc) (.int i :: .ref (ad q) :: rest) := fun H locs la hP hS hl =>
  va_bald C.1 C.2.1 C.2.2.2.2.2.1 hP q 0 (wl_at he) rfl hin d (k H locs la hP hS hl)
theorem x_cald (C : CX p l s m args meth c A G ad cc own nL ret) {q n : Nat} {f : Nat → Int32} {i : Int32} (he : q < 193 + G.2.2.2.2 3 ∧ ent G ad B M O q = .inl (G.2.1 1, n, .inl f)) (hin : vp_in i n) (d : decode cc pc = .ok (.caload, 1)) (k : X p l e R s m args below meth c A G ad nL cells slots Q B M O ls (pc + 1) (.int (f (ix i)) :: rest)) : X p l e R s m args below meth c A G ad nL cells slots Q B M O ls (pc) (.int i :: .ref (ad q) :: rest) := fun H locs la hP hS hl =>
  va_cald C.1 C.2.1 C.2.2.2.2.2.1 hP q 1 (wl_at he) rfl hin d (k H locs la hP hS hl)
theorem x_iastB (C : CX p l s m args meth c A G ad cc own nL ret) {q n : Nat} {i x : Int32} (he : q < 193 + G.2.2.2.2 3 ∧ ent G ad B M O q = .inl (G.2.1 2, n, .inl (ba B q))) (he2 : ent G ad (sba B q (ix i) (x)) M O q = .inl (G.2.1 2, n, .inl (ba (sba B q (ix i) (x)) q))) (hin : vp_in i n) (d : decode cc pc = .ok (.iastore, 1)) (k : X p l e R s m args below meth c A G ad nL cells slots Q (sba B q (ix i) (x)) M O ls (pc + 1) (rest)) : X p l e R s m args below meth c A G ad nL cells slots Q B M O ls (pc) (.int x :: .int i :: .ref (ad q) :: rest) := fun H locs la hP hS hl =>
  va_iast C.1 C.2.1 C.2.2.2.2.2.1 hP (wl_D C.2.2.2.2.2.2.2.1.2) hS q 2 (wl_at he) rfl hin d (fun H1 locs1 hP1 _ hS1 => k H1 locs1 la (by
    have e9 : ba (sba B q (ix i) (x)) q = upd (ba B q) (ix i) (x) := up2_eq _ _ _ _
    rw [e9] at he2
    have hP1 : va_P G.1 vwCl ((wl G ad B M O).set q (ad q, .inl (G.2.1 2, n, .inl (upd (ba B q) (ix i) (x))))) H1 := hP1
    rw [wl_set he.1 he2 (o_sba q (ix i) (x))] at hP1; exact hP1) hS1 hl)
theorem x_zastB (C : CX p l s m args meth c A G ad cc own nL ret) {q n : Nat} {i x : Int32} (he : q < 193 + G.2.2.2.2 3 ∧ ent G ad B M O q = .inl (G.2.1 3, n, .inl (ba B q))) (he2 : ent G ad (sba B q (ix i) (vp_nar .boolean x)) M O q = .inl (G.2.1 3, n, .inl (ba (sba B q (ix i) (vp_nar .boolean x)) q))) (hin : vp_in i n) (d : decode cc pc = .ok (.bastore, 1)) (k : X p l e R s m args below meth c A G ad nL cells slots Q (sba B q (ix i) (vp_nar .boolean x)) M O ls (pc + 1) (rest)) : X p l e R s m args below meth c A G ad nL cells slots Q B M O ls (pc) (.int x :: .int i :: .ref (ad q) :: rest) := fun H locs la hP hS hl =>
  va_zast C.1 C.2.1 C.2.2.2.2.2.1 hP (wl_D C.2.2.2.2.2.2.2.1.2) hS q 3 (wl_at he) rfl hin d (fun H1 locs1 hP1 _ hS1 => k H1 locs1 la (by
    have e9 : ba (sba B q (ix i) (vp_nar .boolean x)) q = upd (ba B q) (ix i) (vp_nar .boolean x) := up2_eq _ _ _ _
    rw [e9] at he2
    have hP1 : va_P G.1 vwCl ((wl G ad B M O).set q (ad q, .inl (G.2.1 3, n, .inl (upd (ba B q) (ix i) (vp_nar .boolean x))))) H1 := hP1
    rw [wl_set he.1 he2 (o_sba q (ix i) (vp_nar .boolean x))] at hP1; exact hP1) hS1 hl)
theorem x_bastB (C : CX p l s m args meth c A G ad cc own nL ret) {q n : Nat} {i x : Int32} (he : q < 193 + G.2.2.2.2 3 ∧ ent G ad B M O q = .inl (G.2.1 0, n, .inl (ba B q))) (he2 : ent G ad (sba B q (ix i) (vp_nar .byte x)) M O q = .inl (G.2.1 0, n, .inl (ba (sba B q (ix i) (vp_nar .byte x)) q))) (hin : vp_in i n) (d : decode cc pc = .ok (.bastore, 1)) (k : X p l e R s m args below meth c A G ad nL cells slots Q (sba B q (ix i) (vp_nar .byte x)) M O ls (pc + 1) (rest)) : X p l e R s m args below meth c A G ad nL cells slots Q B M O ls (pc) (.int x :: .int i :: .ref (ad q) :: rest) := fun H locs la hP hS hl =>
  va_bast C.1 C.2.1 C.2.2.2.2.2.1 hP (wl_D C.2.2.2.2.2.2.2.1.2) hS q 0 (wl_at he) rfl hin d (fun H1 locs1 hP1 _ hS1 => k H1 locs1 la (by
    have e9 : ba (sba B q (ix i) (vp_nar .byte x)) q = upd (ba B q) (ix i) (vp_nar .byte x) := up2_eq _ _ _ _
    rw [e9] at he2
    have hP1 : va_P G.1 vwCl ((wl G ad B M O).set q (ad q, .inl (G.2.1 0, n, .inl (upd (ba B q) (ix i) (vp_nar .byte x))))) H1 := hP1
    rw [wl_set he.1 he2 (o_sba q (ix i) (vp_nar .byte x))] at hP1; exact hP1) hS1 hl)
theorem x_castB (C : CX p l s m args meth c A G ad cc own nL ret) {q n : Nat} {i x : Int32} (he : q < 193 + G.2.2.2.2 3 ∧ ent G ad B M O q = .inl (G.2.1 1, n, .inl (ba B q))) (he2 : ent G ad (sba B q (ix i) (vp_nar .char x)) M O q = .inl (G.2.1 1, n, .inl (ba (sba B q (ix i) (vp_nar .char x)) q))) (hin : vp_in i n) (d : decode cc pc = .ok (.castore, 1)) (k : X p l e R s m args below meth c A G ad nL cells slots Q (sba B q (ix i) (vp_nar .char x)) M O ls (pc + 1) (rest)) : X p l e R s m args below meth c A G ad nL cells slots Q B M O ls (pc) (.int x :: .int i :: .ref (ad q) :: rest) := fun H locs la hP hS hl =>
  va_cast C.1 C.2.1 C.2.2.2.2.2.1 hP (wl_D C.2.2.2.2.2.2.2.1.2) hS q 1 (wl_at he) rfl hin d (fun H1 locs1 hP1 _ hS1 => k H1 locs1 la (by
    have e9 : ba (sba B q (ix i) (vp_nar .char x)) q = upd (ba B q) (ix i) (vp_nar .char x) := up2_eq _ _ _ _
    rw [e9] at he2
    have hP1 : va_P G.1 vwCl ((wl G ad B M O).set q (ad q, .inl (G.2.1 1, n, .inl (upd (ba B q) (ix i) (vp_nar .char x))))) H1 := hP1
    rw [wl_set he.1 he2 (o_sba q (ix i) (vp_nar .char x))] at hP1; exact hP1) hS1 hl)
theorem x_aald (C : CX p l s m args meth c A G ad cc own nL ret) {q n t0 : Nat} {f : Nat → Option Nat} {cA : ClassId} {Cn : String} {i : Int32} {a : Nat} (he : q < 193 + G.2.2.2.2 3 ∧ ent G ad B M O q = .inl (cA, n, .inr (.inr (.inr (.inr f))))) (ht : (tyG G)[t0]? = some (cA, .object Cn)) (hin : vp_in i n) (hf : f (ix i) = some a) (d : decode cc pc = .ok (.aaload, 1)) (k : X p l e R s m args below meth c A G ad nL cells slots Q B M O ls (pc + 1) (.ref a :: rest)) : X p l e R s m args below meth c A G ad nL cells slots Q B M O ls (pc) (.int i :: .ref (ad q) :: rest) := fun H locs la hP hS hl =>
  va_aldq C.1 C.2.1 C.2.2.2.2.2.1 hP q t0 (wl_at he) ht hin d (by
    have hf : f i.toNatClampNeg = some a := hf
    rw [hf]
    exact k H locs la hP hS hl)
theorem x_cIV (C : CX p l s m args meth c A G ad cc own nL ret) {y : MethodName} {cd : ByteArray} {ml d0 mc ms idx n : Nat} {rt : Option FieldType} {as : List Value} {q ci N : Nat} {T : u_T} {fs : List Value} {B1 : StB} {M1 : StM} {O1 : StO} {r0 : Int32} (hM : Met l y (wof y cd ml rt) (rmd d0 mc ms) (va_Pc (.ref (ad q) :: as) (PW G A ad B M O)) (QI G A ad r0 B1 M1 O1) mc ms A) (hr : q < 193 + G.2.2.2.2 3 ∧ ent G ad B M O q = .inr (ci, fs)) (hc : vwCl[ci]? = some (y.cls, T, N)) (cv : CardV y) (cd0 : Card y cd ml rt n) (hl0 : Cond.methodLink own idx y ∈ TT) (hR : d0 + 1 ≤ R.frames ∧ 8 + (ml + 11) + 48 * d0 ≤ R.locals) (hf : cells + mc ≤ R.cells ∧ slots + ms ≤ R.slots) (hn : as.length = n) (hst : stk = as.reverse ++ .ref (ad q) :: rest) (hcat : (rest.map fun v => v.category).sum ≤ 8) (d : decode cc pc = .ok (.invokevirtual idx, 3)) (k : X p l e R s m args below meth c A G ad nL (cells + mc) (slots + ms) Q B1 M1 O1 ls (pc + 3) (.int r0 :: rest)) : X p l e R s m args below meth c A G ad nL cells slots Q B M O ls (pc) (stk) := by
  intro H locs la hP hS hl
  refine va_calli (va_runV (As := as) (b := ad q) (rest := rest) ⟨C.1, C.2.1, C.2.2.1, C.2.2.2.1, C.2.2.2.2.1⟩ hM ⟨⟨rfl, rfl, hR.1, hR.2, pay_in (big := TT) C.2.2.2.2.1 (fun w h => by rcases List.mem_cons.mp h with h | h; (rw [h]; exact ⟨cd0.1, good_of_word (tt_good _ cd0.1)⟩); exact ⟨h, good_of_word (tt_good _ h)⟩), List.mem_cons_self, C.2.2.2.2.1 _ cd0.1, C.2.2.2.2.1 _ cd0.2.1, ⟨cd0.2.2.1, cd0.2.2.2.1⟩, fun sig h => by have h2 := cd0.2.2.2.2; rw [h] at h2; exact (Option.some.inj h2).symm, C.2.2.2.2.1 _ hl0⟩, C.2.2.2.2.1 _ cv.1, C.2.2.2.2.1 _ cv.2⟩ ⟨pw_blind, va_recv C.2.2.2.2.2.1 hP hc (wl_at hr), fun U hU hW => ⟨rfl, by rw [hU]; exact hP, va_K.moved hW.alike C.2.2.2.2.2.1, fx_step C.2.2.2.2.2.2.1 hS hU hW, fun z hz => C.2.2.2.2.2.2.2.2.2.2 z (Nat.le_trans hS.1 (by rw [hU] at hz; exact hz))⟩⟩ rfl hn hl.1 hst (lv_room hcat) d hf) hS (fun _ _ h => h) (fun _ h => h) (fun r u t H1 locs1 ht hvm hw hB hz1 hk1 hS1 => ?_)
  subst hw
  rw [ht] at hB
  exact k H1 locs1 la hB hS1 hl
theorem x_cIS (C : CX p l s m args meth c A G ad cc own nL ret) {y : MethodName} {cd : ByteArray} {ml d0 mc ms idx n : Nat} {rt : Option FieldType} {as : List Value}  {B1 : StB} {M1 : StM} {O1 : StO} {r0 : Int32} (hM : Met l y (wof y cd ml rt) (rmd d0 mc ms) (va_Pc (as) (PW G A ad B M O)) (QI G A ad r0 B1 M1 O1) mc ms A) (cv : Cond.static y ∈ TT) (cd0 : Card y cd ml rt n) (hl0 : Cond.methodLink own idx y ∈ TT) (hR : d0 + 1 ≤ R.frames ∧ 8 + (ml + 11) + 48 * d0 ≤ R.locals) (hf : cells + mc ≤ R.cells ∧ slots + ms ≤ R.slots) (hn : as.length = n) (hst : stk = as.reverse ++ rest) (hcat : (rest.map fun v => v.category).sum ≤ 8) (d : decode cc pc = .ok (.invokestatic idx, 3)) (k : X p l e R s m args below meth c A G ad nL (cells + mc) (slots + ms) Q B1 M1 O1 ls (pc + 3) (.int r0 :: rest)) : X p l e R s m args below meth c A G ad nL cells slots Q B M O ls (pc) (stk) := by
  intro H locs la hP hS hl
  refine va_calli (va_runS (As := as) (rest := rest) ⟨C.1, C.2.1, C.2.2.1, C.2.2.2.1, C.2.2.2.2.1⟩ hM ⟨⟨rfl, rfl, hR.1, hR.2, pay_in (big := TT) C.2.2.2.2.1 (fun w h => by rcases List.mem_cons.mp h with h | h; (rw [h]; exact ⟨cd0.1, good_of_word (tt_good _ cd0.1)⟩); exact ⟨h, good_of_word (tt_good _ h)⟩), List.mem_cons_self, C.2.2.2.2.1 _ cd0.1, C.2.2.2.2.1 _ cd0.2.1, ⟨cd0.2.2.1, cd0.2.2.2.1⟩, fun sig h => by have h2 := cd0.2.2.2.2; rw [h] at h2; exact (Option.some.inj h2).symm, C.2.2.2.2.1 _ hl0⟩, C.2.2.2.2.1 _ cv⟩ ⟨pw_blind, fun U hU hW => ⟨rfl, by rw [hU]; exact hP, va_K.moved hW.alike C.2.2.2.2.2.1, fx_step C.2.2.2.2.2.2.1 hS hU hW, fun z hz => C.2.2.2.2.2.2.2.2.2.2 z (Nat.le_trans hS.1 (by rw [hU] at hz; exact hz))⟩⟩ rfl hn hl.1 hst (lv_room hcat) d hf) hS (fun _ _ h => h) (fun _ h => h) (fun r u t H1 locs1 ht hvm hw hB hz1 hk1 hS1 => ?_)
  subst hw
  rw [ht] at hB
  exact k H1 locs1 la hB hS1 hl
theorem x_cLV (C : CX p l s m args meth c A G ad cc own nL ret) {y : MethodName} {cd : ByteArray} {ml d0 mc ms idx n : Nat} {rt : Option FieldType} {as : List Value} {q ci N : Nat} {T : u_T} {fs : List Value} {B1 : StB} {M1 : StM} {O1 : StO} {r0 : Int64} (hM : Met l y (wof y cd ml rt) (rmd d0 mc ms) (va_Pc (.ref (ad q) :: as) (PW G A ad B M O)) (QL G A ad r0 B1 M1 O1) mc ms A) (hr : q < 193 + G.2.2.2.2 3 ∧ ent G ad B M O q = .inr (ci, fs)) (hc : vwCl[ci]? = some (y.cls, T, N)) (cv : CardV y) (cd0 : Card y cd ml rt n) (hl0 : Cond.methodLink own idx y ∈ TT) (hR : d0 + 1 ≤ R.frames ∧ 8 + (ml + 11) + 48 * d0 ≤ R.locals) (hf : cells + mc ≤ R.cells ∧ slots + ms ≤ R.slots) (hn : as.length = n) (hst : stk = as.reverse ++ .ref (ad q) :: rest) (hcat : (rest.map fun v => v.category).sum ≤ 8) (d : decode cc pc = .ok (.invokevirtual idx, 3)) (k : X p l e R s m args below meth c A G ad nL (cells + mc) (slots + ms) Q B1 M1 O1 ls (pc + 3) (.long r0 :: rest)) : X p l e R s m args below meth c A G ad nL cells slots Q B M O ls (pc) (stk) := by
  intro H locs la hP hS hl
  refine va_calll (va_runV (As := as) (b := ad q) (rest := rest) ⟨C.1, C.2.1, C.2.2.1, C.2.2.2.1, C.2.2.2.2.1⟩ hM ⟨⟨rfl, rfl, hR.1, hR.2, pay_in (big := TT) C.2.2.2.2.1 (fun w h => by rcases List.mem_cons.mp h with h | h; (rw [h]; exact ⟨cd0.1, good_of_word (tt_good _ cd0.1)⟩); exact ⟨h, good_of_word (tt_good _ h)⟩), List.mem_cons_self, C.2.2.2.2.1 _ cd0.1, C.2.2.2.2.1 _ cd0.2.1, ⟨cd0.2.2.1, cd0.2.2.2.1⟩, fun sig h => by have h2 := cd0.2.2.2.2; rw [h] at h2; exact (Option.some.inj h2).symm, C.2.2.2.2.1 _ hl0⟩, C.2.2.2.2.1 _ cv.1, C.2.2.2.2.1 _ cv.2⟩ ⟨pw_blind, va_recv C.2.2.2.2.2.1 hP hc (wl_at hr), fun U hU hW => ⟨rfl, by rw [hU]; exact hP, va_K.moved hW.alike C.2.2.2.2.2.1, fx_step C.2.2.2.2.2.2.1 hS hU hW, fun z hz => C.2.2.2.2.2.2.2.2.2.2 z (Nat.le_trans hS.1 (by rw [hU] at hz; exact hz))⟩⟩ rfl hn hl.1 hst (lv_room hcat) d hf) hS (fun _ _ h => h) (fun _ h => h) (fun r u t H1 locs1 ht hvm hw hB hz1 hk1 hS1 => ?_)
  subst hw
  rw [ht] at hB
  exact k H1 locs1 la hB hS1 hl
theorem x_cLS (C : CX p l s m args meth c A G ad cc own nL ret) {y : MethodName} {cd : ByteArray} {ml d0 mc ms idx n : Nat} {rt : Option FieldType} {as : List Value}  {B1 : StB} {M1 : StM} {O1 : StO} {r0 : Int64} (hM : Met l y (wof y cd ml rt) (rmd d0 mc ms) (va_Pc (as) (PW G A ad B M O)) (QL G A ad r0 B1 M1 O1) mc ms A) (cv : Cond.static y ∈ TT) (cd0 : Card y cd ml rt n) (hl0 : Cond.methodLink own idx y ∈ TT) (hR : d0 + 1 ≤ R.frames ∧ 8 + (ml + 11) + 48 * d0 ≤ R.locals) (hf : cells + mc ≤ R.cells ∧ slots + ms ≤ R.slots) (hn : as.length = n) (hst : stk = as.reverse ++ rest) (hcat : (rest.map fun v => v.category).sum ≤ 8) (d : decode cc pc = .ok (.invokestatic idx, 3)) (k : X p l e R s m args below meth c A G ad nL (cells + mc) (slots + ms) Q B1 M1 O1 ls (pc + 3) (.long r0 :: rest)) : X p l e R s m args below meth c A G ad nL cells slots Q B M O ls (pc) (stk) := by
  intro H locs la hP hS hl
  refine va_calll (va_runS (As := as) (rest := rest) ⟨C.1, C.2.1, C.2.2.1, C.2.2.2.1, C.2.2.2.2.1⟩ hM ⟨⟨rfl, rfl, hR.1, hR.2, pay_in (big := TT) C.2.2.2.2.1 (fun w h => by rcases List.mem_cons.mp h with h | h; (rw [h]; exact ⟨cd0.1, good_of_word (tt_good _ cd0.1)⟩); exact ⟨h, good_of_word (tt_good _ h)⟩), List.mem_cons_self, C.2.2.2.2.1 _ cd0.1, C.2.2.2.2.1 _ cd0.2.1, ⟨cd0.2.2.1, cd0.2.2.2.1⟩, fun sig h => by have h2 := cd0.2.2.2.2; rw [h] at h2; exact (Option.some.inj h2).symm, C.2.2.2.2.1 _ hl0⟩, C.2.2.2.2.1 _ cv⟩ ⟨pw_blind, fun U hU hW => ⟨rfl, by rw [hU]; exact hP, va_K.moved hW.alike C.2.2.2.2.2.1, fx_step C.2.2.2.2.2.2.1 hS hU hW, fun z hz => C.2.2.2.2.2.2.2.2.2.2 z (Nat.le_trans hS.1 (by rw [hU] at hz; exact hz))⟩⟩ rfl hn hl.1 hst (lv_room hcat) d hf) hS (fun _ _ h => h) (fun _ h => h) (fun r u t H1 locs1 ht hvm hw hB hz1 hk1 hS1 => ?_)
  subst hw
  rw [ht] at hB
  exact k H1 locs1 la hB hS1 hl
theorem x_cISn (C : CX p l s m args meth c A G ad cc own nL ret) {y : MethodName} {cd : ByteArray} {ml d0 mc ms idx n : Nat} {rt : Option FieldType} {as : List Value} {host : String} {B1 : StB} {M1 : StM} {O1 : StO} {r0 : Int32} (hM : Met l y (wof y cd ml rt) (rmd d0 mc ms) (va_Pc as (PW G A ad B M O)) (QI G A ad r0 B1 M1 O1) mc ms A) (cv : Cond.static y ∈ TT) (cd0 : Card y cd ml rt n) (hl0 : (own, idx, y, host) ∈ nestL) (hR : d0 + 1 ≤ R.frames ∧ 8 + (ml + 11) + 48 * d0 ≤ R.locals) (hf : cells + mc ≤ R.cells ∧ slots + ms ≤ R.slots) (hn : as.length = n) (hst : stk = as.reverse ++ rest) (hcat : (rest.map fun v => v.category).sum ≤ 8) (d : decode cc pc = .ok (.invokestatic idx, 3)) (k : X p l e R s m args below meth c A G ad nL (cells + mc) (slots + ms) Q B1 M1 O1 ls (pc + 3) (.int r0 :: rest)) : X p l e R s m args below meth c A G ad nL cells slots Q B M O ls (pc) (stk) := by
  intro H locs la hP hS hl
  have hG : GoodIn TT (wof y cd ml rt) := fun w h => by
    rcases List.mem_cons.mp h with h | h
    · rw [h]; exact ⟨cd0.1, good_of_word (tt_good _ cd0.1)⟩
    · exact ⟨h, good_of_word (tt_good _ h)⟩
  refine va_calli (va_runSN (As := as) (rest := rest) ⟨C.1, C.2.1, C.2.2.1, C.2.2.2.1, C.2.2.2.2.1⟩ hM ⟨va_cnB n C.2.2.2.2.1 hG rfl rfl rfl (C.2.2.2.2.2.2.1.2.2.2.2.2.2.2.2.2.1 _ hl0) (C.2.2.2.2.1 _ cd0.2.1) ⟨cd0.2.2.1, cd0.2.2.2.1, cd0.2.2.2.2⟩ hR, C.2.2.2.2.1 _ cv, trivial⟩ ⟨pw_blind, fun U hU hW => ⟨rfl, by rw [hU]; exact hP, va_K.moved hW.alike C.2.2.2.2.2.1, fx_step C.2.2.2.2.2.2.1 hS hU hW, fun z hz => C.2.2.2.2.2.2.2.2.2.2 z (Nat.le_trans hS.1 (by rw [hU] at hz; exact hz))⟩⟩ rfl hn hl.1 hst (lv_room hcat) d hf) hS (fun _ _ h => h) (fun _ h => h) (fun r u t H1 locs1 ht hvm hw hB hz1 hk1 hS1 => ?_)
  subst hw
  rw [ht] at hB
  exact k H1 locs1 la hB hS1 hl
theorem x_cVV (C : CX p l s m args meth c A G ad cc own nL ret) {y : MethodName} {cd : ByteArray} {ml d0 mc ms idx n : Nat} {rt : Option FieldType} {as : List Value} {q ci N : Nat} {T : u_T} {fs : List Value} {B1 : StB} {M1 : StM} {O1 : StO}  (hM : Met l y (wof y cd ml rt) (rmd d0 mc ms) (va_Pc (.ref (ad q) :: as) (PW G A ad B M O)) (QV G A ad B1 M1 O1) mc ms A) (hr : q < 193 + G.2.2.2.2 3 ∧ ent G ad B M O q = .inr (ci, fs)) (hc : vwCl[ci]? = some (y.cls, T, N)) (cv : CardV y) (cd0 : Card y cd ml rt n) (hl0 : Cond.methodLink own idx y ∈ TT) (hR : d0 + 1 ≤ R.frames ∧ 8 + (ml + 11) + 48 * d0 ≤ R.locals) (hf : cells + mc ≤ R.cells ∧ slots + ms ≤ R.slots) (hn : as.length = n) (hst : stk = as.reverse ++ .ref (ad q) :: rest) (hcat : (rest.map fun v => v.category).sum ≤ 8) (d : decode cc pc = .ok (.invokevirtual idx, 3)) (k : X p l e R s m args below meth c A G ad nL (cells + mc) (slots + ms) Q B1 M1 O1 ls (pc + 3) (rest)) : X p l e R s m args below meth c A G ad nL cells slots Q B M O ls (pc) (stk) := by
  intro H locs la hP hS hl
  refine va_callv (va_runV (As := as) (b := ad q) (rest := rest) ⟨C.1, C.2.1, C.2.2.1, C.2.2.2.1, C.2.2.2.2.1⟩ hM ⟨⟨rfl, rfl, hR.1, hR.2, pay_in (big := TT) C.2.2.2.2.1 (fun w h => by rcases List.mem_cons.mp h with h | h; (rw [h]; exact ⟨cd0.1, good_of_word (tt_good _ cd0.1)⟩); exact ⟨h, good_of_word (tt_good _ h)⟩), List.mem_cons_self, C.2.2.2.2.1 _ cd0.1, C.2.2.2.2.1 _ cd0.2.1, ⟨cd0.2.2.1, cd0.2.2.2.1⟩, fun sig h => by have h2 := cd0.2.2.2.2; rw [h] at h2; exact (Option.some.inj h2).symm, C.2.2.2.2.1 _ hl0⟩, C.2.2.2.2.1 _ cv.1, C.2.2.2.2.1 _ cv.2⟩ ⟨pw_blind, va_recv C.2.2.2.2.2.1 hP hc (wl_at hr), fun U hU hW => ⟨rfl, by rw [hU]; exact hP, va_K.moved hW.alike C.2.2.2.2.2.1, fx_step C.2.2.2.2.2.2.1 hS hU hW, fun z hz => C.2.2.2.2.2.2.2.2.2.2 z (Nat.le_trans hS.1 (by rw [hU] at hz; exact hz))⟩⟩ rfl hn hl.1 hst (lv_room hcat) d hf) hS (fun _ _ h => h) (fun _ h => h) (fun u t H1 locs1 ht hvm hw hB hz1 hk1 hS1 => ?_)
  skip
  rw [ht] at hB
  exact k H1 locs1 la hB hS1 hl
theorem x_cVS (C : CX p l s m args meth c A G ad cc own nL ret) {y : MethodName} {cd : ByteArray} {ml d0 mc ms idx n : Nat} {rt : Option FieldType} {as : List Value}  {B1 : StB} {M1 : StM} {O1 : StO}  (hM : Met l y (wof y cd ml rt) (rmd d0 mc ms) (va_Pc (as) (PW G A ad B M O)) (QV G A ad B1 M1 O1) mc ms A) (cv : Cond.static y ∈ TT) (cd0 : Card y cd ml rt n) (hl0 : Cond.methodLink own idx y ∈ TT) (hR : d0 + 1 ≤ R.frames ∧ 8 + (ml + 11) + 48 * d0 ≤ R.locals) (hf : cells + mc ≤ R.cells ∧ slots + ms ≤ R.slots) (hn : as.length = n) (hst : stk = as.reverse ++ rest) (hcat : (rest.map fun v => v.category).sum ≤ 8) (d : decode cc pc = .ok (.invokestatic idx, 3)) (k : X p l e R s m args below meth c A G ad nL (cells + mc) (slots + ms) Q B1 M1 O1 ls (pc + 3) (rest)) : X p l e R s m args below meth c A G ad nL cells slots Q B M O ls (pc) (stk) := by
  intro H locs la hP hS hl
  refine va_callv (va_runS (As := as) (rest := rest) ⟨C.1, C.2.1, C.2.2.1, C.2.2.2.1, C.2.2.2.2.1⟩ hM ⟨⟨rfl, rfl, hR.1, hR.2, pay_in (big := TT) C.2.2.2.2.1 (fun w h => by rcases List.mem_cons.mp h with h | h; (rw [h]; exact ⟨cd0.1, good_of_word (tt_good _ cd0.1)⟩); exact ⟨h, good_of_word (tt_good _ h)⟩), List.mem_cons_self, C.2.2.2.2.1 _ cd0.1, C.2.2.2.2.1 _ cd0.2.1, ⟨cd0.2.2.1, cd0.2.2.2.1⟩, fun sig h => by have h2 := cd0.2.2.2.2; rw [h] at h2; exact (Option.some.inj h2).symm, C.2.2.2.2.1 _ hl0⟩, C.2.2.2.2.1 _ cv⟩ ⟨pw_blind, fun U hU hW => ⟨rfl, by rw [hU]; exact hP, va_K.moved hW.alike C.2.2.2.2.2.1, fx_step C.2.2.2.2.2.2.1 hS hU hW, fun z hz => C.2.2.2.2.2.2.2.2.2.2 z (Nat.le_trans hS.1 (by rw [hU] at hz; exact hz))⟩⟩ rfl hn hl.1 hst (lv_room hcat) d hf) hS (fun _ _ h => h) (fun _ h => h) (fun u t H1 locs1 ht hvm hw hB hz1 hk1 hS1 => ?_)
  skip
  rw [ht] at hB
  exact k H1 locs1 la hB hS1 hl
theorem x_iret (C : CX p l s m args meth c A G ad cc own nL ret) {v r0 : Int32} (hr : ret = some .int) (h : r0 = v) (d : decode cc pc = .ok (.ireturn, 1)) : X p l e R s m args below meth c A G ad nL cells slots (MQ below (QI G A ad r0 B M O) args s cells slots A) B M O ls (pc) ([.int v]) := fun H locs la hP hS hl => by
  subst h
  exact W.iret (v := r0) C.1 C.2.1 (C.2.2.2.2.2.2.2.2.1.trans hr) (fun t ht hW => ⟨⟨r0, (), rfl, rfl, by subst ht; exact hP⟩, hS.F ht⟩) hS.2.2 d C.2.2.2.2.2.2.2.2.2.1
theorem x_lret (C : CX p l s m args meth c A G ad cc own nL ret) {v r0 : Int64} (hr : ret = some .long) (h : r0 = v) (d : decode cc pc = .ok (.lreturn, 1)) : X p l e R s m args below meth c A G ad nL cells slots (MQ below (QL G A ad r0 B M O) args s cells slots A) B M O ls (pc) ([.long v]) := fun H locs la hP hS hl => by
  subst h
  exact W.lret (v := r0) C.1 C.2.1 (C.2.2.2.2.2.2.2.2.1.trans hr) (fun t ht hW => ⟨⟨r0, (), rfl, rfl, by subst ht; exact hP⟩, hS.F ht⟩) hS.2.2 d C.2.2.2.2.2.2.2.2.2.1
theorem x_dret (C : CX p l s m args meth c A G ad cc own nL ret) {v r0 : UInt64} (hr : ret = some .double) (h : r0 = v) (d : decode cc pc = .ok (.dreturn, 1)) : X p l e R s m args below meth c A G ad nL cells slots (MQ below (QD G A ad r0 B M O) args s cells slots A) B M O ls (pc) ([.double v]) := fun H locs la hP hS hl => by
  subst h
  exact W.dret (v := r0) C.1 C.2.1 (C.2.2.2.2.2.2.2.2.1.trans hr) (fun t ht hW => ⟨⟨r0, (), rfl, rfl, by subst ht; exact hP⟩, hS.F ht⟩) hS.2.2 d C.2.2.2.2.2.2.2.2.2.1
theorem x_zret (C : CX p l s m args meth c A G ad cc own nL ret) {v r0 : Int32} {ty : FieldType} (hr : ret = some ty) (hn : narrow ty (.int v) = .int v) (h : r0 = v) (d : decode cc pc = .ok (.ireturn, 1)) : X p l e R s m args below meth c A G ad nL cells slots (MQ below (QI G A ad r0 B M O) args s cells slots A) B M O ls (pc) ([.int v]) := fun H locs la hP hS hl => by
  subst h
  exact W.zret (v := r0) C.1 C.2.1 (C.2.2.2.2.2.2.2.2.1.trans hr) hn (fun t ht hW => ⟨⟨r0, (), rfl, rfl, by subst ht; exact hP⟩, hS.F ht⟩) hS.2.2 d C.2.2.2.2.2.2.2.2.2.1
theorem x_vret (C : CX p l s m args meth c A G ad cc own nL ret) (hr : ret = none) (d : decode cc pc = .ok (.return_, 1)) : X p l e R s m args below meth c A G ad nL cells slots (MQ below (QV G A ad B M O) args s cells slots A) B M O ls (pc) ([]) := fun H locs la hP hS hl => by
  exact W.vret C.1 C.2.1 (C.2.2.2.2.2.2.2.2.1.trans hr) (fun t ht hW => ⟨⟨(), rfl, trivial, by subst ht; exact hP⟩, hS.F ht⟩) hS.2.2 d C.2.2.2.2.2.2.2.2.2.1
theorem x_body {l : Launch} {A : Nat → Prop} {G : GT} {ad : Nat → Nat} {B : StB} {M : StM} {O : StO} {y : MethodName} {cc : ByteArray} {nL d0 mc ms : Nat} {ret : Option FieldType} {as : List Value} {Qc : Array Value → State → Outcome → State → Prop} {own : String} (hy : plainName y.cls = true) (ho : y.cls = own) (gl : Gl l A G ad) (hle : (lg_sl as).length ≤ nL) {ls : List (Nat × Value)} (hls : lv_args 0 as = ls)
  (body : ∀ p e s m args below meth c, CX p l s m args meth c A G ad cc own nL ret → X p l e (rmd d0 mc ms) s m args below meth c A G ad nL 0 0 (MQ below Qc args s mc ms A) B M O ls 0 []) : Met l y (wof y cc nL ret) (rmd d0 mc ms) (va_Pc as (PW G A ad B M O)) Qc mc ms A := by
  refine Met.ofW (cc := cc) (maxL := nL) (ret := ret) hy rfl ?_
  intro p e s m args below meth c s₁ B0 hml hv
  obtain ⟨rfl, hP, hK, hF, hA⟩ := hv
  have hts := atoms_spec (ws := wof y cc nL ret) B0.pre
  have K := body p e s m as.toArray below meth c ⟨B0.exec, B0.bytes, hml, by rw [← ho]; exact findClass_of_methodNamed B0.named, fun w h => hts w (List.mem_cons_of_mem _ h), hK, hF, gl, B0.returns, B0.notSynchronized, hA⟩ s.heap []
  rw [lg_entry_eq]
  exact K _ hP va_S.rf (by rw [← hls]; exact lv_entry as hle)
theorem x_bodyF {l : Launch} {A : Nat → Prop} {G : GT} {ad : Nat → Nat} {B : StB} {M : StM} {O : StO} {y : MethodName} {cc : ByteArray} {nL d0 mc ms : Nat} {ret : Option FieldType} {as : List Value} {Qc : Array Value → State → Outcome → State → Prop} {own : String} (hy : plainFor y = true) (ho : y.cls = own) (gl : Gl l A G ad) (hle : (lg_sl as).length ≤ nL) {ls : List (Nat × Value)} (hls : lv_args 0 as = ls)
  (body : ∀ p e s m args below meth c, CX p l s m args meth c A G ad cc own nL ret → X p l e (rmd d0 mc ms) s m args below meth c A G ad nL 0 0 (MQ below Qc args s mc ms A) B M O ls 0 []) : Met l y (wof y cc nL ret) (rmd d0 mc ms) (va_Pc as (PW G A ad B M O)) Qc mc ms A := by
  refine va_MetF (cc := cc) (maxL := nL) (ret := ret) hy rfl ?_
  intro p e s m args below meth c s₁ B0 hml hv
  obtain ⟨rfl, hP, hK, hF, hA⟩ := hv
  have hts := atoms_spec (ws := wof y cc nL ret) B0.pre
  have K := body p e s m as.toArray below meth c ⟨B0.exec, B0.bytes, hml, by rw [← ho]; exact findClass_of_methodNamed B0.named, fun w h => hts w (List.mem_cons_of_mem _ h), hK, hF, gl, B0.returns, B0.notSynchronized, hA⟩ s.heap []
  rw [lg_entry_eq]
  exact K _ hP va_S.rf (by rw [← hls]; exact lv_entry as hle)
theorem x_ixor (C : CX p l s m args meth c A G ad cc own nL ret) {x y : Int32} (d : decode cc pc = .ok (.ixor, 1))  (k : X p l e R s m args below meth c A G ad nL cells slots Q B M O ls (pc + 1) (.int (x ^^^ y) :: rest)) : X p l e R s m args below meth c A G ad nL cells slots Q B M O ls (pc) (.int y :: .int x :: rest) := fun H locs la hP hS hl => lv_ixor C.1 C.2.1 d (k H locs la hP hS hl)
theorem x_mmax (C : CX p l s m args meth c A G ad cc own nL ret) {idx : Nat} {x y : Int32} (hl0 : Cond.methodLink own idx Lib.Math.max.name ∈ TT) (h1 : Cond.static Lib.Math.max.name ∈ TT) (h2 : Cond.initialized "java/lang/Math" ∈ TT) (h3 : Cond.code Lib.Math.max.name Lib.Math.max.code 2 (some .int) ∈ TT) (hR : 1 ≤ R.frames ∧ (rest.map fun v => v.category).sum + 13 ≤ R.locals) (hf : cells ≤ R.cells ∧ slots ≤ R.slots) (d : decode cc pc = .ok (.invokestatic idx, 3)) (k : X p l e R s m args below meth c A G ad nL cells slots Q B M O ls (pc + 3) (.int (if x < y then y else x) :: rest)) : X p l e R s m args below meth c A G ad nL cells slots Q B M O ls (pc) (.int y :: .int x :: rest) := fun H locs la hP hS hl =>
  va_mmax C.1 C.2.1 (C.2.2.1.trans hl.1.symm) C.2.2.2.1 (C.2.2.2.2.1 _ hl0) (C.2.2.2.2.1 _ h1) (C.2.2.2.2.1 _ h2) (C.2.2.2.2.1 _ h3) hR.1 hR.2 hf.1 hf.2 d (k H locs la hP hS hl)
theorem x_mmin (C : CX p l s m args meth c A G ad cc own nL ret) {idx : Nat} {x y : Int32} (hl0 : Cond.methodLink own idx Lib.Math.min.name ∈ TT) (h1 : Cond.static Lib.Math.min.name ∈ TT) (h2 : Cond.initialized "java/lang/Math" ∈ TT) (h3 : Cond.code Lib.Math.min.name Lib.Math.min.code 2 (some .int) ∈ TT) (hR : 1 ≤ R.frames ∧ (rest.map fun v => v.category).sum + 13 ≤ R.locals) (hf : cells ≤ R.cells ∧ slots ≤ R.slots) (d : decode cc pc = .ok (.invokestatic idx, 3)) (k : X p l e R s m args below meth c A G ad nL cells slots Q B M O ls (pc + 3) (.int (if y < x then y else x) :: rest)) : X p l e R s m args below meth c A G ad nL cells slots Q B M O ls (pc) (.int y :: .int x :: rest) := fun H locs la hP hS hl =>
  va_mmin C.1 C.2.1 (C.2.2.1.trans hl.1.symm) C.2.2.2.1 (C.2.2.2.2.1 _ hl0) (C.2.2.2.2.1 _ h1) (C.2.2.2.2.1 _ h2) (C.2.2.2.2.1 _ h3) hR.1 hR.2 hf.1 hf.2 d (k H locs la hP hS hl)
theorem x_mabs (C : CX p l s m args meth c A G ad cc own nL ret) {idx : Nat} {x : Int32} (hl0 : Cond.methodLink own idx Lib.Math.abs.name ∈ TT) (h1 : Cond.static Lib.Math.abs.name ∈ TT) (h2 : Cond.initialized "java/lang/Math" ∈ TT) (h3 : Cond.code Lib.Math.abs.name Lib.Math.abs.code 1 (some .int) ∈ TT) (hR : 1 ≤ R.frames ∧ (rest.map fun v => v.category).sum + 13 ≤ R.locals) (hf : cells ≤ R.cells ∧ slots ≤ R.slots) (d : decode cc pc = .ok (.invokestatic idx, 3)) (k : X p l e R s m args below meth c A G ad nL cells slots Q B M O ls (pc + 3) (.int (if 0 ≤ x then x else 0 - x) :: rest)) : X p l e R s m args below meth c A G ad nL cells slots Q B M O ls (pc) (.int x :: rest) := fun H locs la hP hS hl =>
  va_mabs C.1 C.2.1 (C.2.2.1.trans hl.1.symm) C.2.2.2.1 (C.2.2.2.2.1 _ hl0) (C.2.2.2.2.1 _ h1) (C.2.2.2.2.1 _ h2) (C.2.2.2.2.1 _ h3) hR.1 hR.2 hf.1 hf.2 d (k H locs la hP hS hl)
theorem x_tabIn (C : CX p l s m args meth c A G ad cc own nL ret) {dflt lo hi : Int} {offs : Array Int} {len : Nat} {x z : Int32} {off : Int} {tgt : Nat} (d : decode cc pc = .ok (.tableswitch dflt lo hi offs, len)) (hc : x = z) (h1 : ¬ z.toInt < lo) (h2 : ¬ hi < z.toInt) (ho : offs[(z.toInt - lo).toNat]? = some off) (ht : (pc : Int) + off = (tgt : Int)) (k : X p l e R s m args below meth c A G ad nL cells slots Q B M O ls (tgt) (rest)) : X p l e R s m args below meth c A G ad nL cells slots Q B M O ls (pc) (.int x :: rest) := fun H locs la hP hS hl => by
  subst hc
  exact lv_tableIn C.1 C.2.1 d h1 h2 ho ht (k H locs la hP hS hl)
theorem x_tabOut (C : CX p l s m args meth c A G ad cc own nL ret) {dflt lo hi : Int} {offs : Array Int} {len : Nat} {x : Int32} {tgt : Nat} (d : decode cc pc = .ok (.tableswitch dflt lo hi offs, len)) (h : x.toInt < lo ∨ hi < x.toInt) (ht : (pc : Int) + dflt = (tgt : Int)) (k : X p l e R s m args below meth c A G ad nL cells slots Q B M O ls (tgt) (rest)) : X p l e R s m args below meth c A G ad nL cells slots Q B M O ls (pc) (.int x :: rest) := fun H locs la hP hS hl => lv_tableOut C.1 C.2.1 d h ht (k H locs la hP hS hl)
theorem sw_no {x z : Int32} (h : ¬ x = z) : ¬ x.toInt = z.toInt := fun e => h (Int32.toInt_inj.mp e)

end XX
theorem ttX0 : ∀ w ∈ u_ws RX0 TX0 5, w ∈ TT := by decide +kernel
theorem ttX1 : ∀ w ∈ u_ws RX1 TX1 3, w ∈ TT := by decide +kernel
theorem ttX2 : ∀ w ∈ u_ws RX2 TX2 5, w ∈ TT := by decide +kernel
theorem ttX3 : ∀ w ∈ u_ws RX3 TX3 11, w ∈ TT := by decide +kernel
theorem ttX4 : ∀ w ∈ u_ws RX4 TX4 5, w ∈ TT := by decide +kernel
theorem ttX5 : ∀ w ∈ u_ws RX5 TX5 7, w ∈ TT := by decide +kernel
theorem ttX6 : ∀ w ∈ u_ws RX6 TX6 10, w ∈ TT := by decide +kernel
theorem ttJ4 : ∀ w ∈ u_ws RJ4 TJ4 4, w ∈ TT := by decide +kernel
def mx (x y : Int32) : Int32 := if x < y then y else x
def mn (x y : Int32) : Int32 := if y < x then y else x
def mabs (x : Int32) : Int32 := if 0 ≤ x then x else 0 - x
def fu : Nat := 4000
theorem put_L_3 {G : GT} {ad : Nat → Nat} {B : StB} {M : StM} {O : StO} {p : Nat} {v : Int32} (h : p < 176 ∧ p % 16 = 0) : ent G ad (sbi B p 3 v) M O p = .inr (7, [.ref (ad (p + 1)), .ref (ad (p + 6)), .ref (ad (p + 12)), .int v, .int (bi B p 4), .int (bi B p 5), .long (bl B p 6), .long (bl B p 7), .long (bl B p 8), .long (bl B p 9), .long (bl B p 10)]) := by rw [(e_L h).2]; simp [sbi, up2, bi, bl]
theorem put_L_4 {G : GT} {ad : Nat → Nat} {B : StB} {M : StM} {O : StO} {p : Nat} {v : Int32} (h : p < 176 ∧ p % 16 = 0) : ent G ad (sbi B p 4 v) M O p = .inr (7, [.ref (ad (p + 1)), .ref (ad (p + 6)), .ref (ad (p + 12)), .int (bi B p 3), .int v, .int (bi B p 5), .long (bl B p 6), .long (bl B p 7), .long (bl B p 8), .long (bl B p 9), .long (bl B p 10)]) := by rw [(e_L h).2]; simp [sbi, up2, bi, bl]
theorem put_L_5 {G : GT} {ad : Nat → Nat} {B : StB} {M : StM} {O : StO} {p : Nat} {v : Int32} (h : p < 176 ∧ p % 16 = 0) : ent G ad (sbi B p 5 v) M O p = .inr (7, [.ref (ad (p + 1)), .ref (ad (p + 6)), .ref (ad (p + 12)), .int (bi B p 3), .int (bi B p 4), .int v, .long (bl B p 6), .long (bl B p 7), .long (bl B p 8), .long (bl B p 9), .long (bl B p 10)]) := by rw [(e_L h).2]; simp [sbi, up2, bi, bl]
theorem put_L_6 {G : GT} {ad : Nat → Nat} {B : StB} {M : StM} {O : StO} {p : Nat} {v : Int64} (h : p < 176 ∧ p % 16 = 0) : ent G ad (sbl B p 6 v) M O p = .inr (7, [.ref (ad (p + 1)), .ref (ad (p + 6)), .ref (ad (p + 12)), .int (bi B p 3), .int (bi B p 4), .int (bi B p 5), .long v, .long (bl B p 7), .long (bl B p 8), .long (bl B p 9), .long (bl B p 10)]) := by rw [(e_L h).2]; simp [sbl, up2, bi, bl]
theorem put_L_7 {G : GT} {ad : Nat → Nat} {B : StB} {M : StM} {O : StO} {p : Nat} {v : Int64} (h : p < 176 ∧ p % 16 = 0) : ent G ad (sbl B p 7 v) M O p = .inr (7, [.ref (ad (p + 1)), .ref (ad (p + 6)), .ref (ad (p + 12)), .int (bi B p 3), .int (bi B p 4), .int (bi B p 5), .long (bl B p 6), .long v, .long (bl B p 8), .long (bl B p 9), .long (bl B p 10)]) := by rw [(e_L h).2]; simp [sbl, up2, bi, bl]
theorem put_L_8 {G : GT} {ad : Nat → Nat} {B : StB} {M : StM} {O : StO} {p : Nat} {v : Int64} (h : p < 176 ∧ p % 16 = 0) : ent G ad (sbl B p 8 v) M O p = .inr (7, [.ref (ad (p + 1)), .ref (ad (p + 6)), .ref (ad (p + 12)), .int (bi B p 3), .int (bi B p 4), .int (bi B p 5), .long (bl B p 6), .long (bl B p 7), .long v, .long (bl B p 9), .long (bl B p 10)]) := by rw [(e_L h).2]; simp [sbl, up2, bi, bl]
theorem put_L_9 {G : GT} {ad : Nat → Nat} {B : StB} {M : StM} {O : StO} {p : Nat} {v : Int64} (h : p < 176 ∧ p % 16 = 0) : ent G ad (sbl B p 9 v) M O p = .inr (7, [.ref (ad (p + 1)), .ref (ad (p + 6)), .ref (ad (p + 12)), .int (bi B p 3), .int (bi B p 4), .int (bi B p 5), .long (bl B p 6), .long (bl B p 7), .long (bl B p 8), .long v, .long (bl B p 10)]) := by rw [(e_L h).2]; simp [sbl, up2, bi, bl]
theorem put_L_10 {G : GT} {ad : Nat → Nat} {B : StB} {M : StM} {O : StO} {p : Nat} {v : Int64} (h : p < 176 ∧ p % 16 = 0) : ent G ad (sbl B p 10 v) M O p = .inr (7, [.ref (ad (p + 1)), .ref (ad (p + 6)), .ref (ad (p + 12)), .int (bi B p 3), .int (bi B p 4), .int (bi B p 5), .long (bl B p 6), .long (bl B p 7), .long (bl B p 8), .long (bl B p 9), .long v]) := by rw [(e_L h).2]; simp [sbl, up2, bi, bl]
theorem put_A_0 {G : GT} {ad : Nat → Nat} {B : StB} {M : StM} {O : StO} {p : Nat} {v : Int32} (h : p < 176 ∧ p % 16 = 1) : ent G ad (sbi B p 0 v) M O p = .inr (4, [.int v, .ref (ad (p + 1)), .ref (ad (p + 2)), .ref (ad (p + 3)), .ref (ad (p + 4))]) := by rw [(e_A h).2]; simp [sbi, up2, bi, bl]
theorem put_T_0 {G : GT} {ad : Nat → Nat} {B : StB} {M : StM} {O : StO} {p : Nat} {v : Int32} (h : p < 176 ∧ p % 16 = 6) : ent G ad (sbi B p 0 v) M O p = .inr (9, [.int v, .int (bi B p 1), .ref (ad (p + 1)), .ref (ad (p + 2)), .ref (ad (p + 3)), .ref (ad (p + 4)), .ref (ad (p + 5))]) := by rw [(e_T h).2]; simp [sbi, up2, bi, bl]
theorem put_T_1 {G : GT} {ad : Nat → Nat} {B : StB} {M : StM} {O : StO} {p : Nat} {v : Int32} (h : p < 176 ∧ p % 16 = 6) : ent G ad (sbi B p 1 v) M O p = .inr (9, [.int (bi B p 0), .int v, .ref (ad (p + 1)), .ref (ad (p + 2)), .ref (ad (p + 3)), .ref (ad (p + 4)), .ref (ad (p + 5))]) := by rw [(e_T h).2]; simp [sbi, up2, bi, bl]
theorem put_J_0 {G : GT} {ad : Nat → Nat} {B : StB} {M : StM} {O : StO} {p : Nat} {v : Int32} (h : p < 176 ∧ p % 16 = 12) : ent G ad (sbi B p 0 v) M O p = .inr (6, [.int v, .int (bi B p 1), .ref (ad (p + 1)), .ref (ad (p + 2)), .ref (ad (p + 3))]) := by rw [(e_J h).2]; simp [sbi, up2, bi, bl]
theorem put_J_1 {G : GT} {ad : Nat → Nat} {B : StB} {M : StM} {O : StO} {p : Nat} {v : Int32} (h : p < 176 ∧ p % 16 = 12) : ent G ad (sbi B p 1 v) M O p = .inr (6, [.int (bi B p 0), .int v, .ref (ad (p + 1)), .ref (ad (p + 2)), .ref (ad (p + 3))]) := by rw [(e_J h).2]; simp [sbi, up2, bi, bl]
theorem put_I_7 {G : GT} {ad : Nat → Nat} {B : StB} {M : StM} {O : StO} {v : Int32} : ent G ad (sbi B 176 7 v) M O 176 = .inr (10, [.ref (ad 0), .ref (ad 16), .ref (ad 32), .ref (ad 177), .ref (ad 179), .ref (ad 191), .ref (ad 182), .int v, .int (bi B 176 8), .int (bi B 176 9)]) := by rw [e_I.2]; simp [sbi, up2, bi, bl]
theorem put_I_8 {G : GT} {ad : Nat → Nat} {B : StB} {M : StM} {O : StO} {v : Int32} : ent G ad (sbi B 176 8 v) M O 176 = .inr (10, [.ref (ad 0), .ref (ad 16), .ref (ad 32), .ref (ad 177), .ref (ad 179), .ref (ad 191), .ref (ad 182), .int (bi B 176 7), .int v, .int (bi B 176 9)]) := by rw [e_I.2]; simp [sbi, up2, bi, bl]
theorem put_I_9 {G : GT} {ad : Nat → Nat} {B : StB} {M : StM} {O : StO} {v : Int32} : ent G ad (sbi B 176 9 v) M O 176 = .inr (10, [.ref (ad 0), .ref (ad 16), .ref (ad 32), .ref (ad 177), .ref (ad 179), .ref (ad 191), .ref (ad 182), .int (bi B 176 7), .int (bi B 176 8), .int v]) := by rw [e_I.2]; simp [sbi, up2, bi, bl]
theorem put_H_0 {G : GT} {ad : Nat → Nat} {B : StB} {M : StM} {O : StO} {v : Int32} : ent G ad (sbi B 177 0 v) M O 177 = .inr (5, [.int v, .int (bi B 177 1), .ref (ad 178)]) := by rw [e_H.2]; simp [sbi, up2, bi, bl]
theorem put_H_1 {G : GT} {ad : Nat → Nat} {B : StB} {M : StM} {O : StO} {v : Int32} : ent G ad (sbi B 177 1 v) M O 177 = .inr (5, [.int (bi B 177 0), .int v, .ref (ad 178)]) := by rw [e_H.2]; simp [sbi, up2, bi, bl]
theorem put_R_1 {G : GT} {ad : Nat → Nat} {B : StB} {M : StM} {O : StO} {v : Int32} : ent G ad (sbi B 179 1 v) M O 179 = .inr (8, [.ref (ad 180), .int v, .int (bi B 179 2), .int (bi B 179 3), .ref (ad 181)]) := by rw [e_R.2]; simp [sbi, up2, bi, bl]
theorem put_R_2 {G : GT} {ad : Nat → Nat} {B : StB} {M : StM} {O : StO} {v : Int32} : ent G ad (sbi B 179 2 v) M O 179 = .inr (8, [.ref (ad 180), .int (bi B 179 1), .int v, .int (bi B 179 3), .ref (ad 181)]) := by rw [e_R.2]; simp [sbi, up2, bi, bl]
theorem put_R_3 {G : GT} {ad : Nat → Nat} {B : StB} {M : StM} {O : StO} {v : Int32} : ent G ad (sbi B 179 3 v) M O 179 = .inr (8, [.ref (ad 180), .int (bi B 179 1), .int (bi B 179 2), .int v, .ref (ad 181)]) := by rw [e_R.2]; simp [sbi, up2, bi, bl]
theorem put_B_2 {G : GT} {ad : Nat → Nat} {B : StB} {M : StM} {O : StO} {v : Int32} : ent G ad (sbi B 191 2 v) M O 191 = .inr (1, [.ref (ad 192), .int 0, .int v, .int (bi B 191 3)]) := by rw [e_B.2]; simp [sbi, up2, bi, bl]
theorem put_B_3 {G : GT} {ad : Nat → Nat} {B : StB} {M : StM} {O : StO} {v : Int32} : ent G ad (sbi B 191 3 v) M O 191 = .inr (1, [.ref (ad 192), .int 0, .int (bi B 191 2), .int v]) := by rw [e_B.2]; simp [sbi, up2, bi, bl]
section XE
variable {p : Program} {l : Launch} {e : Env} {R : Room} {s : State} {m : MethodId} {args : Array Value} {below : List Frame} {meth : Method} {c : Code} {cells slots : Nat} {Q : State → Prop}
variable {A : Nat → Prop} {G : GT} {ad : Nat → Nat} {cc : ByteArray} {own : String} {nL : Nat} {ret : Option FieldType} {B : StB} {M : StM} {O : StO} {ls : List (Nat × Value)} {pc : Nat} {rest stk : List Value}

theorem x_iretB (C : CX p l s m args meth c A G ad cc own nL ret) {v : Int32} {f : Int32 × StB} (hr : ret = some .int) (h : f = (v, B)) (d : decode cc pc = .ok (.ireturn, 1)) : X p l e R s m args below meth c A G ad nL cells slots (MQ below (QI G A ad f.1 f.2 M O) args s cells slots A) B M O ls (pc) ([.int v]) := by
  subst h
  exact x_iret C hr rfl d
theorem x_iretM (C : CX p l s m args meth c A G ad cc own nL ret) {v : Int32} {f : Int32 × StM} (hr : ret = some .int) (h : f = (v, M)) (d : decode cc pc = .ok (.ireturn, 1)) : X p l e R s m args below meth c A G ad nL cells slots (MQ below (QI G A ad f.1 B f.2 O) args s cells slots A) B M O ls (pc) ([.int v]) := by
  subst h
  exact x_iret C hr rfl d
theorem x_lretB (C : CX p l s m args meth c A G ad cc own nL ret) {v : Int64} {f : Int64 × StB} (hr : ret = some .long) (h : f = (v, B)) (d : decode cc pc = .ok (.lreturn, 1)) : X p l e R s m args below meth c A G ad nL cells slots (MQ below (QL G A ad f.1 f.2 M O) args s cells slots A) B M O ls (pc) ([.long v]) := by
  subst h
  exact x_lret C hr rfl d
theorem x_lretM (C : CX p l s m args meth c A G ad cc own nL ret) {v : Int64} {f : Int64 × StM} (hr : ret = some .long) (h : f = (v, M)) (d : decode cc pc = .ok (.lreturn, 1)) : X p l e R s m args below meth c A G ad nL cells slots (MQ below (QL G A ad f.1 B f.2 O) args s cells slots A) B M O ls (pc) ([.long v]) := by
  subst h
  exact x_lret C hr rfl d
theorem x_zretB (C : CX p l s m args meth c A G ad cc own nL ret) {v : Int32} {f : Int32 × StB} {ty : FieldType} (hr : ret = some ty) (hn : narrow ty (.int v) = .int v) (h : f = (v, B)) (d : decode cc pc = .ok (.ireturn, 1)) : X p l e R s m args below meth c A G ad nL cells slots (MQ below (QI G A ad f.1 f.2 M O) args s cells slots A) B M O ls (pc) ([.int v]) := by
  subst h
  exact x_zret C hr hn rfl d
theorem x_zretM (C : CX p l s m args meth c A G ad cc own nL ret) {v : Int32} {f : Int32 × StM} {ty : FieldType} (hr : ret = some ty) (hn : narrow ty (.int v) = .int v) (h : f = (v, M)) (d : decode cc pc = .ok (.ireturn, 1)) : X p l e R s m args below meth c A G ad nL cells slots (MQ below (QI G A ad f.1 B f.2 O) args s cells slots A) B M O ls (pc) ([.int v]) := by
  subst h
  exact x_zret C hr hn rfl d
theorem x_vretB (C : CX p l s m args meth c A G ad cc own nL ret)  {f : StB} (hr : ret = none) (h : f = B) (d : decode cc pc = .ok (.return_, 1)) : X p l e R s m args below meth c A G ad nL cells slots (MQ below (QV G A ad  f M O) args s cells slots A) B M O ls (pc) ([]) := by
  subst h
  exact x_vret C hr d
theorem x_vretM (C : CX p l s m args meth c A G ad cc own nL ret)  {f : StM} (hr : ret = none) (h : f = M) (d : decode cc pc = .ok (.return_, 1)) : X p l e R s m args below meth c A G ad nL cells slots (MQ below (QV G A ad  B f O) args s cells slots A) B M O ls (pc) ([]) := by
  subst h
  exact x_vret C hr d
end XE
end
section
def exL : List String := ["", "java/lang/IndexOutOfBoundsException", "java/lang/IllegalArgumentException", "java/lang/UnsupportedOperationException", "java/lang/IllegalStateException", "java/util/NoSuchElementException", "java/lang/ArithmeticException"]
def exN (k : Nat) : String := exL.getD k ""
def chainN : List String := ["java/lang/RuntimeException", "java/lang/Exception"]
def badW : List Cond := castL.map (fun q => Cond.castable q.1 q.2) ++ declL.map Cond.declares
theorem thr_g1 : ∀ w ∈ (vx_at0 RX6 196 (exN 1) chainN).filter goodWord, w ∈ TT := by decide +kernel
theorem thr_b1 : ∀ w ∈ (vx_at0 RX6 196 (exN 1) chainN).filter (fun w => !goodWord w), w ∈ badW := by decide +kernel
theorem thr_o1 : ∀ w ∈ Cond.classLink RX6 194 (exN 1) :: Cond.initialized (exN 1) :: vx_at0 RX6 196 (exN 1) chainN, vx_ot w = true := by decide +kernel
theorem thr_k1 : Cond.classLink RX6 194 (exN 1) ∈ TT := by decide +kernel
theorem thr_i1 : Cond.initialized (exN 1) ∈ TT := by decide +kernel
theorem thr_g2 : ∀ w ∈ (vx_at0 RX6 279 (exN 2) chainN).filter goodWord, w ∈ TT := by decide +kernel
theorem thr_b2 : ∀ w ∈ (vx_at0 RX6 279 (exN 2) chainN).filter (fun w => !goodWord w), w ∈ badW := by decide +kernel
theorem thr_o2 : ∀ w ∈ Cond.classLink RX6 277 (exN 2) :: Cond.initialized (exN 2) :: vx_at0 RX6 279 (exN 2) chainN, vx_ot w = true := by decide +kernel
theorem thr_k2 : Cond.classLink RX6 277 (exN 2) ∈ TT := by decide +kernel
theorem thr_i2 : Cond.initialized (exN 2) ∈ TT := by decide +kernel
theorem thr_g3 : ∀ w ∈ (vx_at0 RX6 314 (exN 3) chainN).filter goodWord, w ∈ TT := by decide +kernel
theorem thr_b3 : ∀ w ∈ (vx_at0 RX6 314 (exN 3) chainN).filter (fun w => !goodWord w), w ∈ badW := by decide +kernel
theorem thr_o3 : ∀ w ∈ Cond.classLink RX6 312 (exN 3) :: Cond.initialized (exN 3) :: vx_at0 RX6 314 (exN 3) chainN, vx_ot w = true := by decide +kernel
theorem thr_k3 : Cond.classLink RX6 312 (exN 3) ∈ TT := by decide +kernel
theorem thr_i3 : Cond.initialized (exN 3) ∈ TT := by decide +kernel
theorem thr_g4 : ∀ w ∈ (vx_at0 RX6 283 (exN 4) chainN).filter goodWord, w ∈ TT := by decide +kernel
theorem thr_b4 : ∀ w ∈ (vx_at0 RX6 283 (exN 4) chainN).filter (fun w => !goodWord w), w ∈ badW := by decide +kernel
theorem thr_o4 : ∀ w ∈ Cond.classLink RX6 281 (exN 4) :: Cond.initialized (exN 4) :: vx_at0 RX6 283 (exN 4) chainN, vx_ot w = true := by decide +kernel
theorem thr_k4 : Cond.classLink RX6 281 (exN 4) ∈ TT := by decide +kernel
theorem thr_i4 : Cond.initialized (exN 4) ∈ TT := by decide +kernel
theorem thr_g5 : ∀ w ∈ (vx_at0 RX6 131 (exN 5) chainN).filter goodWord, w ∈ TT := by decide +kernel
theorem thr_b5 : ∀ w ∈ (vx_at0 RX6 131 (exN 5) chainN).filter (fun w => !goodWord w), w ∈ badW := by decide +kernel
theorem thr_o5 : ∀ w ∈ Cond.classLink RX6 129 (exN 5) :: Cond.initialized (exN 5) :: vx_at0 RX6 131 (exN 5) chainN, vx_ot w = true := by decide +kernel
theorem thr_k5 : Cond.classLink RX6 129 (exN 5) ∈ TT := by decide +kernel
theorem thr_i5 : Cond.initialized (exN 5) ∈ TT := by decide +kernel
theorem thr_g6 : ∀ w ∈ (vx_at0 RX6 137 (exN 6) chainN).filter goodWord, w ∈ TT := by decide +kernel
theorem thr_b6 : ∀ w ∈ (vx_at0 RX6 137 (exN 6) chainN).filter (fun w => !goodWord w), w ∈ badW := by decide +kernel
theorem thr_o6 : ∀ w ∈ Cond.classLink RX6 135 (exN 6) :: Cond.initialized (exN 6) :: vx_at0 RX6 137 (exN 6) chainN, vx_ot w = true := by decide +kernel
theorem thr_k6 : Cond.classLink RX6 135 (exN 6) ∈ TT := by decide +kernel
theorem thr_i6 : Cond.initialized (exN 6) ∈ TT := by decide +kernel
end
section
theorem bad_at {G : GT} {A : Nat → Prop} {s : State} {args : Array Value} (h : Fx G A s) : ∀ w ∈ badW, w.before args s = true := by
  intro w hw
  obtain ⟨-, -, -, -, -, -, -, -, -, -, i2, i3, -, -, -⟩ := h
  rcases List.mem_append.mp hw with h | h
  · obtain ⟨q, hq, rfl⟩ := List.mem_map.mp h
    exact va_Nw.use rfl (i2 q hq)
  · obtain ⟨q, hq, rfl⟩ := List.mem_map.mp h
    exact va_Nw.use rfl (i3 q hq)
section XT
variable {p : Program} {l : Launch} {e : Env} {R : Room} {s : State} {m : MethodId} {args : Array Value} {below : List Frame} {meth : Method} {c : Code} {cells slots : Nat} {Q : State → Prop}
variable {A : Nat → Prop} {G : GT} {ad : Nat → Nat} {cc : ByteArray} {own : String} {nL : Nat} {ret : Option FieldType} {B : StB} {M : StM} {O : StO} {ls : List (Nat × Value)} {pc : Nat} {rest stk : List Value}

/-- a method that answers an int or throws: f = (0, answer, world) or (number of the exception, _, world) -/
def TMet (l : Launch) (y : MethodName) (ws : List Cond) (rm : Room) (as : List Value) (G : GT) (A : Nat → Prop) (ad : Nat → Nat) (B : StB) (M : StM) (O : StO) (f : Nat × Int32 × StB) (mc ms : Nat) : Prop :=
  vx_Met l y ws rm (va_Pc as (PW G A ad B M O)) (va_Qi (fun r (_ : Unit) => f.1 = 0 ∧ r = f.2.1) (fun _ t => va_P G.1 vwCl (wl G ad f.2.2 M O) t.heap) A) (vx_X (fun (_ : Unit) => f.1 ≠ 0) (fun E _ t => E = exN f.1 ∧ va_P G.1 vwCl (wl G ad f.2.2 M O) t.heap) A) mc ms A
def TMetV (l : Launch) (y : MethodName) (ws : List Cond) (rm : Room) (as : List Value) (G : GT) (A : Nat → Prop) (ad : Nat → Nat) (B : StB) (M : StM) (O : StO) (f : Nat × Int32 × StB) (mc ms : Nat) : Prop :=
  vx_Met l y ws rm (va_Pc as (PW G A ad B M O)) (va_Qv (fun (_ : Unit) => f.1 = 0) (fun _ t => va_P G.1 vwCl (wl G ad f.2.2 M O) t.heap) A) (vx_X (fun (_ : Unit) => f.1 ≠ 0) (fun E _ t => E = exN f.1 ∧ va_P G.1 vwCl (wl G ad f.2.2 M O) t.heap) A) mc ms A
abbrev XQ (G : GT) (A : Nat → Prop) (ad : Nat → Nat) (M : StM) (O : StO) (f : Nat × Int32 × StB) : String → State → State → Prop := vx_X (fun (_ : Unit) => f.1 ≠ 0) (fun E _ t => E = exN f.1 ∧ va_P G.1 vwCl (wl G ad f.2.2 M O) t.heap) A
abbrev TQ (below : List Frame) (args : Array Value) (s : State) (G : GT) (A : Nat → Prop) (ad : Nat → Nat) (M : StM) (O : StO) (f : Nat × Int32 × StB) (mc ms : Nat) : State → Prop := vx_MQ below (va_Qi (fun r (_ : Unit) => f.1 = 0 ∧ r = f.2.1) (fun _ t => va_P G.1 vwCl (wl G ad f.2.2 M O) t.heap) A) (XQ G A ad M O f) args s mc ms A
abbrev TQV (below : List Frame) (args : Array Value) (s : State) (G : GT) (A : Nat → Prop) (ad : Nat → Nat) (M : StM) (O : StO) (f : Nat × Int32 × StB) (mc ms : Nat) : State → Prop := vx_MQ below (va_Qv (fun (_ : Unit) => f.1 = 0) (fun _ t => va_P G.1 vwCl (wl G ad f.2.2 M O) t.heap) A) (XQ G A ad M O f) args s mc ms A

theorem xt_zret (C : CX p l s m args meth c A G ad cc own nL ret) {v : Int32} {ty : FieldType} {f : Nat × Int32 × StB} {mc ms : Nat} (hr : ret = some ty) (hn : narrow ty (.int v) = .int v) (h : f = (0, v, B)) (hc : cells ≤ mc) (hs : slots ≤ ms) (d : decode cc pc = .ok (.ireturn, 1)) : X p l e R s m args below meth c A G ad nL cells slots (TQ below args s G A ad M O f mc ms) B M O ls (pc) ([.int v]) := fun H locs la hP hS hl => by
  subst h
  refine vx_ret (W.widen hc hs ?_)
  exact W.zret (v := v) C.1 C.2.1 (C.2.2.2.2.2.2.2.2.1.trans hr) hn (fun t ht hW => ⟨⟨v, (), rfl, ⟨rfl, rfl⟩, by subst ht; exact hP⟩, hS.F ht⟩) hS.2.2 d C.2.2.2.2.2.2.2.2.2.1
theorem xt_vret (C : CX p l s m args meth c A G ad cc own nL ret) {f : Nat × Int32 × StB} {mc ms : Nat} {r9 : Int32} (hr : ret = none) (h : f = (0, r9, B)) (hc : cells ≤ mc) (hs : slots ≤ ms) (d : decode cc pc = .ok (.return_, 1)) : X p l e R s m args below meth c A G ad nL cells slots (TQV below args s G A ad M O f mc ms) B M O ls (pc) ([]) := fun H locs la hP hS hl => by
  subst h
  refine vx_ret (W.widen hc hs ?_)
  exact W.vret C.1 C.2.1 (C.2.2.2.2.2.2.2.2.1.trans hr) (fun t ht hW => ⟨⟨(), rfl, rfl, by subst ht; exact hP⟩, hS.F ht⟩) hS.2.2 d C.2.2.2.2.2.2.2.2.2.1
theorem xt_throw (C : CX p l s m args meth c A G ad cc own nL ret) {Qc : Array Value → State → Outcome → State → Prop} {f : Nat × Int32 × StB} {mc ms k ik ic : Nat} {r9 : Int32} (hE : ∀ x ∈ c.exceptionTable.toList, False) (h : f = (k, r9, B)) (hk0 : k ≠ 0) (hfit : Bundle.fit (exN k) = true) (hk : Cond.classLink own ik (exN k) ∈ TT) (hi : Cond.initialized (exN k) ∈ TT) (hg : ∀ w ∈ (vx_at0 own ic (exN k) chainN).filter goodWord, w ∈ TT) (hb : ∀ w ∈ (vx_at0 own ic (exN k) chainN).filter (fun w => !goodWord w), w ∈ badW) (ho : ∀ w ∈ Cond.classLink own ik (exN k) :: Cond.initialized (exN k) :: vx_at0 own ic (exN k) chainN, vx_ot w = true)
  (d0 : decode cc pc = .ok (.new ik, 3)) (d3 : decode cc (pc + 3) = .ok (.dup, 1)) (d4 : decode cc (pc + 4) = .ok (.invokespecial ic, 3)) (d7 : decode cc (pc + 7) = .ok (.athrow, 1)) (hRf : 5 < R.frames) (hRl : (rest.map fun v => v.category).sum + 81 ≤ R.locals) (hRc : cells + 1 ≤ R.cells ∧ slots + 6 ≤ R.slots) (hc : cells + 1 ≤ mc) (hs : slots + 6 ≤ ms) : X p l e R s m args below meth c A G ad nL cells slots (vx_MQ below Qc (XQ G A ad M O f) args s mc ms A) B M O ls (pc) (rest) := fun H locs la hP hS hl => by
  subst h
  refine vx_throw0 (names := chainN) C.1 C.2.1 C.2.2.2.2.2.2.2.1.1 C.2.2.2.1 hfit (by decide +kernel) (C.2.2.2.2.1 _ hk) (C.2.2.2.2.1 _ hi) (vx_hat (B := badW) (fun w h => C.2.2.2.2.1 _ (hg w h)) hb (bad_at C.2.2.2.2.2.2.1)) ho C.2.2.2.2.2.2.1.1 C.2.2.2.2.2.2.1.2.1 hS (hl.1.trans C.2.2.1.symm) d0 d3 d4 d7 (fun x hx => (hE x hx).elim) hRf hRl hRc.1 hRc.2 C.2.2.2.2.2.2.2.2.2.1 (fun t ht hz hq => ?_) hS.2.2 hc hs
  refine ⟨(), hk0, ⟨rfl, hP.kept (fun k2 q2 hk2 => hq _ (hP k2 q2 hk2).lt)⟩, ?_⟩
  exact ⟨Nat.le_trans hS.1 hz, fun q h1 h2 => (hq q (Nat.lt_of_lt_of_le h1 hS.1)).trans (hS.2.1 q h1 h2)⟩
theorem xt_cIV (C : CX p l s m args meth c A G ad cc own nL ret) {Qc : Array Value → State → Outcome → State → Prop} {f f0 : Nat × Int32 × StB} {mc ms : Nat} {y : MethodName} {cd : ByteArray} {ml d0 mc0 ms0 idx n : Nat} {rt : Option FieldType} {as : List Value} {q ci N : Nat} {T : u_T} {fs : List Value} (hE : ∀ x ∈ c.exceptionTable.toList, False) (hM : TMet l y (wof y cd ml rt) (rmd d0 mc0 ms0) (.ref (ad q) :: as) G A ad B M O f0 mc0 ms0) (hr : q < 193 + G.2.2.2.2 3 ∧ ent G ad B M O q = .inr (ci, fs)) (hc : vwCl[ci]? = some (y.cls, T, N)) (cv : CardV y) (cd0 : Card y cd ml rt n) (hl0 : Cond.methodLink own idx y ∈ TT) (hR : d0 + 1 ≤ R.frames ∧ 8 + (ml + 11) + 48 * d0 ≤ R.locals) (hf : cells + mc0 ≤ R.cells ∧ slots + ms0 ≤ R.slots) (hfm : cells + mc0 ≤ mc ∧ slots + ms0 ≤ ms) (hn : as.length = n) (hst : stk = as.reverse ++ .ref (ad q) :: rest) (hcat : (rest.map fun v => v.category).sum ≤ 8) (d : decode cc pc = .ok (.invokevirtual idx, 3)) (kx : ∀ z : Nat × Int32 × StB, z = f0 → ¬ z.1 = 0 → f = (z.1, 0, z.2.2)) (k : ∀ z : Nat × Int32 × StB, z = f0 → z.1 = 0 → X p l e R s m args below meth c A G ad nL (cells + mc0) (slots + ms0) (vx_MQ below Qc (XQ G A ad M O f) args s mc ms A) z.2.2 M O ls (pc + 3) (.int z.2.1 :: rest)) : X p l e R s m args below meth c A G ad nL cells slots (vx_MQ below Qc (XQ G A ad M O f) args s mc ms A) B M O ls (pc) (stk) := by
  intro H locs la hP hS hl
  refine vx_calli (vx_runV (As := as) (b := ad q) (rest := rest) ⟨C.1, C.2.1, C.2.2.1, C.2.2.2.1, C.2.2.2.2.1⟩ hM ⟨⟨rfl, rfl, hR.1, hR.2, pay_in (big := TT) C.2.2.2.2.1 (fun w h => by rcases List.mem_cons.mp h with h | h; (rw [h]; exact ⟨cd0.1, good_of_word (tt_good _ cd0.1)⟩); exact ⟨h, good_of_word (tt_good _ h)⟩), List.mem_cons_self, C.2.2.2.2.1 _ cd0.1, C.2.2.2.2.1 _ cd0.2.1, ⟨cd0.2.2.1, cd0.2.2.2.1⟩, fun sig h => by have h2 := cd0.2.2.2.2; rw [h] at h2; exact (Option.some.inj h2).symm, C.2.2.2.2.1 _ hl0⟩, C.2.2.2.2.1 _ cv.1, C.2.2.2.2.1 _ cv.2⟩ ⟨pw_blind, va_recv C.2.2.2.2.2.1 hP hc (wl_at hr), fun U hU hW => ⟨rfl, by rw [hU]; exact hP, va_K.moved hW.alike C.2.2.2.2.2.1, fx_step C.2.2.2.2.2.2.1 hS hU hW, fun z hz => C.2.2.2.2.2.2.2.2.2.2 z (Nat.le_trans hS.1 (by rw [hU] at hz; exact hz))⟩⟩ rfl hn hl.1 hst (lv_room hcat) d hf) hS (fun _ _ h => h) (fun _ h => h) (fun _ _ h => h) (fun E ce q9 u t H1 locs1 ht hvm hpx hBX hz1 hk1 hS1 hq9 hce hcl => ?_) (fun r u t H1 locs1 ht hvm hw hB hz1 hk1 hS1 => ?_)
  · obtain ⟨rfl, hB⟩ := hBX
    rw [ht] at hB
    have e1 := kx f0 rfl hpx
    subst e1
    exact vx_out (fun x hx => (hE x hx).elim) C.2.2.2.2.2.2.2.2.2.1 hq9 hce hcl (fun t2 ht2 hv2 => ⟨(), hpx, ⟨rfl, by rw [ht2]; exact hB⟩, hS1.F ht2⟩) hS1.2.2 hfm.1 hfm.2
  · rw [ht] at hB
    obtain ⟨hw, rfl⟩ := hw
    exact k f0 rfl hw H1 locs1 la hB hS1 hl
theorem xt_cIS (C : CX p l s m args meth c A G ad cc own nL ret) {Qc : Array Value → State → Outcome → State → Prop} {f f0 : Nat × Int32 × StB} {mc ms : Nat} {y : MethodName} {cd : ByteArray} {ml d0 mc0 ms0 idx n : Nat} {rt : Option FieldType} {as : List Value}  (hE : ∀ x ∈ c.exceptionTable.toList, False) (hM : TMet l y (wof y cd ml rt) (rmd d0 mc0 ms0) (as) G A ad B M O f0 mc0 ms0) (cv : Cond.static y ∈ TT) (cd0 : Card y cd ml rt n) (hl0 : Cond.methodLink own idx y ∈ TT) (hR : d0 + 1 ≤ R.frames ∧ 8 + (ml + 11) + 48 * d0 ≤ R.locals) (hf : cells + mc0 ≤ R.cells ∧ slots + ms0 ≤ R.slots) (hfm : cells + mc0 ≤ mc ∧ slots + ms0 ≤ ms) (hn : as.length = n) (hst : stk = as.reverse ++ rest) (hcat : (rest.map fun v => v.category).sum ≤ 8) (d : decode cc pc = .ok (.invokestatic idx, 3)) (kx : ∀ z : Nat × Int32 × StB, z = f0 → ¬ z.1 = 0 → f = (z.1, 0, z.2.2)) (k : ∀ z : Nat × Int32 × StB, z = f0 → z.1 = 0 → X p l e R s m args below meth c A G ad nL (cells + mc0) (slots + ms0) (vx_MQ below Qc (XQ G A ad M O f) args s mc ms A) z.2.2 M O ls (pc + 3) (.int z.2.1 :: rest)) : X p l e R s m args below meth c A G ad nL cells slots (vx_MQ below Qc (XQ G A ad M O f) args s mc ms A) B M O ls (pc) (stk) := by
  intro H locs la hP hS hl
  refine vx_calli (vx_runS (As := as) (rest := rest) ⟨C.1, C.2.1, C.2.2.1, C.2.2.2.1, C.2.2.2.2.1⟩ hM ⟨⟨rfl, rfl, hR.1, hR.2, pay_in (big := TT) C.2.2.2.2.1 (fun w h => by rcases List.mem_cons.mp h with h | h; (rw [h]; exact ⟨cd0.1, good_of_word (tt_good _ cd0.1)⟩); exact ⟨h, good_of_word (tt_good _ h)⟩), List.mem_cons_self, C.2.2.2.2.1 _ cd0.1, C.2.2.2.2.1 _ cd0.2.1, ⟨cd0.2.2.1, cd0.2.2.2.1⟩, fun sig h => by have h2 := cd0.2.2.2.2; rw [h] at h2; exact (Option.some.inj h2).symm, C.2.2.2.2.1 _ hl0⟩, C.2.2.2.2.1 _ cv⟩ ⟨pw_blind, fun U hU hW => ⟨rfl, by rw [hU]; exact hP, va_K.moved hW.alike C.2.2.2.2.2.1, fx_step C.2.2.2.2.2.2.1 hS hU hW, fun z hz => C.2.2.2.2.2.2.2.2.2.2 z (Nat.le_trans hS.1 (by rw [hU] at hz; exact hz))⟩⟩ rfl hn hl.1 hst (lv_room hcat) d hf) hS (fun _ _ h => h) (fun _ h => h) (fun _ _ h => h) (fun E ce q9 u t H1 locs1 ht hvm hpx hBX hz1 hk1 hS1 hq9 hce hcl => ?_) (fun r u t H1 locs1 ht hvm hw hB hz1 hk1 hS1 => ?_)
  · obtain ⟨rfl, hB⟩ := hBX
    rw [ht] at hB
    have e1 := kx f0 rfl hpx
    subst e1
    exact vx_out (fun x hx => (hE x hx).elim) C.2.2.2.2.2.2.2.2.2.1 hq9 hce hcl (fun t2 ht2 hv2 => ⟨(), hpx, ⟨rfl, by rw [ht2]; exact hB⟩, hS1.F ht2⟩) hS1.2.2 hfm.1 hfm.2
  · rw [ht] at hB
    obtain ⟨hw, rfl⟩ := hw
    exact k f0 rfl hw H1 locs1 la hB hS1 hl
theorem xt_cVV (C : CX p l s m args meth c A G ad cc own nL ret) {Qc : Array Value → State → Outcome → State → Prop} {f f0 : Nat × Int32 × StB} {mc ms : Nat} {y : MethodName} {cd : ByteArray} {ml d0 mc0 ms0 idx n : Nat} {rt : Option FieldType} {as : List Value} {q ci N : Nat} {T : u_T} {fs : List Value} (hE : ∀ x ∈ c.exceptionTable.toList, False) (hM : TMetV l y (wof y cd ml rt) (rmd d0 mc0 ms0) (.ref (ad q) :: as) G A ad B M O f0 mc0 ms0) (hr : q < 193 + G.2.2.2.2 3 ∧ ent G ad B M O q = .inr (ci, fs)) (hc : vwCl[ci]? = some (y.cls, T, N)) (cv : CardV y) (cd0 : Card y cd ml rt n) (hl0 : Cond.methodLink own idx y ∈ TT) (hR : d0 + 1 ≤ R.frames ∧ 8 + (ml + 11) + 48 * d0 ≤ R.locals) (hf : cells + mc0 ≤ R.cells ∧ slots + ms0 ≤ R.slots) (hfm : cells + mc0 ≤ mc ∧ slots + ms0 ≤ ms) (hn : as.length = n) (hst : stk = as.reverse ++ .ref (ad q) :: rest) (hcat : (rest.map fun v => v.category).sum ≤ 8) (d : decode cc pc = .ok (.invokevirtual idx, 3)) (kx : ∀ z : Nat × Int32 × StB, z = f0 → ¬ z.1 = 0 → f = (z.1, 0, z.2.2)) (k : ∀ z : Nat × Int32 × StB, z = f0 → z.1 = 0 → X p l e R s m args below meth c A G ad nL (cells + mc0) (slots + ms0) (vx_MQ below Qc (XQ G A ad M O f) args s mc ms A) z.2.2 M O ls (pc + 3) (rest)) : X p l e R s m args below meth c A G ad nL cells slots (vx_MQ below Qc (XQ G A ad M O f) args s mc ms A) B M O ls (pc) (stk) := by
  intro H locs la hP hS hl
  refine vx_callv (vx_runV (As := as) (b := ad q) (rest := rest) ⟨C.1, C.2.1, C.2.2.1, C.2.2.2.1, C.2.2.2.2.1⟩ hM ⟨⟨rfl, rfl, hR.1, hR.2, pay_in (big := TT) C.2.2.2.2.1 (fun w h => by rcases List.mem_cons.mp h with h | h; (rw [h]; exact ⟨cd0.1, good_of_word (tt_good _ cd0.1)⟩); exact ⟨h, good_of_word (tt_good _ h)⟩), List.mem_cons_self, C.2.2.2.2.1 _ cd0.1, C.2.2.2.2.1 _ cd0.2.1, ⟨cd0.2.2.1, cd0.2.2.2.1⟩, fun sig h => by have h2 := cd0.2.2.2.2; rw [h] at h2; exact (Option.some.inj h2).symm, C.2.2.2.2.1 _ hl0⟩, C.2.2.2.2.1 _ cv.1, C.2.2.2.2.1 _ cv.2⟩ ⟨pw_blind, va_recv C.2.2.2.2.2.1 hP hc (wl_at hr), fun U hU hW => ⟨rfl, by rw [hU]; exact hP, va_K.moved hW.alike C.2.2.2.2.2.1, fx_step C.2.2.2.2.2.2.1 hS hU hW, fun z hz => C.2.2.2.2.2.2.2.2.2.2 z (Nat.le_trans hS.1 (by rw [hU] at hz; exact hz))⟩⟩ rfl hn hl.1 hst (lv_room hcat) d hf) hS (fun _ _ h => h) (fun _ h => h) (fun _ _ h => h) (fun E ce q9 u t H1 locs1 ht hvm hpx hBX hz1 hk1 hS1 hq9 hce hcl => ?_) (fun u t H1 locs1 ht hvm hw hB hz1 hk1 hS1 => ?_)
  · obtain ⟨rfl, hB⟩ := hBX
    rw [ht] at hB
    have e1 := kx f0 rfl hpx
    subst e1
    exact vx_out (fun x hx => (hE x hx).elim) C.2.2.2.2.2.2.2.2.2.1 hq9 hce hcl (fun t2 ht2 hv2 => ⟨(), hpx, ⟨rfl, by rw [ht2]; exact hB⟩, hS1.F ht2⟩) hS1.2.2 hfm.1 hfm.2
  · rw [ht] at hB
    skip
    exact k f0 rfl hw H1 locs1 la hB hS1 hl
theorem xt_cVS (C : CX p l s m args meth c A G ad cc own nL ret) {Qc : Array Value → State → Outcome → State → Prop} {f f0 : Nat × Int32 × StB} {mc ms : Nat} {y : MethodName} {cd : ByteArray} {ml d0 mc0 ms0 idx n : Nat} {rt : Option FieldType} {as : List Value}  (hE : ∀ x ∈ c.exceptionTable.toList, False) (hM : TMetV l y (wof y cd ml rt) (rmd d0 mc0 ms0) (as) G A ad B M O f0 mc0 ms0) (cv : Cond.static y ∈ TT) (cd0 : Card y cd ml rt n) (hl0 : Cond.methodLink own idx y ∈ TT) (hR : d0 + 1 ≤ R.frames ∧ 8 + (ml + 11) + 48 * d0 ≤ R.locals) (hf : cells + mc0 ≤ R.cells ∧ slots + ms0 ≤ R.slots) (hfm : cells + mc0 ≤ mc ∧ slots + ms0 ≤ ms) (hn : as.length = n) (hst : stk = as.reverse ++ rest) (hcat : (rest.map fun v => v.category).sum ≤ 8) (d : decode cc pc = .ok (.invokestatic idx, 3)) (kx : ∀ z : Nat × Int32 × StB, z = f0 → ¬ z.1 = 0 → f = (z.1, 0, z.2.2)) (k : ∀ z : Nat × Int32 × StB, z = f0 → z.1 = 0 → X p l e R s m args below meth c A G ad nL (cells + mc0) (slots + ms0) (vx_MQ below Qc (XQ G A ad M O f) args s mc ms A) z.2.2 M O ls (pc + 3) (rest)) : X p l e R s m args below meth c A G ad nL cells slots (vx_MQ below Qc (XQ G A ad M O f) args s mc ms A) B M O ls (pc) (stk) := by
  intro H locs la hP hS hl
  refine vx_callv (vx_runS (As := as) (rest := rest) ⟨C.1, C.2.1, C.2.2.1, C.2.2.2.1, C.2.2.2.2.1⟩ hM ⟨⟨rfl, rfl, hR.1, hR.2, pay_in (big := TT) C.2.2.2.2.1 (fun w h => by rcases List.mem_cons.mp h with h | h; (rw [h]; exact ⟨cd0.1, good_of_word (tt_good _ cd0.1)⟩); exact ⟨h, good_of_word (tt_good _ h)⟩), List.mem_cons_self, C.2.2.2.2.1 _ cd0.1, C.2.2.2.2.1 _ cd0.2.1, ⟨cd0.2.2.1, cd0.2.2.2.1⟩, fun sig h => by have h2 := cd0.2.2.2.2; rw [h] at h2; exact (Option.some.inj h2).symm, C.2.2.2.2.1 _ hl0⟩, C.2.2.2.2.1 _ cv⟩ ⟨pw_blind, fun U hU hW => ⟨rfl, by rw [hU]; exact hP, va_K.moved hW.alike C.2.2.2.2.2.1, fx_step C.2.2.2.2.2.2.1 hS hU hW, fun z hz => C.2.2.2.2.2.2.2.2.2.2 z (Nat.le_trans hS.1 (by rw [hU] at hz; exact hz))⟩⟩ rfl hn hl.1 hst (lv_room hcat) d hf) hS (fun _ _ h => h) (fun _ h => h) (fun _ _ h => h) (fun E ce q9 u t H1 locs1 ht hvm hpx hBX hz1 hk1 hS1 hq9 hce hcl => ?_) (fun u t H1 locs1 ht hvm hw hB hz1 hk1 hS1 => ?_)
  · obtain ⟨rfl, hB⟩ := hBX
    rw [ht] at hB
    have e1 := kx f0 rfl hpx
    subst e1
    exact vx_out (fun x hx => (hE x hx).elim) C.2.2.2.2.2.2.2.2.2.1 hq9 hce hcl (fun t2 ht2 hv2 => ⟨(), hpx, ⟨rfl, by rw [ht2]; exact hB⟩, hS1.F ht2⟩) hS1.2.2 hfm.1 hfm.2
  · rw [ht] at hB
    skip
    exact k f0 rfl hw H1 locs1 la hB hS1 hl
theorem vp_ix {i : Int32} {n : Nat} (h : vp_in i n) : ix i < n := Nat.not_le.mp fun q => h (Or.inr q)
theorem x_aald2 (C : CX p l s m args meth c A G ad cc own nL ret) {q n t0 a : Nat} {f : Nat → Option Nat} {cA : ClassId} {ty : FieldType} {i : Int32} (hty : ty.isReference = true) (he : q < 193 + G.2.2.2.2 3 ∧ ent G ad B M O q = .inl (cA, n, .inr (.inr (.inr (.inr f))))) (ht : (tyG G)[t0]? = some (cA, ty)) (hin : vp_in i n) (hf : f (ix i) = some a) (d : decode cc pc = .ok (.aaload, 1)) (k : X p l e R s m args below meth c A G ad nL cells slots Q B M O ls (pc + 1) (.ref a :: rest)) : X p l e R s m args below meth c A G ad nL cells slots Q B M O ls (pc) (.int i :: .ref (ad q) :: rest) := fun H locs la hP hS hl => by
  have hlt : i.toNatClampNeg < n := Nat.not_le.mp fun q => hin (Or.inr q)
  have hf : f i.toNatClampNeg = some a := hf
  refine W.aald (v := va_rf (f i.toNatClampNeg)) (ty := ty) C.1 C.2.1 (hP q _ (wl_at he)) ((C.2.2.2.2.2.1.2 t0 _ ht).1 n (fun j => va_rf (f j))) hty (fun q => by cases q) (by show ¬ (i < 0 ∨ (arrV _ _ _).slots.size ≤ _); rw [arrV_size]; exact hin) (by show (arrV _ _ _).slots[_]? = _; rw [arrV_read _ _ hlt]) rfl rfl d ?_
  rw [hf]
  exact k H locs la hP hS hl
theorem x_ldcK (C : CX p l s m args meth c A G ad cc own nL ret) {i idx : Nat} (hi : i < 9) (ho : kOwn.getD i "" = own) (hx : kIdx.getD i 0 = idx) (d : decode cc pc = .ok (.ldc idx, 2)) (k : X p l e R s m args below meth c A G ad nL cells slots Q B M O ls (pc + 2) (.ref (G.2.2.1 i) :: rest)) : X p l e R s m args below meth c A G ad nL cells slots Q B M O ls (pc) (rest) := fun H locs la hP hS hl =>
  va_ldcS C.1 C.2.1 C.2.2.2.1 (by have h := C.2.2.2.2.2.2.1.2.2.2.2.1 i hi; rw [ho, hx] at h; exact h) d (k H locs la hP hS hl)
theorem x_getKv (C : CX p l s m args meth c A G ad cc own nL ret) {i idx : Nat} (hi : i < 9) (hl0 : Cond.fieldLink own idx "java/lang/String" "value" "[B" ∈ TT) (d : decode cc pc = .ok (.getfield idx, 3)) (k : X p l e R s m args below meth c A G ad nL cells slots Q B M O ls (pc + 3) (.ref (G.2.2.2.1 i) :: rest)) : X p l e R s m args below meth c A G ad nL cells slots Q B M O ls (pc) (.ref (G.2.2.1 i) :: rest) := fun H locs la hP hS hl =>
  vk_getf C.1 C.2.1 (C.2.2.2.2.2.2.1.2.2.2.1.1 i hi).2.2.1 hS C.2.2.2.1 (C.2.2.2.2.1 _ hl0) (fun _ h => h) d (k H locs la hP hS hl)
theorem x_getKc (C : CX p l s m args meth c A G ad cc own nL ret) {i idx : Nat} (hi : i < 9) (hl0 : Cond.fieldLink own idx "java/lang/String" "coder" "B" ∈ TT) (d : decode cc pc = .ok (.getfield idx, 3)) (k : X p l e R s m args below meth c A G ad nL cells slots Q B M O ls (pc + 3) (.int 0 :: rest)) : X p l e R s m args below meth c A G ad nL cells slots Q B M O ls (pc) (.ref (G.2.2.1 i) :: rest) := fun H locs la hP hS hl =>
  vk_getf C.1 C.2.1 (C.2.2.2.2.2.2.1.2.2.2.1.1 i hi).2.1 hS C.2.2.2.1 (C.2.2.2.2.1 _ hl0) (fun _ h => h) d (k H locs la hP hS hl)
theorem x_baldK (C : CX p l s m args meth c A G ad cc own nL ret) {i : Nat} {x : Int32} (hi : i < 9) (hin : vp_in x (kLen.getD i 0)) (d : decode cc pc = .ok (.baload, 1)) (k : X p l e R s m args below meth c A G ad nL cells slots Q B M O ls (pc + 1) (.int ((kByt.getD i []).getD (ix x) 0) :: rest)) : X p l e R s m args below meth c A G ad nL cells slots Q B M O ls (pc) (.int x :: .ref (G.2.2.2.1 i) :: rest) := fun H locs la hP hS hl =>
  va_tb C.1 C.2.1 (C.2.2.2.2.2.2.1.2.2.2.1.1 i hi).2.2.2 hS hin rfl d (k H locs la hP hS hl)
theorem x_alenK (C : CX p l s m args meth c A G ad cc own nL ret) {i : Nat} (hi : i < 9) (d : decode cc pc = .ok (.arraylength, 1)) (k : X p l e R s m args below meth c A G ad nL cells slots Q B M O ls (pc + 1) (.int (Int32.ofNat (kLen.getD i 0)) :: rest)) : X p l e R s m args below meth c A G ad nL cells slots Q B M O ls (pc) (.ref (G.2.2.2.1 i) :: rest) := fun H locs la hP hS hl =>
  va_tlen C.1 C.2.1 (C.2.2.2.2.2.2.1.2.2.2.1.1 i hi).2.2.2 hS rfl d (k H locs la hP hS hl)
theorem x_getsC (C : CX p l s m args meth c A G ad cc own nL ret) {idx : Nat} (hl0 : Cond.fieldLink own idx "java/lang/String" "COMPACT_STRINGS" "Z" ∈ TT) (d : decode cc pc = .ok (.getstatic idx, 3)) (k : X p l e R s m args below meth c A G ad nL cells slots Q B M O ls (pc + 3) (.int 1 :: rest)) : X p l e R s m args below meth c A G ad nL cells slots Q B M O ls (pc) (rest) := fun H locs la hP hS hl =>
  va_gets C.1 C.2.1 C.2.2.2.2.2.2.1.2.2.1 hS C.2.2.2.1 (C.2.2.2.2.1 _ hl0) (fun _ h => h) d (k H locs la hP hS hl)
theorem x_cIVK (C : CX p l s m args meth c A G ad cc own nL ret) {y : MethodName} {cd : ByteArray} {ml d0 mc ms idx n i : Nat} {rt : Option FieldType} {as : List Value} {B1 : StB} {M1 : StM} {O1 : StO} {r0 : Int32} (hM : Met l y (wof y cd ml rt) (rmd d0 mc ms) (va_Pc (.ref (G.2.2.1 i) :: as) (PW G A ad B M O)) (QI G A ad r0 B1 M1 O1) mc ms A) (hi : i < 9) (hyc : y.cls = "java/lang/String") (cv : CardV y) (cd0 : Card y cd ml rt n) (hl0 : Cond.methodLink own idx y ∈ TT) (hR : d0 + 1 ≤ R.frames ∧ 8 + (ml + 11) + 48 * d0 ≤ R.locals) (hf : cells + mc ≤ R.cells ∧ slots + ms ≤ R.slots) (hn : as.length = n) (hst : stk = as.reverse ++ .ref (G.2.2.1 i) :: rest) (hcat : (rest.map fun v => v.category).sum ≤ 8) (d : decode cc pc = .ok (.invokevirtual idx, 3)) (k : X p l e R s m args below meth c A G ad nL (cells + mc) (slots + ms) Q B1 M1 O1 ls (pc + 3) (.int r0 :: rest)) : X p l e R s m args below meth c A G ad nL cells slots Q B M O ls (pc) (stk) := by
  intro H locs la hP hS hl
  refine va_calli (va_runV (As := as) (b := G.2.2.1 i) (rest := rest) ⟨C.1, C.2.1, C.2.2.1, C.2.2.2.1, C.2.2.2.2.1⟩ hM ⟨⟨rfl, rfl, hR.1, hR.2, pay_in (big := TT) C.2.2.2.2.1 (fun w h => by rcases List.mem_cons.mp h with h | h; (rw [h]; exact ⟨cd0.1, good_of_word (tt_good _ cd0.1)⟩); exact ⟨h, good_of_word (tt_good _ h)⟩), List.mem_cons_self, C.2.2.2.2.1 _ cd0.1, C.2.2.2.2.1 _ cd0.2.1, ⟨cd0.2.2.1, cd0.2.2.2.1⟩, fun sig h => by have h2 := cd0.2.2.2.2; rw [h] at h2; exact (Option.some.inj h2).symm, C.2.2.2.2.1 _ hl0⟩, C.2.2.2.2.1 _ cv.1, C.2.2.2.2.1 _ cv.2⟩ ⟨pw_blind, by rw [hyc]; exact vk_recv C.2.2.2.2.2.2.1.2.2.2.1 hi hS, fun U hU hW => ⟨rfl, by rw [hU]; exact hP, va_K.moved hW.alike C.2.2.2.2.2.1, fx_step C.2.2.2.2.2.2.1 hS hU hW, fun z hz => C.2.2.2.2.2.2.2.2.2.2 z (Nat.le_trans hS.1 (by rw [hU] at hz; exact hz))⟩⟩ rfl hn hl.1 hst (lv_room hcat) d hf) hS (fun _ _ h => h) (fun _ h => h) (fun r u t H1 locs1 ht hvm hw hB hz1 hk1 hS1 => ?_)
  subst hw
  rw [ht] at hB
  exact k H1 locs1 la hB hS1 hl
/-- an answer that is a text constant -/
def QK (G : GT) (A : Nat → Prop) (ad : Nat → Nat) (k0 : Nat) (B : StB) (M : StM) (O : StO) : Array Value → State → Outcome → State → Prop := va_Qr (fun (_ : Unit) => True) (fun _ a t => a = G.2.2.1 k0 ∧ va_P G.1 vwCl (wl G ad B M O) t.heap) A
theorem x_nmK {k0 : Nat} (k : ∀ z : Nat, z = k0 → X p l e R s m args below meth c A G ad nL cells slots Q B M O ls (pc) (.ref (G.2.2.1 z) :: rest)) : X p l e R s m args below meth c A G ad nL cells slots Q B M O ls (pc) (.ref (G.2.2.1 k0) :: rest) := k k0 rfl
theorem x_kret (C : CX p l s m args meth c A G ad cc own nL ret) {v r0 : Nat} (hr : ret = some (.object "java/lang/String")) (h : r0 = v) (d : decode cc pc = .ok (.areturn, 1)) : X p l e R s m args below meth c A G ad nL cells slots (MQ below (QK G A ad r0 B M O) args s cells slots A) B M O ls (pc) ([.ref (G.2.2.1 v)]) := fun H locs la hP hS hl => by
  subst h
  exact W.aret C.1 C.2.1 (C.2.2.2.2.2.2.2.2.1.trans hr) (Or.inl ⟨_, rfl⟩) (Or.inr ⟨_, rfl⟩) (fun t ht hW => ⟨⟨(), _, rfl, trivial, rfl, by subst ht; exact hP⟩, hS.F ht⟩) hS.2.2 d C.2.2.2.2.2.2.2.2.2.1
theorem x_cKS (C : CX p l s m args meth c A G ad cc own nL ret) {y : MethodName} {cd : ByteArray} {ml d0 mc ms idx n k0 : Nat} {rt : Option FieldType} {as : List Value} {B1 : StB} {M1 : StM} {O1 : StO} (hM : Met l y (wof y cd ml rt) (rmd d0 mc ms) (va_Pc as (PW G A ad B M O)) (QK G A ad k0 B1 M1 O1) mc ms A) (cv : Cond.static y ∈ TT) (cd0 : Card y cd ml rt n) (hl0 : Cond.methodLink own idx y ∈ TT) (hR : d0 + 1 ≤ R.frames ∧ 8 + (ml + 11) + 48 * d0 ≤ R.locals) (hf : cells + mc ≤ R.cells ∧ slots + ms ≤ R.slots) (hn : as.length = n) (hst : stk = as.reverse ++ rest) (hcat : (rest.map fun v => v.category).sum ≤ 8) (d : decode cc pc = .ok (.invokestatic idx, 3)) (k : X p l e R s m args below meth c A G ad nL (cells + mc) (slots + ms) Q B1 M1 O1 ls (pc + 3) (.ref (G.2.2.1 k0) :: rest)) : X p l e R s m args below meth c A G ad nL cells slots Q B M O ls (pc) (stk) := by
  intro H locs la hP hS hl
  refine va_callr (va_runS (As := as) (rest := rest) ⟨C.1, C.2.1, C.2.2.1, C.2.2.2.1, C.2.2.2.2.1⟩ hM ⟨⟨rfl, rfl, hR.1, hR.2, pay_in (big := TT) C.2.2.2.2.1 (fun w h => by rcases List.mem_cons.mp h with h | h; (rw [h]; exact ⟨cd0.1, good_of_word (tt_good _ cd0.1)⟩); exact ⟨h, good_of_word (tt_good _ h)⟩), List.mem_cons_self, C.2.2.2.2.1 _ cd0.1, C.2.2.2.2.1 _ cd0.2.1, ⟨cd0.2.2.1, cd0.2.2.2.1⟩, fun sig h => by have h2 := cd0.2.2.2.2; rw [h] at h2; exact (Option.some.inj h2).symm, C.2.2.2.2.1 _ hl0⟩, C.2.2.2.2.1 _ cv⟩ ⟨pw_blind, fun U hU hW => ⟨rfl, by rw [hU]; exact hP, va_K.moved hW.alike C.2.2.2.2.2.1, fx_step C.2.2.2.2.2.2.1 hS hU hW, fun z hz => C.2.2.2.2.2.2.2.2.2.2 z (Nat.le_trans hS.1 (by rw [hU] at hz; exact hz))⟩⟩ rfl hn hl.1 hst (lv_room hcat) d hf) hS (fun _ _ h => h) (fun _ h => h) (fun u ra t H1 locs1 ht hvm hw hB hz1 hk1 hS1 => ?_)
  obtain ⟨rfl, hB⟩ := hB
  rw [ht] at hB
  exact k H1 locs1 la hB hS1 hl
theorem x_i2b (C : CX p l s m args meth c A G ad cc own nL ret) {x : Int32} (d : decode cc pc = .ok (.i2b, 1))  (k : X p l e R s m args below meth c A G ad nL cells slots Q B M O ls (pc + 1) (.int (Int32.toInt8 x).toInt32 :: rest)) : X p l e R s m args below meth c A G ad nL cells slots Q B M O ls (pc) (.int x :: rest) := fun H locs la hP hS hl => lv_i2b C.1 C.2.1 d rfl (k H locs la hP hS hl)
theorem x_dup_x1 (C : CX p l s m args meth c A G ad cc own nL ret) {va vb : Value} (d : decode cc pc = .ok (.dup_x1, 1)) (hva : va.category = 1) (hvb : vb.category = 1) (k : X p l e R s m args below meth c A G ad nL cells slots Q B M O ls (pc + 1) (va :: vb :: va :: rest)) : X p l e R s m args below meth c A G ad nL cells slots Q B M O ls (pc) (va :: vb :: rest) := fun H locs la hP hS hl => lv_dup_x1 C.1 C.2.1 d hva hvb (k H locs la hP hS hl)
theorem x_getsQ (C : CX p l s m args meth c A G ad cc own nL ret) {idx : Nat} (hl0 : Cond.fieldLink own idx "jdk/internal/util/Preconditions" "SIOOBE_FORMATTER" "Ljava/util/function/BiFunction;" ∈ TT) (d : decode cc pc = .ok (.getstatic idx, 3)) (k : ∀ v : Value, (v = .null ∨ ∃ t, v = .ref t) → X p l e R s m args below meth c A G ad nL cells slots Q B M O ls (pc + 3) (v :: rest)) : X p l e R s m args below meth c A G ad nL cells slots Q B M O ls (pc) (rest) := fun H locs la hP hS hl => by
  rcases C.2.2.2.2.2.2.1.2.2.2.2.2.2.2.2.2.2.2.2.2.1 with h | ⟨t, h⟩
  · exact va_gets C.1 C.2.1 h hS C.2.2.2.1 (C.2.2.2.2.1 _ hl0) (fun _ h => h) d (k _ (Or.inl rfl) H locs la hP hS hl)
  · exact va_gets C.1 C.2.1 h hS C.2.2.2.1 (C.2.2.2.2.1 _ hl0) (fun _ h => h) d (k _ (Or.inr ⟨t, rfl⟩) H locs la hP hS hl)
theorem x_alen (C : CX p l s m args meth c A G ad cc own nL ret) {q t0 : Nat} {cA : ClassId} {x : vp_A} {ty : FieldType} (he : q < 193 + G.2.2.2.2 3 ∧ ent G ad B M O q = .inl (cA, x)) (ht : (tyG G)[t0]? = some (cA, ty)) (d : decode cc pc = .ok (.arraylength, 1)) (k : X p l e R s m args below meth c A G ad nL cells slots Q B M O ls (pc + 1) (.int (Int32.ofNat x.1) :: rest)) : X p l e R s m args below meth c A G ad nL cells slots Q B M O ls (pc) (.ref (ad q) :: rest) := fun H locs la hP hS hl =>
  va_alen C.1 C.2.1 C.2.2.2.2.2.1 hP q t0 (wl_at he) ht rfl d (k H locs la hP hS hl)
theorem xt_body {l : Launch} {A : Nat → Prop} {G : GT} {ad : Nat → Nat} {B : StB} {M : StM} {O : StO} {y : MethodName} {cc : ByteArray} {nL d0 mc ms : Nat} {ret : Option FieldType} {as : List Value} {Qc : Array Value → State → Outcome → State → Prop} {XC : String → State → State → Prop} {own : String} (hy : plainName y.cls = true) (ho : y.cls = own) (gl : Gl l A G ad) (hle : (lg_sl as).length ≤ nL) {ls : List (Nat × Value)} (hls : lv_args 0 as = ls)
  (body : ∀ p e s m args below meth c, (∀ x ∈ c.exceptionTable.toList, False) → CX p l s m args meth c A G ad cc own nL ret → X p l e (rmd d0 mc ms) s m args below meth c A G ad nL 0 0 (vx_MQ below Qc XC args s mc ms A) B M O ls 0 []) : vx_Met l y (wof y cc nL ret) (rmd d0 mc ms) (va_Pc as (PW G A ad B M O)) Qc XC mc ms A := by
  refine vx_ofW (cc := cc) (maxL := nL) (ret := ret) hy rfl ?_
  intro p e s m args below meth c s₁ B0 hml hE hv
  obtain ⟨rfl, hP, hK, hF, hA⟩ := hv
  have hts := atoms_spec (ws := wof y cc nL ret) B0.pre
  have K := body p e s m as.toArray below meth c hE ⟨B0.exec, B0.bytes, hml, by rw [← ho]; exact findClass_of_methodNamed B0.named, fun w h => hts w (List.mem_cons_of_mem _ h), hK, hF, gl, B0.returns, B0.notSynchronized, hA⟩ s.heap []
  rw [lg_entry_eq]
  exact K _ hP va_S.rf (by rw [← hls]; exact lv_entry as hle)
end XT
end
section
section XSB
variable {p : Program} {l : Launch} {e : Env} {R : Room} {s : State} {m : MethodId} {args : Array Value} {below : List Frame} {meth : Method} {c : Code} {cells slots : Nat} {Q : State → Prop}
variable {A : Nat → Prop} {G : GT} {ad : Nat → Nat} {cc : ByteArray} {own : String} {nL : Nat} {ret : Option FieldType} {B : StB} {M : StM} {O : StO} {ls : List (Nat × Value)} {pc : Nat} {rest stk : List Value}

def QR (G : GT) (A : Nat → Prop) (ad : Nat → Nat) (a0 : Nat) (B : StB) (M : StM) (O : StO) : Array Value → State → Outcome → State → Prop := va_Qr (fun (_ : Unit) => True) (fun _ a t => a = a0 ∧ va_P G.1 vwCl (wl G ad B M O) t.heap) A
def CardSU (own : String) (y : MethodName) : Prop := Cond.sameMethod y.cls y.cls y.name y.desc ∈ TT ∧ Cond.superclass own y.cls ∈ TT ∧ Cond.instanceMethod y ∈ TT ∧ y.name ≠ "<init>"
theorem sb_w4 : Cond.selects RJ4 ySBisL ySBisL ∈ TT := by decide +kernel
theorem sel_isL (C : CX p l s m args meth c A G ad cc own nL ret) : (Cond.selects RJ4 ySBisL ySBisL).before args s = true := C.2.2.2.2.1 _ sb_w4
theorem sel_ens (C : CX p l s m args meth c A G ad cc own nL ret) : (Cond.selects RJ4 ySBens ySBens).before args s = true := va_tabs (u := s) (A := #[]) rfl rfl C.2.2.2.2.2.2.1.2.2.2.2.2.2.2.2.2.2.2.2.2.2
/-- the private method's choice, out of the tables -/
theorem sel_ensOf (h1 : (Cond.instantiable RJ4 4).before args s = true) (h2 : (Cond.privateMethod ySBens).before args s = true) (h3 : (Cond.instanceMethod ySBens).before args s = true) (h4 : (Cond.selects RJ4 ySBisL ySBisL).before args s = true) (h5 : (Cond.instanceMethod ySBisL).before args s = true) : (Cond.selects RJ4 ySBens ySBens).before args s = true := by
  obtain ⟨c, k, hc, hk, -, hniab, -, -⟩ := Cond.instantiable_spec h1
  obtain ⟨mk, methM, hnamed, hmethM, -, -⟩ := Cond.instanceMethod_spec h3
  have hfound : s.methodFound? ySBens.cls ySBens.name ySBens.desc = some mk := State.methodFound?_of_named hnamed ⟨by decide, by decide⟩
  have hsel : selectMethod {} s.vm c mk = .method mk := selectMethod_private hmethM (Cond.privateMethod_at h2 mk methM hnamed hmethM)
  obtain ⟨c2, r2, m2, q1, q2, q3, q4, kP, hkP, hkPi⟩ := Cond.selects_spec h4
  obtain ⟨mL, methL, hnamedL, hmethL, -, -⟩ := Cond.instanceMethod_spec h5
  cases hnamedL.symm.trans q3
  have e1 := findClass_of_methodNamed hnamed
  have e2 := findClass_of_methodNamed hnamedL
  simp only [Cond.before, Cond.holds, Cond.value, hc, hfound, hnamed, hsel]
  rw [Option.some.inj (e1.symm.trans e2)]
  simp [hkP, hkPi]

theorem x_cIVU (C : CX p l s m args meth c A G ad cc own nL ret) {y : MethodName} {cd : ByteArray} {ml d0 mc ms idx n q ci N : Nat} {rt : Option FieldType} {as : List Value} {Cn : String} {T : u_T} {fs : List Value} {B1 : StB} {M1 : StM} {O1 : StO} {r0 : Int32} (hM : Met l y (wof y cd ml rt) (rmd d0 mc ms) (va_Pc (.ref (ad q) :: as) (PW G A ad B M O)) (QI G A ad r0 B1 M1 O1) mc ms A) (hr : q < 193 + G.2.2.2.2 3 ∧ ent G ad B M O q = .inr (ci, fs)) (hc : vwCl[ci]? = some (Cn, T, N)) (hsel : (Cond.selects Cn y y).before args s = true) (hi : Cond.instanceMethod y ∈ TT) (cd0 : Card y cd ml rt n) (hl0 : Cond.methodLink own idx y ∈ TT) (hR : d0 + 1 ≤ R.frames ∧ 8 + (ml + 11) + 48 * d0 ≤ R.locals) (hf : cells + mc ≤ R.cells ∧ slots + ms ≤ R.slots) (hn : as.length = n) (hst : stk = as.reverse ++ .ref (ad q) :: rest) (hcat : (rest.map fun v => v.category).sum ≤ 8) (d : decode cc pc = .ok (.invokevirtual idx, 3)) (k : X p l e R s m args below meth c A G ad nL (cells + mc) (slots + ms) Q B1 M1 O1 ls (pc + 3) (.int r0 :: rest)) : X p l e R s m args below meth c A G ad nL cells slots Q B M O ls (pc) (stk) := by
  intro H locs la hP hS hl
  refine va_calli (va_runV (C := Cn) (As := as) (b := ad q) (rest := rest) ⟨C.1, C.2.1, C.2.2.1, C.2.2.2.1, C.2.2.2.2.1⟩ hM ⟨⟨rfl, rfl, hR.1, hR.2, pay_in (big := TT) C.2.2.2.2.1 (fun w h => by rcases List.mem_cons.mp h with h | h; (rw [h]; exact ⟨cd0.1, good_of_word (tt_good _ cd0.1)⟩); exact ⟨h, good_of_word (tt_good _ h)⟩), List.mem_cons_self, C.2.2.2.2.1 _ cd0.1, C.2.2.2.2.1 _ cd0.2.1, ⟨cd0.2.2.1, cd0.2.2.2.1⟩, fun sig h => by have h2 := cd0.2.2.2.2; rw [h] at h2; exact (Option.some.inj h2).symm, C.2.2.2.2.1 _ hl0⟩, C.2.2.2.2.1 _ hi, hsel⟩ ⟨pw_blind, va_recv C.2.2.2.2.2.1 hP hc (wl_at hr), fun U hU hW => ⟨rfl, by rw [hU]; exact hP, va_K.moved hW.alike C.2.2.2.2.2.1, fx_step C.2.2.2.2.2.2.1 hS hU hW, fun z hz => C.2.2.2.2.2.2.2.2.2.2 z (Nat.le_trans hS.1 (by rw [hU] at hz; exact hz))⟩⟩ rfl hn hl.1 hst (lv_room hcat) d hf) hS (fun _ _ h => h) (fun _ h => h) (fun r u t H1 locs1 ht hvm hw hB hz1 hk1 hS1 => ?_)
  subst hw
  rw [ht] at hB
  exact k H1 locs1 la hB hS1 hl
theorem x_cISU (C : CX p l s m args meth c A G ad cc own nL ret) {y : MethodName} {cd : ByteArray} {ml d0 mc ms idx n q ci N : Nat} {rt : Option FieldType} {as : List Value} {Cn : String} {T : u_T} {fs : List Value} {B1 : StB} {M1 : StM} {O1 : StO} {r0 : Int32} (hM : Met l y (wof y cd ml rt) (rmd d0 mc ms) (va_Pc (.ref (ad q) :: as) (PW G A ad B M O)) (QI G A ad r0 B1 M1 O1) mc ms A) (hr : q < 193 + G.2.2.2.2 3 ∧ ent G ad B M O q = .inr (ci, fs)) (hc : vwCl[ci]? = some (Cn, T, N)) (cu : CardSU own y) (cd0 : Card y cd ml rt n) (hl0 : Cond.methodLink own idx y ∈ TT) (hR : d0 + 1 ≤ R.frames ∧ 8 + (ml + 11) + 48 * d0 ≤ R.locals) (hf : cells + mc ≤ R.cells ∧ slots + ms ≤ R.slots) (hn : as.length = n) (hst : stk = as.reverse ++ .ref (ad q) :: rest) (hcat : (rest.map fun v => v.category).sum ≤ 8) (d : decode cc pc = .ok (.invokespecial idx, 3)) (k : X p l e R s m args below meth c A G ad nL (cells + mc) (slots + ms) Q B1 M1 O1 ls (pc + 3) (.int r0 :: rest)) : X p l e R s m args below meth c A G ad nL cells slots Q B M O ls (pc) (stk) := by
  intro H locs la hP hS hl
  have cb : CallB R s args own idx y cd ml rt (wof y cd ml rt) (rmd d0 mc ms) mc ms n := ⟨rfl, rfl, hR.1, hR.2, pay_in (big := TT) C.2.2.2.2.1 (fun w h => by rcases List.mem_cons.mp h with h | h; (rw [h]; exact ⟨cd0.1, good_of_word (tt_good _ cd0.1)⟩); exact ⟨h, good_of_word (tt_good _ h)⟩), List.mem_cons_self, C.2.2.2.2.1 _ cd0.1, C.2.2.2.2.1 _ cd0.2.1, ⟨cd0.2.2.1, cd0.2.2.2.1⟩, fun sig h => by have h2 := cd0.2.2.2.2; rw [h] at h2; exact (Option.some.inj h2).symm, C.2.2.2.2.1 _ hl0⟩
  refine va_calli (va_runSU (C := Cn) (As := as) (b := ad q) (rest := rest) (C.2.2.2.2.2.1.1 ci _ hc).2 ⟨C.1, C.2.1, C.2.2.1, C.2.2.2.1, C.2.2.2.2.1⟩ hM ⟨⟨cb.1, cb.2.1, cb.2.2.1, cb.2.2.2.1, cb.2.2.2.2.1, cb.2.2.2.2.2.1⟩, C.2.2.2.2.1 _ hl0, C.2.2.2.2.1 _ cu.1, C.2.2.2.2.1 _ cu.2.1, C.2.2.2.2.1 _ cu.2.2.1, C.2.2.2.2.1 _ cd0.2.1, C.2.2.2.2.1 _ cd0.1, cu.2.2.2, cb.2.2.2.2.2.2.2.2.2.1⟩ ⟨pw_blind, va_recv C.2.2.2.2.2.1 hP hc (wl_at hr), fun U hU hW => ⟨rfl, by rw [hU]; exact hP, va_K.moved hW.alike C.2.2.2.2.2.1, fx_step C.2.2.2.2.2.2.1 hS hU hW, fun z hz => C.2.2.2.2.2.2.2.2.2.2 z (Nat.le_trans hS.1 (by rw [hU] at hz; exact hz))⟩⟩ rfl hn hl.1 hst (lv_room hcat) d hf) hS (fun _ _ h => h) (fun _ h => h) (fun r u t H1 locs1 ht hvm hw hB hz1 hk1 hS1 => ?_)
  subst hw
  rw [ht] at hB
  exact k H1 locs1 la hB hS1 hl
theorem x_cVVU (C : CX p l s m args meth c A G ad cc own nL ret) {y : MethodName} {cd : ByteArray} {ml d0 mc ms idx n q ci N : Nat} {rt : Option FieldType} {as : List Value} {Cn : String} {T : u_T} {fs : List Value} {B1 : StB} {M1 : StM} {O1 : StO}  (hM : Met l y (wof y cd ml rt) (rmd d0 mc ms) (va_Pc (.ref (ad q) :: as) (PW G A ad B M O)) (QV G A ad B1 M1 O1) mc ms A) (hr : q < 193 + G.2.2.2.2 3 ∧ ent G ad B M O q = .inr (ci, fs)) (hc : vwCl[ci]? = some (Cn, T, N)) (hsel : (Cond.selects Cn y y).before args s = true) (hi : Cond.instanceMethod y ∈ TT) (cd0 : Card y cd ml rt n) (hl0 : Cond.methodLink own idx y ∈ TT) (hR : d0 + 1 ≤ R.frames ∧ 8 + (ml + 11) + 48 * d0 ≤ R.locals) (hf : cells + mc ≤ R.cells ∧ slots + ms ≤ R.slots) (hn : as.length = n) (hst : stk = as.reverse ++ .ref (ad q) :: rest) (hcat : (rest.map fun v => v.category).sum ≤ 8) (d : decode cc pc = .ok (.invokevirtual idx, 3)) (k : X p l e R s m args below meth c A G ad nL (cells + mc) (slots + ms) Q B1 M1 O1 ls (pc + 3) (rest)) : X p l e R s m args below meth c A G ad nL cells slots Q B M O ls (pc) (stk) := by
  intro H locs la hP hS hl
  refine va_callv (va_runV (C := Cn) (As := as) (b := ad q) (rest := rest) ⟨C.1, C.2.1, C.2.2.1, C.2.2.2.1, C.2.2.2.2.1⟩ hM ⟨⟨rfl, rfl, hR.1, hR.2, pay_in (big := TT) C.2.2.2.2.1 (fun w h => by rcases List.mem_cons.mp h with h | h; (rw [h]; exact ⟨cd0.1, good_of_word (tt_good _ cd0.1)⟩); exact ⟨h, good_of_word (tt_good _ h)⟩), List.mem_cons_self, C.2.2.2.2.1 _ cd0.1, C.2.2.2.2.1 _ cd0.2.1, ⟨cd0.2.2.1, cd0.2.2.2.1⟩, fun sig h => by have h2 := cd0.2.2.2.2; rw [h] at h2; exact (Option.some.inj h2).symm, C.2.2.2.2.1 _ hl0⟩, C.2.2.2.2.1 _ hi, hsel⟩ ⟨pw_blind, va_recv C.2.2.2.2.2.1 hP hc (wl_at hr), fun U hU hW => ⟨rfl, by rw [hU]; exact hP, va_K.moved hW.alike C.2.2.2.2.2.1, fx_step C.2.2.2.2.2.2.1 hS hU hW, fun z hz => C.2.2.2.2.2.2.2.2.2.2 z (Nat.le_trans hS.1 (by rw [hU] at hz; exact hz))⟩⟩ rfl hn hl.1 hst (lv_room hcat) d hf) hS (fun _ _ h => h) (fun _ h => h) (fun u t H1 locs1 ht hvm hw hB hz1 hk1 hS1 => ?_)
  skip
  rw [ht] at hB
  exact k H1 locs1 la hB hS1 hl
theorem x_cVSU (C : CX p l s m args meth c A G ad cc own nL ret) {y : MethodName} {cd : ByteArray} {ml d0 mc ms idx n q ci N : Nat} {rt : Option FieldType} {as : List Value} {Cn : String} {T : u_T} {fs : List Value} {B1 : StB} {M1 : StM} {O1 : StO}  (hM : Met l y (wof y cd ml rt) (rmd d0 mc ms) (va_Pc (.ref (ad q) :: as) (PW G A ad B M O)) (QV G A ad B1 M1 O1) mc ms A) (hr : q < 193 + G.2.2.2.2 3 ∧ ent G ad B M O q = .inr (ci, fs)) (hc : vwCl[ci]? = some (Cn, T, N)) (cu : CardSU own y) (cd0 : Card y cd ml rt n) (hl0 : Cond.methodLink own idx y ∈ TT) (hR : d0 + 1 ≤ R.frames ∧ 8 + (ml + 11) + 48 * d0 ≤ R.locals) (hf : cells + mc ≤ R.cells ∧ slots + ms ≤ R.slots) (hn : as.length = n) (hst : stk = as.reverse ++ .ref (ad q) :: rest) (hcat : (rest.map fun v => v.category).sum ≤ 8) (d : decode cc pc = .ok (.invokespecial idx, 3)) (k : X p l e R s m args below meth c A G ad nL (cells + mc) (slots + ms) Q B1 M1 O1 ls (pc + 3) (rest)) : X p l e R s m args below meth c A G ad nL cells slots Q B M O ls (pc) (stk) := by
  intro H locs la hP hS hl
  have cb : CallB R s args own idx y cd ml rt (wof y cd ml rt) (rmd d0 mc ms) mc ms n := ⟨rfl, rfl, hR.1, hR.2, pay_in (big := TT) C.2.2.2.2.1 (fun w h => by rcases List.mem_cons.mp h with h | h; (rw [h]; exact ⟨cd0.1, good_of_word (tt_good _ cd0.1)⟩); exact ⟨h, good_of_word (tt_good _ h)⟩), List.mem_cons_self, C.2.2.2.2.1 _ cd0.1, C.2.2.2.2.1 _ cd0.2.1, ⟨cd0.2.2.1, cd0.2.2.2.1⟩, fun sig h => by have h2 := cd0.2.2.2.2; rw [h] at h2; exact (Option.some.inj h2).symm, C.2.2.2.2.1 _ hl0⟩
  refine va_callv (va_runSU (C := Cn) (As := as) (b := ad q) (rest := rest) (C.2.2.2.2.2.1.1 ci _ hc).2 ⟨C.1, C.2.1, C.2.2.1, C.2.2.2.1, C.2.2.2.2.1⟩ hM ⟨⟨cb.1, cb.2.1, cb.2.2.1, cb.2.2.2.1, cb.2.2.2.2.1, cb.2.2.2.2.2.1⟩, C.2.2.2.2.1 _ hl0, C.2.2.2.2.1 _ cu.1, C.2.2.2.2.1 _ cu.2.1, C.2.2.2.2.1 _ cu.2.2.1, C.2.2.2.2.1 _ cd0.2.1, C.2.2.2.2.1 _ cd0.1, cu.2.2.2, cb.2.2.2.2.2.2.2.2.2.1⟩ ⟨pw_blind, va_recv C.2.2.2.2.2.1 hP hc (wl_at hr), fun U hU hW => ⟨rfl, by rw [hU]; exact hP, va_K.moved hW.alike C.2.2.2.2.2.1, fx_step C.2.2.2.2.2.2.1 hS hU hW, fun z hz => C.2.2.2.2.2.2.2.2.2.2 z (Nat.le_trans hS.1 (by rw [hU] at hz; exact hz))⟩⟩ rfl hn hl.1 hst (lv_room hcat) d hf) hS (fun _ _ h => h) (fun _ h => h) (fun u t H1 locs1 ht hvm hw hB hz1 hk1 hS1 => ?_)
  skip
  rw [ht] at hB
  exact k H1 locs1 la hB hS1 hl
theorem x_cRVU (C : CX p l s m args meth c A G ad cc own nL ret) {y : MethodName} {cd : ByteArray} {ml d0 mc ms idx n q ci N : Nat} {rt : Option FieldType} {as : List Value} {Cn : String} {T : u_T} {fs : List Value} {B1 : StB} {M1 : StM} {O1 : StO} {a0 : Nat} (hM : Met l y (wof y cd ml rt) (rmd d0 mc ms) (va_Pc (.ref (ad q) :: as) (PW G A ad B M O)) (QR G A ad a0 B1 M1 O1) mc ms A) (hr : q < 193 + G.2.2.2.2 3 ∧ ent G ad B M O q = .inr (ci, fs)) (hc : vwCl[ci]? = some (Cn, T, N)) (hsel : (Cond.selects Cn y y).before args s = true) (hi : Cond.instanceMethod y ∈ TT) (cd0 : Card y cd ml rt n) (hl0 : Cond.methodLink own idx y ∈ TT) (hR : d0 + 1 ≤ R.frames ∧ 8 + (ml + 11) + 48 * d0 ≤ R.locals) (hf : cells + mc ≤ R.cells ∧ slots + ms ≤ R.slots) (hn : as.length = n) (hst : stk = as.reverse ++ .ref (ad q) :: rest) (hcat : (rest.map fun v => v.category).sum ≤ 8) (d : decode cc pc = .ok (.invokevirtual idx, 3)) (k : X p l e R s m args below meth c A G ad nL (cells + mc) (slots + ms) Q B1 M1 O1 ls (pc + 3) (.ref a0 :: rest)) : X p l e R s m args below meth c A G ad nL cells slots Q B M O ls (pc) (stk) := by
  intro H locs la hP hS hl
  refine va_callr (va_runV (C := Cn) (As := as) (b := ad q) (rest := rest) ⟨C.1, C.2.1, C.2.2.1, C.2.2.2.1, C.2.2.2.2.1⟩ hM ⟨⟨rfl, rfl, hR.1, hR.2, pay_in (big := TT) C.2.2.2.2.1 (fun w h => by rcases List.mem_cons.mp h with h | h; (rw [h]; exact ⟨cd0.1, good_of_word (tt_good _ cd0.1)⟩); exact ⟨h, good_of_word (tt_good _ h)⟩), List.mem_cons_self, C.2.2.2.2.1 _ cd0.1, C.2.2.2.2.1 _ cd0.2.1, ⟨cd0.2.2.1, cd0.2.2.2.1⟩, fun sig h => by have h2 := cd0.2.2.2.2; rw [h] at h2; exact (Option.some.inj h2).symm, C.2.2.2.2.1 _ hl0⟩, C.2.2.2.2.1 _ hi, hsel⟩ ⟨pw_blind, va_recv C.2.2.2.2.2.1 hP hc (wl_at hr), fun U hU hW => ⟨rfl, by rw [hU]; exact hP, va_K.moved hW.alike C.2.2.2.2.2.1, fx_step C.2.2.2.2.2.2.1 hS hU hW, fun z hz => C.2.2.2.2.2.2.2.2.2.2 z (Nat.le_trans hS.1 (by rw [hU] at hz; exact hz))⟩⟩ rfl hn hl.1 hst (lv_room hcat) d hf) hS (fun _ _ h => h) (fun _ h => h) (fun u ra t H1 locs1 ht hvm hw hB hz1 hk1 hS1 => ?_)
  obtain ⟨rfl, hB⟩ := hB
  rw [ht] at hB
  exact k H1 locs1 la hB hS1 hl
theorem x_cRSU (C : CX p l s m args meth c A G ad cc own nL ret) {y : MethodName} {cd : ByteArray} {ml d0 mc ms idx n q ci N : Nat} {rt : Option FieldType} {as : List Value} {Cn : String} {T : u_T} {fs : List Value} {B1 : StB} {M1 : StM} {O1 : StO} {a0 : Nat} (hM : Met l y (wof y cd ml rt) (rmd d0 mc ms) (va_Pc (.ref (ad q) :: as) (PW G A ad B M O)) (QR G A ad a0 B1 M1 O1) mc ms A) (hr : q < 193 + G.2.2.2.2 3 ∧ ent G ad B M O q = .inr (ci, fs)) (hc : vwCl[ci]? = some (Cn, T, N)) (cu : CardSU own y) (cd0 : Card y cd ml rt n) (hl0 : Cond.methodLink own idx y ∈ TT) (hR : d0 + 1 ≤ R.frames ∧ 8 + (ml + 11) + 48 * d0 ≤ R.locals) (hf : cells + mc ≤ R.cells ∧ slots + ms ≤ R.slots) (hn : as.length = n) (hst : stk = as.reverse ++ .ref (ad q) :: rest) (hcat : (rest.map fun v => v.category).sum ≤ 8) (d : decode cc pc = .ok (.invokespecial idx, 3)) (k : X p l e R s m args below meth c A G ad nL (cells + mc) (slots + ms) Q B1 M1 O1 ls (pc + 3) (.ref a0 :: rest)) : X p l e R s m args below meth c A G ad nL cells slots Q B M O ls (pc) (stk) := by
  intro H locs la hP hS hl
  have cb : CallB R s args own idx y cd ml rt (wof y cd ml rt) (rmd d0 mc ms) mc ms n := ⟨rfl, rfl, hR.1, hR.2, pay_in (big := TT) C.2.2.2.2.1 (fun w h => by rcases List.mem_cons.mp h with h | h; (rw [h]; exact ⟨cd0.1, good_of_word (tt_good _ cd0.1)⟩); exact ⟨h, good_of_word (tt_good _ h)⟩), List.mem_cons_self, C.2.2.2.2.1 _ cd0.1, C.2.2.2.2.1 _ cd0.2.1, ⟨cd0.2.2.1, cd0.2.2.2.1⟩, fun sig h => by have h2 := cd0.2.2.2.2; rw [h] at h2; exact (Option.some.inj h2).symm, C.2.2.2.2.1 _ hl0⟩
  refine va_callr (va_runSU (C := Cn) (As := as) (b := ad q) (rest := rest) (C.2.2.2.2.2.1.1 ci _ hc).2 ⟨C.1, C.2.1, C.2.2.1, C.2.2.2.1, C.2.2.2.2.1⟩ hM ⟨⟨cb.1, cb.2.1, cb.2.2.1, cb.2.2.2.1, cb.2.2.2.2.1, cb.2.2.2.2.2.1⟩, C.2.2.2.2.1 _ hl0, C.2.2.2.2.1 _ cu.1, C.2.2.2.2.1 _ cu.2.1, C.2.2.2.2.1 _ cu.2.2.1, C.2.2.2.2.1 _ cd0.2.1, C.2.2.2.2.1 _ cd0.1, cu.2.2.2, cb.2.2.2.2.2.2.2.2.2.1⟩ ⟨pw_blind, va_recv C.2.2.2.2.2.1 hP hc (wl_at hr), fun U hU hW => ⟨rfl, by rw [hU]; exact hP, va_K.moved hW.alike C.2.2.2.2.2.1, fx_step C.2.2.2.2.2.2.1 hS hU hW, fun z hz => C.2.2.2.2.2.2.2.2.2.2 z (Nat.le_trans hS.1 (by rw [hU] at hz; exact hz))⟩⟩ rfl hn hl.1 hst (lv_room hcat) d hf) hS (fun _ _ h => h) (fun _ h => h) (fun u ra t H1 locs1 ht hvm hw hB hz1 hk1 hS1 => ?_)
  obtain ⟨rfl, hB⟩ := hB
  rw [ht] at hB
  exact k H1 locs1 la hB hS1 hl
theorem x_cRV (C : CX p l s m args meth c A G ad cc own nL ret) {y : MethodName} {cd : ByteArray} {ml d0 mc ms idx n q ci N : Nat} {rt : Option FieldType} {as : List Value} {Cn : String} {T : u_T} {fs : List Value} {B1 : StB} {M1 : StM} {O1 : StO} {a0 : Nat} (hM : Met l y (wof y cd ml rt) (rmd d0 mc ms) (va_Pc (.ref (ad q) :: as) (PW G A ad B M O)) (QR G A ad a0 B1 M1 O1) mc ms A) (hr : q < 193 + G.2.2.2.2 3 ∧ ent G ad B M O q = .inr (ci, fs)) (hc : vwCl[ci]? = some (Cn, T, N)) (cv : CardV y) (hy : y.cls = Cn) (cd0 : Card y cd ml rt n) (hl0 : Cond.methodLink own idx y ∈ TT) (hR : d0 + 1 ≤ R.frames ∧ 8 + (ml + 11) + 48 * d0 ≤ R.locals) (hf : cells + mc ≤ R.cells ∧ slots + ms ≤ R.slots) (hn : as.length = n) (hst : stk = as.reverse ++ .ref (ad q) :: rest) (hcat : (rest.map fun v => v.category).sum ≤ 8) (d : decode cc pc = .ok (.invokevirtual idx, 3)) (k : X p l e R s m args below meth c A G ad nL (cells + mc) (slots + ms) Q B1 M1 O1 ls (pc + 3) (.ref a0 :: rest)) : X p l e R s m args below meth c A G ad nL cells slots Q B M O ls (pc) (stk) := by
  refine x_cRVU C hM hr hc (by rw [← hy]; exact C.2.2.2.2.1 _ cv.2) cv.1 cd0 hl0 hR hf hn hst hcat d k
theorem x_rretB (C : CX p l s m args meth c A G ad cc own nL ret) {a0 : Nat} {f : StB} {cn : String} (hr : ret = some (.object cn)) (h : f = B) (d : decode cc pc = .ok (.areturn, 1)) : X p l e R s m args below meth c A G ad nL cells slots (MQ below (QR G A ad a0 f M O) args s cells slots A) B M O ls (pc) ([.ref a0]) := fun H locs la hP hS hl => by
  subst h
  exact W.aret C.1 C.2.1 (C.2.2.2.2.2.2.2.2.1.trans hr) (Or.inl ⟨_, rfl⟩) (Or.inr ⟨_, rfl⟩) (fun t ht hW => ⟨⟨(), _, rfl, trivial, rfl, by subst ht; exact hP⟩, hS.F ht⟩) hS.2.2 d C.2.2.2.2.2.2.2.2.2.1
theorem x_getsDT (C : CX p l s m args meth c A G ad cc own nL ret) {idx : Nat} (hl0 : Cond.fieldLink own idx IntC "DigitTens" "[B" ∈ TT) (d : decode cc pc = .ok (.getstatic idx, 3)) (k : X p l e R s m args below meth c A G ad nL cells slots Q B M O ls (pc + 3) (.ref (G.2.2.2.2 0) :: rest)) : X p l e R s m args below meth c A G ad nL cells slots Q B M O ls (pc) (rest) := fun H locs la hP hS hl =>
  va_gets C.1 C.2.1 C.2.2.2.2.2.2.1.2.2.2.2.2.1 hS C.2.2.2.1 (C.2.2.2.2.1 _ hl0) (fun _ h => h) d (k H locs la hP hS hl)
theorem x_baldDT (C : CX p l s m args meth c A G ad cc own nL ret) {x : Int32} (hin : vp_in x 100) (d : decode cc pc = .ok (.baload, 1)) (k : X p l e R s m args below meth c A G ad nL cells slots Q B M O ls (pc + 1) (.int (dgT.getD (ix x) 0) :: rest)) : X p l e R s m args below meth c A G ad nL cells slots Q B M O ls (pc) (.int x :: .ref (G.2.2.2.2 0) :: rest) := fun H locs la hP hS hl =>
  va_tb C.1 C.2.1 C.2.2.2.2.2.2.1.2.2.2.2.2.2.1 hS hin rfl d (k H locs la hP hS hl)
theorem x_getsDO (C : CX p l s m args meth c A G ad cc own nL ret) {idx : Nat} (hl0 : Cond.fieldLink own idx IntC "DigitOnes" "[B" ∈ TT) (d : decode cc pc = .ok (.getstatic idx, 3)) (k : X p l e R s m args below meth c A G ad nL cells slots Q B M O ls (pc + 3) (.ref (G.2.2.2.2 1) :: rest)) : X p l e R s m args below meth c A G ad nL cells slots Q B M O ls (pc) (rest) := fun H locs la hP hS hl =>
  va_gets C.1 C.2.1 C.2.2.2.2.2.2.1.2.2.2.2.2.2.2.1 hS C.2.2.2.1 (C.2.2.2.2.1 _ hl0) (fun _ h => h) d (k H locs la hP hS hl)
theorem x_baldDO (C : CX p l s m args meth c A G ad cc own nL ret) {x : Int32} (hin : vp_in x 100) (d : decode cc pc = .ok (.baload, 1)) (k : X p l e R s m args below meth c A G ad nL cells slots Q B M O ls (pc + 1) (.int (dgO.getD (ix x) 0) :: rest)) : X p l e R s m args below meth c A G ad nL cells slots Q B M O ls (pc) (.int x :: .ref (G.2.2.2.2 1) :: rest) := fun H locs la hP hS hl =>
  va_tb C.1 C.2.1 C.2.2.2.2.2.2.1.2.2.2.2.2.2.2.2.1 hS hin rfl d (k H locs la hP hS hl)
theorem x_ldcKw (C : CX p l s m args meth c A G ad cc own nL ret) {i idx : Nat} (hi : i < 9) (ho : kOwn.getD i "" = own) (hx : kIdx.getD i 0 = idx) (d : decode cc pc = .ok (.ldc_w idx, 3)) (k : X p l e R s m args below meth c A G ad nL cells slots Q B M O ls (pc + 3) (.ref (G.2.2.1 i) :: rest)) : X p l e R s m args below meth c A G ad nL cells slots Q B M O ls (pc) (rest) := fun H locs la hP hS hl => by
  have hZ := C.2.2.2.2.2.2.1.2.2.2.2.1 i hi
  rw [ho, hx] at hZ
  intro T hT X
  obtain ⟨t, a1, b1⟩ := k H locs la hP hS hl T hT X
  exact ⟨t, X.ldcStringW C.1 C.2.2.2.1 (text := kTx.getD i "") (a := G.2.2.1 i) hZ.1 hZ.2 (g := F0 m pc la rest) rfl (by rw [C.2.1]; exact d) t a1, b1⟩
end XSB
end
section
theorem mean_nan (a : Int64) (c : Int32) (h : ¬ c = 0) : FP.Core.dIsNaN (FP.ddiv (FP.l2d a) (FP.i2d c)) = false :=
  FP.Core.ddiv_out (FP.Core.l2d_notNaN a) (FP.Core.i2d_fin c) (fun z => FP.Core.i2d_ne_zero h ((FP.Core.zero_bits2 _).mp z))
theorem mean_n64 (a : Int64) (c : Int32) (h : ¬ c = 0) : vf_n64 (FP.ddiv (FP.l2d a) (FP.i2d c)) := by
  have h1 := mean_nan a c h
  generalize FP.ddiv (FP.l2d a) (FP.i2d c) = x at h1
  unfold vf_n64
  rw [← Bool.not_eq_true, FP.Core.isNaN_bits] at h1
  rw [UInt64.le_iff_toNat_le, UInt64.toNat_and]
  have e : (0x7fffffffffffffff : UInt64).toNat = 2 ^ 63 - 1 := by decide
  rw [e, Nat.and_two_pow_sub_one_eq_mod]
  have e2 : (0x7ff0000000000000 : UInt64).toNat = 9218868437227405312 := by decide
  rw [e2]
  omega

section XD
variable {p : Program} {l : Launch} {e : Env} {R : Room} {s : State} {m : MethodId} {args : Array Value} {below : List Frame} {meth : Method} {c : Code} {cells slots : Nat} {Q : State → Prop}
variable {A : Nat → Prop} {G : GT} {ad : Nat → Nat} {cc : ByteArray} {own : String} {nL : Nat} {ret : Option FieldType} {B : StB} {M : StM} {O : StO} {ls : List (Nat × Value)} {pc : Nat} {rest stk : List Value}

def TMetD (l : Launch) (y : MethodName) (ws : List Cond) (rm : Room) (as : List Value) (G : GT) (A : Nat → Prop) (ad : Nat → Nat) (B : StB) (M : StM) (O : StO) (f : Nat × UInt64 × StB) (mc ms : Nat) : Prop :=
  vx_Met l y ws rm (va_Pc as (PW G A ad B M O)) (va_Qd (fun r (_ : Unit) => f.1 = 0 ∧ r = f.2.1) (fun _ t => va_P G.1 vwCl (wl G ad f.2.2 M O) t.heap) A) (XQ G A ad M O (f.1, 0, f.2.2)) mc ms A
abbrev TQD (below : List Frame) (args : Array Value) (s : State) (G : GT) (A : Nat → Prop) (ad : Nat → Nat) (M : StM) (O : StO) (f : Nat × UInt64 × StB) (mc ms : Nat) : State → Prop := vx_MQ below (va_Qd (fun r (_ : Unit) => f.1 = 0 ∧ r = f.2.1) (fun _ t => va_P G.1 vwCl (wl G ad f.2.2 M O) t.heap) A) (XQ G A ad M O (f.1, 0, f.2.2)) args s mc ms A
theorem x_ddiv (C : CX p l s m args meth c A G ad cc own nL ret) {x y : UInt64} (hne : vf_n64 (FP.ddiv x y)) (d : decode cc pc = .ok (.ddiv, 1)) (k : X p l e R s m args below meth c A G ad nL cells slots Q B M O ls (pc + 1) (.double (FP.ddiv x y) :: rest)) : X p l e R s m args below meth c A G ad nL cells slots Q B M O ls (pc) (.double y :: .double x :: rest) := fun H locs la hP hS hl => lv_ddiv C.1 C.2.1 d hne (k H locs la hP hS hl)
theorem x_dconst0 (C : CX p l s m args meth c A G ad cc own nL ret) (d : decode cc pc = .ok (.dconst 0, 1)) (k : X p l e R s m args below meth c A G ad nL cells slots Q B M O ls (pc + 1) (.double 0 :: rest)) : X p l e R s m args below meth c A G ad nL cells slots Q B M O ls (pc) (rest) := fun H locs la hP hS hl => lv_dconst0 C.1 C.2.1 d (k H locs la hP hS hl)
theorem x_dretM (C : CX p l s m args meth c A G ad cc own nL ret) {v : UInt64} {f : UInt64 × StM} (hr : ret = some .double) (h : f = (v, M)) (d : decode cc pc = .ok (.dreturn, 1)) : X p l e R s m args below meth c A G ad nL cells slots (MQ below (QD G A ad f.1 B f.2 O) args s cells slots A) B M O ls (pc) ([.double v]) := by
  subst h
  exact x_dret C hr rfl d
theorem xt_dret (C : CX p l s m args meth c A G ad cc own nL ret) {v : UInt64} {f : Nat × UInt64 × StB} {mc ms : Nat} (hr : ret = some .double) (h : f = (0, v, B)) (hc : cells ≤ mc) (hs : slots ≤ ms) (d : decode cc pc = .ok (.dreturn, 1)) : X p l e R s m args below meth c A G ad nL cells slots (TQD below args s G A ad M O f mc ms) B M O ls (pc) ([.double v]) := fun H locs la hP hS hl => by
  subst h
  refine vx_ret (W.widen hc hs ?_)
  exact W.dret (v := v) C.1 C.2.1 (C.2.2.2.2.2.2.2.2.1.trans hr) (fun t ht hW => ⟨⟨v, (), rfl, ⟨rfl, rfl⟩, by subst ht; exact hP⟩, hS.F ht⟩) hS.2.2 d C.2.2.2.2.2.2.2.2.2.1
end XD
end
