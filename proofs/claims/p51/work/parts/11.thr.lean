def exL : List String := ["", "java/lang/IndexOutOfBoundsException", "java/lang/IllegalArgumentException", "java/lang/UnsupportedOperationException", "java/lang/IllegalStateException", "java/util/NoSuchElementException", "java/lang/ArithmeticException"]
def exN (k : Nat) : String := exL.getD k ""
def chainN : List String := ["java/lang/RuntimeException", "java/lang/Exception"]
def badW : List Cond := castL.map (fun q => Cond.castable q.1 q.2) ++ declL.map Cond.declares
theorem thr_g1 : ∀ w ∈ (vx_at0 RX6 196 (exN 1) chainN).filter goodWord, w ∈ TT := by decide +kernel
theorem thr_b1 : ∀ w ∈ (vx_at0 RX6 196 (exN 1) chainN).filter (fun w => !goodWord w), w ∈ badW := by decide +kernel
theorem thr_o1 : ∀ w ∈ Cond.classLink RX6 194 (exN 1) :: Cond.initialized (exN 1) :: vx_at0 RX6 196 (exN 1) chainN, vx_ot w = true := by decide +kernel
theorem thr_k1 : Cond.classLink RX6 194 (exN 1) ∈ TT := by decide +kernel
theorem thr_i1 : Cond.initialized (exN 1) ∈ TT := by decide +kernel
theorem thr_g2 : ∀ w ∈ (vx_at0 RX6 279 (exN 2) chainN).filter goodWord, w ∈ TT := by decide +kernel
theorem thr_b2 : ∀ w ∈ (vx_at0 RX6 279 (exN 2) chainN).filter (fun w => !goodWord w), w ∈ badW := by decide +kernel
theorem thr_o2 : ∀ w ∈ Cond.classLink RX6 277 (exN 2) :: Cond.initialized (exN 2) :: vx_at0 RX6 279 (exN 2) chainN, vx_ot w = true := by decide +kernel
theorem thr_k2 : Cond.classLink RX6 277 (exN 2) ∈ TT := by decide +kernel
theorem thr_i2 : Cond.initialized (exN 2) ∈ TT := by decide +kernel
theorem thr_g3 : ∀ w ∈ (vx_at0 RX6 314 (exN 3) chainN).filter goodWord, w ∈ TT := by decide +kernel
theorem thr_b3 : ∀ w ∈ (vx_at0 RX6 314 (exN 3) chainN).filter (fun w => !goodWord w), w ∈ badW := by decide +kernel
theorem thr_o3 : ∀ w ∈ Cond.classLink RX6 312 (exN 3) :: Cond.initialized (exN 3) :: vx_at0 RX6 314 (exN 3) chainN, vx_ot w = true := by decide +kernel
theorem thr_k3 : Cond.classLink RX6 312 (exN 3) ∈ TT := by decide +kernel
theorem thr_i3 : Cond.initialized (exN 3) ∈ TT := by decide +kernel
theorem thr_g4 : ∀ w ∈ (vx_at0 RX6 283 (exN 4) chainN).filter goodWord, w ∈ TT := by decide +kernel
theorem thr_b4 : ∀ w ∈ (vx_at0 RX6 283 (exN 4) chainN).filter (fun w => !goodWord w), w ∈ badW := by decide +kernel
theorem thr_o4 : ∀ w ∈ Cond.classLink RX6 281 (exN 4) :: Cond.initialized (exN 4) :: vx_at0 RX6 283 (exN 4) chainN, vx_ot w = true := by decide +kernel
theorem thr_k4 : Cond.classLink RX6 281 (exN 4) ∈ TT := by decide +kernel
theorem thr_i4 : Cond.initialized (exN 4) ∈ TT := by decide +kernel
theorem thr_g5 : ∀ w ∈ (vx_at0 RX6 131 (exN 5) chainN).filter goodWord, w ∈ TT := by decide +kernel
theorem thr_b5 : ∀ w ∈ (vx_at0 RX6 131 (exN 5) chainN).filter (fun w => !goodWord w), w ∈ badW := by decide +kernel
theorem thr_o5 : ∀ w ∈ Cond.classLink RX6 129 (exN 5) :: Cond.initialized (exN 5) :: vx_at0 RX6 131 (exN 5) chainN, vx_ot w = true := by decide +kernel
theorem thr_k5 : Cond.classLink RX6 129 (exN 5) ∈ TT := by decide +kernel
theorem thr_i5 : Cond.initialized (exN 5) ∈ TT := by decide +kernel
theorem thr_g6 : ∀ w ∈ (vx_at0 RX6 137 (exN 6) chainN).filter goodWord, w ∈ TT := by decide +kernel
theorem thr_b6 : ∀ w ∈ (vx_at0 RX6 137 (exN 6) chainN).filter (fun w => !goodWord w), w ∈ badW := by decide +kernel
theorem thr_o6 : ∀ w ∈ Cond.classLink RX6 135 (exN 6) :: Cond.initialized (exN 6) :: vx_at0 RX6 137 (exN 6) chainN, vx_ot w = true := by decide +kernel
theorem thr_k6 : Cond.classLink RX6 135 (exN 6) ∈ TT := by decide +kernel
theorem thr_i6 : Cond.initialized (exN 6) ∈ TT := by decide +kernel
