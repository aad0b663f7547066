/-! The order of writes. -/
theorem wI_cc {x : Sg} {c d i j k k' : Nat} {v w : Int32} (h : c < d) (hd : d < 32) : wI (wI x (tk d i) k v) (tk c j) k' w = wI (wI x (tk c j) k' w) (tk d i) k v := by
  refine Sg_ext (fun t9 k9 => ?_) (fun _ _ => rfl) (fun _ _ => rfl) (fun _ => rfl)
  simp only [sI_wI]
  by_cases c1 : t9 = tk c j
  · have c2 : ¬ t9 = tk d i := fun z => tk_ne (by omega) hd (by omega) (c1.symm.trans z)
    simp [c2]
  · simp [c1]
theorem wI_cf {x : Sg} {t k k' : Nat} {v w : Int32} (h : k' < k) : wI (wI x t k v) t k' w = wI (wI x t k' w) t k v := by
  refine Sg_ext (fun t9 k9 => ?_) (fun _ _ => rfl) (fun _ _ => rfl) (fun _ => rfl)
  simp only [sI_wI]
  by_cases c1 : k9 = k'
  · have c2 : ¬ k9 = k := by omega
    simp [c2]
  · simp [c1]
theorem wI_ab {x : Sg} {t k : Nat} {v w : Int32} : wI (wI x t k v) t k w = wI x t k w := by
  refine Sg_ext (fun t9 k9 => ?_) (fun _ _ => rfl) (fun _ _ => rfl) (fun _ => rfl)
  simp only [sI_wI]
  by_cases c1 : t9 = t ∧ k9 = k
  · simp [c1]
  · simp [c1]
theorem wIP {x : Sg} {t k t' k' : Nat} {v : Int32} {w : Option Nat} : wI (wP x t k w) t' k' v = wP (wI x t' k' v) t k w := rfl
theorem wIL {x : Sg} {t k t' k' : Nat} {v : Int32} {w : Int64} : wI (wL x t k w) t' k' v = wL (wI x t' k' v) t k w := rfl
theorem wLP {x : Sg} {t k t' k' : Nat} {v : Int64} {w : Option Nat} : wL (wP x t k w) t' k' v = wP (wL x t' k' v) t k w := rfl
theorem uI_cc {M : MS} {s t i j : Nat} {v w : Int32} (h : t < s) : uI (uI M s i v) t j w = uI (uI M t j w) s i v := by
  refine MS_ext (fun a b => ?_) (fun _ => rfl)
  simp only [gI_uI]
  by_cases c1 : a = t
  · have c2 : ¬ a = s := by omega
    simp [c2]
  · simp [c1]
theorem uI_ab {M : MS} {s i : Nat} {v w : Int32} : uI (uI M s i v) s i w = uI M s i w := by
  refine MS_ext (fun a b => ?_) (fun _ => rfl)
  simp only [gI_uI]
  by_cases c1 : a = s ∧ b = i
  · simp [c1]
  · simp [c1]
theorem uI_uL {M : MS} {s i j : Nat} {v : Int32} {w : Int64} : uI (uL M j w) s i v = uL (uI M s i v) j w := rfl
section RR
variable {e : Nat} {a : Sg} {M : MS}
theorem opAt_s (R : Rel e a M) {k q : Nat} (hk : k < 12) (hq : q < nOp M k) {x : Int32} (hx : x = nI q) (M0 : MS) (Post : Rs → Sg → Prop) : wp_X2_operationAt (tk 2 k) x (put a M0) Post ↔ Post (.inl (some (va_rf (some (tk 5 (4 * k + q)))))) (put a M0) := by
  have h := (r_ko R k hk).2
  rw [hx, sp_opAt R hk (by omega), if_pos hq]
theorem opAt_n (R : Rel e a M) {k q : Nat} (hk : k < 12) (hq : nOp M k ≤ q) (h9 : q < 2 ^ 31) {x : Int32} (hx : x = nI q) (M0 : MS) (Post : Rs → Sg → Prop) : wp_X2_operationAt (tk 2 k) x (put a M0) Post ↔ Post (.inl (some (va_rf none))) (put a M0) := by
  rw [hx, sp_opAt R hk h9, if_neg (by omega)]
theorem stRoom_t (R : Rel e a M) {k : Nat} (hk : k < 12) {x y : Int32} (hc : ¬ gI M 11 k < mInSt M (nI k) (nB M) + y) (hx : x = y) (M0 : MS) (Post : Rs → Sg → Prop) : wp_X2_hasStoreRoom (tk 2 k) x (put a M0) Post ↔ Post (.inl (some (.int 1))) (put a M0) := by
  rw [hx, sp_storeRoom R hk, decide_eq_true hc]; rfl
theorem stRoom_f (R : Rel e a M) {k : Nat} (hk : k < 12) {x y : Int32} (hc : gI M 11 k < mInSt M (nI k) (nB M) + y) (hx : x = y) (M0 : MS) (Post : Rs → Sg → Prop) : wp_X2_hasStoreRoom (tk 2 k) x (put a M0) Post ↔ Post (.inl (some (.int 0))) (put a M0) := by
  rw [hx, sp_storeRoom R hk, decide_eq_false (fun z => z hc)]; rfl
theorem room_t (R : Rel e a M) {k q : Nat} (hk : k < 12) (hq : q < nOp M k) (hc : mHR M (gI M 8 (4 * k + q)) = true) (M0 : MS) (Post : Rs → Sg → Prop) : wp_X8_hasQueueRoom (tk 8 0) (some (tk 5 (4 * k + q))) (put a M0) Post ↔ Post (.inl (some (.int 1))) (put a M0) := by
  rw [sp_room R hk hq, hc]; rfl
theorem room_f (R : Rel e a M) {k q : Nat} (hk : k < 12) (hq : q < nOp M k) (hc : mHR M (gI M 8 (4 * k + q)) = false) (M0 : MS) (Post : Rs → Sg → Prop) : wp_X8_hasQueueRoom (tk 8 0) (some (tk 5 (4 * k + q))) (put a M0) Post ↔ Post (.inl (some (.int 0))) (put a M0) := by
  rw [sp_room R hk hq, hc]; rfl
theorem opNow_s (R : Rel e a M) {j : Nat} (hj : j < nB M) (ho : op M j < nOp M (kd M j)) (M0 : MS) (Post : Rs → Sg → Prop) : wp_X0_operationNow (tk 0 j) (put a M0) Post ↔ Post (.inl (some (va_rf (some (tk 5 (4 * kd M j + op M j)))))) (put a M0) := by
  rw [sp_opNow R hj, if_pos ho]
theorem opNow_n (R : Rel e a M) {j : Nat} (hj : j < nB M) (ho : ¬ op M j < nOp M (kd M j)) (M0 : MS) (Post : Rs → Sg → Prop) : wp_X0_operationNow (tk 0 j) (put a M0) Post ↔ Post (.inl (some (va_rf none))) (put a M0) := by
  rw [sp_opNow R hj, if_neg ho]
end RR
