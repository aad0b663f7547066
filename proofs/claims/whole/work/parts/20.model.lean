/-! The model's methods as functions of its state. -/
def inR (x a b : Int32) : Bool := decide (¬ x < a) && decide (¬ b < x)
def bi (b : Bool) : Int32 := if b then 1 else 0
theorem bi_0 (b : Bool) : bi b = 0 ↔ b = false := by cases b <;> simp [bi]
theorem bi_1 (b : Bool) : bi b = 1 ↔ b = true := by cases b <;> simp [bi]
theorem b01_b (b : Bool) : b01 (bi b) ↔ True := by cases b <;> simp [bi, b01]
theorem sp_in (x a b : Int32) (σ : Sg) (Post : Rs → Sg → Prop) : wp_X10_in x a b σ Post ↔ Post (.inl (some (.int (bi (inR x a b))))) σ := by
  unfold wp_X10_in inR
  by_cases c : x < a
  · simp [c, bi, b01_0]
  · by_cases d : b < x
    · simp [c, d, bi, b01_0]
    · simp [c, d, bi, b01_1]
theorem inR_nI {x M : Int32} {m : Nat} (hM : M.toInt = m) (h : inR x 0 M = true) : ∃ j : Nat, j ≤ m ∧ x = nI j := by
  unfold inR at h
  simp only [Bool.and_eq_true, decide_eq_true_eq] at h
  exact nI_of2 hM h.1 (Int32.not_lt.mp h.2)
def kd (M : MS) (j : Nat) : Nat := (gI M 15 j).toNatClampNeg
def op (M : MS) (j : Nat) : Nat := (gI M 19 j).toNatClampNeg
def mWk (M : MS) (j : Nat) : Int32 := gI M 8 (4 * kd M j + op M j)
def mInSt (M : MS) (k : Int32) : Nat → Int32 := sumN fun j => if gI M 18 j = 3 ∧ gI M 15 j = k then gI M 16 j else 0
def mProm (M : MS) (k : Int32) : Nat → Int32 := sumN fun j => if gI M 48 j = k ∧ gI M 52 j = -1 then gI M 51 j else 0
def mWait (M : MS) (w : Int32) : Nat → Int32 := sumN fun j => if gI M 18 j = 1 ∧ mWk M j = w then 1 else 0
section MM
variable {a : Sg} {M : MS} {n : Nat} {Post : Rs → Sg → Prop}
theorem lp_inStore (hS : ∀ k, sP a (tk 10 0) k = mp k) (hn : gI M 214 0 = nI n) (h60 : n ≤ 60) (k : Int32) : ∀ (g i : Nat) (acc : Int32), i ≤ n → acc = mInSt M k i → (wp_X10_inStore_4 g (tk 10 0) k acc (nI i) (put a M) Post ↔ n - i < g ∧ Post (.inl (some (.int (mInSt M k n)))) (put a M)) := by
  intro g
  induction g with
  | zero => intro i acc _ _; simp [wp_X10_inStore_4]
  | succ g ih =>
    intro i acc hi ha
    unfold wp_X10_inStore_4
    simp (disch := omega) only [hn, hS, wp_X10_inStore_42, wp_X10_inStore_43, sI_putc, wI_putc, sI_put11, sI_put13, sI_putm, sL_put12, wI_put11, wI_put13, wI_putm, wL_put12, sP_put, sX_put, wP_put, sI_put_0, sI_put_1, sI_put_2, sI_put_3, sI_put_4, sI_put_5, sI_put_6, sI_put_7, sI_put_8, sI_put_9, sI_put_14, sI_put_15, sI_put_16, sI_put_17, sI_put_18, sI_put_19, sI_put_20, sI_put_21, sI_put_22, sI_put_23, sI_put_24, wI_put_0, wI_put_1, wI_put_2, wI_put_3, wI_put_4, wI_put_5, wI_put_6, wI_put_7, wI_put_8, wI_put_9, wI_put_14, wI_put_15, wI_put_16, wI_put_17, wI_put_18, wI_put_19, wI_put_20, wI_put_21, wI_put_22, wI_put_23, wI_put_24, wN_put_0, wN_put_1, wN_put_2, wN_put_3, wN_put_4, wN_put_5, wN_put_6, wN_put_7, wN_put_8, wN_put_9, wN_put_14, wN_put_15, wN_put_16, wN_put_17, wN_put_18, wN_put_19, wN_put_20, wN_put_21, wN_put_22, wN_put_23, wN_put_24, sL_put_0, sL_put_24, wL_put_0, wL_put_24, tm_0, tm_1, tm_2, tm_3, tm_4, tm_5, tm_6, tm_7, tm_8, tm_9, tm_10, tm_11, tm_12, tm_13, tm_14, tm_15, tm_16, tm_17, tm_18, tm_19, tm_20, tm_21, tm_22, tm_23, tm_24, at_11, at_12, at_13, at_14, at_15, at_16, at_17, at_18, at_19, at_20, at_21, at_22, at_23, at_24, al_14, al_15, al_16, al_17, al_18, al_19, al_20, al_21, al_22, al_23, al_24, al_m0, al_m1, al_m2, al_m3, al_m4, al_m5, al_m6, al_m7, al_m8, al_m9, al_m10, al_m11, al_m12, al_m13, al_m15, al_m16, al_m17, al_m18, al_m19, al_m20, al_m21, al_m22, al_m23, al_m24, al_m25, al_m26, al_m28, al_m29, al_m30, al_m31, al_m32, al_m33, al_m34, al_m35, al_m36, al_m37, al_m38, al_m39, al_m40, al_m42, al_m43, al_m44, al_m45, al_m46, al_m48, al_m49, al_m50, al_m51, al_m52, al_m53, al_m60, al_m61, mp_0, mp_1, mp_2, mp_3, mp_4, mp_5, mp_6, mp_7, mp_8, mp_9, mp_10, mp_11, mp_12, mp_13, mp_15, mp_16, mp_17, mp_18, mp_19, mp_20, mp_21, mp_22, mp_23, mp_24, mp_25, mp_26, mp_28, mp_29, mp_30, mp_31, mp_32, mp_33, mp_34, mp_35, mp_36, mp_37, mp_38, mp_39, mp_40, mp_42, mp_43, mp_44, mp_45, mp_46, mp_48, mp_49, mp_50, mp_51, mp_52, mp_53, mp_60, mp_61, row_14, row_15, row_16, row_17, row_18, row_19, row_20, ar_11, ar_12, ar_13, ar_14, ar_15, ar_16, ar_17, ar_18, ar_19, ar_20, ar_21, ar_22, ar_23, ar_24, cs_14, cs_15, cs_16, cs_17, cs_18, cs_19, cs_20, ex_ix, ex_0, b01_0, b01_1, KI_i, KI_x, KJ_j, KJ_x, KV_v, KV_x, KO_t, KO_n, KO_x, KO_rf, n4, n3, nI_add, nI_1, nI_leI, nI_ltI, nI_eq, gI_uI, gI_uL, gL_uI, gL_uL, sI_wI, sI_wP, sI_wL, sP_wI, sP_wP, sP_wL, sL_wI, sL_wP, sL_wL, forall_eq, exists_eq_left, exists_eq_left', Option.some.injEq, true_and, and_true, Nat.reduceAdd, Nat.reduceMul, Nat.reduceEqDiff, eq_self, tk_inj, and_self, false_and, and_false, if_true, if_false, forall_const, true_implies, ite_true, ite_false, reduceIte, reduceCtorEq, tk_ne9, i1e, i2e, i3e, i1_0, i2_0, i3_0, false_implies, false_or, or_false, true_or, or_true, String.reduceEq, Nat.reduceLT, Int32.le_refl, not_true_eq_false, not_false_eq_true, Nat.zero_lt_one, Bool.false_eq_true, Bool.true_eq_false]
    by_cases e : n ≤ i
    · have e2 : i = n := by omega
      subst e2
      simp [ha]
    · have hin : i < n := by omega
      have h6 : i < 60 := by omega
      have e3 : n - (i + 1) < g ↔ n - i < g + 1 := by omega
      simp only [e, h6, false_implies, true_and, not_false_eq_true, forall_const]
      by_cases c1 : gI M 18 i = 3
      · by_cases c2 : gI M 15 i = k
        · simp only [c1, c2, not_true_eq_false, false_implies, true_and, forall_const]
          rw [ih (i + 1) _ (by omega) (by rw [ha]; simp [mInSt, sumN_1, c1, c2]), e3]
        · simp only [c1, c2, not_false_eq_true, not_true_eq_false, false_implies, true_and, and_true, forall_const]
          rw [ih (i + 1) _ (by omega) (by rw [ha]; simp [mInSt, sumN_1, c1, c2]), e3]
      · simp only [c1, not_false_eq_true, false_implies, true_and, and_true, forall_const]
        rw [ih (i + 1) _ (by omega) (by rw [ha]; simp [mInSt, sumN_1, c1]), e3]
theorem sp_inStore (hS : ∀ k, sP a (tk 10 0) k = mp k) (hn : gI M 214 0 = nI n) (h60 : n ≤ 60) (k : Int32) : wp_X10_inStore (tk 10 0) k (put a M) Post ↔ Post (.inl (some (.int (mInSt M k n)))) (put a M) := by
  unfold wp_X10_inStore
  constructor
  · rintro ⟨g, h⟩
    exact ((lp_inStore hS hn h60 k g 0 0 (Nat.zero_le n) rfl).mp (by rw [nI_0]; exact h)).2
  · intro h
    refine ⟨n + 1, ?_⟩
    have h9 := (lp_inStore hS hn h60 k (n + 1) 0 0 (Nat.zero_le n) rfl).mpr ⟨by omega, h⟩
    rw [nI_0] at h9
    exact h9
theorem lp_promisedOf (hS : ∀ k, sP a (tk 10 0) k = mp k) (hn : gI M 247 0 = nI n) (h60 : n ≤ 10) (k : Int32) : ∀ (g i : Nat) (acc : Int32), i ≤ n → acc = mProm M k i → (wp_X10_promisedOf_4 g (tk 10 0) k acc (nI i) (put a M) Post ↔ n - i < g ∧ Post (.inl (some (.int (mProm M k n)))) (put a M)) := by
  intro g
  induction g with
  | zero => intro i acc _ _; simp [wp_X10_promisedOf_4]
  | succ g ih =>
    intro i acc hi ha
    unfold wp_X10_promisedOf_4
    simp (disch := omega) only [hn, hS, wp_X10_promisedOf_42, wp_X10_promisedOf_43, sI_putc, wI_putc, sI_put11, sI_put13, sI_putm, sL_put12, wI_put11, wI_put13, wI_putm, wL_put12, sP_put, sX_put, wP_put, sI_put_0, sI_put_1, sI_put_2, sI_put_3, sI_put_4, sI_put_5, sI_put_6, sI_put_7, sI_put_8, sI_put_9, sI_put_14, sI_put_15, sI_put_16, sI_put_17, sI_put_18, sI_put_19, sI_put_20, sI_put_21, sI_put_22, sI_put_23, sI_put_24, wI_put_0, wI_put_1, wI_put_2, wI_put_3, wI_put_4, wI_put_5, wI_put_6, wI_put_7, wI_put_8, wI_put_9, wI_put_14, wI_put_15, wI_put_16, wI_put_17, wI_put_18, wI_put_19, wI_put_20, wI_put_21, wI_put_22, wI_put_23, wI_put_24, wN_put_0, wN_put_1, wN_put_2, wN_put_3, wN_put_4, wN_put_5, wN_put_6, wN_put_7, wN_put_8, wN_put_9, wN_put_14, wN_put_15, wN_put_16, wN_put_17, wN_put_18, wN_put_19, wN_put_20, wN_put_21, wN_put_22, wN_put_23, wN_put_24, sL_put_0, sL_put_24, wL_put_0, wL_put_24, tm_0, tm_1, tm_2, tm_3, tm_4, tm_5, tm_6, tm_7, tm_8, tm_9, tm_10, tm_11, tm_12, tm_13, tm_14, tm_15, tm_16, tm_17, tm_18, tm_19, tm_20, tm_21, tm_22, tm_23, tm_24, at_11, at_12, at_13, at_14, at_15, at_16, at_17, at_18, at_19, at_20, at_21, at_22, at_23, at_24, al_14, al_15, al_16, al_17, al_18, al_19, al_20, al_21, al_22, al_23, al_24, al_m0, al_m1, al_m2, al_m3, al_m4, al_m5, al_m6, al_m7, al_m8, al_m9, al_m10, al_m11, al_m12, al_m13, al_m15, al_m16, al_m17, al_m18, al_m19, al_m20, al_m21, al_m22, al_m23, al_m24, al_m25, al_m26, al_m28, al_m29, al_m30, al_m31, al_m32, al_m33, al_m34, al_m35, al_m36, al_m37, al_m38, al_m39, al_m40, al_m42, al_m43, al_m44, al_m45, al_m46, al_m48, al_m49, al_m50, al_m51, al_m52, al_m53, al_m60, al_m61, mp_0, mp_1, mp_2, mp_3, mp_4, mp_5, mp_6, mp_7, mp_8, mp_9, mp_10, mp_11, mp_12, mp_13, mp_15, mp_16, mp_17, mp_18, mp_19, mp_20, mp_21, mp_22, mp_23, mp_24, mp_25, mp_26, mp_28, mp_29, mp_30, mp_31, mp_32, mp_33, mp_34, mp_35, mp_36, mp_37, mp_38, mp_39, mp_40, mp_42, mp_43, mp_44, mp_45, mp_46, mp_48, mp_49, mp_50, mp_51, mp_52, mp_53, mp_60, mp_61, row_14, row_15, row_16, row_17, row_18, row_19, row_20, ar_11, ar_12, ar_13, ar_14, ar_15, ar_16, ar_17, ar_18, ar_19, ar_20, ar_21, ar_22, ar_23, ar_24, cs_14, cs_15, cs_16, cs_17, cs_18, cs_19, cs_20, ex_ix, ex_0, b01_0, b01_1, KI_i, KI_x, KJ_j, KJ_x, KV_v, KV_x, KO_t, KO_n, KO_x, KO_rf, n4, n3, nI_add, nI_1, nI_leI, nI_ltI, nI_eq, gI_uI, gI_uL, gL_uI, gL_uL, sI_wI, sI_wP, sI_wL, sP_wI, sP_wP, sP_wL, sL_wI, sL_wP, sL_wL, forall_eq, exists_eq_left, exists_eq_left', Option.some.injEq, true_and, and_true, Nat.reduceAdd, Nat.reduceMul, Nat.reduceEqDiff, eq_self, tk_inj, and_self, false_and, and_false, if_true, if_false, forall_const, true_implies, ite_true, ite_false, reduceIte, reduceCtorEq, tk_ne9, i1e, i2e, i3e, i1_0, i2_0, i3_0, false_implies, false_or, or_false, true_or, or_true, String.reduceEq, Nat.reduceLT, Int32.le_refl, not_true_eq_false, not_false_eq_true, Nat.zero_lt_one, Bool.false_eq_true, Bool.true_eq_false]
    by_cases e : n ≤ i
    · have e2 : i = n := by omega
      subst e2
      simp [ha]
    · have hin : i < n := by omega
      have h6 : i < 10 := by omega
      have e3 : n - (i + 1) < g ↔ n - i < g + 1 := by omega
      simp only [e, h6, false_implies, true_and, not_false_eq_true, forall_const]
      by_cases c1 : gI M 48 i = k
      · by_cases c2 : gI M 52 i = -1
        · simp only [c1, c2, not_true_eq_false, false_implies, true_and, forall_const]
          rw [ih (i + 1) _ (by omega) (by rw [ha]; simp [mProm, sumN_1, c1, c2]), e3]
        · simp only [c1, c2, not_false_eq_true, not_true_eq_false, false_implies, true_and, and_true, forall_const]
          rw [ih (i + 1) _ (by omega) (by rw [ha]; simp [mProm, sumN_1, c1, c2]), e3]
      · simp only [c1, not_false_eq_true, false_implies, true_and, and_true, forall_const]
        rw [ih (i + 1) _ (by omega) (by rw [ha]; simp [mProm, sumN_1, c1]), e3]
theorem sp_promisedOf (hS : ∀ k, sP a (tk 10 0) k = mp k) (hn : gI M 247 0 = nI n) (h60 : n ≤ 10) (k : Int32) : wp_X10_promisedOf (tk 10 0) k (put a M) Post ↔ Post (.inl (some (.int (mProm M k n)))) (put a M) := by
  unfold wp_X10_promisedOf
  constructor
  · rintro ⟨g, h⟩
    exact ((lp_promisedOf hS hn h60 k g 0 0 (Nat.zero_le n) rfl).mp (by rw [nI_0]; exact h)).2
  · intro h
    refine ⟨n + 1, ?_⟩
    have h9 := (lp_promisedOf hS hn h60 k (n + 1) 0 0 (Nat.zero_le n) rfl).mpr ⟨by omega, h⟩
    rw [nI_0] at h9
    exact h9
theorem sp_workOf (hS : ∀ k, sP a (tk 10 0) k = mp k) {b k q : Nat} (hb : b < 60) (h1 : gI M 15 b = nI k) (h2 : gI M 19 b = nI q) (hk : k < 12) (hq : q < 4) : wp_X10_workOf (tk 10 0) (nI b) (put a M) Post ↔ Post (.inl (some (.int (mWk M b)))) (put a M) := by
  have e : mWk M b = gI M 8 (4 * k + q) := by unfold mWk kd op; rw [h1, h2, nI_clamp (by omega), nI_clamp (by omega)]
  unfold wp_X10_workOf
  simp (disch := omega) only [hS, h1, h2, sI_putc, wI_putc, sI_put11, sI_put13, sI_putm, sL_put12, wI_put11, wI_put13, wI_putm, wL_put12, sP_put, sX_put, wP_put, sI_put_0, sI_put_1, sI_put_2, sI_put_3, sI_put_4, sI_put_5, sI_put_6, sI_put_7, sI_put_8, sI_put_9, sI_put_14, sI_put_15, sI_put_16, sI_put_17, sI_put_18, sI_put_19, sI_put_20, sI_put_21, sI_put_22, sI_put_23, sI_put_24, wI_put_0, wI_put_1, wI_put_2, wI_put_3, wI_put_4, wI_put_5, wI_put_6, wI_put_7, wI_put_8, wI_put_9, wI_put_14, wI_put_15, wI_put_16, wI_put_17, wI_put_18, wI_put_19, wI_put_20, wI_put_21, wI_put_22, wI_put_23, wI_put_24, wN_put_0, wN_put_1, wN_put_2, wN_put_3, wN_put_4, wN_put_5, wN_put_6, wN_put_7, wN_put_8, wN_put_9, wN_put_14, wN_put_15, wN_put_16, wN_put_17, wN_put_18, wN_put_19, wN_put_20, wN_put_21, wN_put_22, wN_put_23, wN_put_24, sL_put_0, sL_put_24, wL_put_0, wL_put_24, tm_0, tm_1, tm_2, tm_3, tm_4, tm_5, tm_6, tm_7, tm_8, tm_9, tm_10, tm_11, tm_12, tm_13, tm_14, tm_15, tm_16, tm_17, tm_18, tm_19, tm_20, tm_21, tm_22, tm_23, tm_24, at_11, at_12, at_13, at_14, at_15, at_16, at_17, at_18, at_19, at_20, at_21, at_22, at_23, at_24, al_14, al_15, al_16, al_17, al_18, al_19, al_20, al_21, al_22, al_23, al_24, al_m0, al_m1, al_m2, al_m3, al_m4, al_m5, al_m6, al_m7, al_m8, al_m9, al_m10, al_m11, al_m12, al_m13, al_m15, al_m16, al_m17, al_m18, al_m19, al_m20, al_m21, al_m22, al_m23, al_m24, al_m25, al_m26, al_m28, al_m29, al_m30, al_m31, al_m32, al_m33, al_m34, al_m35, al_m36, al_m37, al_m38, al_m39, al_m40, al_m42, al_m43, al_m44, al_m45, al_m46, al_m48, al_m49, al_m50, al_m51, al_m52, al_m53, al_m60, al_m61, mp_0, mp_1, mp_2, mp_3, mp_4, mp_5, mp_6, mp_7, mp_8, mp_9, mp_10, mp_11, mp_12, mp_13, mp_15, mp_16, mp_17, mp_18, mp_19, mp_20, mp_21, mp_22, mp_23, mp_24, mp_25, mp_26, mp_28, mp_29, mp_30, mp_31, mp_32, mp_33, mp_34, mp_35, mp_36, mp_37, mp_38, mp_39, mp_40, mp_42, mp_43, mp_44, mp_45, mp_46, mp_48, mp_49, mp_50, mp_51, mp_52, mp_53, mp_60, mp_61, row_14, row_15, row_16, row_17, row_18, row_19, row_20, ar_11, ar_12, ar_13, ar_14, ar_15, ar_16, ar_17, ar_18, ar_19, ar_20, ar_21, ar_22, ar_23, ar_24, cs_14, cs_15, cs_16, cs_17, cs_18, cs_19, cs_20, ex_ix, ex_0, b01_0, b01_1, KI_i, KI_x, KJ_j, KJ_x, KV_v, KV_x, KO_t, KO_n, KO_x, KO_rf, n4, n3, nI_add, nI_1, nI_leI, nI_ltI, nI_eq, gI_uI, gI_uL, gL_uI, gL_uL, sI_wI, sI_wP, sI_wL, sP_wI, sP_wP, sP_wL, sL_wI, sL_wP, sL_wL, forall_eq, exists_eq_left, exists_eq_left', Option.some.injEq, true_and, and_true, Nat.reduceAdd, Nat.reduceMul, Nat.reduceEqDiff, eq_self, tk_inj, and_self, false_and, and_false, if_true, if_false, forall_const, true_implies, ite_true, ite_false, reduceIte, reduceCtorEq, tk_ne9, i1e, i2e, i3e, i1_0, i2_0, i3_0, false_implies, false_or, or_false, true_or, or_true, String.reduceEq, Nat.reduceLT, Int32.le_refl, not_true_eq_false, not_false_eq_true, Nat.zero_lt_one, Bool.false_eq_true, Bool.true_eq_false]
  rw [e]
  simp only [hb, show 4 * k + q < 48 by omega, true_and]
/-- the batches that wait name a kind and an operation -/
def mBk (M : MS) (n : Nat) : Prop := ∀ j, j < n → gI M 18 j = 1 → ∃ k q : Nat, gI M 15 j = nI k ∧ gI M 19 j = nI q ∧ k < 12 ∧ q < 4
theorem lp_waiting (hS : ∀ k, sP a (tk 10 0) k = mp k) (hn : gI M 214 0 = nI n) (h60 : n ≤ 60) (hB : mBk M n) (k : Int32) : ∀ (g i : Nat) (acc : Int32), i ≤ n → acc = mWait M k i → (wp_X10_waiting_4 g (tk 10 0) k acc (nI i) (put a M) Post ↔ n - i < g ∧ Post (.inl (some (.int (mWait M k n)))) (put a M)) := by
  intro g
  induction g with
  | zero => intro i acc _ _; simp [wp_X10_waiting_4]
  | succ g ih =>
    intro i acc hi ha
    unfold wp_X10_waiting_4
    simp (disch := omega) only [hn, hS, wp_X10_waiting_36, wp_X10_waiting_37, sI_putc, wI_putc, sI_put11, sI_put13, sI_putm, sL_put12, wI_put11, wI_put13, wI_putm, wL_put12, sP_put, sX_put, wP_put, sI_put_0, sI_put_1, sI_put_2, sI_put_3, sI_put_4, sI_put_5, sI_put_6, sI_put_7, sI_put_8, sI_put_9, sI_put_14, sI_put_15, sI_put_16, sI_put_17, sI_put_18, sI_put_19, sI_put_20, sI_put_21, sI_put_22, sI_put_23, sI_put_24, wI_put_0, wI_put_1, wI_put_2, wI_put_3, wI_put_4, wI_put_5, wI_put_6, wI_put_7, wI_put_8, wI_put_9, wI_put_14, wI_put_15, wI_put_16, wI_put_17, wI_put_18, wI_put_19, wI_put_20, wI_put_21, wI_put_22, wI_put_23, wI_put_24, wN_put_0, wN_put_1, wN_put_2, wN_put_3, wN_put_4, wN_put_5, wN_put_6, wN_put_7, wN_put_8, wN_put_9, wN_put_14, wN_put_15, wN_put_16, wN_put_17, wN_put_18, wN_put_19, wN_put_20, wN_put_21, wN_put_22, wN_put_23, wN_put_24, sL_put_0, sL_put_24, wL_put_0, wL_put_24, tm_0, tm_1, tm_2, tm_3, tm_4, tm_5, tm_6, tm_7, tm_8, tm_9, tm_10, tm_11, tm_12, tm_13, tm_14, tm_15, tm_16, tm_17, tm_18, tm_19, tm_20, tm_21, tm_22, tm_23, tm_24, at_11, at_12, at_13, at_14, at_15, at_16, at_17, at_18, at_19, at_20, at_21, at_22, at_23, at_24, al_14, al_15, al_16, al_17, al_18, al_19, al_20, al_21, al_22, al_23, al_24, al_m0, al_m1, al_m2, al_m3, al_m4, al_m5, al_m6, al_m7, al_m8, al_m9, al_m10, al_m11, al_m12, al_m13, al_m15, al_m16, al_m17, al_m18, al_m19, al_m20, al_m21, al_m22, al_m23, al_m24, al_m25, al_m26, al_m28, al_m29, al_m30, al_m31, al_m32, al_m33, al_m34, al_m35, al_m36, al_m37, al_m38, al_m39, al_m40, al_m42, al_m43, al_m44, al_m45, al_m46, al_m48, al_m49, al_m50, al_m51, al_m52, al_m53, al_m60, al_m61, mp_0, mp_1, mp_2, mp_3, mp_4, mp_5, mp_6, mp_7, mp_8, mp_9, mp_10, mp_11, mp_12, mp_13, mp_15, mp_16, mp_17, mp_18, mp_19, mp_20, mp_21, mp_22, mp_23, mp_24, mp_25, mp_26, mp_28, mp_29, mp_30, mp_31, mp_32, mp_33, mp_34, mp_35, mp_36, mp_37, mp_38, mp_39, mp_40, mp_42, mp_43, mp_44, mp_45, mp_46, mp_48, mp_49, mp_50, mp_51, mp_52, mp_53, mp_60, mp_61, row_14, row_15, row_16, row_17, row_18, row_19, row_20, ar_11, ar_12, ar_13, ar_14, ar_15, ar_16, ar_17, ar_18, ar_19, ar_20, ar_21, ar_22, ar_23, ar_24, cs_14, cs_15, cs_16, cs_17, cs_18, cs_19, cs_20, ex_ix, ex_0, b01_0, b01_1, KI_i, KI_x, KJ_j, KJ_x, KV_v, KV_x, KO_t, KO_n, KO_x, KO_rf, n4, n3, nI_add, nI_1, nI_leI, nI_ltI, nI_eq, gI_uI, gI_uL, gL_uI, gL_uL, sI_wI, sI_wP, sI_wL, sP_wI, sP_wP, sP_wL, sL_wI, sL_wP, sL_wL, forall_eq, exists_eq_left, exists_eq_left', Option.some.injEq, true_and, and_true, Nat.reduceAdd, Nat.reduceMul, Nat.reduceEqDiff, eq_self, tk_inj, and_self, false_and, and_false, if_true, if_false, forall_const, true_implies, ite_true, ite_false, reduceIte, reduceCtorEq, tk_ne9, i1e, i2e, i3e, i1_0, i2_0, i3_0, false_implies, false_or, or_false, true_or, or_true, String.reduceEq, Nat.reduceLT, Int32.le_refl, not_true_eq_false, not_false_eq_true, Nat.zero_lt_one, Bool.false_eq_true, Bool.true_eq_false]
    by_cases e : n ≤ i
    · have e2 : i = n := by omega
      subst e2
      simp [ha]
    · have hin : i < n := by omega
      have h6 : i < 60 := by omega
      have e3 : n - (i + 1) < g ↔ n - i < g + 1 := by omega
      simp only [e, h6, false_implies, true_and, not_false_eq_true, forall_const]
      by_cases c1 : gI M 18 i = 1
      · obtain ⟨k9, q9, b1, b2, b3, b4⟩ := hB i hin c1
        simp only [c1, not_true_eq_false, false_implies, true_and, forall_const, sp_workOf hS h6 b1 b2 b3 b4, KI_i]
        by_cases c2 : mWk M i = k
        · simp only [c2, not_true_eq_false, false_implies, true_and, forall_const]
          rw [ih (i + 1) _ (by omega) (by rw [ha]; simp [mWait, sumN_1, c1, c2]), e3]
        · simp only [c2, not_false_eq_true, false_implies, and_true, forall_const]
          rw [ih (i + 1) _ (by omega) (by rw [ha]; simp [mWait, sumN_1, c1, c2]), e3]
      · simp only [c1, not_false_eq_true, false_implies, and_true, forall_const]
        rw [ih (i + 1) _ (by omega) (by rw [ha]; simp [mWait, sumN_1, c1]), e3]
theorem sp_waiting (hS : ∀ k, sP a (tk 10 0) k = mp k) (hn : gI M 214 0 = nI n) (h60 : n ≤ 60) (hB : mBk M n) (k : Int32) : wp_X10_waiting (tk 10 0) k (put a M) Post ↔ Post (.inl (some (.int (mWait M k n)))) (put a M) := by
  unfold wp_X10_waiting
  constructor
  · rintro ⟨g, h⟩
    exact ((lp_waiting hS hn h60 hB k g 0 0 (Nat.zero_le n) rfl).mp (by rw [nI_0]; exact h)).2
  · intro h
    refine ⟨n + 1, ?_⟩
    have h9 := (lp_waiting hS hn h60 hB k (n + 1) 0 0 (Nat.zero_le n) rfl).mpr ⟨by omega, h⟩
    rw [nI_0] at h9
    exact h9
end MM
