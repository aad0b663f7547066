/-! A machine's hour: work, the draw, where the batch goes. -/
def mWo (M : MS) (m : Nat) : MS := mLe (uI (uI (uI (uI M 35 m (gI M 35 m - 1)) 37 m (gI M 37 m + 1)) 17 (ld M m) (gI M 17 (ld M m) + (gI M 30 m + gI M 42 (wk M m)))) 257 0 (gI M 257 0 + (gI M 30 m + gI M 42 (wk M m)))) (4 * wk M m + mSk M (ld M m))
def mHas (M : MS) (m j : Nat) : Bool := decide (¬ (4 * gI M 37 m) / gI M 31 m ≤ (7 * nI j + 5 * gI M 19 j + 3 * gI M 255 0) - (7 * nI j + 5 * gI M 19 j + 3 * gI M 255 0) / 11 * 11)
def mDr (M : MS) (m : Nat) : MS := if gI M 124 (ld M m) = 0 then (if mHas M m (ld M m) = true then uI (uI M 124 (ld M m) 1) 23 (ld M m) (gI M 23 (ld M m) ||| ((1 : Int32) <<< (gI M 19 (ld M m) &&& 31))) else uI M 124 (ld M m) 1) else M
def mLv (M : MS) (m : Nat) : MS := uI (uI (uI (uI M 34 m (-1)) 36 m (-1)) 35 m 0) 39 m (if gI M 37 m < gI M 31 m then gI M 39 m else 1)
def aLv (a : Sg) (M : MS) (m p : Nat) : Sg := if gI M 37 m < gI M 31 m then wI (wP (wP (wI a (tk 7 p) 6 (-1)) (tk 4 m) 7 none) (tk 4 m) 8 none) (tk 4 m) 9 0 else wI (wI (wP (wP (wI a (tk 7 p) 6 (-1)) (tk 4 m) 7 none) (tk 4 m) 8 none) (tk 4 m) 9 0) (tk 4 m) 13 1
def mFi (M : MS) (m : Nat) : MS :=
  if ¬ mFnd M (ld M m) = -1 ∧ ¬ gI M 122 (ld M m) = 0 then uI (mLv M m) 18 (ld M m) 5
  else if mFnd M (ld M m) = -1 ∧ op M (ld M m) + 1 = nOp M (kd M (ld M m)) then
    (if gI M 11 (kd M (ld M m)) < mInSt M (nI (kd M (ld M m))) (nB M) + gI M 16 (ld M m) then M else uI (uI (mLv M m) 18 (ld M m) 3) 19 (ld M m) (nI (op M (ld M m) + 1)))
  else if mFnd M (ld M m) = -1 then
    (if mHR M (gI M 8 (4 * kd M (ld M m) + (op M (ld M m) + 1))) = true then uI (uI (mLv M m) 18 (ld M m) 1) 19 (ld M m) (nI (op M (ld M m) + 1)) else M)
  else
    (if mHR M (gI M 8 (4 * kd M (ld M m) + (mFnd M (ld M m)).toNatClampNeg)) = true then uI (uI (uI (uI (mLv M m) 18 (ld M m) 1) 23 (ld M m) (gI M 23 (ld M m) &&& (((1 : Int32) <<< (mFnd M (ld M m) &&& 31)) - 1))) 122 (ld M m) 1) 19 (ld M m) (mFnd M (ld M m)) else M)
theorem mLv_g (M : MS) (m s i : Nat) (h : s ≠ 34) (h1 : s ≠ 35) (h2 : s ≠ 36) (h3 : s ≠ 39) : gI (mLv M m) s i = gI M s i := by
  unfold mLv
  rw [gI_ne (Ne.symm h3), gI_ne (Ne.symm h1), gI_ne (Ne.symm h2), gI_ne (Ne.symm h)]
theorem mLv_s (M : MS) (m : Nat) (h : gI M 37 m < gI M 31 m) : mLv M m = uI (uI (uI M 34 m (-1)) 36 m (-1)) 35 m 0 := by
  unfold mLv
  rw [if_pos h]
  have e1 : gI M 39 m = gI (uI (uI (uI M 34 m (-1)) 36 m (-1)) 35 m 0) 39 m := by rw [gI_ne (by decide), gI_ne (by decide), gI_ne (by decide)]
  rw [e1, uI_self]
section RR
variable {e : Nat} {a : Sg} {M : MS}
theorem rel_lv (R : Rel e a M) {m j p : Nat} (hm : m < nM M) (hjm : gI M 34 m = nI j) (hj : j < nB M) (hpm : gI M 36 m = nI p) (hp : p < nP M) : Rel e (aLv a M m p) (mLv M m) := by
  have R1 := rel_leave R m j p hm hjm hj hpm hp
  unfold aLv
  by_cases c : gI M 37 m < gI M 31 m
  · rw [if_pos c, mLv_s M m c]; exact R1
  · rw [if_neg c]
    have R2 := rel_need R1 m (by rw [nM_u _ _ _ _ (by decide), nM_u _ _ _ _ (by decide), nM_u _ _ _ _ (by decide)]; exact hm) 1 (by omega) (fun z => by omega)
    unfold mLv
    rw [if_neg c]
    exact R2
theorem not_ld (R : Rel e a M) {m j : Nat} (hm : m < nM M) (hjm : gI M 34 m = nI j) (hj : j < nB M) : ∀ m1, m1 < nM (mLv M m) → gI (mLv M m) 34 m1 ≠ nI j := by
  have hB := r_nBx R
  intro m1 h1 z
  have h2 : m1 < nM M := by
    unfold mLv at h1
    rw [nM_u _ _ _ _ (by decide), nM_u _ _ _ _ (by decide), nM_u _ _ _ _ (by decide), nM_u _ _ _ _ (by decide)] at h1
    exact h1
  have h3 : gI (mLv M m) 34 m1 = if m1 = m then -1 else gI M 34 m1 := by
    unfold mLv
    rw [gI_ne (by decide), gI_ne (by decide), gI_ne (by decide), gI_uI]
    simp
  rw [h3] at z
  by_cases c : m1 = m
  · rw [if_pos c] at z; exact nI_ne1 (by omega) z.symm
  · rw [if_neg c] at z
    have h4 := r_md R m1 m h2 hm c (z.trans hjm.symm)
    exact nI_ne1 (by omega) (z.symm.trans h4)
theorem mLv_n (R : Rel e a M) (m : Nat) : nB (mLv M m) = nB M ∧ nM (mLv M m) = nM M ∧ nP (mLv M m) = nP M ∧ nO (mLv M m) = nO M ∧ hN (mLv M m) = hN M := by
  unfold nB nM nP nO hN
  refine ⟨?_, ?_, ?_, ?_, ?_⟩ <;> rw [mLv_g _ _ _ _ (by decide) (by decide) (by decide) (by decide)]
theorem mLv_k (m i : Nat) : kd (mLv M m) i = kd M i ∧ op (mLv M m) i = op M i ∧ pc (mLv M m) i = pc M i ∧ nOp (mLv M m) i = nOp M i := by
  unfold kd op pc nOp
  refine ⟨?_, ?_, ?_, ?_⟩ <;> rw [mLv_g _ _ _ _ (by decide) (by decide) (by decide) (by decide)]
set_option maxHeartbeats 8000000 in
theorem si_workHour (R : Rel e a M) (he : e + 1 ≤ 6) {m j p : Nat} (hm : m < nM M) (hjm : gI M 34 m = nI j) (hj : j < nB M) (h2 : gI M 18 j = 2) (hpm : gI M 36 m = nI p) (hp : p < nP M) (hl : ¬ gI M 35 m ≤ 0) : Si (e + 1) (mWo M m) a (.inl none) (wp_X1_workHour (tk 1 0) (some (tk 4 m)) (some (tk 0 j)) (some (tk 7 p))) := by
  have hB := r_nBx R
  have hP := r_nPx R
  have hld : ld M m = j := by unfold ld; rw [hjm, nI_clamp (by omega)]
  have hwk : wk M m = p := by unfold wk; rw [hpm, nI_clamp (by omega)]
  obtain ⟨f, y1, y2⟩ := r_mr35 R m hm
  have hf : 1 ≤ f := by
    rcases Nat.eq_zero_or_pos f with z | z
    · subst z; rw [y1, nI_0] at hl; exact absurd (Int32.le_refl 0) hl
    · exact z
  have hf1 : nI f - 1 = nI (f - 1) := nI_sub hf
  obtain ⟨c1, y3, y4⟩ := r_mr30 R m hm
  obtain ⟨c2, b9, h9, y5, y6, _⟩ := r_qm R p hp
  have hK := (r_bK R j hj).2
  have ho := r_bW R j hj (Or.inr h2)
  obtain ⟨w, s, h, z1, z2, z3, z4, z5⟩ := r_om R _ _ hK ho
  have hsk : mSk M j = s := by unfold mSk; rw [z3, nI_clamp (by omega)]
  have R0 := rel_e R (Nat.le_succ e) he
  have R1 := rel_left R0 m hm (f - 1) (by omega) (Or.inl (by rw [hjm]; exact nI_ne1 (by omega)))
  have R2 := rel_wear R1 m (by rw [nM_u _ _ _ _ (by decide)]; exact hm) (gI M 37 m + 1)
  have hc : (gI M 17 j + (gI M 30 m + gI M 42 p)).toInt = (gI M 17 j).toInt + (c1 + c2 : Nat) := by
    have q1 := r_bC R j hj
    have q2 := cost_lt R hj
    rw [y3, y5, nI_add]
    have q3 : (gI M 17 j) = nI (gI M 17 j).toInt.toNat := by
      apply Int32.toInt_inj.mp
      rw [nI_toInt (by omega)]
      omega
    rw [q3, nI_add, nI_toInt (by omega), nI_toInt (by omega)]
    omega
  have R3 := rel_cost R2 j (by rw [nB_u _ _ _ _ (by decide), nB_u _ _ _ _ (by decide)]; exact hj) (gI M 17 j + (gI M 30 m + gI M 42 p)) (by rw [hc]; have := r_bC R j hj; omega) (by
    rw [nB_u _ _ _ _ (by decide), nB_u _ _ _ _ (by decide), tot_u _ _ _ _ _ (by decide), tot_u _ _ _ _ _ (by decide), hN_u _ _ _ _ (by decide), hN_u _ _ _ _ (by decide), gI_ne (by decide), gI_ne (by decide), hc]
    have q := r_bc R
    have q9 : ((e % 7 : Nat) : Int) + 1 = (((e + 1) % 7 : Nat) : Int) := by omega
    omega)
  have R4 := rel_wtot R3 (gI M 257 0 + (gI M 30 m + gI M 42 p))
  have hj4 : j < nB (uI (uI (uI (uI M 35 m (nI (f - 1))) 37 m (gI M 37 m + 1)) 17 j (gI M 17 j + (gI M 30 m + gI M 42 p))) 257 0 (gI M 257 0 + (gI M 30 m + gI M 42 p))) := by
    rw [nB_u _ _ _ _ (by decide), nB_u _ _ _ _ (by decide), nB_u _ _ _ _ (by decide), nB_u _ _ _ _ (by decide)]; exact hj
  have hp4 : p < nP (uI (uI (uI (uI M 35 m (nI (f - 1))) 37 m (gI M 37 m + 1)) 17 j (gI M 17 j + (gI M 30 m + gI M 42 p))) 257 0 (gI M 257 0 + (gI M 30 m + gI M 42 p))) := by
    rw [nP_u _ _ _ _ (by decide), nP_u _ _ _ _ (by decide), nP_u _ _ _ _ (by decide), nP_u _ _ _ _ (by decide)]; exact hp
  have ho4 : op (uI (uI (uI (uI M 35 m (nI (f - 1))) 37 m (gI M 37 m + 1)) 17 j (gI M 17 j + (gI M 30 m + gI M 42 p))) 257 0 (gI M 257 0 + (gI M 30 m + gI M 42 p))) j < nOp (uI (uI (uI (uI M 35 m (nI (f - 1))) 37 m (gI M 37 m + 1)) 17 j (gI M 17 j + (gI M 30 m + gI M 42 p))) 257 0 (gI M 257 0 + (gI M 30 m + gI M 42 p))) (kd (uI (uI (uI (uI M 35 m (nI (f - 1))) 37 m (gI M 37 m + 1)) 17 j (gI M 17 j + (gI M 30 m + gI M 42 p))) 257 0 (gI M 257 0 + (gI M 30 m + gI M 42 p))) j) := by
    simp (disch := decide) only [op_u, nOp_u, kd_u]; exact ho
  obtain ⟨a5, R5, h5⟩ := si_learn R4 hp4 z4
  have hfin : mWo M m = mLe (uI (uI (uI (uI M 35 m (nI (f - 1))) 37 m (gI M 37 m + 1)) 17 j (gI M 17 j + (gI M 30 m + gI M 42 p))) 257 0 (gI M 257 0 + (gI M 30 m + gI M 42 p))) (4 * p + s) := by
    unfold mWo
    rw [hld, hwk, hsk, y1, hf1]
  rw [hfin]
  refine ⟨a5, R5, fun M0 Post hp9 => ?_⟩
  have g9 : sI a (tk 4 m) 9 = nI f := (r_m9 R m hm).trans y1
  have g11 := r_m11 R m hm
  have g3 := r_m3 R m hm
  have g1 := r_q1 R p hp
  have gb := r_b3 R j hj
  have gw := r_gworked R
  have gs : sI a (tk 5 (4 * kd M j + op M j)) 1 = nI s := (r_o2 R _ _ hK ho).trans z3
  unfold wp_X1_workHour
  simp (disch := first | (with_reducible exact rfl) | assumption | omega | decide | (simp only [al_14, al_15, al_16, al_17, al_18, al_19, al_20, al_21, al_22, al_23, al_24, al_m0, al_m1, al_m2, al_m3, al_m4, al_m5, al_m6, al_m7, al_m8, al_m9, al_m10, al_m11, al_m12, al_m13, al_m15, al_m16, al_m17, al_m18, al_m19, al_m20, al_m21, al_m22, al_m23, al_m24, al_m25, al_m26, al_m28, al_m29, al_m30, al_m31, al_m32, al_m33, al_m34, al_m35, al_m36, al_m37, al_m38, al_m39, al_m40, al_m42, al_m43, al_m44, al_m45, al_m46, al_m48, al_m49, al_m50, al_m51, al_m52, al_m53, al_m60, al_m61]; omega) | (simp (disch := omega) only [hm, sP_put, mp_0, mp_1, mp_2, mp_3, mp_4, mp_5, mp_6, mp_7, mp_8, mp_9, mp_10, mp_11, mp_12, mp_13, mp_15, mp_16, mp_17, mp_18, mp_19, mp_20, mp_21, mp_22, mp_23, mp_24, mp_25, mp_26, mp_28, mp_29, mp_30, mp_31, mp_32, mp_33, mp_34, mp_35, mp_36, mp_37, mp_38, mp_39, mp_40, mp_42, mp_43, mp_44, mp_45, mp_46, mp_48, mp_49, mp_50, mp_51, mp_52, mp_53, mp_60, mp_61, sP_wI, sP_wP, sP_wL, true_and, and_true, tk_inj, false_and, and_false, if_true, if_false, tk_ne9]; rfl) | (simp (disch := omega) only [hm, sI_putc, wI_putc, sI_put11, sI_put13, sI_putm, sL_put12, wI_put11, wI_put13, wI_putm, wL_put12, sP_put, sX_put, wP_put, sI_put_0, sI_put_1, sI_put_2, sI_put_3, sI_put_4, sI_put_5, sI_put_6, sI_put_7, sI_put_8, sI_put_9, sI_put_14, sI_put_15, sI_put_16, sI_put_17, sI_put_18, sI_put_19, sI_put_20, sI_put_21, sI_put_22, sI_put_23, sI_put_24, wI_put_0, wI_put_1, wI_put_2, wI_put_3, wI_put_4, wI_put_5, wI_put_6, wI_put_7, wI_put_8, wI_put_9, wI_put_14, wI_put_15, wI_put_16, wI_put_17, wI_put_18, wI_put_19, wI_put_20, wI_put_21, wI_put_22, wI_put_23, wI_put_24, wN_put_0, wN_put_1, wN_put_2, wN_put_3, wN_put_4, wN_put_5, wN_put_6, wN_put_7, wN_put_8, wN_put_9, wN_put_14, wN_put_15, wN_put_16, wN_put_17, wN_put_18, wN_put_19, wN_put_20, wN_put_21, wN_put_22, wN_put_23, wN_put_24, sL_put_0, sL_put_24, wL_put_0, wL_put_24, tm_0, tm_1, tm_2, tm_3, tm_4, tm_5, tm_6, tm_7, tm_8, tm_9, tm_10, tm_11, tm_12, tm_13, tm_14, tm_15, tm_16, tm_17, tm_18, tm_19, tm_20, tm_21, tm_22, tm_23, tm_24, at_11, at_12, at_13, at_14, at_15, at_16, at_17, at_18, at_19, at_20, at_21, at_22, at_23, at_24, al_14, al_15, al_16, al_17, al_18, al_19, al_20, al_21, al_22, al_23, al_24, al_m0, al_m1, al_m2, al_m3, al_m4, al_m5, al_m6, al_m7, al_m8, al_m9, al_m10, al_m11, al_m12, al_m13, al_m15, al_m16, al_m17, al_m18, al_m19, al_m20, al_m21, al_m22, al_m23, al_m24, al_m25, al_m26, al_m28, al_m29, al_m30, al_m31, al_m32, al_m33, al_m34, al_m35, al_m36, al_m37, al_m38, al_m39, al_m40, al_m42, al_m43, al_m44, al_m45, al_m46, al_m48, al_m49, al_m50, al_m51, al_m52, al_m53, al_m60, al_m61, mp_0, mp_1, mp_2, mp_3, mp_4, mp_5, mp_6, mp_7, mp_8, mp_9, mp_10, mp_11, mp_12, mp_13, mp_15, mp_16, mp_17, mp_18, mp_19, mp_20, mp_21, mp_22, mp_23, mp_24, mp_25, mp_26, mp_28, mp_29, mp_30, mp_31, mp_32, mp_33, mp_34, mp_35, mp_36, mp_37, mp_38, mp_39, mp_40, mp_42, mp_43, mp_44, mp_45, mp_46, mp_48, mp_49, mp_50, mp_51, mp_52, mp_53, mp_60, mp_61, row_14, row_15, row_16, row_17, row_18, row_19, row_20, ar_11, ar_12, ar_13, ar_14, ar_15, ar_16, ar_17, ar_18, ar_19, ar_20, ar_21, ar_22, ar_23, ar_24, cs_14, cs_15, cs_16, cs_17, cs_18, cs_19, cs_20, ex_ix, ex_0, b01_0, b01_1, KI_i, KI_x, KJ_j, KJ_x, KV_v, KV_x, KO_t, KO_n, KO_x, KO_rf, n4, n3, nI_add, nI_1, nI_leI, nI_ltI, nI_eq, gI_uI, gI_uL, gL_uI, gL_uL, sI_wI, sI_wP, sI_wL, sP_wI, sP_wP, sP_wL, sL_wI, sL_wP, sL_wL, forall_eq, exists_eq_left, exists_eq_left', Option.some.injEq, true_and, and_true, Nat.reduceAdd, Nat.reduceMul, Nat.reduceEqDiff, eq_self, tk_inj, and_self, false_and, and_false, if_true, if_false, forall_const, true_implies, ite_true, ite_false, reduceIte, reduceCtorEq, tk_ne9, i1e, i2e, i3e, i1_0, i2_0, i3_0, false_implies, false_or, or_false, true_or, or_true, String.reduceEq, Nat.reduceLT, Int32.le_refl, not_true_eq_false, not_false_eq_true, Nat.zero_lt_one, Bool.false_eq_true, Bool.true_eq_false]; done) | fail "no") only [↓dO1, ↓dO0, ↓KI_i, ↓KI_x, ↓KJ_j, ↓KJ_x, ↓KV_v, ↓KV_x, ↓KO_t, ↓KO_n, ↓KO_x, ↓KO_rf, ↓dT, ↓dAt, ↓dX, ↓dX0, ↓dE, ↓dS, ↓dR, ↓dAr, ↓dCs, ↓dB, ↓forall_eq, ↓dI1, ↓dI2, ↓dI3, ↓dI4, ↓dF1, ↓dF2, ↓wI_putm, ↓wI_put11, ↓wI_put13, ↓wL_put12, ↓wP_put, ↓wI_put_0, ↓wI_put_1, ↓wI_put_2, ↓wI_put_3, ↓wI_put_4, ↓wI_put_5, ↓wI_put_6, ↓wI_put_7, ↓wI_put_8, ↓wI_put_9, ↓wI_put_14, ↓wI_put_15, ↓wI_put_16, ↓wI_put_17, ↓wI_put_18, ↓wI_put_19, ↓wI_put_20, ↓wI_put_21, ↓wI_put_22, ↓wI_put_23, ↓wI_put_24, ↓wN_put_0, ↓wN_put_1, ↓wN_put_2, ↓wN_put_3, ↓wN_put_4, ↓wN_put_5, ↓wN_put_6, ↓wN_put_7, ↓wN_put_8, ↓wN_put_9, ↓wN_put_14, ↓wN_put_15, ↓wN_put_16, ↓wN_put_17, ↓wN_put_18, ↓wN_put_19, ↓wN_put_20, ↓wN_put_21, ↓wN_put_22, ↓wN_put_23, ↓wN_put_24, ↓wL_put_0, ↓wL_put_24]
  simp (disch := omega) only [g9, g11, g3, g1, gb, gw, hf1, gs, sI_putc, wI_putc, sI_put11, sI_put13, sI_putm, sL_put12, wI_put11, wI_put13, wI_putm, wL_put12, sP_put, sX_put, wP_put, sI_put_0, sI_put_1, sI_put_2, sI_put_3, sI_put_4, sI_put_5, sI_put_6, sI_put_7, sI_put_8, sI_put_9, sI_put_14, sI_put_15, sI_put_16, sI_put_17, sI_put_18, sI_put_19, sI_put_20, sI_put_21, sI_put_22, sI_put_23, sI_put_24, wI_put_0, wI_put_1, wI_put_2, wI_put_3, wI_put_4, wI_put_5, wI_put_6, wI_put_7, wI_put_8, wI_put_9, wI_put_14, wI_put_15, wI_put_16, wI_put_17, wI_put_18, wI_put_19, wI_put_20, wI_put_21, wI_put_22, wI_put_23, wI_put_24, wN_put_0, wN_put_1, wN_put_2, wN_put_3, wN_put_4, wN_put_5, wN_put_6, wN_put_7, wN_put_8, wN_put_9, wN_put_14, wN_put_15, wN_put_16, wN_put_17, wN_put_18, wN_put_19, wN_put_20, wN_put_21, wN_put_22, wN_put_23, wN_put_24, sL_put_0, sL_put_24, wL_put_0, wL_put_24, tm_0, tm_1, tm_2, tm_3, tm_4, tm_5, tm_6, tm_7, tm_8, tm_9, tm_10, tm_11, tm_12, tm_13, tm_14, tm_15, tm_16, tm_17, tm_18, tm_19, tm_20, tm_21, tm_22, tm_23, tm_24, at_11, at_12, at_13, at_14, at_15, at_16, at_17, at_18, at_19, at_20, at_21, at_22, at_23, at_24, al_14, al_15, al_16, al_17, al_18, al_19, al_20, al_21, al_22, al_23, al_24, al_m0, al_m1, al_m2, al_m3, al_m4, al_m5, al_m6, al_m7, al_m8, al_m9, al_m10, al_m11, al_m12, al_m13, al_m15, al_m16, al_m17, al_m18, al_m19, al_m20, al_m21, al_m22, al_m23, al_m24, al_m25, al_m26, al_m28, al_m29, al_m30, al_m31, al_m32, al_m33, al_m34, al_m35, al_m36, al_m37, al_m38, al_m39, al_m40, al_m42, al_m43, al_m44, al_m45, al_m46, al_m48, al_m49, al_m50, al_m51, al_m52, al_m53, al_m60, al_m61, mp_0, mp_1, mp_2, mp_3, mp_4, mp_5, mp_6, mp_7, mp_8, mp_9, mp_10, mp_11, mp_12, mp_13, mp_15, mp_16, mp_17, mp_18, mp_19, mp_20, mp_21, mp_22, mp_23, mp_24, mp_25, mp_26, mp_28, mp_29, mp_30, mp_31, mp_32, mp_33, mp_34, mp_35, mp_36, mp_37, mp_38, mp_39, mp_40, mp_42, mp_43, mp_44, mp_45, mp_46, mp_48, mp_49, mp_50, mp_51, mp_52, mp_53, mp_60, mp_61, row_14, row_15, row_16, row_17, row_18, row_19, row_20, ar_11, ar_12, ar_13, ar_14, ar_15, ar_16, ar_17, ar_18, ar_19, ar_20, ar_21, ar_22, ar_23, ar_24, cs_14, cs_15, cs_16, cs_17, cs_18, cs_19, cs_20, ex_ix, ex_0, b01_0, b01_1, KI_i, KI_x, KJ_j, KJ_x, KV_v, KV_x, KO_t, KO_n, KO_x, KO_rf, n4, n3, nI_add, nI_1, nI_leI, nI_ltI, nI_eq, gI_uI, gI_uL, gL_uI, gL_uL, sI_wI, sI_wP, sI_wL, sP_wI, sP_wP, sP_wL, sL_wI, sL_wP, sL_wL, forall_eq, exists_eq_left, exists_eq_left', Option.some.injEq, true_and, and_true, Nat.reduceAdd, Nat.reduceMul, Nat.reduceEqDiff, eq_self, tk_inj, and_self, false_and, and_false, if_true, if_false, forall_const, true_implies, ite_true, ite_false, reduceIte, reduceCtorEq, tk_ne9, i1e, i2e, i3e, i1_0, i2_0, i3_0, false_implies, false_or, or_false, true_or, or_true, String.reduceEq, Nat.reduceLT, Int32.le_refl, not_true_eq_false, not_false_eq_true, Nat.zero_lt_one, Bool.false_eq_true, Bool.true_eq_false]
  simp (disch := first | (with_reducible exact rfl) | assumption | omega | decide | (simp only [al_14, al_15, al_16, al_17, al_18, al_19, al_20, al_21, al_22, al_23, al_24, al_m0, al_m1, al_m2, al_m3, al_m4, al_m5, al_m6, al_m7, al_m8, al_m9, al_m10, al_m11, al_m12, al_m13, al_m15, al_m16, al_m17, al_m18, al_m19, al_m20, al_m21, al_m22, al_m23, al_m24, al_m25, al_m26, al_m28, al_m29, al_m30, al_m31, al_m32, al_m33, al_m34, al_m35, al_m36, al_m37, al_m38, al_m39, al_m40, al_m42, al_m43, al_m44, al_m45, al_m46, al_m48, al_m49, al_m50, al_m51, al_m52, al_m53, al_m60, al_m61]; omega) | (simp (disch := omega) only [hm, sP_put, mp_0, mp_1, mp_2, mp_3, mp_4, mp_5, mp_6, mp_7, mp_8, mp_9, mp_10, mp_11, mp_12, mp_13, mp_15, mp_16, mp_17, mp_18, mp_19, mp_20, mp_21, mp_22, mp_23, mp_24, mp_25, mp_26, mp_28, mp_29, mp_30, mp_31, mp_32, mp_33, mp_34, mp_35, mp_36, mp_37, mp_38, mp_39, mp_40, mp_42, mp_43, mp_44, mp_45, mp_46, mp_48, mp_49, mp_50, mp_51, mp_52, mp_53, mp_60, mp_61, sP_wI, sP_wP, sP_wL, true_and, and_true, tk_inj, false_and, and_false, if_true, if_false, tk_ne9]; rfl) | (simp (disch := omega) only [hm, sI_putc, wI_putc, sI_put11, sI_put13, sI_putm, sL_put12, wI_put11, wI_put13, wI_putm, wL_put12, sP_put, sX_put, wP_put, sI_put_0, sI_put_1, sI_put_2, sI_put_3, sI_put_4, sI_put_5, sI_put_6, sI_put_7, sI_put_8, sI_put_9, sI_put_14, sI_put_15, sI_put_16, sI_put_17, sI_put_18, sI_put_19, sI_put_20, sI_put_21, sI_put_22, sI_put_23, sI_put_24, wI_put_0, wI_put_1, wI_put_2, wI_put_3, wI_put_4, wI_put_5, wI_put_6, wI_put_7, wI_put_8, wI_put_9, wI_put_14, wI_put_15, wI_put_16, wI_put_17, wI_put_18, wI_put_19, wI_put_20, wI_put_21, wI_put_22, wI_put_23, wI_put_24, wN_put_0, wN_put_1, wN_put_2, wN_put_3, wN_put_4, wN_put_5, wN_put_6, wN_put_7, wN_put_8, wN_put_9, wN_put_14, wN_put_15, wN_put_16, wN_put_17, wN_put_18, wN_put_19, wN_put_20, wN_put_21, wN_put_22, wN_put_23, wN_put_24, sL_put_0, sL_put_24, wL_put_0, wL_put_24, tm_0, tm_1, tm_2, tm_3, tm_4, tm_5, tm_6, tm_7, tm_8, tm_9, tm_10, tm_11, tm_12, tm_13, tm_14, tm_15, tm_16, tm_17, tm_18, tm_19, tm_20, tm_21, tm_22, tm_23, tm_24, at_11, at_12, at_13, at_14, at_15, at_16, at_17, at_18, at_19, at_20, at_21, at_22, at_23, at_24, al_14, al_15, al_16, al_17, al_18, al_19, al_20, al_21, al_22, al_23, al_24, al_m0, al_m1, al_m2, al_m3, al_m4, al_m5, al_m6, al_m7, al_m8, al_m9, al_m10, al_m11, al_m12, al_m13, al_m15, al_m16, al_m17, al_m18, al_m19, al_m20, al_m21, al_m22, al_m23, al_m24, al_m25, al_m26, al_m28, al_m29, al_m30, al_m31, al_m32, al_m33, al_m34, al_m35, al_m36, al_m37, al_m38, al_m39, al_m40, al_m42, al_m43, al_m44, al_m45, al_m46, al_m48, al_m49, al_m50, al_m51, al_m52, al_m53, al_m60, al_m61, mp_0, mp_1, mp_2, mp_3, mp_4, mp_5, mp_6, mp_7, mp_8, mp_9, mp_10, mp_11, mp_12, mp_13, mp_15, mp_16, mp_17, mp_18, mp_19, mp_20, mp_21, mp_22, mp_23, mp_24, mp_25, mp_26, mp_28, mp_29, mp_30, mp_31, mp_32, mp_33, mp_34, mp_35, mp_36, mp_37, mp_38, mp_39, mp_40, mp_42, mp_43, mp_44, mp_45, mp_46, mp_48, mp_49, mp_50, mp_51, mp_52, mp_53, mp_60, mp_61, row_14, row_15, row_16, row_17, row_18, row_19, row_20, ar_11, ar_12, ar_13, ar_14, ar_15, ar_16, ar_17, ar_18, ar_19, ar_20, ar_21, ar_22, ar_23, ar_24, cs_14, cs_15, cs_16, cs_17, cs_18, cs_19, cs_20, ex_ix, ex_0, b01_0, b01_1, KI_i, KI_x, KJ_j, KJ_x, KV_v, KV_x, KO_t, KO_n, KO_x, KO_rf, n4, n3, nI_add, nI_1, nI_leI, nI_ltI, nI_eq, gI_uI, gI_uL, gL_uI, gL_uL, sI_wI, sI_wP, sI_wL, sP_wI, sP_wP, sP_wL, sL_wI, sL_wP, sL_wL, forall_eq, exists_eq_left, exists_eq_left', Option.some.injEq, true_and, and_true, Nat.reduceAdd, Nat.reduceMul, Nat.reduceEqDiff, eq_self, tk_inj, and_self, false_and, and_false, if_true, if_false, forall_const, true_implies, ite_true, ite_false, reduceIte, reduceCtorEq, tk_ne9, i1e, i2e, i3e, i1_0, i2_0, i3_0, false_implies, false_or, or_false, true_or, or_true, String.reduceEq, Nat.reduceLT, Int32.le_refl, not_true_eq_false, not_false_eq_true, Nat.zero_lt_one, Bool.false_eq_true, Bool.true_eq_false]; done) | fail "no") only [↓sp_opNow R4 hj4, ↓if_pos ho4, ↓dO1, ↓dO0, ↓KI_i, ↓KI_x, ↓KJ_j, ↓KJ_x, ↓KV_v, ↓KV_x, ↓KO_t, ↓KO_n, ↓KO_x, ↓KO_rf, ↓dT, ↓dAt, ↓dX, ↓dX0, ↓dE, ↓dS, ↓dR, ↓dAr, ↓dCs, ↓dB, ↓forall_eq, ↓dI1, ↓dI2, ↓dI3, ↓dI4, ↓dF1, ↓dF2, ↓wI_putm, ↓wI_put11, ↓wI_put13, ↓wL_put12, ↓wP_put, ↓wI_put_0, ↓wI_put_1, ↓wI_put_2, ↓wI_put_3, ↓wI_put_4, ↓wI_put_5, ↓wI_put_6, ↓wI_put_7, ↓wI_put_8, ↓wI_put_9, ↓wI_put_14, ↓wI_put_15, ↓wI_put_16, ↓wI_put_17, ↓wI_put_18, ↓wI_put_19, ↓wI_put_20, ↓wI_put_21, ↓wI_put_22, ↓wI_put_23, ↓wI_put_24, ↓wN_put_0, ↓wN_put_1, ↓wN_put_2, ↓wN_put_3, ↓wN_put_4, ↓wN_put_5, ↓wN_put_6, ↓wN_put_7, ↓wN_put_8, ↓wN_put_9, ↓wN_put_14, ↓wN_put_15, ↓wN_put_16, ↓wN_put_17, ↓wN_put_18, ↓wN_put_19, ↓wN_put_20, ↓wN_put_21, ↓wN_put_22, ↓wN_put_23, ↓wN_put_24, ↓wL_put_0, ↓wL_put_24]
  try simp (disch := decide) only [op_u, nOp_u, kd_u]
  try simp (disch := omega) only [g9, g11, g3, g1, gb, gw, hf1, gs, sI_putc, wI_putc, sI_put11, sI_put13, sI_putm, sL_put12, wI_put11, wI_put13, wI_putm, wL_put12, sP_put, sX_put, wP_put, sI_put_0, sI_put_1, sI_put_2, sI_put_3, sI_put_4, sI_put_5, sI_put_6, sI_put_7, sI_put_8, sI_put_9, sI_put_14, sI_put_15, sI_put_16, sI_put_17, sI_put_18, sI_put_19, sI_put_20, sI_put_21, sI_put_22, sI_put_23, sI_put_24, wI_put_0, wI_put_1, wI_put_2, wI_put_3, wI_put_4, wI_put_5, wI_put_6, wI_put_7, wI_put_8, wI_put_9, wI_put_14, wI_put_15, wI_put_16, wI_put_17, wI_put_18, wI_put_19, wI_put_20, wI_put_21, wI_put_22, wI_put_23, wI_put_24, wN_put_0, wN_put_1, wN_put_2, wN_put_3, wN_put_4, wN_put_5, wN_put_6, wN_put_7, wN_put_8, wN_put_9, wN_put_14, wN_put_15, wN_put_16, wN_put_17, wN_put_18, wN_put_19, wN_put_20, wN_put_21, wN_put_22, wN_put_23, wN_put_24, sL_put_0, sL_put_24, wL_put_0, wL_put_24, tm_0, tm_1, tm_2, tm_3, tm_4, tm_5, tm_6, tm_7, tm_8, tm_9, tm_10, tm_11, tm_12, tm_13, tm_14, tm_15, tm_16, tm_17, tm_18, tm_19, tm_20, tm_21, tm_22, tm_23, tm_24, at_11, at_12, at_13, at_14, at_15, at_16, at_17, at_18, at_19, at_20, at_21, at_22, at_23, at_24, al_14, al_15, al_16, al_17, al_18, al_19, al_20, al_21, al_22, al_23, al_24, al_m0, al_m1, al_m2, al_m3, al_m4, al_m5, al_m6, al_m7, al_m8, al_m9, al_m10, al_m11, al_m12, al_m13, al_m15, al_m16, al_m17, al_m18, al_m19, al_m20, al_m21, al_m22, al_m23, al_m24, al_m25, al_m26, al_m28, al_m29, al_m30, al_m31, al_m32, al_m33, al_m34, al_m35, al_m36, al_m37, al_m38, al_m39, al_m40, al_m42, al_m43, al_m44, al_m45, al_m46, al_m48, al_m49, al_m50, al_m51, al_m52, al_m53, al_m60, al_m61, mp_0, mp_1, mp_2, mp_3, mp_4, mp_5, mp_6, mp_7, mp_8, mp_9, mp_10, mp_11, mp_12, mp_13, mp_15, mp_16, mp_17, mp_18, mp_19, mp_20, mp_21, mp_22, mp_23, mp_24, mp_25, mp_26, mp_28, mp_29, mp_30, mp_31, mp_32, mp_33, mp_34, mp_35, mp_36, mp_37, mp_38, mp_39, mp_40, mp_42, mp_43, mp_44, mp_45, mp_46, mp_48, mp_49, mp_50, mp_51, mp_52, mp_53, mp_60, mp_61, row_14, row_15, row_16, row_17, row_18, row_19, row_20, ar_11, ar_12, ar_13, ar_14, ar_15, ar_16, ar_17, ar_18, ar_19, ar_20, ar_21, ar_22, ar_23, ar_24, cs_14, cs_15, cs_16, cs_17, cs_18, cs_19, cs_20, ex_ix, ex_0, b01_0, b01_1, KI_i, KI_x, KJ_j, KJ_x, KV_v, KV_x, KO_t, KO_n, KO_x, KO_rf, n4, n3, nI_add, nI_1, nI_leI, nI_ltI, nI_eq, gI_uI, gI_uL, gL_uI, gL_uL, sI_wI, sI_wP, sI_wL, sP_wI, sP_wP, sP_wL, sL_wI, sL_wP, sL_wL, forall_eq, exists_eq_left, exists_eq_left', Option.some.injEq, true_and, and_true, Nat.reduceAdd, Nat.reduceMul, Nat.reduceEqDiff, eq_self, tk_inj, and_self, false_and, and_false, if_true, if_false, forall_const, true_implies, ite_true, ite_false, reduceIte, reduceCtorEq, tk_ne9, i1e, i2e, i3e, i1_0, i2_0, i3_0, false_implies, false_or, or_false, true_or, or_true, String.reduceEq, Nat.reduceLT, Int32.le_refl, not_true_eq_false, not_false_eq_true, Nat.zero_lt_one, Bool.false_eq_true, Bool.true_eq_false]
  exact h5 M0 _ hp9
end RR
