/-! The calls, pair by pair. -/
theorem sp_thr (a : Sg) (M : MS) (Post : Rs → Sg → Prop) : wp_X10_thrown (tk 10 0) (put a M) Post ↔ Post (.inl (some (.int (gI M 259 0)))) (put a M) := by
  unfold wp_X10_thrown
  simp (disch := omega) only [sI_putc, wI_putc, sI_put11, sI_put13, sI_putm, sL_put12, wI_put11, wI_put13, wI_putm, wL_put12, sP_put, sX_put, wP_put, sI_put_0, sI_put_1, sI_put_2, sI_put_3, sI_put_4, sI_put_5, sI_put_6, sI_put_7, sI_put_8, sI_put_9, sI_put_14, sI_put_15, sI_put_16, sI_put_17, sI_put_18, sI_put_19, sI_put_20, sI_put_21, sI_put_22, sI_put_23, sI_put_24, wI_put_0, wI_put_1, wI_put_2, wI_put_3, wI_put_4, wI_put_5, wI_put_6, wI_put_7, wI_put_8, wI_put_9, wI_put_14, wI_put_15, wI_put_16, wI_put_17, wI_put_18, wI_put_19, wI_put_20, wI_put_21, wI_put_22, wI_put_23, wI_put_24, wN_put_0, wN_put_1, wN_put_2, wN_put_3, wN_put_4, wN_put_5, wN_put_6, wN_put_7, wN_put_8, wN_put_9, wN_put_14, wN_put_15, wN_put_16, wN_put_17, wN_put_18, wN_put_19, wN_put_20, wN_put_21, wN_put_22, wN_put_23, wN_put_24, sL_put_0, sL_put_24, wL_put_0, wL_put_24, tm_0, tm_1, tm_2, tm_3, tm_4, tm_5, tm_6, tm_7, tm_8, tm_9, tm_10, tm_11, tm_12, tm_13, tm_14, tm_15, tm_16, tm_17, tm_18, tm_19, tm_20, tm_21, tm_22, tm_23, tm_24, at_11, at_12, at_13, at_14, at_15, at_16, at_17, at_18, at_19, at_20, at_21, at_22, at_23, at_24, al_14, al_15, al_16, al_17, al_18, al_19, al_20, al_21, al_22, al_23, al_24, al_m0, al_m1, al_m2, al_m3, al_m4, al_m5, al_m6, al_m7, al_m8, al_m9, al_m10, al_m11, al_m12, al_m13, al_m15, al_m16, al_m17, al_m18, al_m19, al_m20, al_m21, al_m22, al_m23, al_m24, al_m25, al_m26, al_m28, al_m29, al_m30, al_m31, al_m32, al_m33, al_m34, al_m35, al_m36, al_m37, al_m38, al_m39, al_m40, al_m42, al_m43, al_m44, al_m45, al_m46, al_m48, al_m49, al_m50, al_m51, al_m52, al_m53, al_m60, al_m61, mp_0, mp_1, mp_2, mp_3, mp_4, mp_5, mp_6, mp_7, mp_8, mp_9, mp_10, mp_11, mp_12, mp_13, mp_15, mp_16, mp_17, mp_18, mp_19, mp_20, mp_21, mp_22, mp_23, mp_24, mp_25, mp_26, mp_28, mp_29, mp_30, mp_31, mp_32, mp_33, mp_34, mp_35, mp_36, mp_37, mp_38, mp_39, mp_40, mp_42, mp_43, mp_44, mp_45, mp_46, mp_48, mp_49, mp_50, mp_51, mp_52, mp_53, mp_60, mp_61, row_14, row_15, row_16, row_17, row_18, row_19, row_20, ar_11, ar_12, ar_13, ar_14, ar_15, ar_16, ar_17, ar_18, ar_19, ar_20, ar_21, ar_22, ar_23, ar_24, cs_14, cs_15, cs_16, cs_17, cs_18, cs_19, cs_20, ex_ix, ex_0, b01_0, b01_1, KI_i, KI_x, KJ_j, KJ_x, KV_v, KV_x, KO_t, KO_n, KO_x, KO_rf, n4, n3, nI_add, nI_1, nI_leI, nI_ltI, nI_eq, gI_uI, gI_uL, gL_uI, gL_uL, sI_wI, sI_wP, sI_wL, sP_wI, sP_wP, sP_wL, sL_wI, sL_wP, sL_wL, forall_eq, exists_eq_left, exists_eq_left', Option.some.injEq, true_and, and_true, Nat.reduceAdd, Nat.reduceMul, Nat.reduceEqDiff, eq_self, tk_inj, and_self, false_and, and_false, if_true, if_false, forall_const, true_implies, ite_true, ite_false, reduceIte, reduceCtorEq, tk_ne9, i1e, i2e, i3e, i1_0, i2_0, i3_0, false_implies, false_or, or_false, true_or, or_true, String.reduceEq, Nat.reduceLT, Int32.le_refl, not_true_eq_false, not_false_eq_true, Nat.zero_lt_one, Bool.false_eq_true, Bool.true_eq_false]
def Pair (x : Int32) (b : Int32) (K : Sg → Prop) (σ : Sg) : Prop := wp_X10_thrown (tk 10 0) σ (KI (fun t σ2 => t = x ∧ (x = 0 → sL σ2 (tk 24 0) 0 = Int32.toInt64 b) ∧ K σ2) F9)
theorem pair_of {x b : Int32} {K : Sg → Prop} {a : Sg} {M : MS} (h1 : gI M 259 0 = x) (h2 : x = 0 → sL a (tk 24 0) 0 = Int32.toInt64 b) (h3 : K (put a M)) : Pair x b K (put a M) := by
  unfold Pair
  rw [sp_thr]
  exact ⟨h1, fun h => by rw [sL_put_24]; exact h2 h, h3⟩
set_option maxHeartbeats 4000000 in
theorem rel_thrown {e : Nat} {a : Sg} {M : MS} (R : Rel e a M) (k : Int32) : Rel e a (uI M 259 0 k) := by
  unfold Rel
  refine ⟨?_, ?_, ?_, ?_, ?_, ?_, ?_, ?_, ?_, ?_, ?_, ?_, ?_, ?_, ?_, ?_, ?_, ?_, ?_, ?_, ?_, ?_, ?_, ?_, ?_, ?_, ?_, ?_, ?_, ?_, ?_, ?_, ?_, ?_, ?_, ?_, ?_, ?_, ?_, ?_, ?_, ?_, ?_, ?_, ?_, ?_, ?_, ?_, ?_, ?_, ?_, ?_, ?_, ?_, ?_, ?_, ?_, ?_, ?_, ?_, ?_, ?_, ?_, ?_, ?_, ?_, ?_, ?_, ?_, ?_, ?_, ?_, ?_, ?_, ?_, ?_, ?_, ?_, ?_, ?_, ?_, ?_, ?_, ?_, ?_, ?_, ?_, ?_, ?_, ?_, ?_, ?_, ?_, ?_, ?_, ?_, ?_, ?_, ?_, ?_, ?_, ?_, ?_, ?_, ?_, ?_, ?_, ?_, ?_, ?_, ?_, ?_, ?_, ?_, ?_, ?_, ?_, ?_, ?_, ?_, ?_, ?_, ?_, ?_, ?_, ?_, ?_, ?_, ?_, ?_, ?_, ?_, ?_, ?_, ?_, ?_, ?_, ?_, ?_, ?_, ?_, ?_, ?_, ?_, ?_, ?_, ?_, ?_, ?_⟩
  · have h9 := r_shm R
    unfold Cshm
    simpa (disch := omega) only [sI_wI, sI_wP, sI_wL, sI_wN, sP_wI, sP_wP, sP_wL, sP_wN, sL_wI, sL_wP, sL_wL, sL_wN, sX_wI, sX_wP, sX_wL, sX_wN, gI_uI, gI_uL, gL_uI, gL_uL, tk_ne9, tk_inj, nB_u, nM_u, nP_u, nO_u, hN_u, nLn_u, nOp_u, lnP_u, pc_u, kd_u, op_u, pr_u, mInSt_u, mProm_u, nInSt_u, nProm_u, totp_u, tot_u, nB_l, nM_l, nP_l, nO_l, hN_l, nLn_l, nOp_l, lnP_l, pc_l, kd_l, op_l, pr_l, mInSt_l, mProm_l, nInSt_l, nProm_l, totp_l, tot_l, if_false, if_true, false_and, and_false, Nat.reduceEqDiff, reduceIte, reduceCtorEq, and_true, true_and] using h9
  · have h9 := r_px0 R
    unfold Cpx0
    simpa (disch := omega) only [sI_wI, sI_wP, sI_wL, sI_wN, sP_wI, sP_wP, sP_wL, sP_wN, sL_wI, sL_wP, sL_wL, sL_wN, sX_wI, sX_wP, sX_wL, sX_wN, gI_uI, gI_uL, gL_uI, gL_uL, tk_ne9, tk_inj, nB_u, nM_u, nP_u, nO_u, hN_u, nLn_u, nOp_u, lnP_u, pc_u, kd_u, op_u, pr_u, mInSt_u, mProm_u, nInSt_u, nProm_u, totp_u, tot_u, nB_l, nM_l, nP_l, nO_l, hN_l, nLn_l, nOp_l, lnP_l, pc_l, kd_l, op_l, pr_l, mInSt_l, mProm_l, nInSt_l, nProm_l, totp_l, tot_l, if_false, if_true, false_and, and_false, Nat.reduceEqDiff, reduceIte, reduceCtorEq, and_true, true_and] using h9
  · have h9 := r_px1 R
    unfold Cpx1
    simpa (disch := omega) only [sI_wI, sI_wP, sI_wL, sI_wN, sP_wI, sP_wP, sP_wL, sP_wN, sL_wI, sL_wP, sL_wL, sL_wN, sX_wI, sX_wP, sX_wL, sX_wN, gI_uI, gI_uL, gL_uI, gL_uL, tk_ne9, tk_inj, nB_u, nM_u, nP_u, nO_u, hN_u, nLn_u, nOp_u, lnP_u, pc_u, kd_u, op_u, pr_u, mInSt_u, mProm_u, nInSt_u, nProm_u, totp_u, tot_u, nB_l, nM_l, nP_l, nO_l, hN_l, nLn_l, nOp_l, lnP_l, pc_l, kd_l, op_l, pr_l, mInSt_l, mProm_l, nInSt_l, nProm_l, totp_l, tot_l, if_false, if_true, false_and, and_false, Nat.reduceEqDiff, reduceIte, reduceCtorEq, and_true, true_and] using h9
  · have h9 := r_px2 R
    unfold Cpx2
    simpa (disch := omega) only [sI_wI, sI_wP, sI_wL, sI_wN, sP_wI, sP_wP, sP_wL, sP_wN, sL_wI, sL_wP, sL_wL, sL_wN, sX_wI, sX_wP, sX_wL, sX_wN, gI_uI, gI_uL, gL_uI, gL_uL, tk_ne9, tk_inj, nB_u, nM_u, nP_u, nO_u, hN_u, nLn_u, nOp_u, lnP_u, pc_u, kd_u, op_u, pr_u, mInSt_u, mProm_u, nInSt_u, nProm_u, totp_u, tot_u, nB_l, nM_l, nP_l, nO_l, hN_l, nLn_l, nOp_l, lnP_l, pc_l, kd_l, op_l, pr_l, mInSt_l, mProm_l, nInSt_l, nProm_l, totp_l, tot_l, if_false, if_true, false_and, and_false, Nat.reduceEqDiff, reduceIte, reduceCtorEq, and_true, true_and] using h9
  · have h9 := r_pf0 R
    unfold Cpf0
    simpa (disch := omega) only [sI_wI, sI_wP, sI_wL, sI_wN, sP_wI, sP_wP, sP_wL, sP_wN, sL_wI, sL_wP, sL_wL, sL_wN, sX_wI, sX_wP, sX_wL, sX_wN, gI_uI, gI_uL, gL_uI, gL_uL, tk_ne9, tk_inj, nB_u, nM_u, nP_u, nO_u, hN_u, nLn_u, nOp_u, lnP_u, pc_u, kd_u, op_u, pr_u, mInSt_u, mProm_u, nInSt_u, nProm_u, totp_u, tot_u, nB_l, nM_l, nP_l, nO_l, hN_l, nLn_l, nOp_l, lnP_l, pc_l, kd_l, op_l, pr_l, mInSt_l, mProm_l, nInSt_l, nProm_l, totp_l, tot_l, if_false, if_true, false_and, and_false, Nat.reduceEqDiff, reduceIte, reduceCtorEq, and_true, true_and] using h9
  · have h9 := r_pf1 R
    unfold Cpf1
    simpa (disch := omega) only [sI_wI, sI_wP, sI_wL, sI_wN, sP_wI, sP_wP, sP_wL, sP_wN, sL_wI, sL_wP, sL_wL, sL_wN, sX_wI, sX_wP, sX_wL, sX_wN, gI_uI, gI_uL, gL_uI, gL_uL, tk_ne9, tk_inj, nB_u, nM_u, nP_u, nO_u, hN_u, nLn_u, nOp_u, lnP_u, pc_u, kd_u, op_u, pr_u, mInSt_u, mProm_u, nInSt_u, nProm_u, totp_u, tot_u, nB_l, nM_l, nP_l, nO_l, hN_l, nLn_l, nOp_l, lnP_l, pc_l, kd_l, op_l, pr_l, mInSt_l, mProm_l, nInSt_l, nProm_l, totp_l, tot_l, if_false, if_true, false_and, and_false, Nat.reduceEqDiff, reduceIte, reduceCtorEq, and_true, true_and] using h9
  · have h9 := r_pf3 R
    unfold Cpf3
    simpa (disch := omega) only [sI_wI, sI_wP, sI_wL, sI_wN, sP_wI, sP_wP, sP_wL, sP_wN, sL_wI, sL_wP, sL_wL, sL_wN, sX_wI, sX_wP, sX_wL, sX_wN, gI_uI, gI_uL, gL_uI, gL_uL, tk_ne9, tk_inj, nB_u, nM_u, nP_u, nO_u, hN_u, nLn_u, nOp_u, lnP_u, pc_u, kd_u, op_u, pr_u, mInSt_u, mProm_u, nInSt_u, nProm_u, totp_u, tot_u, nB_l, nM_l, nP_l, nO_l, hN_l, nLn_l, nOp_l, lnP_l, pc_l, kd_l, op_l, pr_l, mInSt_l, mProm_l, nInSt_l, nProm_l, totp_l, tot_l, if_false, if_true, false_and, and_false, Nat.reduceEqDiff, reduceIte, reduceCtorEq, and_true, true_and] using h9
  · have h9 := r_ps0 R
    unfold Cps0
    simpa (disch := omega) only [sI_wI, sI_wP, sI_wL, sI_wN, sP_wI, sP_wP, sP_wL, sP_wN, sL_wI, sL_wP, sL_wL, sL_wN, sX_wI, sX_wP, sX_wL, sX_wN, gI_uI, gI_uL, gL_uI, gL_uL, tk_ne9, tk_inj, nB_u, nM_u, nP_u, nO_u, hN_u, nLn_u, nOp_u, lnP_u, pc_u, kd_u, op_u, pr_u, mInSt_u, mProm_u, nInSt_u, nProm_u, totp_u, tot_u, nB_l, nM_l, nP_l, nO_l, hN_l, nLn_l, nOp_l, lnP_l, pc_l, kd_l, op_l, pr_l, mInSt_l, mProm_l, nInSt_l, nProm_l, totp_l, tot_l, if_false, if_true, false_and, and_false, Nat.reduceEqDiff, reduceIte, reduceCtorEq, and_true, true_and] using h9
  · have h9 := r_ps2 R
    unfold Cps2
    simpa (disch := omega) only [sI_wI, sI_wP, sI_wL, sI_wN, sP_wI, sP_wP, sP_wL, sP_wN, sL_wI, sL_wP, sL_wL, sL_wN, sX_wI, sX_wP, sX_wL, sX_wN, gI_uI, gI_uL, gL_uI, gL_uL, tk_ne9, tk_inj, nB_u, nM_u, nP_u, nO_u, hN_u, nLn_u, nOp_u, lnP_u, pc_u, kd_u, op_u, pr_u, mInSt_u, mProm_u, nInSt_u, nProm_u, totp_u, tot_u, nB_l, nM_l, nP_l, nO_l, hN_l, nLn_l, nOp_l, lnP_l, pc_l, kd_l, op_l, pr_l, mInSt_l, mProm_l, nInSt_l, nProm_l, totp_l, tot_l, if_false, if_true, false_and, and_false, Nat.reduceEqDiff, reduceIte, reduceCtorEq, and_true, true_and] using h9
  · have h9 := r_ps4 R
    unfold Cps4
    simpa (disch := omega) only [sI_wI, sI_wP, sI_wL, sI_wN, sP_wI, sP_wP, sP_wL, sP_wN, sL_wI, sL_wP, sL_wL, sL_wN, sX_wI, sX_wP, sX_wL, sX_wN, gI_uI, gI_uL, gL_uI, gL_uL, tk_ne9, tk_inj, nB_u, nM_u, nP_u, nO_u, hN_u, nLn_u, nOp_u, lnP_u, pc_u, kd_u, op_u, pr_u, mInSt_u, mProm_u, nInSt_u, nProm_u, totp_u, tot_u, nB_l, nM_l, nP_l, nO_l, hN_l, nLn_l, nOp_l, lnP_l, pc_l, kd_l, op_l, pr_l, mInSt_l, mProm_l, nInSt_l, nProm_l, totp_l, tot_l, if_false, if_true, false_and, and_false, Nat.reduceEqDiff, reduceIte, reduceCtorEq, and_true, true_and] using h9
  · have h9 := r_pk R
    unfold Cpk
    simpa (disch := omega) only [sI_wI, sI_wP, sI_wL, sI_wN, sP_wI, sP_wP, sP_wL, sP_wN, sL_wI, sL_wP, sL_wL, sL_wN, sX_wI, sX_wP, sX_wL, sX_wN, gI_uI, gI_uL, gL_uI, gL_uL, tk_ne9, tk_inj, nB_u, nM_u, nP_u, nO_u, hN_u, nLn_u, nOp_u, lnP_u, pc_u, kd_u, op_u, pr_u, mInSt_u, mProm_u, nInSt_u, nProm_u, totp_u, tot_u, nB_l, nM_l, nP_l, nO_l, hN_l, nLn_l, nOp_l, lnP_l, pc_l, kd_l, op_l, pr_l, mInSt_l, mProm_l, nInSt_l, nProm_l, totp_l, tot_l, if_false, if_true, false_and, and_false, Nat.reduceEqDiff, reduceIte, reduceCtorEq, and_true, true_and] using h9
  · have h9 := r_pkl R
    unfold Cpkl
    simpa (disch := omega) only [sI_wI, sI_wP, sI_wL, sI_wN, sP_wI, sP_wP, sP_wL, sP_wN, sL_wI, sL_wP, sL_wL, sL_wN, sX_wI, sX_wP, sX_wL, sX_wN, gI_uI, gI_uL, gL_uI, gL_uL, tk_ne9, tk_inj, nB_u, nM_u, nP_u, nO_u, hN_u, nLn_u, nOp_u, lnP_u, pc_u, kd_u, op_u, pr_u, mInSt_u, mProm_u, nInSt_u, nProm_u, totp_u, tot_u, nB_l, nM_l, nP_l, nO_l, hN_l, nLn_l, nOp_l, lnP_l, pc_l, kd_l, op_l, pr_l, mInSt_l, mProm_l, nInSt_l, nProm_l, totp_l, tot_l, if_false, if_true, false_and, and_false, Nat.reduceEqDiff, reduceIte, reduceCtorEq, and_true, true_and] using h9
  · have h9 := r_pko R
    unfold Cpko
    simpa (disch := omega) only [sI_wI, sI_wP, sI_wL, sI_wN, sP_wI, sP_wP, sP_wL, sP_wN, sL_wI, sL_wP, sL_wL, sL_wN, sX_wI, sX_wP, sX_wL, sX_wN, gI_uI, gI_uL, gL_uI, gL_uL, tk_ne9, tk_inj, nB_u, nM_u, nP_u, nO_u, hN_u, nLn_u, nOp_u, lnP_u, pc_u, kd_u, op_u, pr_u, mInSt_u, mProm_u, nInSt_u, nProm_u, totp_u, tot_u, nB_l, nM_l, nP_l, nO_l, hN_l, nLn_l, nOp_l, lnP_l, pc_l, kd_l, op_l, pr_l, mInSt_l, mProm_l, nInSt_l, nProm_l, totp_l, tot_l, if_false, if_true, false_and, and_false, Nat.reduceEqDiff, reduceIte, reduceCtorEq, and_true, true_and] using h9
  · have h9 := r_ghour R
    unfold Cghour
    simpa (disch := omega) only [sI_wI, sI_wP, sI_wL, sI_wN, sP_wI, sP_wP, sP_wL, sP_wN, sL_wI, sL_wP, sL_wL, sL_wN, sX_wI, sX_wP, sX_wL, sX_wN, gI_uI, gI_uL, gL_uI, gL_uL, tk_ne9, tk_inj, nB_u, nM_u, nP_u, nO_u, hN_u, nLn_u, nOp_u, lnP_u, pc_u, kd_u, op_u, pr_u, mInSt_u, mProm_u, nInSt_u, nProm_u, totp_u, tot_u, nB_l, nM_l, nP_l, nO_l, hN_l, nLn_l, nOp_l, lnP_l, pc_l, kd_l, op_l, pr_l, mInSt_l, mProm_l, nInSt_l, nProm_l, totp_l, tot_l, if_false, if_true, false_and, and_false, Nat.reduceEqDiff, reduceIte, reduceCtorEq, and_true, true_and] using h9
  · have h9 := r_gstand R
    unfold Cgstand
    simpa (disch := omega) only [sI_wI, sI_wP, sI_wL, sI_wN, sP_wI, sP_wP, sP_wL, sP_wN, sL_wI, sL_wP, sL_wL, sL_wN, sX_wI, sX_wP, sX_wL, sX_wN, gI_uI, gI_uL, gL_uI, gL_uL, tk_ne9, tk_inj, nB_u, nM_u, nP_u, nO_u, hN_u, nLn_u, nOp_u, lnP_u, pc_u, kd_u, op_u, pr_u, mInSt_u, mProm_u, nInSt_u, nProm_u, totp_u, tot_u, nB_l, nM_l, nP_l, nO_l, hN_l, nLn_l, nOp_l, lnP_l, pc_l, kd_l, op_l, pr_l, mInSt_l, mProm_l, nInSt_l, nProm_l, totp_l, tot_l, if_false, if_true, false_and, and_false, Nat.reduceEqDiff, reduceIte, reduceCtorEq, and_true, true_and] using h9
  · have h9 := r_gbought R
    unfold Cgbought
    simpa (disch := omega) only [sI_wI, sI_wP, sI_wL, sI_wN, sP_wI, sP_wP, sP_wL, sP_wN, sL_wI, sL_wP, sL_wL, sL_wN, sX_wI, sX_wP, sX_wL, sX_wN, gI_uI, gI_uL, gL_uI, gL_uL, tk_ne9, tk_inj, nB_u, nM_u, nP_u, nO_u, hN_u, nLn_u, nOp_u, lnP_u, pc_u, kd_u, op_u, pr_u, mInSt_u, mProm_u, nInSt_u, nProm_u, totp_u, tot_u, nB_l, nM_l, nP_l, nO_l, hN_l, nLn_l, nOp_l, lnP_l, pc_l, kd_l, op_l, pr_l, mInSt_l, mProm_l, nInSt_l, nProm_l, totp_l, tot_l, if_false, if_true, false_and, and_false, Nat.reduceEqDiff, reduceIte, reduceCtorEq, and_true, true_and] using h9
  · have h9 := r_gmach R
    unfold Cgmach
    simpa (disch := omega) only [sI_wI, sI_wP, sI_wL, sI_wN, sP_wI, sP_wP, sP_wL, sP_wN, sL_wI, sL_wP, sL_wL, sL_wN, sX_wI, sX_wP, sX_wL, sX_wN, gI_uI, gI_uL, gL_uI, gL_uL, tk_ne9, tk_inj, nB_u, nM_u, nP_u, nO_u, hN_u, nLn_u, nOp_u, lnP_u, pc_u, kd_u, op_u, pr_u, mInSt_u, mProm_u, nInSt_u, nProm_u, totp_u, tot_u, nB_l, nM_l, nP_l, nO_l, hN_l, nLn_l, nOp_l, lnP_l, pc_l, kd_l, op_l, pr_l, mInSt_l, mProm_l, nInSt_l, nProm_l, totp_l, tot_l, if_false, if_true, false_and, and_false, Nat.reduceEqDiff, reduceIte, reduceCtorEq, and_true, true_and] using h9
  · have h9 := r_gpers R
    unfold Cgpers
    simpa (disch := omega) only [sI_wI, sI_wP, sI_wL, sI_wN, sP_wI, sP_wP, sP_wL, sP_wN, sL_wI, sL_wP, sL_wL, sL_wN, sX_wI, sX_wP, sX_wL, sX_wN, gI_uI, gI_uL, gL_uI, gL_uL, tk_ne9, tk_inj, nB_u, nM_u, nP_u, nO_u, hN_u, nLn_u, nOp_u, lnP_u, pc_u, kd_u, op_u, pr_u, mInSt_u, mProm_u, nInSt_u, nProm_u, totp_u, tot_u, nB_l, nM_l, nP_l, nO_l, hN_l, nLn_l, nOp_l, lnP_l, pc_l, kd_l, op_l, pr_l, mInSt_l, mProm_l, nInSt_l, nProm_l, totp_l, tot_l, if_false, if_true, false_and, and_false, Nat.reduceEqDiff, reduceIte, reduceCtorEq, and_true, true_and] using h9
  · have h9 := r_gworked R
    unfold Cgworked
    simpa (disch := omega) only [sI_wI, sI_wP, sI_wL, sI_wN, sP_wI, sP_wP, sP_wL, sP_wN, sL_wI, sL_wP, sL_wL, sL_wN, sX_wI, sX_wP, sX_wL, sX_wN, gI_uI, gI_uL, gL_uI, gL_uL, tk_ne9, tk_inj, nB_u, nM_u, nP_u, nO_u, hN_u, nLn_u, nOp_u, lnP_u, pc_u, kd_u, op_u, pr_u, mInSt_u, mProm_u, nInSt_u, nProm_u, totp_u, tot_u, nB_l, nM_l, nP_l, nO_l, hN_l, nLn_l, nOp_l, lnP_l, pc_l, kd_l, op_l, pr_l, mInSt_l, mProm_l, nInSt_l, nProm_l, totp_l, tot_l, if_false, if_true, false_and, and_false, Nat.reduceEqDiff, reduceIte, reduceCtorEq, and_true, true_and] using h9
  · have h9 := r_grep R
    unfold Cgrep
    simpa (disch := omega) only [sI_wI, sI_wP, sI_wL, sI_wN, sP_wI, sP_wP, sP_wL, sP_wN, sL_wI, sL_wP, sL_wL, sL_wN, sX_wI, sX_wP, sX_wL, sX_wN, gI_uI, gI_uL, gL_uI, gL_uL, tk_ne9, tk_inj, nB_u, nM_u, nP_u, nO_u, hN_u, nLn_u, nOp_u, lnP_u, pc_u, kd_u, op_u, pr_u, mInSt_u, mProm_u, nInSt_u, nProm_u, totp_u, tot_u, nB_l, nM_l, nP_l, nO_l, hN_l, nLn_l, nOp_l, lnP_l, pc_l, kd_l, op_l, pr_l, mInSt_l, mProm_l, nInSt_l, nProm_l, totp_l, tot_l, if_false, if_true, false_and, and_false, Nat.reduceEqDiff, reduceIte, reduceCtorEq, and_true, true_and] using h9
  · have h9 := r_gbat R
    unfold Cgbat
    simpa (disch := omega) only [sI_wI, sI_wP, sI_wL, sI_wN, sP_wI, sP_wP, sP_wL, sP_wN, sL_wI, sL_wP, sL_wL, sL_wN, sX_wI, sX_wP, sX_wL, sX_wN, gI_uI, gI_uL, gL_uI, gL_uL, tk_ne9, tk_inj, nB_u, nM_u, nP_u, nO_u, hN_u, nLn_u, nOp_u, lnP_u, pc_u, kd_u, op_u, pr_u, mInSt_u, mProm_u, nInSt_u, nProm_u, totp_u, tot_u, nB_l, nM_l, nP_l, nO_l, hN_l, nLn_l, nOp_l, lnP_l, pc_l, kd_l, op_l, pr_l, mInSt_l, mProm_l, nInSt_l, nProm_l, totp_l, tot_l, if_false, if_true, false_and, and_false, Nat.reduceEqDiff, reduceIte, reduceCtorEq, and_true, true_and] using h9
  · have h9 := r_gord R
    unfold Cgord
    simpa (disch := omega) only [sI_wI, sI_wP, sI_wL, sI_wN, sP_wI, sP_wP, sP_wL, sP_wN, sL_wI, sL_wP, sL_wL, sL_wN, sX_wI, sX_wP, sX_wL, sX_wN, gI_uI, gI_uL, gL_uI, gL_uL, tk_ne9, tk_inj, nB_u, nM_u, nP_u, nO_u, hN_u, nLn_u, nOp_u, lnP_u, pc_u, kd_u, op_u, pr_u, mInSt_u, mProm_u, nInSt_u, nProm_u, totp_u, tot_u, nB_l, nM_l, nP_l, nO_l, hN_l, nLn_l, nOp_l, lnP_l, pc_l, kd_l, op_l, pr_l, mInSt_l, mProm_l, nInSt_l, nProm_l, totp_l, tot_l, if_false, if_true, false_and, and_false, Nat.reduceEqDiff, reduceIte, reduceCtorEq, and_true, true_and] using h9
  · have h9 := r_gq R
    unfold Cgq
    simpa (disch := omega) only [sI_wI, sI_wP, sI_wL, sI_wN, sP_wI, sP_wP, sP_wL, sP_wN, sL_wI, sL_wP, sL_wL, sL_wN, sX_wI, sX_wP, sX_wL, sX_wN, gI_uI, gI_uL, gL_uI, gL_uL, tk_ne9, tk_inj, nB_u, nM_u, nP_u, nO_u, hN_u, nLn_u, nOp_u, lnP_u, pc_u, kd_u, op_u, pr_u, mInSt_u, mProm_u, nInSt_u, nProm_u, totp_u, tot_u, nB_l, nM_l, nP_l, nO_l, hN_l, nLn_l, nOp_l, lnP_l, pc_l, kd_l, op_l, pr_l, mInSt_l, mProm_l, nInSt_l, nProm_l, totp_l, tot_l, if_false, if_true, false_and, and_false, Nat.reduceEqDiff, reduceIte, reduceCtorEq, and_true, true_and] using h9
  · have h9 := r_nB R
    unfold CnB
    simpa (disch := omega) only [sI_wI, sI_wP, sI_wL, sI_wN, sP_wI, sP_wP, sP_wL, sP_wN, sL_wI, sL_wP, sL_wL, sL_wN, sX_wI, sX_wP, sX_wL, sX_wN, gI_uI, gI_uL, gL_uI, gL_uL, tk_ne9, tk_inj, nB_u, nM_u, nP_u, nO_u, hN_u, nLn_u, nOp_u, lnP_u, pc_u, kd_u, op_u, pr_u, mInSt_u, mProm_u, nInSt_u, nProm_u, totp_u, tot_u, nB_l, nM_l, nP_l, nO_l, hN_l, nLn_l, nOp_l, lnP_l, pc_l, kd_l, op_l, pr_l, mInSt_l, mProm_l, nInSt_l, nProm_l, totp_l, tot_l, if_false, if_true, false_and, and_false, Nat.reduceEqDiff, reduceIte, reduceCtorEq, and_true, true_and] using h9
  · have h9 := r_nBx R
    unfold CnBx
    simpa (disch := omega) only [sI_wI, sI_wP, sI_wL, sI_wN, sP_wI, sP_wP, sP_wL, sP_wN, sL_wI, sL_wP, sL_wL, sL_wN, sX_wI, sX_wP, sX_wL, sX_wN, gI_uI, gI_uL, gL_uI, gL_uL, tk_ne9, tk_inj, nB_u, nM_u, nP_u, nO_u, hN_u, nLn_u, nOp_u, lnP_u, pc_u, kd_u, op_u, pr_u, mInSt_u, mProm_u, nInSt_u, nProm_u, totp_u, tot_u, nB_l, nM_l, nP_l, nO_l, hN_l, nLn_l, nOp_l, lnP_l, pc_l, kd_l, op_l, pr_l, mInSt_l, mProm_l, nInSt_l, nProm_l, totp_l, tot_l, if_false, if_true, false_and, and_false, Nat.reduceEqDiff, reduceIte, reduceCtorEq, and_true, true_and] using h9
  · have h9 := r_nM R
    unfold CnM
    simpa (disch := omega) only [sI_wI, sI_wP, sI_wL, sI_wN, sP_wI, sP_wP, sP_wL, sP_wN, sL_wI, sL_wP, sL_wL, sL_wN, sX_wI, sX_wP, sX_wL, sX_wN, gI_uI, gI_uL, gL_uI, gL_uL, tk_ne9, tk_inj, nB_u, nM_u, nP_u, nO_u, hN_u, nLn_u, nOp_u, lnP_u, pc_u, kd_u, op_u, pr_u, mInSt_u, mProm_u, nInSt_u, nProm_u, totp_u, tot_u, nB_l, nM_l, nP_l, nO_l, hN_l, nLn_l, nOp_l, lnP_l, pc_l, kd_l, op_l, pr_l, mInSt_l, mProm_l, nInSt_l, nProm_l, totp_l, tot_l, if_false, if_true, false_and, and_false, Nat.reduceEqDiff, reduceIte, reduceCtorEq, and_true, true_and] using h9
  · have h9 := r_nMx R
    unfold CnMx
    simpa (disch := omega) only [sI_wI, sI_wP, sI_wL, sI_wN, sP_wI, sP_wP, sP_wL, sP_wN, sL_wI, sL_wP, sL_wL, sL_wN, sX_wI, sX_wP, sX_wL, sX_wN, gI_uI, gI_uL, gL_uI, gL_uL, tk_ne9, tk_inj, nB_u, nM_u, nP_u, nO_u, hN_u, nLn_u, nOp_u, lnP_u, pc_u, kd_u, op_u, pr_u, mInSt_u, mProm_u, nInSt_u, nProm_u, totp_u, tot_u, nB_l, nM_l, nP_l, nO_l, hN_l, nLn_l, nOp_l, lnP_l, pc_l, kd_l, op_l, pr_l, mInSt_l, mProm_l, nInSt_l, nProm_l, totp_l, tot_l, if_false, if_true, false_and, and_false, Nat.reduceEqDiff, reduceIte, reduceCtorEq, and_true, true_and] using h9
  · have h9 := r_nP R
    unfold CnP
    simpa (disch := omega) only [sI_wI, sI_wP, sI_wL, sI_wN, sP_wI, sP_wP, sP_wL, sP_wN, sL_wI, sL_wP, sL_wL, sL_wN, sX_wI, sX_wP, sX_wL, sX_wN, gI_uI, gI_uL, gL_uI, gL_uL, tk_ne9, tk_inj, nB_u, nM_u, nP_u, nO_u, hN_u, nLn_u, nOp_u, lnP_u, pc_u, kd_u, op_u, pr_u, mInSt_u, mProm_u, nInSt_u, nProm_u, totp_u, tot_u, nB_l, nM_l, nP_l, nO_l, hN_l, nLn_l, nOp_l, lnP_l, pc_l, kd_l, op_l, pr_l, mInSt_l, mProm_l, nInSt_l, nProm_l, totp_l, tot_l, if_false, if_true, false_and, and_false, Nat.reduceEqDiff, reduceIte, reduceCtorEq, and_true, true_and] using h9
  · have h9 := r_nPx R
    unfold CnPx
    simpa (disch := omega) only [sI_wI, sI_wP, sI_wL, sI_wN, sP_wI, sP_wP, sP_wL, sP_wN, sL_wI, sL_wP, sL_wL, sL_wN, sX_wI, sX_wP, sX_wL, sX_wN, gI_uI, gI_uL, gL_uI, gL_uL, tk_ne9, tk_inj, nB_u, nM_u, nP_u, nO_u, hN_u, nLn_u, nOp_u, lnP_u, pc_u, kd_u, op_u, pr_u, mInSt_u, mProm_u, nInSt_u, nProm_u, totp_u, tot_u, nB_l, nM_l, nP_l, nO_l, hN_l, nLn_l, nOp_l, lnP_l, pc_l, kd_l, op_l, pr_l, mInSt_l, mProm_l, nInSt_l, nProm_l, totp_l, tot_l, if_false, if_true, false_and, and_false, Nat.reduceEqDiff, reduceIte, reduceCtorEq, and_true, true_and] using h9
  · have h9 := r_nO R
    unfold CnO
    simpa (disch := omega) only [sI_wI, sI_wP, sI_wL, sI_wN, sP_wI, sP_wP, sP_wL, sP_wN, sL_wI, sL_wP, sL_wL, sL_wN, sX_wI, sX_wP, sX_wL, sX_wN, gI_uI, gI_uL, gL_uI, gL_uL, tk_ne9, tk_inj, nB_u, nM_u, nP_u, nO_u, hN_u, nLn_u, nOp_u, lnP_u, pc_u, kd_u, op_u, pr_u, mInSt_u, mProm_u, nInSt_u, nProm_u, totp_u, tot_u, nB_l, nM_l, nP_l, nO_l, hN_l, nLn_l, nOp_l, lnP_l, pc_l, kd_l, op_l, pr_l, mInSt_l, mProm_l, nInSt_l, nProm_l, totp_l, tot_l, if_false, if_true, false_and, and_false, Nat.reduceEqDiff, reduceIte, reduceCtorEq, and_true, true_and] using h9
  · have h9 := r_nOx R
    unfold CnOx
    simpa (disch := omega) only [sI_wI, sI_wP, sI_wL, sI_wN, sP_wI, sP_wP, sP_wL, sP_wN, sL_wI, sL_wP, sL_wL, sL_wN, sX_wI, sX_wP, sX_wL, sX_wN, gI_uI, gI_uL, gL_uI, gL_uL, tk_ne9, tk_inj, nB_u, nM_u, nP_u, nO_u, hN_u, nLn_u, nOp_u, lnP_u, pc_u, kd_u, op_u, pr_u, mInSt_u, mProm_u, nInSt_u, nProm_u, totp_u, tot_u, nB_l, nM_l, nP_l, nO_l, hN_l, nLn_l, nOp_l, lnP_l, pc_l, kd_l, op_l, pr_l, mInSt_l, mProm_l, nInSt_l, nProm_l, totp_l, tot_l, if_false, if_true, false_and, and_false, Nat.reduceEqDiff, reduceIte, reduceCtorEq, and_true, true_and] using h9
  · have h9 := r_hr R
    unfold Chr
    simpa (disch := omega) only [sI_wI, sI_wP, sI_wL, sI_wN, sP_wI, sP_wP, sP_wL, sP_wN, sL_wI, sL_wP, sL_wL, sL_wN, sX_wI, sX_wP, sX_wL, sX_wN, gI_uI, gI_uL, gL_uI, gL_uL, tk_ne9, tk_inj, nB_u, nM_u, nP_u, nO_u, hN_u, nLn_u, nOp_u, lnP_u, pc_u, kd_u, op_u, pr_u, mInSt_u, mProm_u, nInSt_u, nProm_u, totp_u, tot_u, nB_l, nM_l, nP_l, nO_l, hN_l, nLn_l, nOp_l, lnP_l, pc_l, kd_l, op_l, pr_l, mInSt_l, mProm_l, nInSt_l, nProm_l, totp_l, tot_l, if_false, if_true, false_and, and_false, Nat.reduceEqDiff, reduceIte, reduceCtorEq, and_true, true_and] using h9
  · have h9 := r_hrx R
    unfold Chrx
    simpa (disch := omega) only [sI_wI, sI_wP, sI_wL, sI_wN, sP_wI, sP_wP, sP_wL, sP_wN, sL_wI, sL_wP, sL_wL, sL_wN, sX_wI, sX_wP, sX_wL, sX_wN, gI_uI, gI_uL, gL_uI, gL_uL, tk_ne9, tk_inj, nB_u, nM_u, nP_u, nO_u, hN_u, nLn_u, nOp_u, lnP_u, pc_u, kd_u, op_u, pr_u, mInSt_u, mProm_u, nInSt_u, nProm_u, totp_u, tot_u, nB_l, nM_l, nP_l, nO_l, hN_l, nLn_l, nOp_l, lnP_l, pc_l, kd_l, op_l, pr_l, mInSt_l, mProm_l, nInSt_l, nProm_l, totp_l, tot_l, if_false, if_true, false_and, and_false, Nat.reduceEqDiff, reduceIte, reduceCtorEq, and_true, true_and] using h9
  · have h9 := r_stb R
    unfold Cstb
    simpa (disch := omega) only [sI_wI, sI_wP, sI_wL, sI_wN, sP_wI, sP_wP, sP_wL, sP_wN, sL_wI, sL_wP, sL_wL, sL_wN, sX_wI, sX_wP, sX_wL, sX_wN, gI_uI, gI_uL, gL_uI, gL_uL, tk_ne9, tk_inj, nB_u, nM_u, nP_u, nO_u, hN_u, nLn_u, nOp_u, lnP_u, pc_u, kd_u, op_u, pr_u, mInSt_u, mProm_u, nInSt_u, nProm_u, totp_u, tot_u, nB_l, nM_l, nP_l, nO_l, hN_l, nLn_l, nOp_l, lnP_l, pc_l, kd_l, op_l, pr_l, mInSt_l, mProm_l, nInSt_l, nProm_l, totp_l, tot_l, if_false, if_true, false_and, and_false, Nat.reduceEqDiff, reduceIte, reduceCtorEq, and_true, true_and] using h9
  · have h9 := r_ex R
    unfold Cex
    simpa (disch := omega) only [sI_wI, sI_wP, sI_wL, sI_wN, sP_wI, sP_wP, sP_wL, sP_wN, sL_wI, sL_wP, sL_wL, sL_wN, sX_wI, sX_wP, sX_wL, sX_wN, gI_uI, gI_uL, gL_uI, gL_uL, tk_ne9, tk_inj, nB_u, nM_u, nP_u, nO_u, hN_u, nLn_u, nOp_u, lnP_u, pc_u, kd_u, op_u, pr_u, mInSt_u, mProm_u, nInSt_u, nProm_u, totp_u, tot_u, nB_l, nM_l, nP_l, nO_l, hN_l, nLn_l, nOp_l, lnP_l, pc_l, kd_l, op_l, pr_l, mInSt_l, mProm_l, nInSt_l, nProm_l, totp_l, tot_l, if_false, if_true, false_and, and_false, Nat.reduceEqDiff, reduceIte, reduceCtorEq, and_true, true_and] using h9
  · have h9 := r_k0 R
    unfold Ck0
    simpa (disch := omega) only [sI_wI, sI_wP, sI_wL, sI_wN, sP_wI, sP_wP, sP_wL, sP_wN, sL_wI, sL_wP, sL_wL, sL_wN, sX_wI, sX_wP, sX_wL, sX_wN, gI_uI, gI_uL, gL_uI, gL_uL, tk_ne9, tk_inj, nB_u, nM_u, nP_u, nO_u, hN_u, nLn_u, nOp_u, lnP_u, pc_u, kd_u, op_u, pr_u, mInSt_u, mProm_u, nInSt_u, nProm_u, totp_u, tot_u, nB_l, nM_l, nP_l, nO_l, hN_l, nLn_l, nOp_l, lnP_l, pc_l, kd_l, op_l, pr_l, mInSt_l, mProm_l, nInSt_l, nProm_l, totp_l, tot_l, if_false, if_true, false_and, and_false, Nat.reduceEqDiff, reduceIte, reduceCtorEq, and_true, true_and] using h9
  · have h9 := r_k1 R
    unfold Ck1
    simpa (disch := omega) only [sI_wI, sI_wP, sI_wL, sI_wN, sP_wI, sP_wP, sP_wL, sP_wN, sL_wI, sL_wP, sL_wL, sL_wN, sX_wI, sX_wP, sX_wL, sX_wN, gI_uI, gI_uL, gL_uI, gL_uL, tk_ne9, tk_inj, nB_u, nM_u, nP_u, nO_u, hN_u, nLn_u, nOp_u, lnP_u, pc_u, kd_u, op_u, pr_u, mInSt_u, mProm_u, nInSt_u, nProm_u, totp_u, tot_u, nB_l, nM_l, nP_l, nO_l, hN_l, nLn_l, nOp_l, lnP_l, pc_l, kd_l, op_l, pr_l, mInSt_l, mProm_l, nInSt_l, nProm_l, totp_l, tot_l, if_false, if_true, false_and, and_false, Nat.reduceEqDiff, reduceIte, reduceCtorEq, and_true, true_and] using h9
  · have h9 := r_k2 R
    unfold Ck2
    simpa (disch := omega) only [sI_wI, sI_wP, sI_wL, sI_wN, sP_wI, sP_wP, sP_wL, sP_wN, sL_wI, sL_wP, sL_wL, sL_wN, sX_wI, sX_wP, sX_wL, sX_wN, gI_uI, gI_uL, gL_uI, gL_uL, tk_ne9, tk_inj, nB_u, nM_u, nP_u, nO_u, hN_u, nLn_u, nOp_u, lnP_u, pc_u, kd_u, op_u, pr_u, mInSt_u, mProm_u, nInSt_u, nProm_u, totp_u, tot_u, nB_l, nM_l, nP_l, nO_l, hN_l, nLn_l, nOp_l, lnP_l, pc_l, kd_l, op_l, pr_l, mInSt_l, mProm_l, nInSt_l, nProm_l, totp_l, tot_l, if_false, if_true, false_and, and_false, Nat.reduceEqDiff, reduceIte, reduceCtorEq, and_true, true_and] using h9
  · have h9 := r_k3 R
    unfold Ck3
    simpa (disch := omega) only [sI_wI, sI_wP, sI_wL, sI_wN, sP_wI, sP_wP, sP_wL, sP_wN, sL_wI, sL_wP, sL_wL, sL_wN, sX_wI, sX_wP, sX_wL, sX_wN, gI_uI, gI_uL, gL_uI, gL_uL, tk_ne9, tk_inj, nB_u, nM_u, nP_u, nO_u, hN_u, nLn_u, nOp_u, lnP_u, pc_u, kd_u, op_u, pr_u, mInSt_u, mProm_u, nInSt_u, nProm_u, totp_u, tot_u, nB_l, nM_l, nP_l, nO_l, hN_l, nLn_l, nOp_l, lnP_l, pc_l, kd_l, op_l, pr_l, mInSt_l, mProm_l, nInSt_l, nProm_l, totp_l, tot_l, if_false, if_true, false_and, and_false, Nat.reduceEqDiff, reduceIte, reduceCtorEq, and_true, true_and] using h9
  · have h9 := r_k5 R
    unfold Ck5
    simpa (disch := omega) only [sI_wI, sI_wP, sI_wL, sI_wN, sP_wI, sP_wP, sP_wL, sP_wN, sL_wI, sL_wP, sL_wL, sL_wN, sX_wI, sX_wP, sX_wL, sX_wN, gI_uI, gI_uL, gL_uI, gL_uL, tk_ne9, tk_inj, nB_u, nM_u, nP_u, nO_u, hN_u, nLn_u, nOp_u, lnP_u, pc_u, kd_u, op_u, pr_u, mInSt_u, mProm_u, nInSt_u, nProm_u, totp_u, tot_u, nB_l, nM_l, nP_l, nO_l, hN_l, nLn_l, nOp_l, lnP_l, pc_l, kd_l, op_l, pr_l, mInSt_l, mProm_l, nInSt_l, nProm_l, totp_l, tot_l, if_false, if_true, false_and, and_false, Nat.reduceEqDiff, reduceIte, reduceCtorEq, and_true, true_and] using h9
  · have h9 := r_k7 R
    unfold Ck7
    simpa (disch := omega) only [sI_wI, sI_wP, sI_wL, sI_wN, sP_wI, sP_wP, sP_wL, sP_wN, sL_wI, sL_wP, sL_wL, sL_wN, sX_wI, sX_wP, sX_wL, sX_wN, gI_uI, gI_uL, gL_uI, gL_uL, tk_ne9, tk_inj, nB_u, nM_u, nP_u, nO_u, hN_u, nLn_u, nOp_u, lnP_u, pc_u, kd_u, op_u, pr_u, mInSt_u, mProm_u, nInSt_u, nProm_u, totp_u, tot_u, nB_l, nM_l, nP_l, nO_l, hN_l, nLn_l, nOp_l, lnP_l, pc_l, kd_l, op_l, pr_l, mInSt_l, mProm_l, nInSt_l, nProm_l, totp_l, tot_l, if_false, if_true, false_and, and_false, Nat.reduceEqDiff, reduceIte, reduceCtorEq, and_true, true_and] using h9
  · have h9 := r_k8 R
    unfold Ck8
    simpa (disch := omega) only [sI_wI, sI_wP, sI_wL, sI_wN, sP_wI, sP_wP, sP_wL, sP_wN, sL_wI, sL_wP, sL_wL, sL_wN, sX_wI, sX_wP, sX_wL, sX_wN, gI_uI, gI_uL, gL_uI, gL_uL, tk_ne9, tk_inj, nB_u, nM_u, nP_u, nO_u, hN_u, nLn_u, nOp_u, lnP_u, pc_u, kd_u, op_u, pr_u, mInSt_u, mProm_u, nInSt_u, nProm_u, totp_u, tot_u, nB_l, nM_l, nP_l, nO_l, hN_l, nLn_l, nOp_l, lnP_l, pc_l, kd_l, op_l, pr_l, mInSt_l, mProm_l, nInSt_l, nProm_l, totp_l, tot_l, if_false, if_true, false_and, and_false, Nat.reduceEqDiff, reduceIte, reduceCtorEq, and_true, true_and] using h9
  · have h9 := r_k9 R
    unfold Ck9
    simpa (disch := omega) only [sI_wI, sI_wP, sI_wL, sI_wN, sP_wI, sP_wP, sP_wL, sP_wN, sL_wI, sL_wP, sL_wL, sL_wN, sX_wI, sX_wP, sX_wL, sX_wN, gI_uI, gI_uL, gL_uI, gL_uL, tk_ne9, tk_inj, nB_u, nM_u, nP_u, nO_u, hN_u, nLn_u, nOp_u, lnP_u, pc_u, kd_u, op_u, pr_u, mInSt_u, mProm_u, nInSt_u, nProm_u, totp_u, tot_u, nB_l, nM_l, nP_l, nO_l, hN_l, nLn_l, nOp_l, lnP_l, pc_l, kd_l, op_l, pr_l, mInSt_l, mProm_l, nInSt_l, nProm_l, totp_l, tot_l, if_false, if_true, false_and, and_false, Nat.reduceEqDiff, reduceIte, reduceCtorEq, and_true, true_and] using h9
  · have h9 := r_k10 R
    unfold Ck10
    simpa (disch := omega) only [sI_wI, sI_wP, sI_wL, sI_wN, sP_wI, sP_wP, sP_wL, sP_wN, sL_wI, sL_wP, sL_wL, sL_wN, sX_wI, sX_wP, sX_wL, sX_wN, gI_uI, gI_uL, gL_uI, gL_uL, tk_ne9, tk_inj, nB_u, nM_u, nP_u, nO_u, hN_u, nLn_u, nOp_u, lnP_u, pc_u, kd_u, op_u, pr_u, mInSt_u, mProm_u, nInSt_u, nProm_u, totp_u, tot_u, nB_l, nM_l, nP_l, nO_l, hN_l, nLn_l, nOp_l, lnP_l, pc_l, kd_l, op_l, pr_l, mInSt_l, mProm_l, nInSt_l, nProm_l, totp_l, tot_l, if_false, if_true, false_and, and_false, Nat.reduceEqDiff, reduceIte, reduceCtorEq, and_true, true_and] using h9
  · have h9 := r_k11 R
    unfold Ck11
    simpa (disch := omega) only [sI_wI, sI_wP, sI_wL, sI_wN, sP_wI, sP_wP, sP_wL, sP_wN, sL_wI, sL_wP, sL_wL, sL_wN, sX_wI, sX_wP, sX_wL, sX_wN, gI_uI, gI_uL, gL_uI, gL_uL, tk_ne9, tk_inj, nB_u, nM_u, nP_u, nO_u, hN_u, nLn_u, nOp_u, lnP_u, pc_u, kd_u, op_u, pr_u, mInSt_u, mProm_u, nInSt_u, nProm_u, totp_u, tot_u, nB_l, nM_l, nP_l, nO_l, hN_l, nLn_l, nOp_l, lnP_l, pc_l, kd_l, op_l, pr_l, mInSt_l, mProm_l, nInSt_l, nProm_l, totp_l, tot_l, if_false, if_true, false_and, and_false, Nat.reduceEqDiff, reduceIte, reduceCtorEq, and_true, true_and] using h9
  · have h9 := r_k12 R
    unfold Ck12
    simpa (disch := omega) only [sI_wI, sI_wP, sI_wL, sI_wN, sP_wI, sP_wP, sP_wL, sP_wN, sL_wI, sL_wP, sL_wL, sL_wN, sX_wI, sX_wP, sX_wL, sX_wN, gI_uI, gI_uL, gL_uI, gL_uL, tk_ne9, tk_inj, nB_u, nM_u, nP_u, nO_u, hN_u, nLn_u, nOp_u, lnP_u, pc_u, kd_u, op_u, pr_u, mInSt_u, mProm_u, nInSt_u, nProm_u, totp_u, tot_u, nB_l, nM_l, nP_l, nO_l, hN_l, nLn_l, nOp_l, lnP_l, pc_l, kd_l, op_l, pr_l, mInSt_l, mProm_l, nInSt_l, nProm_l, totp_l, tot_l, if_false, if_true, false_and, and_false, Nat.reduceEqDiff, reduceIte, reduceCtorEq, and_true, true_and] using h9
  · have h9 := r_ksa R
    unfold Cksa
    simpa (disch := omega) only [sI_wI, sI_wP, sI_wL, sI_wN, sP_wI, sP_wP, sP_wL, sP_wN, sL_wI, sL_wP, sL_wL, sL_wN, sX_wI, sX_wP, sX_wL, sX_wN, gI_uI, gI_uL, gL_uI, gL_uL, tk_ne9, tk_inj, nB_u, nM_u, nP_u, nO_u, hN_u, nLn_u, nOp_u, lnP_u, pc_u, kd_u, op_u, pr_u, mInSt_u, mProm_u, nInSt_u, nProm_u, totp_u, tot_u, nB_l, nM_l, nP_l, nO_l, hN_l, nLn_l, nOp_l, lnP_l, pc_l, kd_l, op_l, pr_l, mInSt_l, mProm_l, nInSt_l, nProm_l, totp_l, tot_l, if_false, if_true, false_and, and_false, Nat.reduceEqDiff, reduceIte, reduceCtorEq, and_true, true_and] using h9
  · have h9 := r_ksb R
    unfold Cksb
    simpa (disch := omega) only [sI_wI, sI_wP, sI_wL, sI_wN, sP_wI, sP_wP, sP_wL, sP_wN, sL_wI, sL_wP, sL_wL, sL_wN, sX_wI, sX_wP, sX_wL, sX_wN, gI_uI, gI_uL, gL_uI, gL_uL, tk_ne9, tk_inj, nB_u, nM_u, nP_u, nO_u, hN_u, nLn_u, nOp_u, lnP_u, pc_u, kd_u, op_u, pr_u, mInSt_u, mProm_u, nInSt_u, nProm_u, totp_u, tot_u, nB_l, nM_l, nP_l, nO_l, hN_l, nLn_l, nOp_l, lnP_l, pc_l, kd_l, op_l, pr_l, mInSt_l, mProm_l, nInSt_l, nProm_l, totp_l, tot_l, if_false, if_true, false_and, and_false, Nat.reduceEqDiff, reduceIte, reduceCtorEq, and_true, true_and] using h9
  · have h9 := r_ksc R
    unfold Cksc
    simpa (disch := omega) only [sI_wI, sI_wP, sI_wL, sI_wN, sP_wI, sP_wP, sP_wL, sP_wN, sL_wI, sL_wP, sL_wL, sL_wN, sX_wI, sX_wP, sX_wL, sX_wN, gI_uI, gI_uL, gL_uI, gL_uL, tk_ne9, tk_inj, nB_u, nM_u, nP_u, nO_u, hN_u, nLn_u, nOp_u, lnP_u, pc_u, kd_u, op_u, pr_u, mInSt_u, mProm_u, nInSt_u, nProm_u, totp_u, tot_u, nB_l, nM_l, nP_l, nO_l, hN_l, nLn_l, nOp_l, lnP_l, pc_l, kd_l, op_l, pr_l, mInSt_l, mProm_l, nInSt_l, nProm_l, totp_l, tot_l, if_false, if_true, false_and, and_false, Nat.reduceEqDiff, reduceIte, reduceCtorEq, and_true, true_and] using h9
  · have h9 := r_kw R
    unfold Ckw
    simpa (disch := omega) only [sI_wI, sI_wP, sI_wL, sI_wN, sP_wI, sP_wP, sP_wL, sP_wN, sL_wI, sL_wP, sL_wL, sL_wN, sX_wI, sX_wP, sX_wL, sX_wN, gI_uI, gI_uL, gL_uI, gL_uL, tk_ne9, tk_inj, nB_u, nM_u, nP_u, nO_u, hN_u, nLn_u, nOp_u, lnP_u, pc_u, kd_u, op_u, pr_u, mInSt_u, mProm_u, nInSt_u, nProm_u, totp_u, tot_u, nB_l, nM_l, nP_l, nO_l, hN_l, nLn_l, nOp_l, lnP_l, pc_l, kd_l, op_l, pr_l, mInSt_l, mProm_l, nInSt_l, nProm_l, totp_l, tot_l, if_false, if_true, false_and, and_false, Nat.reduceEqDiff, reduceIte, reduceCtorEq, and_true, true_and] using h9
  · have h9 := r_kl R
    unfold Ckl
    simpa (disch := omega) only [sI_wI, sI_wP, sI_wL, sI_wN, sP_wI, sP_wP, sP_wL, sP_wN, sL_wI, sL_wP, sL_wL, sL_wN, sX_wI, sX_wP, sX_wL, sX_wN, gI_uI, gI_uL, gL_uI, gL_uL, tk_ne9, tk_inj, nB_u, nM_u, nP_u, nO_u, hN_u, nLn_u, nOp_u, lnP_u, pc_u, kd_u, op_u, pr_u, mInSt_u, mProm_u, nInSt_u, nProm_u, totp_u, tot_u, nB_l, nM_l, nP_l, nO_l, hN_l, nLn_l, nOp_l, lnP_l, pc_l, kd_l, op_l, pr_l, mInSt_l, mProm_l, nInSt_l, nProm_l, totp_l, tot_l, if_false, if_true, false_and, and_false, Nat.reduceEqDiff, reduceIte, reduceCtorEq, and_true, true_and] using h9
  · have h9 := r_ko R
    unfold Cko
    simpa (disch := omega) only [sI_wI, sI_wP, sI_wL, sI_wN, sP_wI, sP_wP, sP_wL, sP_wN, sL_wI, sL_wP, sL_wL, sL_wN, sX_wI, sX_wP, sX_wL, sX_wN, gI_uI, gI_uL, gL_uI, gL_uL, tk_ne9, tk_inj, nB_u, nM_u, nP_u, nO_u, hN_u, nLn_u, nOp_u, lnP_u, pc_u, kd_u, op_u, pr_u, mInSt_u, mProm_u, nInSt_u, nProm_u, totp_u, tot_u, nB_l, nM_l, nP_l, nO_l, hN_l, nLn_l, nOp_l, lnP_l, pc_l, kd_l, op_l, pr_l, mInSt_l, mProm_l, nInSt_l, nProm_l, totp_l, tot_l, if_false, if_true, false_and, and_false, Nat.reduceEqDiff, reduceIte, reduceCtorEq, and_true, true_and] using h9
  · have h9 := r_kp R
    unfold Ckp
    simpa (disch := omega) only [sI_wI, sI_wP, sI_wL, sI_wN, sP_wI, sP_wP, sP_wL, sP_wN, sL_wI, sL_wP, sL_wL, sL_wN, sX_wI, sX_wP, sX_wL, sX_wN, gI_uI, gI_uL, gL_uI, gL_uL, tk_ne9, tk_inj, nB_u, nM_u, nP_u, nO_u, hN_u, nLn_u, nOp_u, lnP_u, pc_u, kd_u, op_u, pr_u, mInSt_u, mProm_u, nInSt_u, nProm_u, totp_u, tot_u, nB_l, nM_l, nP_l, nO_l, hN_l, nLn_l, nOp_l, lnP_l, pc_l, kd_l, op_l, pr_l, mInSt_l, mProm_l, nInSt_l, nProm_l, totp_l, tot_l, if_false, if_true, false_and, and_false, Nat.reduceEqDiff, reduceIte, reduceCtorEq, and_true, true_and] using h9
  · have h9 := r_l0 R
    unfold Cl0
    simpa (disch := omega) only [sI_wI, sI_wP, sI_wL, sI_wN, sP_wI, sP_wP, sP_wL, sP_wN, sL_wI, sL_wP, sL_wL, sL_wN, sX_wI, sX_wP, sX_wL, sX_wN, gI_uI, gI_uL, gL_uI, gL_uL, tk_ne9, tk_inj, nB_u, nM_u, nP_u, nO_u, hN_u, nLn_u, nOp_u, lnP_u, pc_u, kd_u, op_u, pr_u, mInSt_u, mProm_u, nInSt_u, nProm_u, totp_u, tot_u, nB_l, nM_l, nP_l, nO_l, hN_l, nLn_l, nOp_l, lnP_l, pc_l, kd_l, op_l, pr_l, mInSt_l, mProm_l, nInSt_l, nProm_l, totp_l, tot_l, if_false, if_true, false_and, and_false, Nat.reduceEqDiff, reduceIte, reduceCtorEq, and_true, true_and] using h9
  · have h9 := r_l1 R
    unfold Cl1
    simpa (disch := omega) only [sI_wI, sI_wP, sI_wL, sI_wN, sP_wI, sP_wP, sP_wL, sP_wN, sL_wI, sL_wP, sL_wL, sL_wN, sX_wI, sX_wP, sX_wL, sX_wN, gI_uI, gI_uL, gL_uI, gL_uL, tk_ne9, tk_inj, nB_u, nM_u, nP_u, nO_u, hN_u, nLn_u, nOp_u, lnP_u, pc_u, kd_u, op_u, pr_u, mInSt_u, mProm_u, nInSt_u, nProm_u, totp_u, tot_u, nB_l, nM_l, nP_l, nO_l, hN_l, nLn_l, nOp_l, lnP_l, pc_l, kd_l, op_l, pr_l, mInSt_l, mProm_l, nInSt_l, nProm_l, totp_l, tot_l, if_false, if_true, false_and, and_false, Nat.reduceEqDiff, reduceIte, reduceCtorEq, and_true, true_and] using h9
  · have h9 := r_l2 R
    unfold Cl2
    simpa (disch := omega) only [sI_wI, sI_wP, sI_wL, sI_wN, sP_wI, sP_wP, sP_wL, sP_wN, sL_wI, sL_wP, sL_wL, sL_wN, sX_wI, sX_wP, sX_wL, sX_wN, gI_uI, gI_uL, gL_uI, gL_uL, tk_ne9, tk_inj, nB_u, nM_u, nP_u, nO_u, hN_u, nLn_u, nOp_u, lnP_u, pc_u, kd_u, op_u, pr_u, mInSt_u, mProm_u, nInSt_u, nProm_u, totp_u, tot_u, nB_l, nM_l, nP_l, nO_l, hN_l, nLn_l, nOp_l, lnP_l, pc_l, kd_l, op_l, pr_l, mInSt_l, mProm_l, nInSt_l, nProm_l, totp_l, tot_l, if_false, if_true, false_and, and_false, Nat.reduceEqDiff, reduceIte, reduceCtorEq, and_true, true_and] using h9
  · have h9 := r_l3 R
    unfold Cl3
    simpa (disch := omega) only [sI_wI, sI_wP, sI_wL, sI_wN, sP_wI, sP_wP, sP_wL, sP_wN, sL_wI, sL_wP, sL_wL, sL_wN, sX_wI, sX_wP, sX_wL, sX_wN, gI_uI, gI_uL, gL_uI, gL_uL, tk_ne9, tk_inj, nB_u, nM_u, nP_u, nO_u, hN_u, nLn_u, nOp_u, lnP_u, pc_u, kd_u, op_u, pr_u, mInSt_u, mProm_u, nInSt_u, nProm_u, totp_u, tot_u, nB_l, nM_l, nP_l, nO_l, hN_l, nLn_l, nOp_l, lnP_l, pc_l, kd_l, op_l, pr_l, mInSt_l, mProm_l, nInSt_l, nProm_l, totp_l, tot_l, if_false, if_true, false_and, and_false, Nat.reduceEqDiff, reduceIte, reduceCtorEq, and_true, true_and] using h9
  · have h9 := r_lm R
    unfold Clm
    simpa (disch := omega) only [sI_wI, sI_wP, sI_wL, sI_wN, sP_wI, sP_wP, sP_wL, sP_wN, sL_wI, sL_wP, sL_wL, sL_wN, sX_wI, sX_wP, sX_wL, sX_wN, gI_uI, gI_uL, gL_uI, gL_uL, tk_ne9, tk_inj, nB_u, nM_u, nP_u, nO_u, hN_u, nLn_u, nOp_u, lnP_u, pc_u, kd_u, op_u, pr_u, mInSt_u, mProm_u, nInSt_u, nProm_u, totp_u, tot_u, nB_l, nM_l, nP_l, nO_l, hN_l, nLn_l, nOp_l, lnP_l, pc_l, kd_l, op_l, pr_l, mInSt_l, mProm_l, nInSt_l, nProm_l, totp_l, tot_l, if_false, if_true, false_and, and_false, Nat.reduceEqDiff, reduceIte, reduceCtorEq, and_true, true_and] using h9
  · have h9 := r_o0 R
    unfold Co0
    simpa (disch := omega) only [sI_wI, sI_wP, sI_wL, sI_wN, sP_wI, sP_wP, sP_wL, sP_wN, sL_wI, sL_wP, sL_wL, sL_wN, sX_wI, sX_wP, sX_wL, sX_wN, gI_uI, gI_uL, gL_uI, gL_uL, tk_ne9, tk_inj, nB_u, nM_u, nP_u, nO_u, hN_u, nLn_u, nOp_u, lnP_u, pc_u, kd_u, op_u, pr_u, mInSt_u, mProm_u, nInSt_u, nProm_u, totp_u, tot_u, nB_l, nM_l, nP_l, nO_l, hN_l, nLn_l, nOp_l, lnP_l, pc_l, kd_l, op_l, pr_l, mInSt_l, mProm_l, nInSt_l, nProm_l, totp_l, tot_l, if_false, if_true, false_and, and_false, Nat.reduceEqDiff, reduceIte, reduceCtorEq, and_true, true_and] using h9
  · have h9 := r_o1 R
    unfold Co1
    simpa (disch := omega) only [sI_wI, sI_wP, sI_wL, sI_wN, sP_wI, sP_wP, sP_wL, sP_wN, sL_wI, sL_wP, sL_wL, sL_wN, sX_wI, sX_wP, sX_wL, sX_wN, gI_uI, gI_uL, gL_uI, gL_uL, tk_ne9, tk_inj, nB_u, nM_u, nP_u, nO_u, hN_u, nLn_u, nOp_u, lnP_u, pc_u, kd_u, op_u, pr_u, mInSt_u, mProm_u, nInSt_u, nProm_u, totp_u, tot_u, nB_l, nM_l, nP_l, nO_l, hN_l, nLn_l, nOp_l, lnP_l, pc_l, kd_l, op_l, pr_l, mInSt_l, mProm_l, nInSt_l, nProm_l, totp_l, tot_l, if_false, if_true, false_and, and_false, Nat.reduceEqDiff, reduceIte, reduceCtorEq, and_true, true_and] using h9
  · have h9 := r_o2 R
    unfold Co2
    simpa (disch := omega) only [sI_wI, sI_wP, sI_wL, sI_wN, sP_wI, sP_wP, sP_wL, sP_wN, sL_wI, sL_wP, sL_wL, sL_wN, sX_wI, sX_wP, sX_wL, sX_wN, gI_uI, gI_uL, gL_uI, gL_uL, tk_ne9, tk_inj, nB_u, nM_u, nP_u, nO_u, hN_u, nLn_u, nOp_u, lnP_u, pc_u, kd_u, op_u, pr_u, mInSt_u, mProm_u, nInSt_u, nProm_u, totp_u, tot_u, nB_l, nM_l, nP_l, nO_l, hN_l, nLn_l, nOp_l, lnP_l, pc_l, kd_l, op_l, pr_l, mInSt_l, mProm_l, nInSt_l, nProm_l, totp_l, tot_l, if_false, if_true, false_and, and_false, Nat.reduceEqDiff, reduceIte, reduceCtorEq, and_true, true_and] using h9
  · have h9 := r_o3 R
    unfold Co3
    simpa (disch := omega) only [sI_wI, sI_wP, sI_wL, sI_wN, sP_wI, sP_wP, sP_wL, sP_wN, sL_wI, sL_wP, sL_wL, sL_wN, sX_wI, sX_wP, sX_wL, sX_wN, gI_uI, gI_uL, gL_uI, gL_uL, tk_ne9, tk_inj, nB_u, nM_u, nP_u, nO_u, hN_u, nLn_u, nOp_u, lnP_u, pc_u, kd_u, op_u, pr_u, mInSt_u, mProm_u, nInSt_u, nProm_u, totp_u, tot_u, nB_l, nM_l, nP_l, nO_l, hN_l, nLn_l, nOp_l, lnP_l, pc_l, kd_l, op_l, pr_l, mInSt_l, mProm_l, nInSt_l, nProm_l, totp_l, tot_l, if_false, if_true, false_and, and_false, Nat.reduceEqDiff, reduceIte, reduceCtorEq, and_true, true_and] using h9
  · have h9 := r_om R
    unfold Com
    simpa (disch := omega) only [sI_wI, sI_wP, sI_wL, sI_wN, sP_wI, sP_wP, sP_wL, sP_wN, sL_wI, sL_wP, sL_wL, sL_wN, sX_wI, sX_wP, sX_wL, sX_wN, gI_uI, gI_uL, gL_uI, gL_uL, tk_ne9, tk_inj, nB_u, nM_u, nP_u, nO_u, hN_u, nLn_u, nOp_u, lnP_u, pc_u, kd_u, op_u, pr_u, mInSt_u, mProm_u, nInSt_u, nProm_u, totp_u, tot_u, nB_l, nM_l, nP_l, nO_l, hN_l, nLn_l, nOp_l, lnP_l, pc_l, kd_l, op_l, pr_l, mInSt_l, mProm_l, nInSt_l, nProm_l, totp_l, tot_l, if_false, if_true, false_and, and_false, Nat.reduceEqDiff, reduceIte, reduceCtorEq, and_true, true_and] using h9
  · have h9 := r_b0 R
    unfold Cb0
    simpa (disch := omega) only [sI_wI, sI_wP, sI_wL, sI_wN, sP_wI, sP_wP, sP_wL, sP_wN, sL_wI, sL_wP, sL_wL, sL_wN, sX_wI, sX_wP, sX_wL, sX_wN, gI_uI, gI_uL, gL_uI, gL_uL, tk_ne9, tk_inj, nB_u, nM_u, nP_u, nO_u, hN_u, nLn_u, nOp_u, lnP_u, pc_u, kd_u, op_u, pr_u, mInSt_u, mProm_u, nInSt_u, nProm_u, totp_u, tot_u, nB_l, nM_l, nP_l, nO_l, hN_l, nLn_l, nOp_l, lnP_l, pc_l, kd_l, op_l, pr_l, mInSt_l, mProm_l, nInSt_l, nProm_l, totp_l, tot_l, if_false, if_true, false_and, and_false, Nat.reduceEqDiff, reduceIte, reduceCtorEq, and_true, true_and] using h9
  · have h9 := r_bn R
    unfold Cbn
    simpa (disch := omega) only [sI_wI, sI_wP, sI_wL, sI_wN, sP_wI, sP_wP, sP_wL, sP_wN, sL_wI, sL_wP, sL_wL, sL_wN, sX_wI, sX_wP, sX_wL, sX_wN, gI_uI, gI_uL, gL_uI, gL_uL, tk_ne9, tk_inj, nB_u, nM_u, nP_u, nO_u, hN_u, nLn_u, nOp_u, lnP_u, pc_u, kd_u, op_u, pr_u, mInSt_u, mProm_u, nInSt_u, nProm_u, totp_u, tot_u, nB_l, nM_l, nP_l, nO_l, hN_l, nLn_l, nOp_l, lnP_l, pc_l, kd_l, op_l, pr_l, mInSt_l, mProm_l, nInSt_l, nProm_l, totp_l, tot_l, if_false, if_true, false_and, and_false, Nat.reduceEqDiff, reduceIte, reduceCtorEq, and_true, true_and] using h9
  · have h9 := r_bk R
    unfold Cbk
    simpa (disch := omega) only [sI_wI, sI_wP, sI_wL, sI_wN, sP_wI, sP_wP, sP_wL, sP_wN, sL_wI, sL_wP, sL_wL, sL_wN, sX_wI, sX_wP, sX_wL, sX_wN, gI_uI, gI_uL, gL_uI, gL_uL, tk_ne9, tk_inj, nB_u, nM_u, nP_u, nO_u, hN_u, nLn_u, nOp_u, lnP_u, pc_u, kd_u, op_u, pr_u, mInSt_u, mProm_u, nInSt_u, nProm_u, totp_u, tot_u, nB_l, nM_l, nP_l, nO_l, hN_l, nLn_l, nOp_l, lnP_l, pc_l, kd_l, op_l, pr_l, mInSt_l, mProm_l, nInSt_l, nProm_l, totp_l, tot_l, if_false, if_true, false_and, and_false, Nat.reduceEqDiff, reduceIte, reduceCtorEq, and_true, true_and] using h9
  · have h9 := r_b2 R
    unfold Cb2
    simpa (disch := omega) only [sI_wI, sI_wP, sI_wL, sI_wN, sP_wI, sP_wP, sP_wL, sP_wN, sL_wI, sL_wP, sL_wL, sL_wN, sX_wI, sX_wP, sX_wL, sX_wN, gI_uI, gI_uL, gL_uI, gL_uL, tk_ne9, tk_inj, nB_u, nM_u, nP_u, nO_u, hN_u, nLn_u, nOp_u, lnP_u, pc_u, kd_u, op_u, pr_u, mInSt_u, mProm_u, nInSt_u, nProm_u, totp_u, tot_u, nB_l, nM_l, nP_l, nO_l, hN_l, nLn_l, nOp_l, lnP_l, pc_l, kd_l, op_l, pr_l, mInSt_l, mProm_l, nInSt_l, nProm_l, totp_l, tot_l, if_false, if_true, false_and, and_false, Nat.reduceEqDiff, reduceIte, reduceCtorEq, and_true, true_and] using h9
  · have h9 := r_b3 R
    unfold Cb3
    simpa (disch := omega) only [sI_wI, sI_wP, sI_wL, sI_wN, sP_wI, sP_wP, sP_wL, sP_wN, sL_wI, sL_wP, sL_wL, sL_wN, sX_wI, sX_wP, sX_wL, sX_wN, gI_uI, gI_uL, gL_uI, gL_uL, tk_ne9, tk_inj, nB_u, nM_u, nP_u, nO_u, hN_u, nLn_u, nOp_u, lnP_u, pc_u, kd_u, op_u, pr_u, mInSt_u, mProm_u, nInSt_u, nProm_u, totp_u, tot_u, nB_l, nM_l, nP_l, nO_l, hN_l, nLn_l, nOp_l, lnP_l, pc_l, kd_l, op_l, pr_l, mInSt_l, mProm_l, nInSt_l, nProm_l, totp_l, tot_l, if_false, if_true, false_and, and_false, Nat.reduceEqDiff, reduceIte, reduceCtorEq, and_true, true_and] using h9
  · have h9 := r_b4 R
    unfold Cb4
    simpa (disch := omega) only [sI_wI, sI_wP, sI_wL, sI_wN, sP_wI, sP_wP, sP_wL, sP_wN, sL_wI, sL_wP, sL_wL, sL_wN, sX_wI, sX_wP, sX_wL, sX_wN, gI_uI, gI_uL, gL_uI, gL_uL, tk_ne9, tk_inj, nB_u, nM_u, nP_u, nO_u, hN_u, nLn_u, nOp_u, lnP_u, pc_u, kd_u, op_u, pr_u, mInSt_u, mProm_u, nInSt_u, nProm_u, totp_u, tot_u, nB_l, nM_l, nP_l, nO_l, hN_l, nLn_l, nOp_l, lnP_l, pc_l, kd_l, op_l, pr_l, mInSt_l, mProm_l, nInSt_l, nProm_l, totp_l, tot_l, if_false, if_true, false_and, and_false, Nat.reduceEqDiff, reduceIte, reduceCtorEq, and_true, true_and] using h9
  · have h9 := r_b5 R
    unfold Cb5
    simpa (disch := omega) only [sI_wI, sI_wP, sI_wL, sI_wN, sP_wI, sP_wP, sP_wL, sP_wN, sL_wI, sL_wP, sL_wL, sL_wN, sX_wI, sX_wP, sX_wL, sX_wN, gI_uI, gI_uL, gL_uI, gL_uL, tk_ne9, tk_inj, nB_u, nM_u, nP_u, nO_u, hN_u, nLn_u, nOp_u, lnP_u, pc_u, kd_u, op_u, pr_u, mInSt_u, mProm_u, nInSt_u, nProm_u, totp_u, tot_u, nB_l, nM_l, nP_l, nO_l, hN_l, nLn_l, nOp_l, lnP_l, pc_l, kd_l, op_l, pr_l, mInSt_l, mProm_l, nInSt_l, nProm_l, totp_l, tot_l, if_false, if_true, false_and, and_false, Nat.reduceEqDiff, reduceIte, reduceCtorEq, and_true, true_and] using h9
  · have h9 := r_b6 R
    unfold Cb6
    simpa (disch := omega) only [sI_wI, sI_wP, sI_wL, sI_wN, sP_wI, sP_wP, sP_wL, sP_wN, sL_wI, sL_wP, sL_wL, sL_wN, sX_wI, sX_wP, sX_wL, sX_wN, gI_uI, gI_uL, gL_uI, gL_uL, tk_ne9, tk_inj, nB_u, nM_u, nP_u, nO_u, hN_u, nLn_u, nOp_u, lnP_u, pc_u, kd_u, op_u, pr_u, mInSt_u, mProm_u, nInSt_u, nProm_u, totp_u, tot_u, nB_l, nM_l, nP_l, nO_l, hN_l, nLn_l, nOp_l, lnP_l, pc_l, kd_l, op_l, pr_l, mInSt_l, mProm_l, nInSt_l, nProm_l, totp_l, tot_l, if_false, if_true, false_and, and_false, Nat.reduceEqDiff, reduceIte, reduceCtorEq, and_true, true_and] using h9
  · have h9 := r_b7 R
    unfold Cb7
    simpa (disch := omega) only [sI_wI, sI_wP, sI_wL, sI_wN, sP_wI, sP_wP, sP_wL, sP_wN, sL_wI, sL_wP, sL_wL, sL_wN, sX_wI, sX_wP, sX_wL, sX_wN, gI_uI, gI_uL, gL_uI, gL_uL, tk_ne9, tk_inj, nB_u, nM_u, nP_u, nO_u, hN_u, nLn_u, nOp_u, lnP_u, pc_u, kd_u, op_u, pr_u, mInSt_u, mProm_u, nInSt_u, nProm_u, totp_u, tot_u, nB_l, nM_l, nP_l, nO_l, hN_l, nLn_l, nOp_l, lnP_l, pc_l, kd_l, op_l, pr_l, mInSt_l, mProm_l, nInSt_l, nProm_l, totp_l, tot_l, if_false, if_true, false_and, and_false, Nat.reduceEqDiff, reduceIte, reduceCtorEq, and_true, true_and] using h9
  · have h9 := r_b8 R
    unfold Cb8
    simpa (disch := omega) only [sI_wI, sI_wP, sI_wL, sI_wN, sP_wI, sP_wP, sP_wL, sP_wN, sL_wI, sL_wP, sL_wL, sL_wN, sX_wI, sX_wP, sX_wL, sX_wN, gI_uI, gI_uL, gL_uI, gL_uL, tk_ne9, tk_inj, nB_u, nM_u, nP_u, nO_u, hN_u, nLn_u, nOp_u, lnP_u, pc_u, kd_u, op_u, pr_u, mInSt_u, mProm_u, nInSt_u, nProm_u, totp_u, tot_u, nB_l, nM_l, nP_l, nO_l, hN_l, nLn_l, nOp_l, lnP_l, pc_l, kd_l, op_l, pr_l, mInSt_l, mProm_l, nInSt_l, nProm_l, totp_l, tot_l, if_false, if_true, false_and, and_false, Nat.reduceEqDiff, reduceIte, reduceCtorEq, and_true, true_and] using h9
  · have h9 := r_b9 R
    unfold Cb9
    simpa (disch := omega) only [sI_wI, sI_wP, sI_wL, sI_wN, sP_wI, sP_wP, sP_wL, sP_wN, sL_wI, sL_wP, sL_wL, sL_wN, sX_wI, sX_wP, sX_wL, sX_wN, gI_uI, gI_uL, gL_uI, gL_uL, tk_ne9, tk_inj, nB_u, nM_u, nP_u, nO_u, hN_u, nLn_u, nOp_u, lnP_u, pc_u, kd_u, op_u, pr_u, mInSt_u, mProm_u, nInSt_u, nProm_u, totp_u, tot_u, nB_l, nM_l, nP_l, nO_l, hN_l, nLn_l, nOp_l, lnP_l, pc_l, kd_l, op_l, pr_l, mInSt_l, mProm_l, nInSt_l, nProm_l, totp_l, tot_l, if_false, if_true, false_and, and_false, Nat.reduceEqDiff, reduceIte, reduceCtorEq, and_true, true_and] using h9
  · have h9 := r_b10 R
    unfold Cb10
    simpa (disch := omega) only [sI_wI, sI_wP, sI_wL, sI_wN, sP_wI, sP_wP, sP_wL, sP_wN, sL_wI, sL_wP, sL_wL, sL_wN, sX_wI, sX_wP, sX_wL, sX_wN, gI_uI, gI_uL, gL_uI, gL_uL, tk_ne9, tk_inj, nB_u, nM_u, nP_u, nO_u, hN_u, nLn_u, nOp_u, lnP_u, pc_u, kd_u, op_u, pr_u, mInSt_u, mProm_u, nInSt_u, nProm_u, totp_u, tot_u, nB_l, nM_l, nP_l, nO_l, hN_l, nLn_l, nOp_l, lnP_l, pc_l, kd_l, op_l, pr_l, mInSt_l, mProm_l, nInSt_l, nProm_l, totp_l, tot_l, if_false, if_true, false_and, and_false, Nat.reduceEqDiff, reduceIte, reduceCtorEq, and_true, true_and] using h9
  · have h9 := r_b11 R
    unfold Cb11
    simpa (disch := omega) only [sI_wI, sI_wP, sI_wL, sI_wN, sP_wI, sP_wP, sP_wL, sP_wN, sL_wI, sL_wP, sL_wL, sL_wN, sX_wI, sX_wP, sX_wL, sX_wN, gI_uI, gI_uL, gL_uI, gL_uL, tk_ne9, tk_inj, nB_u, nM_u, nP_u, nO_u, hN_u, nLn_u, nOp_u, lnP_u, pc_u, kd_u, op_u, pr_u, mInSt_u, mProm_u, nInSt_u, nProm_u, totp_u, tot_u, nB_l, nM_l, nP_l, nO_l, hN_l, nLn_l, nOp_l, lnP_l, pc_l, kd_l, op_l, pr_l, mInSt_l, mProm_l, nInSt_l, nProm_l, totp_l, tot_l, if_false, if_true, false_and, and_false, Nat.reduceEqDiff, reduceIte, reduceCtorEq, and_true, true_and] using h9
  · have h9 := r_bK R
    unfold CbK
    simpa (disch := omega) only [sI_wI, sI_wP, sI_wL, sI_wN, sP_wI, sP_wP, sP_wL, sP_wN, sL_wI, sL_wP, sL_wL, sL_wN, sX_wI, sX_wP, sX_wL, sX_wN, gI_uI, gI_uL, gL_uI, gL_uL, tk_ne9, tk_inj, nB_u, nM_u, nP_u, nO_u, hN_u, nLn_u, nOp_u, lnP_u, pc_u, kd_u, op_u, pr_u, mInSt_u, mProm_u, nInSt_u, nProm_u, totp_u, tot_u, nB_l, nM_l, nP_l, nO_l, hN_l, nLn_l, nOp_l, lnP_l, pc_l, kd_l, op_l, pr_l, mInSt_l, mProm_l, nInSt_l, nProm_l, totp_l, tot_l, if_false, if_true, false_and, and_false, Nat.reduceEqDiff, reduceIte, reduceCtorEq, and_true, true_and] using h9
  · have h9 := r_bP R
    unfold CbP
    simpa (disch := omega) only [sI_wI, sI_wP, sI_wL, sI_wN, sP_wI, sP_wP, sP_wL, sP_wN, sL_wI, sL_wP, sL_wL, sL_wN, sX_wI, sX_wP, sX_wL, sX_wN, gI_uI, gI_uL, gL_uI, gL_uL, tk_ne9, tk_inj, nB_u, nM_u, nP_u, nO_u, hN_u, nLn_u, nOp_u, lnP_u, pc_u, kd_u, op_u, pr_u, mInSt_u, mProm_u, nInSt_u, nProm_u, totp_u, tot_u, nB_l, nM_l, nP_l, nO_l, hN_l, nLn_l, nOp_l, lnP_l, pc_l, kd_l, op_l, pr_l, mInSt_l, mProm_l, nInSt_l, nProm_l, totp_l, tot_l, if_false, if_true, false_and, and_false, Nat.reduceEqDiff, reduceIte, reduceCtorEq, and_true, true_and] using h9
  · have h9 := r_bO R
    unfold CbO
    simpa (disch := omega) only [sI_wI, sI_wP, sI_wL, sI_wN, sP_wI, sP_wP, sP_wL, sP_wN, sL_wI, sL_wP, sL_wL, sL_wN, sX_wI, sX_wP, sX_wL, sX_wN, gI_uI, gI_uL, gL_uI, gL_uL, tk_ne9, tk_inj, nB_u, nM_u, nP_u, nO_u, hN_u, nLn_u, nOp_u, lnP_u, pc_u, kd_u, op_u, pr_u, mInSt_u, mProm_u, nInSt_u, nProm_u, totp_u, tot_u, nB_l, nM_l, nP_l, nO_l, hN_l, nLn_l, nOp_l, lnP_l, pc_l, kd_l, op_l, pr_l, mInSt_l, mProm_l, nInSt_l, nProm_l, totp_l, tot_l, if_false, if_true, false_and, and_false, Nat.reduceEqDiff, reduceIte, reduceCtorEq, and_true, true_and] using h9
  · have h9 := r_bW R
    unfold CbW
    simpa (disch := omega) only [sI_wI, sI_wP, sI_wL, sI_wN, sP_wI, sP_wP, sP_wL, sP_wN, sL_wI, sL_wP, sL_wL, sL_wN, sX_wI, sX_wP, sX_wL, sX_wN, gI_uI, gI_uL, gL_uI, gL_uL, tk_ne9, tk_inj, nB_u, nM_u, nP_u, nO_u, hN_u, nLn_u, nOp_u, lnP_u, pc_u, kd_u, op_u, pr_u, mInSt_u, mProm_u, nInSt_u, nProm_u, totp_u, tot_u, nB_l, nM_l, nP_l, nO_l, hN_l, nLn_l, nOp_l, lnP_l, pc_l, kd_l, op_l, pr_l, mInSt_l, mProm_l, nInSt_l, nProm_l, totp_l, tot_l, if_false, if_true, false_and, and_false, Nat.reduceEqDiff, reduceIte, reduceCtorEq, and_true, true_and] using h9
  · have h9 := r_bZ R
    unfold CbZ
    simpa (disch := omega) only [sI_wI, sI_wP, sI_wL, sI_wN, sP_wI, sP_wP, sP_wL, sP_wN, sL_wI, sL_wP, sL_wL, sL_wN, sX_wI, sX_wP, sX_wL, sX_wN, gI_uI, gI_uL, gL_uI, gL_uL, tk_ne9, tk_inj, nB_u, nM_u, nP_u, nO_u, hN_u, nLn_u, nOp_u, lnP_u, pc_u, kd_u, op_u, pr_u, mInSt_u, mProm_u, nInSt_u, nProm_u, totp_u, tot_u, nB_l, nM_l, nP_l, nO_l, hN_l, nLn_l, nOp_l, lnP_l, pc_l, kd_l, op_l, pr_l, mInSt_l, mProm_l, nInSt_l, nProm_l, totp_l, tot_l, if_false, if_true, false_and, and_false, Nat.reduceEqDiff, reduceIte, reduceCtorEq, and_true, true_and] using h9
  · have h9 := r_bF R
    unfold CbF
    simpa (disch := omega) only [sI_wI, sI_wP, sI_wL, sI_wN, sP_wI, sP_wP, sP_wL, sP_wN, sL_wI, sL_wP, sL_wL, sL_wN, sX_wI, sX_wP, sX_wL, sX_wN, gI_uI, gI_uL, gL_uI, gL_uL, tk_ne9, tk_inj, nB_u, nM_u, nP_u, nO_u, hN_u, nLn_u, nOp_u, lnP_u, pc_u, kd_u, op_u, pr_u, mInSt_u, mProm_u, nInSt_u, nProm_u, totp_u, tot_u, nB_l, nM_l, nP_l, nO_l, hN_l, nLn_l, nOp_l, lnP_l, pc_l, kd_l, op_l, pr_l, mInSt_l, mProm_l, nInSt_l, nProm_l, totp_l, tot_l, if_false, if_true, false_and, and_false, Nat.reduceEqDiff, reduceIte, reduceCtorEq, and_true, true_and] using h9
  · have h9 := r_bS R
    unfold CbS
    simpa (disch := omega) only [sI_wI, sI_wP, sI_wL, sI_wN, sP_wI, sP_wP, sP_wL, sP_wN, sL_wI, sL_wP, sL_wL, sL_wN, sX_wI, sX_wP, sX_wL, sX_wN, gI_uI, gI_uL, gL_uI, gL_uL, tk_ne9, tk_inj, nB_u, nM_u, nP_u, nO_u, hN_u, nLn_u, nOp_u, lnP_u, pc_u, kd_u, op_u, pr_u, mInSt_u, mProm_u, nInSt_u, nProm_u, totp_u, tot_u, nB_l, nM_l, nP_l, nO_l, hN_l, nLn_l, nOp_l, lnP_l, pc_l, kd_l, op_l, pr_l, mInSt_l, mProm_l, nInSt_l, nProm_l, totp_l, tot_l, if_false, if_true, false_and, and_false, Nat.reduceEqDiff, reduceIte, reduceCtorEq, and_true, true_and] using h9
  · have h9 := r_bC R
    unfold CbC
    simpa (disch := omega) only [sI_wI, sI_wP, sI_wL, sI_wN, sP_wI, sP_wP, sP_wL, sP_wN, sL_wI, sL_wP, sL_wL, sL_wN, sX_wI, sX_wP, sX_wL, sX_wN, gI_uI, gI_uL, gL_uI, gL_uL, tk_ne9, tk_inj, nB_u, nM_u, nP_u, nO_u, hN_u, nLn_u, nOp_u, lnP_u, pc_u, kd_u, op_u, pr_u, mInSt_u, mProm_u, nInSt_u, nProm_u, totp_u, tot_u, nB_l, nM_l, nP_l, nO_l, hN_l, nLn_l, nOp_l, lnP_l, pc_l, kd_l, op_l, pr_l, mInSt_l, mProm_l, nInSt_l, nProm_l, totp_l, tot_l, if_false, if_true, false_and, and_false, Nat.reduceEqDiff, reduceIte, reduceCtorEq, and_true, true_and] using h9
  · have h9 := r_bT R
    unfold CbT
    simpa (disch := omega) only [sI_wI, sI_wP, sI_wL, sI_wN, sP_wI, sP_wP, sP_wL, sP_wN, sL_wI, sL_wP, sL_wL, sL_wN, sX_wI, sX_wP, sX_wL, sX_wN, gI_uI, gI_uL, gL_uI, gL_uL, tk_ne9, tk_inj, nB_u, nM_u, nP_u, nO_u, hN_u, nLn_u, nOp_u, lnP_u, pc_u, kd_u, op_u, pr_u, mInSt_u, mProm_u, nInSt_u, nProm_u, totp_u, tot_u, nB_l, nM_l, nP_l, nO_l, hN_l, nLn_l, nOp_l, lnP_l, pc_l, kd_l, op_l, pr_l, mInSt_l, mProm_l, nInSt_l, nProm_l, totp_l, tot_l, if_false, if_true, false_and, and_false, Nat.reduceEqDiff, reduceIte, reduceCtorEq, and_true, true_and] using h9
  · have h9 := r_bU R
    unfold CbU
    simpa (disch := omega) only [sI_wI, sI_wP, sI_wL, sI_wN, sP_wI, sP_wP, sP_wL, sP_wN, sL_wI, sL_wP, sL_wL, sL_wN, sX_wI, sX_wP, sX_wL, sX_wN, gI_uI, gI_uL, gL_uI, gL_uL, tk_ne9, tk_inj, nB_u, nM_u, nP_u, nO_u, hN_u, nLn_u, nOp_u, lnP_u, pc_u, kd_u, op_u, pr_u, mInSt_u, mProm_u, nInSt_u, nProm_u, totp_u, tot_u, nB_l, nM_l, nP_l, nO_l, hN_l, nLn_l, nOp_l, lnP_l, pc_l, kd_l, op_l, pr_l, mInSt_l, mProm_l, nInSt_l, nProm_l, totp_l, tot_l, if_false, if_true, false_and, and_false, Nat.reduceEqDiff, reduceIte, reduceCtorEq, and_true, true_and] using h9
  · have h9 := r_bq R
    unfold Cbq
    simpa (disch := omega) only [sI_wI, sI_wP, sI_wL, sI_wN, sP_wI, sP_wP, sP_wL, sP_wN, sL_wI, sL_wP, sL_wL, sL_wN, sX_wI, sX_wP, sX_wL, sX_wN, gI_uI, gI_uL, gL_uI, gL_uL, tk_ne9, tk_inj, nB_u, nM_u, nP_u, nO_u, hN_u, nLn_u, nOp_u, lnP_u, pc_u, kd_u, op_u, pr_u, mInSt_u, mProm_u, nInSt_u, nProm_u, totp_u, tot_u, nB_l, nM_l, nP_l, nO_l, hN_l, nLn_l, nOp_l, lnP_l, pc_l, kd_l, op_l, pr_l, mInSt_l, mProm_l, nInSt_l, nProm_l, totp_l, tot_l, if_false, if_true, false_and, and_false, Nat.reduceEqDiff, reduceIte, reduceCtorEq, and_true, true_and] using h9
  · have h9 := r_ps R
    unfold Cps
    simpa (disch := omega) only [sI_wI, sI_wP, sI_wL, sI_wN, sP_wI, sP_wP, sP_wL, sP_wN, sL_wI, sL_wP, sL_wL, sL_wN, sX_wI, sX_wP, sX_wL, sX_wN, gI_uI, gI_uL, gL_uI, gL_uL, tk_ne9, tk_inj, nB_u, nM_u, nP_u, nO_u, hN_u, nLn_u, nOp_u, lnP_u, pc_u, kd_u, op_u, pr_u, mInSt_u, mProm_u, nInSt_u, nProm_u, totp_u, tot_u, nB_l, nM_l, nP_l, nO_l, hN_l, nLn_l, nOp_l, lnP_l, pc_l, kd_l, op_l, pr_l, mInSt_l, mProm_l, nInSt_l, nProm_l, totp_l, tot_l, if_false, if_true, false_and, and_false, Nat.reduceEqDiff, reduceIte, reduceCtorEq, and_true, true_and] using h9
  · have h9 := r_bp R
    unfold Cbp
    simpa (disch := omega) only [sI_wI, sI_wP, sI_wL, sI_wN, sP_wI, sP_wP, sP_wL, sP_wN, sL_wI, sL_wP, sL_wL, sL_wN, sX_wI, sX_wP, sX_wL, sX_wN, gI_uI, gI_uL, gL_uI, gL_uL, tk_ne9, tk_inj, nB_u, nM_u, nP_u, nO_u, hN_u, nLn_u, nOp_u, lnP_u, pc_u, kd_u, op_u, pr_u, mInSt_u, mProm_u, nInSt_u, nProm_u, totp_u, tot_u, nB_l, nM_l, nP_l, nO_l, hN_l, nLn_l, nOp_l, lnP_l, pc_l, kd_l, op_l, pr_l, mInSt_l, mProm_l, nInSt_l, nProm_l, totp_l, tot_l, if_false, if_true, false_and, and_false, Nat.reduceEqDiff, reduceIte, reduceCtorEq, and_true, true_and] using h9
  · have h9 := r_bc R
    unfold Cbc
    simpa (disch := omega) only [sI_wI, sI_wP, sI_wL, sI_wN, sP_wI, sP_wP, sP_wL, sP_wN, sL_wI, sL_wP, sL_wL, sL_wN, sX_wI, sX_wP, sX_wL, sX_wN, gI_uI, gI_uL, gL_uI, gL_uL, tk_ne9, tk_inj, nB_u, nM_u, nP_u, nO_u, hN_u, nLn_u, nOp_u, lnP_u, pc_u, kd_u, op_u, pr_u, mInSt_u, mProm_u, nInSt_u, nProm_u, totp_u, tot_u, nB_l, nM_l, nP_l, nO_l, hN_l, nLn_l, nOp_l, lnP_l, pc_l, kd_l, op_l, pr_l, mInSt_l, mProm_l, nInSt_l, nProm_l, totp_l, tot_l, if_false, if_true, false_and, and_false, Nat.reduceEqDiff, reduceIte, reduceCtorEq, and_true, true_and] using h9
  · have h9 := r_fB R
    unfold CfB
    simpa (disch := omega) only [sI_wI, sI_wP, sI_wL, sI_wN, sP_wI, sP_wP, sP_wL, sP_wN, sL_wI, sL_wP, sL_wL, sL_wN, sX_wI, sX_wP, sX_wL, sX_wN, gI_uI, gI_uL, gL_uI, gL_uL, tk_ne9, tk_inj, nB_u, nM_u, nP_u, nO_u, hN_u, nLn_u, nOp_u, lnP_u, pc_u, kd_u, op_u, pr_u, mInSt_u, mProm_u, nInSt_u, nProm_u, totp_u, tot_u, nB_l, nM_l, nP_l, nO_l, hN_l, nLn_l, nOp_l, lnP_l, pc_l, kd_l, op_l, pr_l, mInSt_l, mProm_l, nInSt_l, nProm_l, totp_l, tot_l, if_false, if_true, false_and, and_false, Nat.reduceEqDiff, reduceIte, reduceCtorEq, and_true, true_and] using h9
  · have h9 := r_fL R
    unfold CfL
    simpa (disch := omega) only [sI_wI, sI_wP, sI_wL, sI_wN, sP_wI, sP_wP, sP_wL, sP_wN, sL_wI, sL_wP, sL_wL, sL_wN, sX_wI, sX_wP, sX_wL, sX_wN, gI_uI, gI_uL, gL_uI, gL_uL, tk_ne9, tk_inj, nB_u, nM_u, nP_u, nO_u, hN_u, nLn_u, nOp_u, lnP_u, pc_u, kd_u, op_u, pr_u, mInSt_u, mProm_u, nInSt_u, nProm_u, totp_u, tot_u, nB_l, nM_l, nP_l, nO_l, hN_l, nLn_l, nOp_l, lnP_l, pc_l, kd_l, op_l, pr_l, mInSt_l, mProm_l, nInSt_l, nProm_l, totp_l, tot_l, if_false, if_true, false_and, and_false, Nat.reduceEqDiff, reduceIte, reduceCtorEq, and_true, true_and] using h9
  · have h9 := r_fO R
    unfold CfO
    simpa (disch := omega) only [sI_wI, sI_wP, sI_wL, sI_wN, sP_wI, sP_wP, sP_wL, sP_wN, sL_wI, sL_wP, sL_wL, sL_wN, sX_wI, sX_wP, sX_wL, sX_wN, gI_uI, gI_uL, gL_uI, gL_uL, tk_ne9, tk_inj, nB_u, nM_u, nP_u, nO_u, hN_u, nLn_u, nOp_u, lnP_u, pc_u, kd_u, op_u, pr_u, mInSt_u, mProm_u, nInSt_u, nProm_u, totp_u, tot_u, nB_l, nM_l, nP_l, nO_l, hN_l, nLn_l, nOp_l, lnP_l, pc_l, kd_l, op_l, pr_l, mInSt_l, mProm_l, nInSt_l, nProm_l, totp_l, tot_l, if_false, if_true, false_and, and_false, Nat.reduceEqDiff, reduceIte, reduceCtorEq, and_true, true_and] using h9
  · have h9 := r_fM R
    unfold CfM
    simpa (disch := omega) only [sI_wI, sI_wP, sI_wL, sI_wN, sP_wI, sP_wP, sP_wL, sP_wN, sL_wI, sL_wP, sL_wL, sL_wN, sX_wI, sX_wP, sX_wL, sX_wN, gI_uI, gI_uL, gL_uI, gL_uL, tk_ne9, tk_inj, nB_u, nM_u, nP_u, nO_u, hN_u, nLn_u, nOp_u, lnP_u, pc_u, kd_u, op_u, pr_u, mInSt_u, mProm_u, nInSt_u, nProm_u, totp_u, tot_u, nB_l, nM_l, nP_l, nO_l, hN_l, nLn_l, nOp_l, lnP_l, pc_l, kd_l, op_l, pr_l, mInSt_l, mProm_l, nInSt_l, nProm_l, totp_l, tot_l, if_false, if_true, false_and, and_false, Nat.reduceEqDiff, reduceIte, reduceCtorEq, and_true, true_and] using h9
  · have h9 := r_fP R
    unfold CfP
    simpa (disch := omega) only [sI_wI, sI_wP, sI_wL, sI_wN, sP_wI, sP_wP, sP_wL, sP_wN, sL_wI, sL_wP, sL_wL, sL_wN, sX_wI, sX_wP, sX_wL, sX_wN, gI_uI, gI_uL, gL_uI, gL_uL, tk_ne9, tk_inj, nB_u, nM_u, nP_u, nO_u, hN_u, nLn_u, nOp_u, lnP_u, pc_u, kd_u, op_u, pr_u, mInSt_u, mProm_u, nInSt_u, nProm_u, totp_u, tot_u, nB_l, nM_l, nP_l, nO_l, hN_l, nLn_l, nOp_l, lnP_l, pc_l, kd_l, op_l, pr_l, mInSt_l, mProm_l, nInSt_l, nProm_l, totp_l, tot_l, if_false, if_true, false_and, and_false, Nat.reduceEqDiff, reduceIte, reduceCtorEq, and_true, true_and] using h9
  · have h9 := r_fR R
    unfold CfR
    simpa (disch := omega) only [sI_wI, sI_wP, sI_wL, sI_wN, sP_wI, sP_wP, sP_wL, sP_wN, sL_wI, sL_wP, sL_wL, sL_wN, sX_wI, sX_wP, sX_wL, sX_wN, gI_uI, gI_uL, gL_uI, gL_uL, tk_ne9, tk_inj, nB_u, nM_u, nP_u, nO_u, hN_u, nLn_u, nOp_u, lnP_u, pc_u, kd_u, op_u, pr_u, mInSt_u, mProm_u, nInSt_u, nProm_u, totp_u, tot_u, nB_l, nM_l, nP_l, nO_l, hN_l, nLn_l, nOp_l, lnP_l, pc_l, kd_l, op_l, pr_l, mInSt_l, mProm_l, nInSt_l, nProm_l, totp_l, tot_l, if_false, if_true, false_and, and_false, Nat.reduceEqDiff, reduceIte, reduceCtorEq, and_true, true_and] using h9
  · have h9 := r_fG R
    unfold CfG
    simpa (disch := omega) only [sI_wI, sI_wP, sI_wL, sI_wN, sP_wI, sP_wP, sP_wL, sP_wN, sL_wI, sL_wP, sL_wL, sL_wN, sX_wI, sX_wP, sX_wL, sX_wN, gI_uI, gI_uL, gL_uI, gL_uL, tk_ne9, tk_inj, nB_u, nM_u, nP_u, nO_u, hN_u, nLn_u, nOp_u, lnP_u, pc_u, kd_u, op_u, pr_u, mInSt_u, mProm_u, nInSt_u, nProm_u, totp_u, tot_u, nB_l, nM_l, nP_l, nO_l, hN_l, nLn_l, nOp_l, lnP_l, pc_l, kd_l, op_l, pr_l, mInSt_l, mProm_l, nInSt_l, nProm_l, totp_l, tot_l, if_false, if_true, false_and, and_false, Nat.reduceEqDiff, reduceIte, reduceCtorEq, and_true, true_and] using h9
  · have h9 := r_m0 R
    unfold Cm0
    simpa (disch := omega) only [sI_wI, sI_wP, sI_wL, sI_wN, sP_wI, sP_wP, sP_wL, sP_wN, sL_wI, sL_wP, sL_wL, sL_wN, sX_wI, sX_wP, sX_wL, sX_wN, gI_uI, gI_uL, gL_uI, gL_uL, tk_ne9, tk_inj, nB_u, nM_u, nP_u, nO_u, hN_u, nLn_u, nOp_u, lnP_u, pc_u, kd_u, op_u, pr_u, mInSt_u, mProm_u, nInSt_u, nProm_u, totp_u, tot_u, nB_l, nM_l, nP_l, nO_l, hN_l, nLn_l, nOp_l, lnP_l, pc_l, kd_l, op_l, pr_l, mInSt_l, mProm_l, nInSt_l, nProm_l, totp_l, tot_l, if_false, if_true, false_and, and_false, Nat.reduceEqDiff, reduceIte, reduceCtorEq, and_true, true_and] using h9
  · have h9 := r_mn R
    unfold Cmn
    simpa (disch := omega) only [sI_wI, sI_wP, sI_wL, sI_wN, sP_wI, sP_wP, sP_wL, sP_wN, sL_wI, sL_wP, sL_wL, sL_wN, sX_wI, sX_wP, sX_wL, sX_wN, gI_uI, gI_uL, gL_uI, gL_uL, tk_ne9, tk_inj, nB_u, nM_u, nP_u, nO_u, hN_u, nLn_u, nOp_u, lnP_u, pc_u, kd_u, op_u, pr_u, mInSt_u, mProm_u, nInSt_u, nProm_u, totp_u, tot_u, nB_l, nM_l, nP_l, nO_l, hN_l, nLn_l, nOp_l, lnP_l, pc_l, kd_l, op_l, pr_l, mInSt_l, mProm_l, nInSt_l, nProm_l, totp_l, tot_l, if_false, if_true, false_and, and_false, Nat.reduceEqDiff, reduceIte, reduceCtorEq, and_true, true_and] using h9
  · have h9 := r_m1 R
    unfold Cm1
    simpa (disch := omega) only [sI_wI, sI_wP, sI_wL, sI_wN, sP_wI, sP_wP, sP_wL, sP_wN, sL_wI, sL_wP, sL_wL, sL_wN, sX_wI, sX_wP, sX_wL, sX_wN, gI_uI, gI_uL, gL_uI, gL_uL, tk_ne9, tk_inj, nB_u, nM_u, nP_u, nO_u, hN_u, nLn_u, nOp_u, lnP_u, pc_u, kd_u, op_u, pr_u, mInSt_u, mProm_u, nInSt_u, nProm_u, totp_u, tot_u, nB_l, nM_l, nP_l, nO_l, hN_l, nLn_l, nOp_l, lnP_l, pc_l, kd_l, op_l, pr_l, mInSt_l, mProm_l, nInSt_l, nProm_l, totp_l, tot_l, if_false, if_true, false_and, and_false, Nat.reduceEqDiff, reduceIte, reduceCtorEq, and_true, true_and] using h9
  · have h9 := r_m2 R
    unfold Cm2
    simpa (disch := omega) only [sI_wI, sI_wP, sI_wL, sI_wN, sP_wI, sP_wP, sP_wL, sP_wN, sL_wI, sL_wP, sL_wL, sL_wN, sX_wI, sX_wP, sX_wL, sX_wN, gI_uI, gI_uL, gL_uI, gL_uL, tk_ne9, tk_inj, nB_u, nM_u, nP_u, nO_u, hN_u, nLn_u, nOp_u, lnP_u, pc_u, kd_u, op_u, pr_u, mInSt_u, mProm_u, nInSt_u, nProm_u, totp_u, tot_u, nB_l, nM_l, nP_l, nO_l, hN_l, nLn_l, nOp_l, lnP_l, pc_l, kd_l, op_l, pr_l, mInSt_l, mProm_l, nInSt_l, nProm_l, totp_l, tot_l, if_false, if_true, false_and, and_false, Nat.reduceEqDiff, reduceIte, reduceCtorEq, and_true, true_and] using h9
  · have h9 := r_m3 R
    unfold Cm3
    simpa (disch := omega) only [sI_wI, sI_wP, sI_wL, sI_wN, sP_wI, sP_wP, sP_wL, sP_wN, sL_wI, sL_wP, sL_wL, sL_wN, sX_wI, sX_wP, sX_wL, sX_wN, gI_uI, gI_uL, gL_uI, gL_uL, tk_ne9, tk_inj, nB_u, nM_u, nP_u, nO_u, hN_u, nLn_u, nOp_u, lnP_u, pc_u, kd_u, op_u, pr_u, mInSt_u, mProm_u, nInSt_u, nProm_u, totp_u, tot_u, nB_l, nM_l, nP_l, nO_l, hN_l, nLn_l, nOp_l, lnP_l, pc_l, kd_l, op_l, pr_l, mInSt_l, mProm_l, nInSt_l, nProm_l, totp_l, tot_l, if_false, if_true, false_and, and_false, Nat.reduceEqDiff, reduceIte, reduceCtorEq, and_true, true_and] using h9
  · have h9 := r_m4 R
    unfold Cm4
    simpa (disch := omega) only [sI_wI, sI_wP, sI_wL, sI_wN, sP_wI, sP_wP, sP_wL, sP_wN, sL_wI, sL_wP, sL_wL, sL_wN, sX_wI, sX_wP, sX_wL, sX_wN, gI_uI, gI_uL, gL_uI, gL_uL, tk_ne9, tk_inj, nB_u, nM_u, nP_u, nO_u, hN_u, nLn_u, nOp_u, lnP_u, pc_u, kd_u, op_u, pr_u, mInSt_u, mProm_u, nInSt_u, nProm_u, totp_u, tot_u, nB_l, nM_l, nP_l, nO_l, hN_l, nLn_l, nOp_l, lnP_l, pc_l, kd_l, op_l, pr_l, mInSt_l, mProm_l, nInSt_l, nProm_l, totp_l, tot_l, if_false, if_true, false_and, and_false, Nat.reduceEqDiff, reduceIte, reduceCtorEq, and_true, true_and] using h9
  · have h9 := r_m5 R
    unfold Cm5
    simpa (disch := omega) only [sI_wI, sI_wP, sI_wL, sI_wN, sP_wI, sP_wP, sP_wL, sP_wN, sL_wI, sL_wP, sL_wL, sL_wN, sX_wI, sX_wP, sX_wL, sX_wN, gI_uI, gI_uL, gL_uI, gL_uL, tk_ne9, tk_inj, nB_u, nM_u, nP_u, nO_u, hN_u, nLn_u, nOp_u, lnP_u, pc_u, kd_u, op_u, pr_u, mInSt_u, mProm_u, nInSt_u, nProm_u, totp_u, tot_u, nB_l, nM_l, nP_l, nO_l, hN_l, nLn_l, nOp_l, lnP_l, pc_l, kd_l, op_l, pr_l, mInSt_l, mProm_l, nInSt_l, nProm_l, totp_l, tot_l, if_false, if_true, false_and, and_false, Nat.reduceEqDiff, reduceIte, reduceCtorEq, and_true, true_and] using h9
  · have h9 := r_m9 R
    unfold Cm9
    simpa (disch := omega) only [sI_wI, sI_wP, sI_wL, sI_wN, sP_wI, sP_wP, sP_wL, sP_wN, sL_wI, sL_wP, sL_wL, sL_wN, sX_wI, sX_wP, sX_wL, sX_wN, gI_uI, gI_uL, gL_uI, gL_uL, tk_ne9, tk_inj, nB_u, nM_u, nP_u, nO_u, hN_u, nLn_u, nOp_u, lnP_u, pc_u, kd_u, op_u, pr_u, mInSt_u, mProm_u, nInSt_u, nProm_u, totp_u, tot_u, nB_l, nM_l, nP_l, nO_l, hN_l, nLn_l, nOp_l, lnP_l, pc_l, kd_l, op_l, pr_l, mInSt_l, mProm_l, nInSt_l, nProm_l, totp_l, tot_l, if_false, if_true, false_and, and_false, Nat.reduceEqDiff, reduceIte, reduceCtorEq, and_true, true_and] using h9
  · have h9 := r_m11 R
    unfold Cm11
    simpa (disch := omega) only [sI_wI, sI_wP, sI_wL, sI_wN, sP_wI, sP_wP, sP_wL, sP_wN, sL_wI, sL_wP, sL_wL, sL_wN, sX_wI, sX_wP, sX_wL, sX_wN, gI_uI, gI_uL, gL_uI, gL_uL, tk_ne9, tk_inj, nB_u, nM_u, nP_u, nO_u, hN_u, nLn_u, nOp_u, lnP_u, pc_u, kd_u, op_u, pr_u, mInSt_u, mProm_u, nInSt_u, nProm_u, totp_u, tot_u, nB_l, nM_l, nP_l, nO_l, hN_l, nLn_l, nOp_l, lnP_l, pc_l, kd_l, op_l, pr_l, mInSt_l, mProm_l, nInSt_l, nProm_l, totp_l, tot_l, if_false, if_true, false_and, and_false, Nat.reduceEqDiff, reduceIte, reduceCtorEq, and_true, true_and] using h9
  · have h9 := r_m13 R
    unfold Cm13
    simpa (disch := omega) only [sI_wI, sI_wP, sI_wL, sI_wN, sP_wI, sP_wP, sP_wL, sP_wN, sL_wI, sL_wP, sL_wL, sL_wN, sX_wI, sX_wP, sX_wL, sX_wN, gI_uI, gI_uL, gL_uI, gL_uL, tk_ne9, tk_inj, nB_u, nM_u, nP_u, nO_u, hN_u, nLn_u, nOp_u, lnP_u, pc_u, kd_u, op_u, pr_u, mInSt_u, mProm_u, nInSt_u, nProm_u, totp_u, tot_u, nB_l, nM_l, nP_l, nO_l, hN_l, nLn_l, nOp_l, lnP_l, pc_l, kd_l, op_l, pr_l, mInSt_l, mProm_l, nInSt_l, nProm_l, totp_l, tot_l, if_false, if_true, false_and, and_false, Nat.reduceEqDiff, reduceIte, reduceCtorEq, and_true, true_and] using h9
  · have h9 := r_m14 R
    unfold Cm14
    simpa (disch := omega) only [sI_wI, sI_wP, sI_wL, sI_wN, sP_wI, sP_wP, sP_wL, sP_wN, sL_wI, sL_wP, sL_wL, sL_wN, sX_wI, sX_wP, sX_wL, sX_wN, gI_uI, gI_uL, gL_uI, gL_uL, tk_ne9, tk_inj, nB_u, nM_u, nP_u, nO_u, hN_u, nLn_u, nOp_u, lnP_u, pc_u, kd_u, op_u, pr_u, mInSt_u, mProm_u, nInSt_u, nProm_u, totp_u, tot_u, nB_l, nM_l, nP_l, nO_l, hN_l, nLn_l, nOp_l, lnP_l, pc_l, kd_l, op_l, pr_l, mInSt_l, mProm_l, nInSt_l, nProm_l, totp_l, tot_l, if_false, if_true, false_and, and_false, Nat.reduceEqDiff, reduceIte, reduceCtorEq, and_true, true_and] using h9
  · have h9 := r_m6 R
    unfold Cm6
    simpa (disch := omega) only [sI_wI, sI_wP, sI_wL, sI_wN, sP_wI, sP_wP, sP_wL, sP_wN, sL_wI, sL_wP, sL_wL, sL_wN, sX_wI, sX_wP, sX_wL, sX_wN, gI_uI, gI_uL, gL_uI, gL_uL, tk_ne9, tk_inj, nB_u, nM_u, nP_u, nO_u, hN_u, nLn_u, nOp_u, lnP_u, pc_u, kd_u, op_u, pr_u, mInSt_u, mProm_u, nInSt_u, nProm_u, totp_u, tot_u, nB_l, nM_l, nP_l, nO_l, hN_l, nLn_l, nOp_l, lnP_l, pc_l, kd_l, op_l, pr_l, mInSt_l, mProm_l, nInSt_l, nProm_l, totp_l, tot_l, if_false, if_true, false_and, and_false, Nat.reduceEqDiff, reduceIte, reduceCtorEq, and_true, true_and] using h9
  · have h9 := r_m7 R
    unfold Cm7
    simpa (disch := omega) only [sI_wI, sI_wP, sI_wL, sI_wN, sP_wI, sP_wP, sP_wL, sP_wN, sL_wI, sL_wP, sL_wL, sL_wN, sX_wI, sX_wP, sX_wL, sX_wN, gI_uI, gI_uL, gL_uI, gL_uL, tk_ne9, tk_inj, nB_u, nM_u, nP_u, nO_u, hN_u, nLn_u, nOp_u, lnP_u, pc_u, kd_u, op_u, pr_u, mInSt_u, mProm_u, nInSt_u, nProm_u, totp_u, tot_u, nB_l, nM_l, nP_l, nO_l, hN_l, nLn_l, nOp_l, lnP_l, pc_l, kd_l, op_l, pr_l, mInSt_l, mProm_l, nInSt_l, nProm_l, totp_l, tot_l, if_false, if_true, false_and, and_false, Nat.reduceEqDiff, reduceIte, reduceCtorEq, and_true, true_and] using h9
  · have h9 := r_m8 R
    unfold Cm8
    simpa (disch := omega) only [sI_wI, sI_wP, sI_wL, sI_wN, sP_wI, sP_wP, sP_wL, sP_wN, sL_wI, sL_wP, sL_wL, sL_wN, sX_wI, sX_wP, sX_wL, sX_wN, gI_uI, gI_uL, gL_uI, gL_uL, tk_ne9, tk_inj, nB_u, nM_u, nP_u, nO_u, hN_u, nLn_u, nOp_u, lnP_u, pc_u, kd_u, op_u, pr_u, mInSt_u, mProm_u, nInSt_u, nProm_u, totp_u, tot_u, nB_l, nM_l, nP_l, nO_l, hN_l, nLn_l, nOp_l, lnP_l, pc_l, kd_l, op_l, pr_l, mInSt_l, mProm_l, nInSt_l, nProm_l, totp_l, tot_l, if_false, if_true, false_and, and_false, Nat.reduceEqDiff, reduceIte, reduceCtorEq, and_true, true_and] using h9
  · have h9 := r_m12 R
    unfold Cm12
    simpa (disch := omega) only [sI_wI, sI_wP, sI_wL, sI_wN, sP_wI, sP_wP, sP_wL, sP_wN, sL_wI, sL_wP, sL_wL, sL_wN, sX_wI, sX_wP, sX_wL, sX_wN, gI_uI, gI_uL, gL_uI, gL_uL, tk_ne9, tk_inj, nB_u, nM_u, nP_u, nO_u, hN_u, nLn_u, nOp_u, lnP_u, pc_u, kd_u, op_u, pr_u, mInSt_u, mProm_u, nInSt_u, nProm_u, totp_u, tot_u, nB_l, nM_l, nP_l, nO_l, hN_l, nLn_l, nOp_l, lnP_l, pc_l, kd_l, op_l, pr_l, mInSt_l, mProm_l, nInSt_l, nProm_l, totp_l, tot_l, if_false, if_true, false_and, and_false, Nat.reduceEqDiff, reduceIte, reduceCtorEq, and_true, true_and] using h9
  · have h9 := r_m10 R
    unfold Cm10
    simpa (disch := omega) only [sI_wI, sI_wP, sI_wL, sI_wN, sP_wI, sP_wP, sP_wL, sP_wN, sL_wI, sL_wP, sL_wL, sL_wN, sX_wI, sX_wP, sX_wL, sX_wN, gI_uI, gI_uL, gL_uI, gL_uL, tk_ne9, tk_inj, nB_u, nM_u, nP_u, nO_u, hN_u, nLn_u, nOp_u, lnP_u, pc_u, kd_u, op_u, pr_u, mInSt_u, mProm_u, nInSt_u, nProm_u, totp_u, tot_u, nB_l, nM_l, nP_l, nO_l, hN_l, nLn_l, nOp_l, lnP_l, pc_l, kd_l, op_l, pr_l, mInSt_l, mProm_l, nInSt_l, nProm_l, totp_l, tot_l, if_false, if_true, false_and, and_false, Nat.reduceEqDiff, reduceIte, reduceCtorEq, and_true, true_and] using h9
  · have h9 := r_mma R
    unfold Cmma
    simpa (disch := omega) only [sI_wI, sI_wP, sI_wL, sI_wN, sP_wI, sP_wP, sP_wL, sP_wN, sL_wI, sL_wP, sL_wL, sL_wN, sX_wI, sX_wP, sX_wL, sX_wN, gI_uI, gI_uL, gL_uI, gL_uL, tk_ne9, tk_inj, nB_u, nM_u, nP_u, nO_u, hN_u, nLn_u, nOp_u, lnP_u, pc_u, kd_u, op_u, pr_u, mInSt_u, mProm_u, nInSt_u, nProm_u, totp_u, tot_u, nB_l, nM_l, nP_l, nO_l, hN_l, nLn_l, nOp_l, lnP_l, pc_l, kd_l, op_l, pr_l, mInSt_l, mProm_l, nInSt_l, nProm_l, totp_l, tot_l, if_false, if_true, false_and, and_false, Nat.reduceEqDiff, reduceIte, reduceCtorEq, and_true, true_and] using h9
  · have h9 := r_mmb R
    unfold Cmmb
    simpa (disch := omega) only [sI_wI, sI_wP, sI_wL, sI_wN, sP_wI, sP_wP, sP_wL, sP_wN, sL_wI, sL_wP, sL_wL, sL_wN, sX_wI, sX_wP, sX_wL, sX_wN, gI_uI, gI_uL, gL_uI, gL_uL, tk_ne9, tk_inj, nB_u, nM_u, nP_u, nO_u, hN_u, nLn_u, nOp_u, lnP_u, pc_u, kd_u, op_u, pr_u, mInSt_u, mProm_u, nInSt_u, nProm_u, totp_u, tot_u, nB_l, nM_l, nP_l, nO_l, hN_l, nLn_l, nOp_l, lnP_l, pc_l, kd_l, op_l, pr_l, mInSt_l, mProm_l, nInSt_l, nProm_l, totp_l, tot_l, if_false, if_true, false_and, and_false, Nat.reduceEqDiff, reduceIte, reduceCtorEq, and_true, true_and] using h9
  · have h9 := r_mmc R
    unfold Cmmc
    simpa (disch := omega) only [sI_wI, sI_wP, sI_wL, sI_wN, sP_wI, sP_wP, sP_wL, sP_wN, sL_wI, sL_wP, sL_wL, sL_wN, sX_wI, sX_wP, sX_wL, sX_wN, gI_uI, gI_uL, gL_uI, gL_uL, tk_ne9, tk_inj, nB_u, nM_u, nP_u, nO_u, hN_u, nLn_u, nOp_u, lnP_u, pc_u, kd_u, op_u, pr_u, mInSt_u, mProm_u, nInSt_u, nProm_u, totp_u, tot_u, nB_l, nM_l, nP_l, nO_l, hN_l, nLn_l, nOp_l, lnP_l, pc_l, kd_l, op_l, pr_l, mInSt_l, mProm_l, nInSt_l, nProm_l, totp_l, tot_l, if_false, if_true, false_and, and_false, Nat.reduceEqDiff, reduceIte, reduceCtorEq, and_true, true_and] using h9
  · have h9 := r_mr29 R
    unfold Cmr29
    simpa (disch := omega) only [sI_wI, sI_wP, sI_wL, sI_wN, sP_wI, sP_wP, sP_wL, sP_wN, sL_wI, sL_wP, sL_wL, sL_wN, sX_wI, sX_wP, sX_wL, sX_wN, gI_uI, gI_uL, gL_uI, gL_uL, tk_ne9, tk_inj, nB_u, nM_u, nP_u, nO_u, hN_u, nLn_u, nOp_u, lnP_u, pc_u, kd_u, op_u, pr_u, mInSt_u, mProm_u, nInSt_u, nProm_u, totp_u, tot_u, nB_l, nM_l, nP_l, nO_l, hN_l, nLn_l, nOp_l, lnP_l, pc_l, kd_l, op_l, pr_l, mInSt_l, mProm_l, nInSt_l, nProm_l, totp_l, tot_l, if_false, if_true, false_and, and_false, Nat.reduceEqDiff, reduceIte, reduceCtorEq, and_true, true_and] using h9
  · have h9 := r_mr30 R
    unfold Cmr30
    simpa (disch := omega) only [sI_wI, sI_wP, sI_wL, sI_wN, sP_wI, sP_wP, sP_wL, sP_wN, sL_wI, sL_wP, sL_wL, sL_wN, sX_wI, sX_wP, sX_wL, sX_wN, gI_uI, gI_uL, gL_uI, gL_uL, tk_ne9, tk_inj, nB_u, nM_u, nP_u, nO_u, hN_u, nLn_u, nOp_u, lnP_u, pc_u, kd_u, op_u, pr_u, mInSt_u, mProm_u, nInSt_u, nProm_u, totp_u, tot_u, nB_l, nM_l, nP_l, nO_l, hN_l, nLn_l, nOp_l, lnP_l, pc_l, kd_l, op_l, pr_l, mInSt_l, mProm_l, nInSt_l, nProm_l, totp_l, tot_l, if_false, if_true, false_and, and_false, Nat.reduceEqDiff, reduceIte, reduceCtorEq, and_true, true_and] using h9
  · have h9 := r_mr31 R
    unfold Cmr31
    simpa (disch := omega) only [sI_wI, sI_wP, sI_wL, sI_wN, sP_wI, sP_wP, sP_wL, sP_wN, sL_wI, sL_wP, sL_wL, sL_wN, sX_wI, sX_wP, sX_wL, sX_wN, gI_uI, gI_uL, gL_uI, gL_uL, tk_ne9, tk_inj, nB_u, nM_u, nP_u, nO_u, hN_u, nLn_u, nOp_u, lnP_u, pc_u, kd_u, op_u, pr_u, mInSt_u, mProm_u, nInSt_u, nProm_u, totp_u, tot_u, nB_l, nM_l, nP_l, nO_l, hN_l, nLn_l, nOp_l, lnP_l, pc_l, kd_l, op_l, pr_l, mInSt_l, mProm_l, nInSt_l, nProm_l, totp_l, tot_l, if_false, if_true, false_and, and_false, Nat.reduceEqDiff, reduceIte, reduceCtorEq, and_true, true_and] using h9
  · have h9 := r_mr32 R
    unfold Cmr32
    simpa (disch := omega) only [sI_wI, sI_wP, sI_wL, sI_wN, sP_wI, sP_wP, sP_wL, sP_wN, sL_wI, sL_wP, sL_wL, sL_wN, sX_wI, sX_wP, sX_wL, sX_wN, gI_uI, gI_uL, gL_uI, gL_uL, tk_ne9, tk_inj, nB_u, nM_u, nP_u, nO_u, hN_u, nLn_u, nOp_u, lnP_u, pc_u, kd_u, op_u, pr_u, mInSt_u, mProm_u, nInSt_u, nProm_u, totp_u, tot_u, nB_l, nM_l, nP_l, nO_l, hN_l, nLn_l, nOp_l, lnP_l, pc_l, kd_l, op_l, pr_l, mInSt_l, mProm_l, nInSt_l, nProm_l, totp_l, tot_l, if_false, if_true, false_and, and_false, Nat.reduceEqDiff, reduceIte, reduceCtorEq, and_true, true_and] using h9
  · have h9 := r_mr35 R
    unfold Cmr35
    simpa (disch := omega) only [sI_wI, sI_wP, sI_wL, sI_wN, sP_wI, sP_wP, sP_wL, sP_wN, sL_wI, sL_wP, sL_wL, sL_wN, sX_wI, sX_wP, sX_wL, sX_wN, gI_uI, gI_uL, gL_uI, gL_uL, tk_ne9, tk_inj, nB_u, nM_u, nP_u, nO_u, hN_u, nLn_u, nOp_u, lnP_u, pc_u, kd_u, op_u, pr_u, mInSt_u, mProm_u, nInSt_u, nProm_u, totp_u, tot_u, nB_l, nM_l, nP_l, nO_l, hN_l, nLn_l, nOp_l, lnP_l, pc_l, kd_l, op_l, pr_l, mInSt_l, mProm_l, nInSt_l, nProm_l, totp_l, tot_l, if_false, if_true, false_and, and_false, Nat.reduceEqDiff, reduceIte, reduceCtorEq, and_true, true_and] using h9
  · have h9 := r_mr39 R
    unfold Cmr39
    simpa (disch := omega) only [sI_wI, sI_wP, sI_wL, sI_wN, sP_wI, sP_wP, sP_wL, sP_wN, sL_wI, sL_wP, sL_wL, sL_wN, sX_wI, sX_wP, sX_wL, sX_wN, gI_uI, gI_uL, gL_uI, gL_uL, tk_ne9, tk_inj, nB_u, nM_u, nP_u, nO_u, hN_u, nLn_u, nOp_u, lnP_u, pc_u, kd_u, op_u, pr_u, mInSt_u, mProm_u, nInSt_u, nProm_u, totp_u, tot_u, nB_l, nM_l, nP_l, nO_l, hN_l, nLn_l, nOp_l, lnP_l, pc_l, kd_l, op_l, pr_l, mInSt_l, mProm_l, nInSt_l, nProm_l, totp_l, tot_l, if_false, if_true, false_and, and_false, Nat.reduceEqDiff, reduceIte, reduceCtorEq, and_true, true_and] using h9
  · have h9 := r_mr40 R
    unfold Cmr40
    simpa (disch := omega) only [sI_wI, sI_wP, sI_wL, sI_wN, sP_wI, sP_wP, sP_wL, sP_wN, sL_wI, sL_wP, sL_wL, sL_wN, sX_wI, sX_wP, sX_wL, sX_wN, gI_uI, gI_uL, gL_uI, gL_uL, tk_ne9, tk_inj, nB_u, nM_u, nP_u, nO_u, hN_u, nLn_u, nOp_u, lnP_u, pc_u, kd_u, op_u, pr_u, mInSt_u, mProm_u, nInSt_u, nProm_u, totp_u, tot_u, nB_l, nM_l, nP_l, nO_l, hN_l, nLn_l, nOp_l, lnP_l, pc_l, kd_l, op_l, pr_l, mInSt_l, mProm_l, nInSt_l, nProm_l, totp_l, tot_l, if_false, if_true, false_and, and_false, Nat.reduceEqDiff, reduceIte, reduceCtorEq, and_true, true_and] using h9
  · have h9 := r_md R
    unfold Cmd
    simpa (disch := omega) only [sI_wI, sI_wP, sI_wL, sI_wN, sP_wI, sP_wP, sP_wL, sP_wN, sL_wI, sL_wP, sL_wL, sL_wN, sX_wI, sX_wP, sX_wL, sX_wN, gI_uI, gI_uL, gL_uI, gL_uL, tk_ne9, tk_inj, nB_u, nM_u, nP_u, nO_u, hN_u, nLn_u, nOp_u, lnP_u, pc_u, kd_u, op_u, pr_u, mInSt_u, mProm_u, nInSt_u, nProm_u, totp_u, tot_u, nB_l, nM_l, nP_l, nO_l, hN_l, nLn_l, nOp_l, lnP_l, pc_l, kd_l, op_l, pr_l, mInSt_l, mProm_l, nInSt_l, nProm_l, totp_l, tot_l, if_false, if_true, false_and, and_false, Nat.reduceEqDiff, reduceIte, reduceCtorEq, and_true, true_and] using h9
  · have h9 := r_mw R
    unfold Cmw
    simpa (disch := omega) only [sI_wI, sI_wP, sI_wL, sI_wN, sP_wI, sP_wP, sP_wL, sP_wN, sL_wI, sL_wP, sL_wL, sL_wN, sX_wI, sX_wP, sX_wL, sX_wN, gI_uI, gI_uL, gL_uI, gL_uL, tk_ne9, tk_inj, nB_u, nM_u, nP_u, nO_u, hN_u, nLn_u, nOp_u, lnP_u, pc_u, kd_u, op_u, pr_u, mInSt_u, mProm_u, nInSt_u, nProm_u, totp_u, tot_u, nB_l, nM_l, nP_l, nO_l, hN_l, nLn_l, nOp_l, lnP_l, pc_l, kd_l, op_l, pr_l, mInSt_l, mProm_l, nInSt_l, nProm_l, totp_l, tot_l, if_false, if_true, false_and, and_false, Nat.reduceEqDiff, reduceIte, reduceCtorEq, and_true, true_and] using h9
  · have h9 := r_q0 R
    unfold Cq0
    simpa (disch := omega) only [sI_wI, sI_wP, sI_wL, sI_wN, sP_wI, sP_wP, sP_wL, sP_wN, sL_wI, sL_wP, sL_wL, sL_wN, sX_wI, sX_wP, sX_wL, sX_wN, gI_uI, gI_uL, gL_uI, gL_uL, tk_ne9, tk_inj, nB_u, nM_u, nP_u, nO_u, hN_u, nLn_u, nOp_u, lnP_u, pc_u, kd_u, op_u, pr_u, mInSt_u, mProm_u, nInSt_u, nProm_u, totp_u, tot_u, nB_l, nM_l, nP_l, nO_l, hN_l, nLn_l, nOp_l, lnP_l, pc_l, kd_l, op_l, pr_l, mInSt_l, mProm_l, nInSt_l, nProm_l, totp_l, tot_l, if_false, if_true, false_and, and_false, Nat.reduceEqDiff, reduceIte, reduceCtorEq, and_true, true_and] using h9
  · have h9 := r_qn R
    unfold Cqn
    simpa (disch := omega) only [sI_wI, sI_wP, sI_wL, sI_wN, sP_wI, sP_wP, sP_wL, sP_wN, sL_wI, sL_wP, sL_wL, sL_wN, sX_wI, sX_wP, sX_wL, sX_wN, gI_uI, gI_uL, gL_uI, gL_uL, tk_ne9, tk_inj, nB_u, nM_u, nP_u, nO_u, hN_u, nLn_u, nOp_u, lnP_u, pc_u, kd_u, op_u, pr_u, mInSt_u, mProm_u, nInSt_u, nProm_u, totp_u, tot_u, nB_l, nM_l, nP_l, nO_l, hN_l, nLn_l, nOp_l, lnP_l, pc_l, kd_l, op_l, pr_l, mInSt_l, mProm_l, nInSt_l, nProm_l, totp_l, tot_l, if_false, if_true, false_and, and_false, Nat.reduceEqDiff, reduceIte, reduceCtorEq, and_true, true_and] using h9
  · have h9 := r_q1 R
    unfold Cq1
    simpa (disch := omega) only [sI_wI, sI_wP, sI_wL, sI_wN, sP_wI, sP_wP, sP_wL, sP_wN, sL_wI, sL_wP, sL_wL, sL_wN, sX_wI, sX_wP, sX_wL, sX_wN, gI_uI, gI_uL, gL_uI, gL_uL, tk_ne9, tk_inj, nB_u, nM_u, nP_u, nO_u, hN_u, nLn_u, nOp_u, lnP_u, pc_u, kd_u, op_u, pr_u, mInSt_u, mProm_u, nInSt_u, nProm_u, totp_u, tot_u, nB_l, nM_l, nP_l, nO_l, hN_l, nLn_l, nOp_l, lnP_l, pc_l, kd_l, op_l, pr_l, mInSt_l, mProm_l, nInSt_l, nProm_l, totp_l, tot_l, if_false, if_true, false_and, and_false, Nat.reduceEqDiff, reduceIte, reduceCtorEq, and_true, true_and] using h9
  · have h9 := r_q2 R
    unfold Cq2
    simpa (disch := omega) only [sI_wI, sI_wP, sI_wL, sI_wN, sP_wI, sP_wP, sP_wL, sP_wN, sL_wI, sL_wP, sL_wL, sL_wN, sX_wI, sX_wP, sX_wL, sX_wN, gI_uI, gI_uL, gL_uI, gL_uL, tk_ne9, tk_inj, nB_u, nM_u, nP_u, nO_u, hN_u, nLn_u, nOp_u, lnP_u, pc_u, kd_u, op_u, pr_u, mInSt_u, mProm_u, nInSt_u, nProm_u, totp_u, tot_u, nB_l, nM_l, nP_l, nO_l, hN_l, nLn_l, nOp_l, lnP_l, pc_l, kd_l, op_l, pr_l, mInSt_l, mProm_l, nInSt_l, nProm_l, totp_l, tot_l, if_false, if_true, false_and, and_false, Nat.reduceEqDiff, reduceIte, reduceCtorEq, and_true, true_and] using h9
  · have h9 := r_q3 R
    unfold Cq3
    simpa (disch := omega) only [sI_wI, sI_wP, sI_wL, sI_wN, sP_wI, sP_wP, sP_wL, sP_wN, sL_wI, sL_wP, sL_wL, sL_wN, sX_wI, sX_wP, sX_wL, sX_wN, gI_uI, gI_uL, gL_uI, gL_uL, tk_ne9, tk_inj, nB_u, nM_u, nP_u, nO_u, hN_u, nLn_u, nOp_u, lnP_u, pc_u, kd_u, op_u, pr_u, mInSt_u, mProm_u, nInSt_u, nProm_u, totp_u, tot_u, nB_l, nM_l, nP_l, nO_l, hN_l, nLn_l, nOp_l, lnP_l, pc_l, kd_l, op_l, pr_l, mInSt_l, mProm_l, nInSt_l, nProm_l, totp_l, tot_l, if_false, if_true, false_and, and_false, Nat.reduceEqDiff, reduceIte, reduceCtorEq, and_true, true_and] using h9
  · have h9 := r_q4 R
    unfold Cq4
    simpa (disch := omega) only [sI_wI, sI_wP, sI_wL, sI_wN, sP_wI, sP_wP, sP_wL, sP_wN, sL_wI, sL_wP, sL_wL, sL_wN, sX_wI, sX_wP, sX_wL, sX_wN, gI_uI, gI_uL, gL_uI, gL_uL, tk_ne9, tk_inj, nB_u, nM_u, nP_u, nO_u, hN_u, nLn_u, nOp_u, lnP_u, pc_u, kd_u, op_u, pr_u, mInSt_u, mProm_u, nInSt_u, nProm_u, totp_u, tot_u, nB_l, nM_l, nP_l, nO_l, hN_l, nLn_l, nOp_l, lnP_l, pc_l, kd_l, op_l, pr_l, mInSt_l, mProm_l, nInSt_l, nProm_l, totp_l, tot_l, if_false, if_true, false_and, and_false, Nat.reduceEqDiff, reduceIte, reduceCtorEq, and_true, true_and] using h9
  · have h9 := r_q5 R
    unfold Cq5
    simpa (disch := omega) only [sI_wI, sI_wP, sI_wL, sI_wN, sP_wI, sP_wP, sP_wL, sP_wN, sL_wI, sL_wP, sL_wL, sL_wN, sX_wI, sX_wP, sX_wL, sX_wN, gI_uI, gI_uL, gL_uI, gL_uL, tk_ne9, tk_inj, nB_u, nM_u, nP_u, nO_u, hN_u, nLn_u, nOp_u, lnP_u, pc_u, kd_u, op_u, pr_u, mInSt_u, mProm_u, nInSt_u, nProm_u, totp_u, tot_u, nB_l, nM_l, nP_l, nO_l, hN_l, nLn_l, nOp_l, lnP_l, pc_l, kd_l, op_l, pr_l, mInSt_l, mProm_l, nInSt_l, nProm_l, totp_l, tot_l, if_false, if_true, false_and, and_false, Nat.reduceEqDiff, reduceIte, reduceCtorEq, and_true, true_and] using h9
  · have h9 := r_q6 R
    unfold Cq6
    simpa (disch := omega) only [sI_wI, sI_wP, sI_wL, sI_wN, sP_wI, sP_wP, sP_wL, sP_wN, sL_wI, sL_wP, sL_wL, sL_wN, sX_wI, sX_wP, sX_wL, sX_wN, gI_uI, gI_uL, gL_uI, gL_uL, tk_ne9, tk_inj, nB_u, nM_u, nP_u, nO_u, hN_u, nLn_u, nOp_u, lnP_u, pc_u, kd_u, op_u, pr_u, mInSt_u, mProm_u, nInSt_u, nProm_u, totp_u, tot_u, nB_l, nM_l, nP_l, nO_l, hN_l, nLn_l, nOp_l, lnP_l, pc_l, kd_l, op_l, pr_l, mInSt_l, mProm_l, nInSt_l, nProm_l, totp_l, tot_l, if_false, if_true, false_and, and_false, Nat.reduceEqDiff, reduceIte, reduceCtorEq, and_true, true_and] using h9
  · have h9 := r_ql R
    unfold Cql
    simpa (disch := omega) only [sI_wI, sI_wP, sI_wL, sI_wN, sP_wI, sP_wP, sP_wL, sP_wN, sL_wI, sL_wP, sL_wL, sL_wN, sX_wI, sX_wP, sX_wL, sX_wN, gI_uI, gI_uL, gL_uI, gL_uL, tk_ne9, tk_inj, nB_u, nM_u, nP_u, nO_u, hN_u, nLn_u, nOp_u, lnP_u, pc_u, kd_u, op_u, pr_u, mInSt_u, mProm_u, nInSt_u, nProm_u, totp_u, tot_u, nB_l, nM_l, nP_l, nO_l, hN_l, nLn_l, nOp_l, lnP_l, pc_l, kd_l, op_l, pr_l, mInSt_l, mProm_l, nInSt_l, nProm_l, totp_l, tot_l, if_false, if_true, false_and, and_false, Nat.reduceEqDiff, reduceIte, reduceCtorEq, and_true, true_and] using h9
  · have h9 := r_qw R
    unfold Cqw
    simpa (disch := omega) only [sI_wI, sI_wP, sI_wL, sI_wN, sP_wI, sP_wP, sP_wL, sP_wN, sL_wI, sL_wP, sL_wL, sL_wN, sX_wI, sX_wP, sX_wL, sX_wN, gI_uI, gI_uL, gL_uI, gL_uL, tk_ne9, tk_inj, nB_u, nM_u, nP_u, nO_u, hN_u, nLn_u, nOp_u, lnP_u, pc_u, kd_u, op_u, pr_u, mInSt_u, mProm_u, nInSt_u, nProm_u, totp_u, tot_u, nB_l, nM_l, nP_l, nO_l, hN_l, nLn_l, nOp_l, lnP_l, pc_l, kd_l, op_l, pr_l, mInSt_l, mProm_l, nInSt_l, nProm_l, totp_l, tot_l, if_false, if_true, false_and, and_false, Nat.reduceEqDiff, reduceIte, reduceCtorEq, and_true, true_and] using h9
  · have h9 := r_qm R
    unfold Cqm
    simpa (disch := omega) only [sI_wI, sI_wP, sI_wL, sI_wN, sP_wI, sP_wP, sP_wL, sP_wN, sL_wI, sL_wP, sL_wL, sL_wN, sX_wI, sX_wP, sX_wL, sX_wN, gI_uI, gI_uL, gL_uI, gL_uL, tk_ne9, tk_inj, nB_u, nM_u, nP_u, nO_u, hN_u, nLn_u, nOp_u, lnP_u, pc_u, kd_u, op_u, pr_u, mInSt_u, mProm_u, nInSt_u, nProm_u, totp_u, tot_u, nB_l, nM_l, nP_l, nO_l, hN_l, nLn_l, nOp_l, lnP_l, pc_l, kd_l, op_l, pr_l, mInSt_l, mProm_l, nInSt_l, nProm_l, totp_l, tot_l, if_false, if_true, false_and, and_false, Nat.reduceEqDiff, reduceIte, reduceCtorEq, and_true, true_and] using h9
  · have h9 := r_qr R
    unfold Cqr
    simpa (disch := omega) only [sI_wI, sI_wP, sI_wL, sI_wN, sP_wI, sP_wP, sP_wL, sP_wN, sL_wI, sL_wP, sL_wL, sL_wN, sX_wI, sX_wP, sX_wL, sX_wN, gI_uI, gI_uL, gL_uI, gL_uL, tk_ne9, tk_inj, nB_u, nM_u, nP_u, nO_u, hN_u, nLn_u, nOp_u, lnP_u, pc_u, kd_u, op_u, pr_u, mInSt_u, mProm_u, nInSt_u, nProm_u, totp_u, tot_u, nB_l, nM_l, nP_l, nO_l, hN_l, nLn_l, nOp_l, lnP_l, pc_l, kd_l, op_l, pr_l, mInSt_l, mProm_l, nInSt_l, nProm_l, totp_l, tot_l, if_false, if_true, false_and, and_false, Nat.reduceEqDiff, reduceIte, reduceCtorEq, and_true, true_and] using h9
  · have h9 := r_r0 R
    unfold Cr0
    simpa (disch := omega) only [sI_wI, sI_wP, sI_wL, sI_wN, sP_wI, sP_wP, sP_wL, sP_wN, sL_wI, sL_wP, sL_wL, sL_wN, sX_wI, sX_wP, sX_wL, sX_wN, gI_uI, gI_uL, gL_uI, gL_uL, tk_ne9, tk_inj, nB_u, nM_u, nP_u, nO_u, hN_u, nLn_u, nOp_u, lnP_u, pc_u, kd_u, op_u, pr_u, mInSt_u, mProm_u, nInSt_u, nProm_u, totp_u, tot_u, nB_l, nM_l, nP_l, nO_l, hN_l, nLn_l, nOp_l, lnP_l, pc_l, kd_l, op_l, pr_l, mInSt_l, mProm_l, nInSt_l, nProm_l, totp_l, tot_l, if_false, if_true, false_and, and_false, Nat.reduceEqDiff, reduceIte, reduceCtorEq, and_true, true_and] using h9
  · have h9 := r_r1 R
    unfold Cr1
    simpa (disch := omega) only [sI_wI, sI_wP, sI_wL, sI_wN, sP_wI, sP_wP, sP_wL, sP_wN, sL_wI, sL_wP, sL_wL, sL_wN, sX_wI, sX_wP, sX_wL, sX_wN, gI_uI, gI_uL, gL_uI, gL_uL, tk_ne9, tk_inj, nB_u, nM_u, nP_u, nO_u, hN_u, nLn_u, nOp_u, lnP_u, pc_u, kd_u, op_u, pr_u, mInSt_u, mProm_u, nInSt_u, nProm_u, totp_u, tot_u, nB_l, nM_l, nP_l, nO_l, hN_l, nLn_l, nOp_l, lnP_l, pc_l, kd_l, op_l, pr_l, mInSt_l, mProm_l, nInSt_l, nProm_l, totp_l, tot_l, if_false, if_true, false_and, and_false, Nat.reduceEqDiff, reduceIte, reduceCtorEq, and_true, true_and] using h9
  · have h9 := r_r2 R
    unfold Cr2
    simpa (disch := omega) only [sI_wI, sI_wP, sI_wL, sI_wN, sP_wI, sP_wP, sP_wL, sP_wN, sL_wI, sL_wP, sL_wL, sL_wN, sX_wI, sX_wP, sX_wL, sX_wN, gI_uI, gI_uL, gL_uI, gL_uL, tk_ne9, tk_inj, nB_u, nM_u, nP_u, nO_u, hN_u, nLn_u, nOp_u, lnP_u, pc_u, kd_u, op_u, pr_u, mInSt_u, mProm_u, nInSt_u, nProm_u, totp_u, tot_u, nB_l, nM_l, nP_l, nO_l, hN_l, nLn_l, nOp_l, lnP_l, pc_l, kd_l, op_l, pr_l, mInSt_l, mProm_l, nInSt_l, nProm_l, totp_l, tot_l, if_false, if_true, false_and, and_false, Nat.reduceEqDiff, reduceIte, reduceCtorEq, and_true, true_and] using h9
  · have h9 := r_r3 R
    unfold Cr3
    simpa (disch := omega) only [sI_wI, sI_wP, sI_wL, sI_wN, sP_wI, sP_wP, sP_wL, sP_wN, sL_wI, sL_wP, sL_wL, sL_wN, sX_wI, sX_wP, sX_wL, sX_wN, gI_uI, gI_uL, gL_uI, gL_uL, tk_ne9, tk_inj, nB_u, nM_u, nP_u, nO_u, hN_u, nLn_u, nOp_u, lnP_u, pc_u, kd_u, op_u, pr_u, mInSt_u, mProm_u, nInSt_u, nProm_u, totp_u, tot_u, nB_l, nM_l, nP_l, nO_l, hN_l, nLn_l, nOp_l, lnP_l, pc_l, kd_l, op_l, pr_l, mInSt_l, mProm_l, nInSt_l, nProm_l, totp_l, tot_l, if_false, if_true, false_and, and_false, Nat.reduceEqDiff, reduceIte, reduceCtorEq, and_true, true_and] using h9
  · have h9 := r_r4 R
    unfold Cr4
    simpa (disch := omega) only [sI_wI, sI_wP, sI_wL, sI_wN, sP_wI, sP_wP, sP_wL, sP_wN, sL_wI, sL_wP, sL_wL, sL_wN, sX_wI, sX_wP, sX_wL, sX_wN, gI_uI, gI_uL, gL_uI, gL_uL, tk_ne9, tk_inj, nB_u, nM_u, nP_u, nO_u, hN_u, nLn_u, nOp_u, lnP_u, pc_u, kd_u, op_u, pr_u, mInSt_u, mProm_u, nInSt_u, nProm_u, totp_u, tot_u, nB_l, nM_l, nP_l, nO_l, hN_l, nLn_l, nOp_l, lnP_l, pc_l, kd_l, op_l, pr_l, mInSt_l, mProm_l, nInSt_l, nProm_l, totp_l, tot_l, if_false, if_true, false_and, and_false, Nat.reduceEqDiff, reduceIte, reduceCtorEq, and_true, true_and] using h9
  · have h9 := r_r5 R
    unfold Cr5
    simpa (disch := omega) only [sI_wI, sI_wP, sI_wL, sI_wN, sP_wI, sP_wP, sP_wL, sP_wN, sL_wI, sL_wP, sL_wL, sL_wN, sX_wI, sX_wP, sX_wL, sX_wN, gI_uI, gI_uL, gL_uI, gL_uL, tk_ne9, tk_inj, nB_u, nM_u, nP_u, nO_u, hN_u, nLn_u, nOp_u, lnP_u, pc_u, kd_u, op_u, pr_u, mInSt_u, mProm_u, nInSt_u, nProm_u, totp_u, tot_u, nB_l, nM_l, nP_l, nO_l, hN_l, nLn_l, nOp_l, lnP_l, pc_l, kd_l, op_l, pr_l, mInSt_l, mProm_l, nInSt_l, nProm_l, totp_l, tot_l, if_false, if_true, false_and, and_false, Nat.reduceEqDiff, reduceIte, reduceCtorEq, and_true, true_and] using h9
  · have h9 := r_r6 R
    unfold Cr6
    simpa (disch := omega) only [sI_wI, sI_wP, sI_wL, sI_wN, sP_wI, sP_wP, sP_wL, sP_wN, sL_wI, sL_wP, sL_wL, sL_wN, sX_wI, sX_wP, sX_wL, sX_wN, gI_uI, gI_uL, gL_uI, gL_uL, tk_ne9, tk_inj, nB_u, nM_u, nP_u, nO_u, hN_u, nLn_u, nOp_u, lnP_u, pc_u, kd_u, op_u, pr_u, mInSt_u, mProm_u, nInSt_u, nProm_u, totp_u, tot_u, nB_l, nM_l, nP_l, nO_l, hN_l, nLn_l, nOp_l, lnP_l, pc_l, kd_l, op_l, pr_l, mInSt_l, mProm_l, nInSt_l, nProm_l, totp_l, tot_l, if_false, if_true, false_and, and_false, Nat.reduceEqDiff, reduceIte, reduceCtorEq, and_true, true_and] using h9
  · have h9 := r_rk R
    unfold Crk
    simpa (disch := omega) only [sI_wI, sI_wP, sI_wL, sI_wN, sP_wI, sP_wP, sP_wL, sP_wN, sL_wI, sL_wP, sL_wL, sL_wN, sX_wI, sX_wP, sX_wL, sX_wN, gI_uI, gI_uL, gL_uI, gL_uL, tk_ne9, tk_inj, nB_u, nM_u, nP_u, nO_u, hN_u, nLn_u, nOp_u, lnP_u, pc_u, kd_u, op_u, pr_u, mInSt_u, mProm_u, nInSt_u, nProm_u, totp_u, tot_u, nB_l, nM_l, nP_l, nO_l, hN_l, nLn_l, nOp_l, lnP_l, pc_l, kd_l, op_l, pr_l, mInSt_l, mProm_l, nInSt_l, nProm_l, totp_l, tot_l, if_false, if_true, false_and, and_false, Nat.reduceEqDiff, reduceIte, reduceCtorEq, and_true, true_and] using h9
  · have h9 := r_rp R
    unfold Crp
    simpa (disch := omega) only [sI_wI, sI_wP, sI_wL, sI_wN, sP_wI, sP_wP, sP_wL, sP_wN, sL_wI, sL_wP, sL_wL, sL_wN, sX_wI, sX_wP, sX_wL, sX_wN, gI_uI, gI_uL, gL_uI, gL_uL, tk_ne9, tk_inj, nB_u, nM_u, nP_u, nO_u, hN_u, nLn_u, nOp_u, lnP_u, pc_u, kd_u, op_u, pr_u, mInSt_u, mProm_u, nInSt_u, nProm_u, totp_u, tot_u, nB_l, nM_l, nP_l, nO_l, hN_l, nLn_l, nOp_l, lnP_l, pc_l, kd_l, op_l, pr_l, mInSt_l, mProm_l, nInSt_l, nProm_l, totp_l, tot_l, if_false, if_true, false_and, and_false, Nat.reduceEqDiff, reduceIte, reduceCtorEq, and_true, true_and] using h9
  · have h9 := r_rq R
    unfold Crq
    simpa (disch := omega) only [sI_wI, sI_wP, sI_wL, sI_wN, sP_wI, sP_wP, sP_wL, sP_wN, sL_wI, sL_wP, sL_wL, sL_wN, sX_wI, sX_wP, sX_wL, sX_wN, gI_uI, gI_uL, gL_uI, gL_uL, tk_ne9, tk_inj, nB_u, nM_u, nP_u, nO_u, hN_u, nLn_u, nOp_u, lnP_u, pc_u, kd_u, op_u, pr_u, mInSt_u, mProm_u, nInSt_u, nProm_u, totp_u, tot_u, nB_l, nM_l, nP_l, nO_l, hN_l, nLn_l, nOp_l, lnP_l, pc_l, kd_l, op_l, pr_l, mInSt_l, mProm_l, nInSt_l, nProm_l, totp_l, tot_l, if_false, if_true, false_and, and_false, Nat.reduceEqDiff, reduceIte, reduceCtorEq, and_true, true_and] using h9
  · have h9 := r_rr R
    unfold Crr
    simpa (disch := omega) only [sI_wI, sI_wP, sI_wL, sI_wN, sP_wI, sP_wP, sP_wL, sP_wN, sL_wI, sL_wP, sL_wL, sL_wN, sX_wI, sX_wP, sX_wL, sX_wN, gI_uI, gI_uL, gL_uI, gL_uL, tk_ne9, tk_inj, nB_u, nM_u, nP_u, nO_u, hN_u, nLn_u, nOp_u, lnP_u, pc_u, kd_u, op_u, pr_u, mInSt_u, mProm_u, nInSt_u, nProm_u, totp_u, tot_u, nB_l, nM_l, nP_l, nO_l, hN_l, nLn_l, nOp_l, lnP_l, pc_l, kd_l, op_l, pr_l, mInSt_l, mProm_l, nInSt_l, nProm_l, totp_l, tot_l, if_false, if_true, false_and, and_false, Nat.reduceEqDiff, reduceIte, reduceCtorEq, and_true, true_and] using h9
  · have h9 := r_rs R
    unfold Crs
    simpa (disch := omega) only [sI_wI, sI_wP, sI_wL, sI_wN, sP_wI, sP_wP, sP_wL, sP_wN, sL_wI, sL_wP, sL_wL, sL_wN, sX_wI, sX_wP, sX_wL, sX_wN, gI_uI, gI_uL, gL_uI, gL_uL, tk_ne9, tk_inj, nB_u, nM_u, nP_u, nO_u, hN_u, nLn_u, nOp_u, lnP_u, pc_u, kd_u, op_u, pr_u, mInSt_u, mProm_u, nInSt_u, nProm_u, totp_u, tot_u, nB_l, nM_l, nP_l, nO_l, hN_l, nLn_l, nOp_l, lnP_l, pc_l, kd_l, op_l, pr_l, mInSt_l, mProm_l, nInSt_l, nProm_l, totp_l, tot_l, if_false, if_true, false_and, and_false, Nat.reduceEqDiff, reduceIte, reduceCtorEq, and_true, true_and] using h9
set_option maxHeartbeats 4000000 in
theorem rel_out {e : Nat} {a : Sg} {M : MS} (R : Rel e a M) (k : Int64) : Rel e (wL a (tk 24 0) 0 k) M := by
  unfold Rel
  refine ⟨?_, ?_, ?_, ?_, ?_, ?_, ?_, ?_, ?_, ?_, ?_, ?_, ?_, ?_, ?_, ?_, ?_, ?_, ?_, ?_, ?_, ?_, ?_, ?_, ?_, ?_, ?_, ?_, ?_, ?_, ?_, ?_, ?_, ?_, ?_, ?_, ?_, ?_, ?_, ?_, ?_, ?_, ?_, ?_, ?_, ?_, ?_, ?_, ?_, ?_, ?_, ?_, ?_, ?_, ?_, ?_, ?_, ?_, ?_, ?_, ?_, ?_, ?_, ?_, ?_, ?_, ?_, ?_, ?_, ?_, ?_, ?_, ?_, ?_, ?_, ?_, ?_, ?_, ?_, ?_, ?_, ?_, ?_, ?_, ?_, ?_, ?_, ?_, ?_, ?_, ?_, ?_, ?_, ?_, ?_, ?_, ?_, ?_, ?_, ?_, ?_, ?_, ?_, ?_, ?_, ?_, ?_, ?_, ?_, ?_, ?_, ?_, ?_, ?_, ?_, ?_, ?_, ?_, ?_, ?_, ?_, ?_, ?_, ?_, ?_, ?_, ?_, ?_, ?_, ?_, ?_, ?_, ?_, ?_, ?_, ?_, ?_, ?_, ?_, ?_, ?_, ?_, ?_, ?_, ?_, ?_, ?_, ?_, ?_⟩
  · have h9 := r_shm R
    unfold Cshm
    simpa (disch := omega) only [sI_wI, sI_wP, sI_wL, sI_wN, sP_wI, sP_wP, sP_wL, sP_wN, sL_wI, sL_wP, sL_wL, sL_wN, sX_wI, sX_wP, sX_wL, sX_wN, gI_uI, gI_uL, gL_uI, gL_uL, tk_ne9, tk_inj, nB_u, nM_u, nP_u, nO_u, hN_u, nLn_u, nOp_u, lnP_u, pc_u, kd_u, op_u, pr_u, mInSt_u, mProm_u, nInSt_u, nProm_u, totp_u, tot_u, nB_l, nM_l, nP_l, nO_l, hN_l, nLn_l, nOp_l, lnP_l, pc_l, kd_l, op_l, pr_l, mInSt_l, mProm_l, nInSt_l, nProm_l, totp_l, tot_l, if_false, if_true, false_and, and_false, Nat.reduceEqDiff, reduceIte, reduceCtorEq, and_true, true_and] using h9
  · have h9 := r_px0 R
    unfold Cpx0
    simpa (disch := omega) only [sI_wI, sI_wP, sI_wL, sI_wN, sP_wI, sP_wP, sP_wL, sP_wN, sL_wI, sL_wP, sL_wL, sL_wN, sX_wI, sX_wP, sX_wL, sX_wN, gI_uI, gI_uL, gL_uI, gL_uL, tk_ne9, tk_inj, nB_u, nM_u, nP_u, nO_u, hN_u, nLn_u, nOp_u, lnP_u, pc_u, kd_u, op_u, pr_u, mInSt_u, mProm_u, nInSt_u, nProm_u, totp_u, tot_u, nB_l, nM_l, nP_l, nO_l, hN_l, nLn_l, nOp_l, lnP_l, pc_l, kd_l, op_l, pr_l, mInSt_l, mProm_l, nInSt_l, nProm_l, totp_l, tot_l, if_false, if_true, false_and, and_false, Nat.reduceEqDiff, reduceIte, reduceCtorEq, and_true, true_and] using h9
  · have h9 := r_px1 R
    unfold Cpx1
    simpa (disch := omega) only [sI_wI, sI_wP, sI_wL, sI_wN, sP_wI, sP_wP, sP_wL, sP_wN, sL_wI, sL_wP, sL_wL, sL_wN, sX_wI, sX_wP, sX_wL, sX_wN, gI_uI, gI_uL, gL_uI, gL_uL, tk_ne9, tk_inj, nB_u, nM_u, nP_u, nO_u, hN_u, nLn_u, nOp_u, lnP_u, pc_u, kd_u, op_u, pr_u, mInSt_u, mProm_u, nInSt_u, nProm_u, totp_u, tot_u, nB_l, nM_l, nP_l, nO_l, hN_l, nLn_l, nOp_l, lnP_l, pc_l, kd_l, op_l, pr_l, mInSt_l, mProm_l, nInSt_l, nProm_l, totp_l, tot_l, if_false, if_true, false_and, and_false, Nat.reduceEqDiff, reduceIte, reduceCtorEq, and_true, true_and] using h9
  · have h9 := r_px2 R
    unfold Cpx2
    simpa (disch := omega) only [sI_wI, sI_wP, sI_wL, sI_wN, sP_wI, sP_wP, sP_wL, sP_wN, sL_wI, sL_wP, sL_wL, sL_wN, sX_wI, sX_wP, sX_wL, sX_wN, gI_uI, gI_uL, gL_uI, gL_uL, tk_ne9, tk_inj, nB_u, nM_u, nP_u, nO_u, hN_u, nLn_u, nOp_u, lnP_u, pc_u, kd_u, op_u, pr_u, mInSt_u, mProm_u, nInSt_u, nProm_u, totp_u, tot_u, nB_l, nM_l, nP_l, nO_l, hN_l, nLn_l, nOp_l, lnP_l, pc_l, kd_l, op_l, pr_l, mInSt_l, mProm_l, nInSt_l, nProm_l, totp_l, tot_l, if_false, if_true, false_and, and_false, Nat.reduceEqDiff, reduceIte, reduceCtorEq, and_true, true_and] using h9
  · have h9 := r_pf0 R
    unfold Cpf0
    simpa (disch := omega) only [sI_wI, sI_wP, sI_wL, sI_wN, sP_wI, sP_wP, sP_wL, sP_wN, sL_wI, sL_wP, sL_wL, sL_wN, sX_wI, sX_wP, sX_wL, sX_wN, gI_uI, gI_uL, gL_uI, gL_uL, tk_ne9, tk_inj, nB_u, nM_u, nP_u, nO_u, hN_u, nLn_u, nOp_u, lnP_u, pc_u, kd_u, op_u, pr_u, mInSt_u, mProm_u, nInSt_u, nProm_u, totp_u, tot_u, nB_l, nM_l, nP_l, nO_l, hN_l, nLn_l, nOp_l, lnP_l, pc_l, kd_l, op_l, pr_l, mInSt_l, mProm_l, nInSt_l, nProm_l, totp_l, tot_l, if_false, if_true, false_and, and_false, Nat.reduceEqDiff, reduceIte, reduceCtorEq, and_true, true_and] using h9
  · have h9 := r_pf1 R
    unfold Cpf1
    simpa (disch := omega) only [sI_wI, sI_wP, sI_wL, sI_wN, sP_wI, sP_wP, sP_wL, sP_wN, sL_wI, sL_wP, sL_wL, sL_wN, sX_wI, sX_wP, sX_wL, sX_wN, gI_uI, gI_uL, gL_uI, gL_uL, tk_ne9, tk_inj, nB_u, nM_u, nP_u, nO_u, hN_u, nLn_u, nOp_u, lnP_u, pc_u, kd_u, op_u, pr_u, mInSt_u, mProm_u, nInSt_u, nProm_u, totp_u, tot_u, nB_l, nM_l, nP_l, nO_l, hN_l, nLn_l, nOp_l, lnP_l, pc_l, kd_l, op_l, pr_l, mInSt_l, mProm_l, nInSt_l, nProm_l, totp_l, tot_l, if_false, if_true, false_and, and_false, Nat.reduceEqDiff, reduceIte, reduceCtorEq, and_true, true_and] using h9
  · have h9 := r_pf3 R
    unfold Cpf3
    simpa (disch := omega) only [sI_wI, sI_wP, sI_wL, sI_wN, sP_wI, sP_wP, sP_wL, sP_wN, sL_wI, sL_wP, sL_wL, sL_wN, sX_wI, sX_wP, sX_wL, sX_wN, gI_uI, gI_uL, gL_uI, gL_uL, tk_ne9, tk_inj, nB_u, nM_u, nP_u, nO_u, hN_u, nLn_u, nOp_u, lnP_u, pc_u, kd_u, op_u, pr_u, mInSt_u, mProm_u, nInSt_u, nProm_u, totp_u, tot_u, nB_l, nM_l, nP_l, nO_l, hN_l, nLn_l, nOp_l, lnP_l, pc_l, kd_l, op_l, pr_l, mInSt_l, mProm_l, nInSt_l, nProm_l, totp_l, tot_l, if_false, if_true, false_and, and_false, Nat.reduceEqDiff, reduceIte, reduceCtorEq, and_true, true_and] using h9
  · have h9 := r_ps0 R
    unfold Cps0
    simpa (disch := omega) only [sI_wI, sI_wP, sI_wL, sI_wN, sP_wI, sP_wP, sP_wL, sP_wN, sL_wI, sL_wP, sL_wL, sL_wN, sX_wI, sX_wP, sX_wL, sX_wN, gI_uI, gI_uL, gL_uI, gL_uL, tk_ne9, tk_inj, nB_u, nM_u, nP_u, nO_u, hN_u, nLn_u, nOp_u, lnP_u, pc_u, kd_u, op_u, pr_u, mInSt_u, mProm_u, nInSt_u, nProm_u, totp_u, tot_u, nB_l, nM_l, nP_l, nO_l, hN_l, nLn_l, nOp_l, lnP_l, pc_l, kd_l, op_l, pr_l, mInSt_l, mProm_l, nInSt_l, nProm_l, totp_l, tot_l, if_false, if_true, false_and, and_false, Nat.reduceEqDiff, reduceIte, reduceCtorEq, and_true, true_and] using h9
  · have h9 := r_ps2 R
    unfold Cps2
    simpa (disch := omega) only [sI_wI, sI_wP, sI_wL, sI_wN, sP_wI, sP_wP, sP_wL, sP_wN, sL_wI, sL_wP, sL_wL, sL_wN, sX_wI, sX_wP, sX_wL, sX_wN, gI_uI, gI_uL, gL_uI, gL_uL, tk_ne9, tk_inj, nB_u, nM_u, nP_u, nO_u, hN_u, nLn_u, nOp_u, lnP_u, pc_u, kd_u, op_u, pr_u, mInSt_u, mProm_u, nInSt_u, nProm_u, totp_u, tot_u, nB_l, nM_l, nP_l, nO_l, hN_l, nLn_l, nOp_l, lnP_l, pc_l, kd_l, op_l, pr_l, mInSt_l, mProm_l, nInSt_l, nProm_l, totp_l, tot_l, if_false, if_true, false_and, and_false, Nat.reduceEqDiff, reduceIte, reduceCtorEq, and_true, true_and] using h9
  · have h9 := r_ps4 R
    unfold Cps4
    simpa (disch := omega) only [sI_wI, sI_wP, sI_wL, sI_wN, sP_wI, sP_wP, sP_wL, sP_wN, sL_wI, sL_wP, sL_wL, sL_wN, sX_wI, sX_wP, sX_wL, sX_wN, gI_uI, gI_uL, gL_uI, gL_uL, tk_ne9, tk_inj, nB_u, nM_u, nP_u, nO_u, hN_u, nLn_u, nOp_u, lnP_u, pc_u, kd_u, op_u, pr_u, mInSt_u, mProm_u, nInSt_u, nProm_u, totp_u, tot_u, nB_l, nM_l, nP_l, nO_l, hN_l, nLn_l, nOp_l, lnP_l, pc_l, kd_l, op_l, pr_l, mInSt_l, mProm_l, nInSt_l, nProm_l, totp_l, tot_l, if_false, if_true, false_and, and_false, Nat.reduceEqDiff, reduceIte, reduceCtorEq, and_true, true_and] using h9
  · have h9 := r_pk R
    unfold Cpk
    simpa (disch := omega) only [sI_wI, sI_wP, sI_wL, sI_wN, sP_wI, sP_wP, sP_wL, sP_wN, sL_wI, sL_wP, sL_wL, sL_wN, sX_wI, sX_wP, sX_wL, sX_wN, gI_uI, gI_uL, gL_uI, gL_uL, tk_ne9, tk_inj, nB_u, nM_u, nP_u, nO_u, hN_u, nLn_u, nOp_u, lnP_u, pc_u, kd_u, op_u, pr_u, mInSt_u, mProm_u, nInSt_u, nProm_u, totp_u, tot_u, nB_l, nM_l, nP_l, nO_l, hN_l, nLn_l, nOp_l, lnP_l, pc_l, kd_l, op_l, pr_l, mInSt_l, mProm_l, nInSt_l, nProm_l, totp_l, tot_l, if_false, if_true, false_and, and_false, Nat.reduceEqDiff, reduceIte, reduceCtorEq, and_true, true_and] using h9
  · have h9 := r_pkl R
    unfold Cpkl
    simpa (disch := omega) only [sI_wI, sI_wP, sI_wL, sI_wN, sP_wI, sP_wP, sP_wL, sP_wN, sL_wI, sL_wP, sL_wL, sL_wN, sX_wI, sX_wP, sX_wL, sX_wN, gI_uI, gI_uL, gL_uI, gL_uL, tk_ne9, tk_inj, nB_u, nM_u, nP_u, nO_u, hN_u, nLn_u, nOp_u, lnP_u, pc_u, kd_u, op_u, pr_u, mInSt_u, mProm_u, nInSt_u, nProm_u, totp_u, tot_u, nB_l, nM_l, nP_l, nO_l, hN_l, nLn_l, nOp_l, lnP_l, pc_l, kd_l, op_l, pr_l, mInSt_l, mProm_l, nInSt_l, nProm_l, totp_l, tot_l, if_false, if_true, false_and, and_false, Nat.reduceEqDiff, reduceIte, reduceCtorEq, and_true, true_and] using h9
  · have h9 := r_pko R
    unfold Cpko
    simpa (disch := omega) only [sI_wI, sI_wP, sI_wL, sI_wN, sP_wI, sP_wP, sP_wL, sP_wN, sL_wI, sL_wP, sL_wL, sL_wN, sX_wI, sX_wP, sX_wL, sX_wN, gI_uI, gI_uL, gL_uI, gL_uL, tk_ne9, tk_inj, nB_u, nM_u, nP_u, nO_u, hN_u, nLn_u, nOp_u, lnP_u, pc_u, kd_u, op_u, pr_u, mInSt_u, mProm_u, nInSt_u, nProm_u, totp_u, tot_u, nB_l, nM_l, nP_l, nO_l, hN_l, nLn_l, nOp_l, lnP_l, pc_l, kd_l, op_l, pr_l, mInSt_l, mProm_l, nInSt_l, nProm_l, totp_l, tot_l, if_false, if_true, false_and, and_false, Nat.reduceEqDiff, reduceIte, reduceCtorEq, and_true, true_and] using h9
  · have h9 := r_ghour R
    unfold Cghour
    simpa (disch := omega) only [sI_wI, sI_wP, sI_wL, sI_wN, sP_wI, sP_wP, sP_wL, sP_wN, sL_wI, sL_wP, sL_wL, sL_wN, sX_wI, sX_wP, sX_wL, sX_wN, gI_uI, gI_uL, gL_uI, gL_uL, tk_ne9, tk_inj, nB_u, nM_u, nP_u, nO_u, hN_u, nLn_u, nOp_u, lnP_u, pc_u, kd_u, op_u, pr_u, mInSt_u, mProm_u, nInSt_u, nProm_u, totp_u, tot_u, nB_l, nM_l, nP_l, nO_l, hN_l, nLn_l, nOp_l, lnP_l, pc_l, kd_l, op_l, pr_l, mInSt_l, mProm_l, nInSt_l, nProm_l, totp_l, tot_l, if_false, if_true, false_and, and_false, Nat.reduceEqDiff, reduceIte, reduceCtorEq, and_true, true_and] using h9
  · have h9 := r_gstand R
    unfold Cgstand
    simpa (disch := omega) only [sI_wI, sI_wP, sI_wL, sI_wN, sP_wI, sP_wP, sP_wL, sP_wN, sL_wI, sL_wP, sL_wL, sL_wN, sX_wI, sX_wP, sX_wL, sX_wN, gI_uI, gI_uL, gL_uI, gL_uL, tk_ne9, tk_inj, nB_u, nM_u, nP_u, nO_u, hN_u, nLn_u, nOp_u, lnP_u, pc_u, kd_u, op_u, pr_u, mInSt_u, mProm_u, nInSt_u, nProm_u, totp_u, tot_u, nB_l, nM_l, nP_l, nO_l, hN_l, nLn_l, nOp_l, lnP_l, pc_l, kd_l, op_l, pr_l, mInSt_l, mProm_l, nInSt_l, nProm_l, totp_l, tot_l, if_false, if_true, false_and, and_false, Nat.reduceEqDiff, reduceIte, reduceCtorEq, and_true, true_and] using h9
  · have h9 := r_gbought R
    unfold Cgbought
    simpa (disch := omega) only [sI_wI, sI_wP, sI_wL, sI_wN, sP_wI, sP_wP, sP_wL, sP_wN, sL_wI, sL_wP, sL_wL, sL_wN, sX_wI, sX_wP, sX_wL, sX_wN, gI_uI, gI_uL, gL_uI, gL_uL, tk_ne9, tk_inj, nB_u, nM_u, nP_u, nO_u, hN_u, nLn_u, nOp_u, lnP_u, pc_u, kd_u, op_u, pr_u, mInSt_u, mProm_u, nInSt_u, nProm_u, totp_u, tot_u, nB_l, nM_l, nP_l, nO_l, hN_l, nLn_l, nOp_l, lnP_l, pc_l, kd_l, op_l, pr_l, mInSt_l, mProm_l, nInSt_l, nProm_l, totp_l, tot_l, if_false, if_true, false_and, and_false, Nat.reduceEqDiff, reduceIte, reduceCtorEq, and_true, true_and] using h9
  · have h9 := r_gmach R
    unfold Cgmach
    simpa (disch := omega) only [sI_wI, sI_wP, sI_wL, sI_wN, sP_wI, sP_wP, sP_wL, sP_wN, sL_wI, sL_wP, sL_wL, sL_wN, sX_wI, sX_wP, sX_wL, sX_wN, gI_uI, gI_uL, gL_uI, gL_uL, tk_ne9, tk_inj, nB_u, nM_u, nP_u, nO_u, hN_u, nLn_u, nOp_u, lnP_u, pc_u, kd_u, op_u, pr_u, mInSt_u, mProm_u, nInSt_u, nProm_u, totp_u, tot_u, nB_l, nM_l, nP_l, nO_l, hN_l, nLn_l, nOp_l, lnP_l, pc_l, kd_l, op_l, pr_l, mInSt_l, mProm_l, nInSt_l, nProm_l, totp_l, tot_l, if_false, if_true, false_and, and_false, Nat.reduceEqDiff, reduceIte, reduceCtorEq, and_true, true_and] using h9
  · have h9 := r_gpers R
    unfold Cgpers
    simpa (disch := omega) only [sI_wI, sI_wP, sI_wL, sI_wN, sP_wI, sP_wP, sP_wL, sP_wN, sL_wI, sL_wP, sL_wL, sL_wN, sX_wI, sX_wP, sX_wL, sX_wN, gI_uI, gI_uL, gL_uI, gL_uL, tk_ne9, tk_inj, nB_u, nM_u, nP_u, nO_u, hN_u, nLn_u, nOp_u, lnP_u, pc_u, kd_u, op_u, pr_u, mInSt_u, mProm_u, nInSt_u, nProm_u, totp_u, tot_u, nB_l, nM_l, nP_l, nO_l, hN_l, nLn_l, nOp_l, lnP_l, pc_l, kd_l, op_l, pr_l, mInSt_l, mProm_l, nInSt_l, nProm_l, totp_l, tot_l, if_false, if_true, false_and, and_false, Nat.reduceEqDiff, reduceIte, reduceCtorEq, and_true, true_and] using h9
  · have h9 := r_gworked R
    unfold Cgworked
    simpa (disch := omega) only [sI_wI, sI_wP, sI_wL, sI_wN, sP_wI, sP_wP, sP_wL, sP_wN, sL_wI, sL_wP, sL_wL, sL_wN, sX_wI, sX_wP, sX_wL, sX_wN, gI_uI, gI_uL, gL_uI, gL_uL, tk_ne9, tk_inj, nB_u, nM_u, nP_u, nO_u, hN_u, nLn_u, nOp_u, lnP_u, pc_u, kd_u, op_u, pr_u, mInSt_u, mProm_u, nInSt_u, nProm_u, totp_u, tot_u, nB_l, nM_l, nP_l, nO_l, hN_l, nLn_l, nOp_l, lnP_l, pc_l, kd_l, op_l, pr_l, mInSt_l, mProm_l, nInSt_l, nProm_l, totp_l, tot_l, if_false, if_true, false_and, and_false, Nat.reduceEqDiff, reduceIte, reduceCtorEq, and_true, true_and] using h9
  · have h9 := r_grep R
    unfold Cgrep
    simpa (disch := omega) only [sI_wI, sI_wP, sI_wL, sI_wN, sP_wI, sP_wP, sP_wL, sP_wN, sL_wI, sL_wP, sL_wL, sL_wN, sX_wI, sX_wP, sX_wL, sX_wN, gI_uI, gI_uL, gL_uI, gL_uL, tk_ne9, tk_inj, nB_u, nM_u, nP_u, nO_u, hN_u, nLn_u, nOp_u, lnP_u, pc_u, kd_u, op_u, pr_u, mInSt_u, mProm_u, nInSt_u, nProm_u, totp_u, tot_u, nB_l, nM_l, nP_l, nO_l, hN_l, nLn_l, nOp_l, lnP_l, pc_l, kd_l, op_l, pr_l, mInSt_l, mProm_l, nInSt_l, nProm_l, totp_l, tot_l, if_false, if_true, false_and, and_false, Nat.reduceEqDiff, reduceIte, reduceCtorEq, and_true, true_and] using h9
  · have h9 := r_gbat R
    unfold Cgbat
    simpa (disch := omega) only [sI_wI, sI_wP, sI_wL, sI_wN, sP_wI, sP_wP, sP_wL, sP_wN, sL_wI, sL_wP, sL_wL, sL_wN, sX_wI, sX_wP, sX_wL, sX_wN, gI_uI, gI_uL, gL_uI, gL_uL, tk_ne9, tk_inj, nB_u, nM_u, nP_u, nO_u, hN_u, nLn_u, nOp_u, lnP_u, pc_u, kd_u, op_u, pr_u, mInSt_u, mProm_u, nInSt_u, nProm_u, totp_u, tot_u, nB_l, nM_l, nP_l, nO_l, hN_l, nLn_l, nOp_l, lnP_l, pc_l, kd_l, op_l, pr_l, mInSt_l, mProm_l, nInSt_l, nProm_l, totp_l, tot_l, if_false, if_true, false_and, and_false, Nat.reduceEqDiff, reduceIte, reduceCtorEq, and_true, true_and] using h9
  · have h9 := r_gord R
    unfold Cgord
    simpa (disch := omega) only [sI_wI, sI_wP, sI_wL, sI_wN, sP_wI, sP_wP, sP_wL, sP_wN, sL_wI, sL_wP, sL_wL, sL_wN, sX_wI, sX_wP, sX_wL, sX_wN, gI_uI, gI_uL, gL_uI, gL_uL, tk_ne9, tk_inj, nB_u, nM_u, nP_u, nO_u, hN_u, nLn_u, nOp_u, lnP_u, pc_u, kd_u, op_u, pr_u, mInSt_u, mProm_u, nInSt_u, nProm_u, totp_u, tot_u, nB_l, nM_l, nP_l, nO_l, hN_l, nLn_l, nOp_l, lnP_l, pc_l, kd_l, op_l, pr_l, mInSt_l, mProm_l, nInSt_l, nProm_l, totp_l, tot_l, if_false, if_true, false_and, and_false, Nat.reduceEqDiff, reduceIte, reduceCtorEq, and_true, true_and] using h9
  · have h9 := r_gq R
    unfold Cgq
    simpa (disch := omega) only [sI_wI, sI_wP, sI_wL, sI_wN, sP_wI, sP_wP, sP_wL, sP_wN, sL_wI, sL_wP, sL_wL, sL_wN, sX_wI, sX_wP, sX_wL, sX_wN, gI_uI, gI_uL, gL_uI, gL_uL, tk_ne9, tk_inj, nB_u, nM_u, nP_u, nO_u, hN_u, nLn_u, nOp_u, lnP_u, pc_u, kd_u, op_u, pr_u, mInSt_u, mProm_u, nInSt_u, nProm_u, totp_u, tot_u, nB_l, nM_l, nP_l, nO_l, hN_l, nLn_l, nOp_l, lnP_l, pc_l, kd_l, op_l, pr_l, mInSt_l, mProm_l, nInSt_l, nProm_l, totp_l, tot_l, if_false, if_true, false_and, and_false, Nat.reduceEqDiff, reduceIte, reduceCtorEq, and_true, true_and] using h9
  · have h9 := r_nB R
    unfold CnB
    simpa (disch := omega) only [sI_wI, sI_wP, sI_wL, sI_wN, sP_wI, sP_wP, sP_wL, sP_wN, sL_wI, sL_wP, sL_wL, sL_wN, sX_wI, sX_wP, sX_wL, sX_wN, gI_uI, gI_uL, gL_uI, gL_uL, tk_ne9, tk_inj, nB_u, nM_u, nP_u, nO_u, hN_u, nLn_u, nOp_u, lnP_u, pc_u, kd_u, op_u, pr_u, mInSt_u, mProm_u, nInSt_u, nProm_u, totp_u, tot_u, nB_l, nM_l, nP_l, nO_l, hN_l, nLn_l, nOp_l, lnP_l, pc_l, kd_l, op_l, pr_l, mInSt_l, mProm_l, nInSt_l, nProm_l, totp_l, tot_l, if_false, if_true, false_and, and_false, Nat.reduceEqDiff, reduceIte, reduceCtorEq, and_true, true_and] using h9
  · have h9 := r_nBx R
    unfold CnBx
    simpa (disch := omega) only [sI_wI, sI_wP, sI_wL, sI_wN, sP_wI, sP_wP, sP_wL, sP_wN, sL_wI, sL_wP, sL_wL, sL_wN, sX_wI, sX_wP, sX_wL, sX_wN, gI_uI, gI_uL, gL_uI, gL_uL, tk_ne9, tk_inj, nB_u, nM_u, nP_u, nO_u, hN_u, nLn_u, nOp_u, lnP_u, pc_u, kd_u, op_u, pr_u, mInSt_u, mProm_u, nInSt_u, nProm_u, totp_u, tot_u, nB_l, nM_l, nP_l, nO_l, hN_l, nLn_l, nOp_l, lnP_l, pc_l, kd_l, op_l, pr_l, mInSt_l, mProm_l, nInSt_l, nProm_l, totp_l, tot_l, if_false, if_true, false_and, and_false, Nat.reduceEqDiff, reduceIte, reduceCtorEq, and_true, true_and] using h9
  · have h9 := r_nM R
    unfold CnM
    simpa (disch := omega) only [sI_wI, sI_wP, sI_wL, sI_wN, sP_wI, sP_wP, sP_wL, sP_wN, sL_wI, sL_wP, sL_wL, sL_wN, sX_wI, sX_wP, sX_wL, sX_wN, gI_uI, gI_uL, gL_uI, gL_uL, tk_ne9, tk_inj, nB_u, nM_u, nP_u, nO_u, hN_u, nLn_u, nOp_u, lnP_u, pc_u, kd_u, op_u, pr_u, mInSt_u, mProm_u, nInSt_u, nProm_u, totp_u, tot_u, nB_l, nM_l, nP_l, nO_l, hN_l, nLn_l, nOp_l, lnP_l, pc_l, kd_l, op_l, pr_l, mInSt_l, mProm_l, nInSt_l, nProm_l, totp_l, tot_l, if_false, if_true, false_and, and_false, Nat.reduceEqDiff, reduceIte, reduceCtorEq, and_true, true_and] using h9
  · have h9 := r_nMx R
    unfold CnMx
    simpa (disch := omega) only [sI_wI, sI_wP, sI_wL, sI_wN, sP_wI, sP_wP, sP_wL, sP_wN, sL_wI, sL_wP, sL_wL, sL_wN, sX_wI, sX_wP, sX_wL, sX_wN, gI_uI, gI_uL, gL_uI, gL_uL, tk_ne9, tk_inj, nB_u, nM_u, nP_u, nO_u, hN_u, nLn_u, nOp_u, lnP_u, pc_u, kd_u, op_u, pr_u, mInSt_u, mProm_u, nInSt_u, nProm_u, totp_u, tot_u, nB_l, nM_l, nP_l, nO_l, hN_l, nLn_l, nOp_l, lnP_l, pc_l, kd_l, op_l, pr_l, mInSt_l, mProm_l, nInSt_l, nProm_l, totp_l, tot_l, if_false, if_true, false_and, and_false, Nat.reduceEqDiff, reduceIte, reduceCtorEq, and_true, true_and] using h9
  · have h9 := r_nP R
    unfold CnP
    simpa (disch := omega) only [sI_wI, sI_wP, sI_wL, sI_wN, sP_wI, sP_wP, sP_wL, sP_wN, sL_wI, sL_wP, sL_wL, sL_wN, sX_wI, sX_wP, sX_wL, sX_wN, gI_uI, gI_uL, gL_uI, gL_uL, tk_ne9, tk_inj, nB_u, nM_u, nP_u, nO_u, hN_u, nLn_u, nOp_u, lnP_u, pc_u, kd_u, op_u, pr_u, mInSt_u, mProm_u, nInSt_u, nProm_u, totp_u, tot_u, nB_l, nM_l, nP_l, nO_l, hN_l, nLn_l, nOp_l, lnP_l, pc_l, kd_l, op_l, pr_l, mInSt_l, mProm_l, nInSt_l, nProm_l, totp_l, tot_l, if_false, if_true, false_and, and_false, Nat.reduceEqDiff, reduceIte, reduceCtorEq, and_true, true_and] using h9
  · have h9 := r_nPx R
    unfold CnPx
    simpa (disch := omega) only [sI_wI, sI_wP, sI_wL, sI_wN, sP_wI, sP_wP, sP_wL, sP_wN, sL_wI, sL_wP, sL_wL, sL_wN, sX_wI, sX_wP, sX_wL, sX_wN, gI_uI, gI_uL, gL_uI, gL_uL, tk_ne9, tk_inj, nB_u, nM_u, nP_u, nO_u, hN_u, nLn_u, nOp_u, lnP_u, pc_u, kd_u, op_u, pr_u, mInSt_u, mProm_u, nInSt_u, nProm_u, totp_u, tot_u, nB_l, nM_l, nP_l, nO_l, hN_l, nLn_l, nOp_l, lnP_l, pc_l, kd_l, op_l, pr_l, mInSt_l, mProm_l, nInSt_l, nProm_l, totp_l, tot_l, if_false, if_true, false_and, and_false, Nat.reduceEqDiff, reduceIte, reduceCtorEq, and_true, true_and] using h9
  · have h9 := r_nO R
    unfold CnO
    simpa (disch := omega) only [sI_wI, sI_wP, sI_wL, sI_wN, sP_wI, sP_wP, sP_wL, sP_wN, sL_wI, sL_wP, sL_wL, sL_wN, sX_wI, sX_wP, sX_wL, sX_wN, gI_uI, gI_uL, gL_uI, gL_uL, tk_ne9, tk_inj, nB_u, nM_u, nP_u, nO_u, hN_u, nLn_u, nOp_u, lnP_u, pc_u, kd_u, op_u, pr_u, mInSt_u, mProm_u, nInSt_u, nProm_u, totp_u, tot_u, nB_l, nM_l, nP_l, nO_l, hN_l, nLn_l, nOp_l, lnP_l, pc_l, kd_l, op_l, pr_l, mInSt_l, mProm_l, nInSt_l, nProm_l, totp_l, tot_l, if_false, if_true, false_and, and_false, Nat.reduceEqDiff, reduceIte, reduceCtorEq, and_true, true_and] using h9
  · have h9 := r_nOx R
    unfold CnOx
    simpa (disch := omega) only [sI_wI, sI_wP, sI_wL, sI_wN, sP_wI, sP_wP, sP_wL, sP_wN, sL_wI, sL_wP, sL_wL, sL_wN, sX_wI, sX_wP, sX_wL, sX_wN, gI_uI, gI_uL, gL_uI, gL_uL, tk_ne9, tk_inj, nB_u, nM_u, nP_u, nO_u, hN_u, nLn_u, nOp_u, lnP_u, pc_u, kd_u, op_u, pr_u, mInSt_u, mProm_u, nInSt_u, nProm_u, totp_u, tot_u, nB_l, nM_l, nP_l, nO_l, hN_l, nLn_l, nOp_l, lnP_l, pc_l, kd_l, op_l, pr_l, mInSt_l, mProm_l, nInSt_l, nProm_l, totp_l, tot_l, if_false, if_true, false_and, and_false, Nat.reduceEqDiff, reduceIte, reduceCtorEq, and_true, true_and] using h9
  · have h9 := r_hr R
    unfold Chr
    simpa (disch := omega) only [sI_wI, sI_wP, sI_wL, sI_wN, sP_wI, sP_wP, sP_wL, sP_wN, sL_wI, sL_wP, sL_wL, sL_wN, sX_wI, sX_wP, sX_wL, sX_wN, gI_uI, gI_uL, gL_uI, gL_uL, tk_ne9, tk_inj, nB_u, nM_u, nP_u, nO_u, hN_u, nLn_u, nOp_u, lnP_u, pc_u, kd_u, op_u, pr_u, mInSt_u, mProm_u, nInSt_u, nProm_u, totp_u, tot_u, nB_l, nM_l, nP_l, nO_l, hN_l, nLn_l, nOp_l, lnP_l, pc_l, kd_l, op_l, pr_l, mInSt_l, mProm_l, nInSt_l, nProm_l, totp_l, tot_l, if_false, if_true, false_and, and_false, Nat.reduceEqDiff, reduceIte, reduceCtorEq, and_true, true_and] using h9
  · have h9 := r_hrx R
    unfold Chrx
    simpa (disch := omega) only [sI_wI, sI_wP, sI_wL, sI_wN, sP_wI, sP_wP, sP_wL, sP_wN, sL_wI, sL_wP, sL_wL, sL_wN, sX_wI, sX_wP, sX_wL, sX_wN, gI_uI, gI_uL, gL_uI, gL_uL, tk_ne9, tk_inj, nB_u, nM_u, nP_u, nO_u, hN_u, nLn_u, nOp_u, lnP_u, pc_u, kd_u, op_u, pr_u, mInSt_u, mProm_u, nInSt_u, nProm_u, totp_u, tot_u, nB_l, nM_l, nP_l, nO_l, hN_l, nLn_l, nOp_l, lnP_l, pc_l, kd_l, op_l, pr_l, mInSt_l, mProm_l, nInSt_l, nProm_l, totp_l, tot_l, if_false, if_true, false_and, and_false, Nat.reduceEqDiff, reduceIte, reduceCtorEq, and_true, true_and] using h9
  · have h9 := r_stb R
    unfold Cstb
    simpa (disch := omega) only [sI_wI, sI_wP, sI_wL, sI_wN, sP_wI, sP_wP, sP_wL, sP_wN, sL_wI, sL_wP, sL_wL, sL_wN, sX_wI, sX_wP, sX_wL, sX_wN, gI_uI, gI_uL, gL_uI, gL_uL, tk_ne9, tk_inj, nB_u, nM_u, nP_u, nO_u, hN_u, nLn_u, nOp_u, lnP_u, pc_u, kd_u, op_u, pr_u, mInSt_u, mProm_u, nInSt_u, nProm_u, totp_u, tot_u, nB_l, nM_l, nP_l, nO_l, hN_l, nLn_l, nOp_l, lnP_l, pc_l, kd_l, op_l, pr_l, mInSt_l, mProm_l, nInSt_l, nProm_l, totp_l, tot_l, if_false, if_true, false_and, and_false, Nat.reduceEqDiff, reduceIte, reduceCtorEq, and_true, true_and] using h9
  · have h9 := r_ex R
    unfold Cex
    simpa (disch := omega) only [sI_wI, sI_wP, sI_wL, sI_wN, sP_wI, sP_wP, sP_wL, sP_wN, sL_wI, sL_wP, sL_wL, sL_wN, sX_wI, sX_wP, sX_wL, sX_wN, gI_uI, gI_uL, gL_uI, gL_uL, tk_ne9, tk_inj, nB_u, nM_u, nP_u, nO_u, hN_u, nLn_u, nOp_u, lnP_u, pc_u, kd_u, op_u, pr_u, mInSt_u, mProm_u, nInSt_u, nProm_u, totp_u, tot_u, nB_l, nM_l, nP_l, nO_l, hN_l, nLn_l, nOp_l, lnP_l, pc_l, kd_l, op_l, pr_l, mInSt_l, mProm_l, nInSt_l, nProm_l, totp_l, tot_l, if_false, if_true, false_and, and_false, Nat.reduceEqDiff, reduceIte, reduceCtorEq, and_true, true_and] using h9
  · have h9 := r_k0 R
    unfold Ck0
    simpa (disch := omega) only [sI_wI, sI_wP, sI_wL, sI_wN, sP_wI, sP_wP, sP_wL, sP_wN, sL_wI, sL_wP, sL_wL, sL_wN, sX_wI, sX_wP, sX_wL, sX_wN, gI_uI, gI_uL, gL_uI, gL_uL, tk_ne9, tk_inj, nB_u, nM_u, nP_u, nO_u, hN_u, nLn_u, nOp_u, lnP_u, pc_u, kd_u, op_u, pr_u, mInSt_u, mProm_u, nInSt_u, nProm_u, totp_u, tot_u, nB_l, nM_l, nP_l, nO_l, hN_l, nLn_l, nOp_l, lnP_l, pc_l, kd_l, op_l, pr_l, mInSt_l, mProm_l, nInSt_l, nProm_l, totp_l, tot_l, if_false, if_true, false_and, and_false, Nat.reduceEqDiff, reduceIte, reduceCtorEq, and_true, true_and] using h9
  · have h9 := r_k1 R
    unfold Ck1
    simpa (disch := omega) only [sI_wI, sI_wP, sI_wL, sI_wN, sP_wI, sP_wP, sP_wL, sP_wN, sL_wI, sL_wP, sL_wL, sL_wN, sX_wI, sX_wP, sX_wL, sX_wN, gI_uI, gI_uL, gL_uI, gL_uL, tk_ne9, tk_inj, nB_u, nM_u, nP_u, nO_u, hN_u, nLn_u, nOp_u, lnP_u, pc_u, kd_u, op_u, pr_u, mInSt_u, mProm_u, nInSt_u, nProm_u, totp_u, tot_u, nB_l, nM_l, nP_l, nO_l, hN_l, nLn_l, nOp_l, lnP_l, pc_l, kd_l, op_l, pr_l, mInSt_l, mProm_l, nInSt_l, nProm_l, totp_l, tot_l, if_false, if_true, false_and, and_false, Nat.reduceEqDiff, reduceIte, reduceCtorEq, and_true, true_and] using h9
  · have h9 := r_k2 R
    unfold Ck2
    simpa (disch := omega) only [sI_wI, sI_wP, sI_wL, sI_wN, sP_wI, sP_wP, sP_wL, sP_wN, sL_wI, sL_wP, sL_wL, sL_wN, sX_wI, sX_wP, sX_wL, sX_wN, gI_uI, gI_uL, gL_uI, gL_uL, tk_ne9, tk_inj, nB_u, nM_u, nP_u, nO_u, hN_u, nLn_u, nOp_u, lnP_u, pc_u, kd_u, op_u, pr_u, mInSt_u, mProm_u, nInSt_u, nProm_u, totp_u, tot_u, nB_l, nM_l, nP_l, nO_l, hN_l, nLn_l, nOp_l, lnP_l, pc_l, kd_l, op_l, pr_l, mInSt_l, mProm_l, nInSt_l, nProm_l, totp_l, tot_l, if_false, if_true, false_and, and_false, Nat.reduceEqDiff, reduceIte, reduceCtorEq, and_true, true_and] using h9
  · have h9 := r_k3 R
    unfold Ck3
    simpa (disch := omega) only [sI_wI, sI_wP, sI_wL, sI_wN, sP_wI, sP_wP, sP_wL, sP_wN, sL_wI, sL_wP, sL_wL, sL_wN, sX_wI, sX_wP, sX_wL, sX_wN, gI_uI, gI_uL, gL_uI, gL_uL, tk_ne9, tk_inj, nB_u, nM_u, nP_u, nO_u, hN_u, nLn_u, nOp_u, lnP_u, pc_u, kd_u, op_u, pr_u, mInSt_u, mProm_u, nInSt_u, nProm_u, totp_u, tot_u, nB_l, nM_l, nP_l, nO_l, hN_l, nLn_l, nOp_l, lnP_l, pc_l, kd_l, op_l, pr_l, mInSt_l, mProm_l, nInSt_l, nProm_l, totp_l, tot_l, if_false, if_true, false_and, and_false, Nat.reduceEqDiff, reduceIte, reduceCtorEq, and_true, true_and] using h9
  · have h9 := r_k5 R
    unfold Ck5
    simpa (disch := omega) only [sI_wI, sI_wP, sI_wL, sI_wN, sP_wI, sP_wP, sP_wL, sP_wN, sL_wI, sL_wP, sL_wL, sL_wN, sX_wI, sX_wP, sX_wL, sX_wN, gI_uI, gI_uL, gL_uI, gL_uL, tk_ne9, tk_inj, nB_u, nM_u, nP_u, nO_u, hN_u, nLn_u, nOp_u, lnP_u, pc_u, kd_u, op_u, pr_u, mInSt_u, mProm_u, nInSt_u, nProm_u, totp_u, tot_u, nB_l, nM_l, nP_l, nO_l, hN_l, nLn_l, nOp_l, lnP_l, pc_l, kd_l, op_l, pr_l, mInSt_l, mProm_l, nInSt_l, nProm_l, totp_l, tot_l, if_false, if_true, false_and, and_false, Nat.reduceEqDiff, reduceIte, reduceCtorEq, and_true, true_and] using h9
  · have h9 := r_k7 R
    unfold Ck7
    simpa (disch := omega) only [sI_wI, sI_wP, sI_wL, sI_wN, sP_wI, sP_wP, sP_wL, sP_wN, sL_wI, sL_wP, sL_wL, sL_wN, sX_wI, sX_wP, sX_wL, sX_wN, gI_uI, gI_uL, gL_uI, gL_uL, tk_ne9, tk_inj, nB_u, nM_u, nP_u, nO_u, hN_u, nLn_u, nOp_u, lnP_u, pc_u, kd_u, op_u, pr_u, mInSt_u, mProm_u, nInSt_u, nProm_u, totp_u, tot_u, nB_l, nM_l, nP_l, nO_l, hN_l, nLn_l, nOp_l, lnP_l, pc_l, kd_l, op_l, pr_l, mInSt_l, mProm_l, nInSt_l, nProm_l, totp_l, tot_l, if_false, if_true, false_and, and_false, Nat.reduceEqDiff, reduceIte, reduceCtorEq, and_true, true_and] using h9
  · have h9 := r_k8 R
    unfold Ck8
    simpa (disch := omega) only [sI_wI, sI_wP, sI_wL, sI_wN, sP_wI, sP_wP, sP_wL, sP_wN, sL_wI, sL_wP, sL_wL, sL_wN, sX_wI, sX_wP, sX_wL, sX_wN, gI_uI, gI_uL, gL_uI, gL_uL, tk_ne9, tk_inj, nB_u, nM_u, nP_u, nO_u, hN_u, nLn_u, nOp_u, lnP_u, pc_u, kd_u, op_u, pr_u, mInSt_u, mProm_u, nInSt_u, nProm_u, totp_u, tot_u, nB_l, nM_l, nP_l, nO_l, hN_l, nLn_l, nOp_l, lnP_l, pc_l, kd_l, op_l, pr_l, mInSt_l, mProm_l, nInSt_l, nProm_l, totp_l, tot_l, if_false, if_true, false_and, and_false, Nat.reduceEqDiff, reduceIte, reduceCtorEq, and_true, true_and] using h9
  · have h9 := r_k9 R
    unfold Ck9
    simpa (disch := omega) only [sI_wI, sI_wP, sI_wL, sI_wN, sP_wI, sP_wP, sP_wL, sP_wN, sL_wI, sL_wP, sL_wL, sL_wN, sX_wI, sX_wP, sX_wL, sX_wN, gI_uI, gI_uL, gL_uI, gL_uL, tk_ne9, tk_inj, nB_u, nM_u, nP_u, nO_u, hN_u, nLn_u, nOp_u, lnP_u, pc_u, kd_u, op_u, pr_u, mInSt_u, mProm_u, nInSt_u, nProm_u, totp_u, tot_u, nB_l, nM_l, nP_l, nO_l, hN_l, nLn_l, nOp_l, lnP_l, pc_l, kd_l, op_l, pr_l, mInSt_l, mProm_l, nInSt_l, nProm_l, totp_l, tot_l, if_false, if_true, false_and, and_false, Nat.reduceEqDiff, reduceIte, reduceCtorEq, and_true, true_and] using h9
  · have h9 := r_k10 R
    unfold Ck10
    simpa (disch := omega) only [sI_wI, sI_wP, sI_wL, sI_wN, sP_wI, sP_wP, sP_wL, sP_wN, sL_wI, sL_wP, sL_wL, sL_wN, sX_wI, sX_wP, sX_wL, sX_wN, gI_uI, gI_uL, gL_uI, gL_uL, tk_ne9, tk_inj, nB_u, nM_u, nP_u, nO_u, hN_u, nLn_u, nOp_u, lnP_u, pc_u, kd_u, op_u, pr_u, mInSt_u, mProm_u, nInSt_u, nProm_u, totp_u, tot_u, nB_l, nM_l, nP_l, nO_l, hN_l, nLn_l, nOp_l, lnP_l, pc_l, kd_l, op_l, pr_l, mInSt_l, mProm_l, nInSt_l, nProm_l, totp_l, tot_l, if_false, if_true, false_and, and_false, Nat.reduceEqDiff, reduceIte, reduceCtorEq, and_true, true_and] using h9
  · have h9 := r_k11 R
    unfold Ck11
    simpa (disch := omega) only [sI_wI, sI_wP, sI_wL, sI_wN, sP_wI, sP_wP, sP_wL, sP_wN, sL_wI, sL_wP, sL_wL, sL_wN, sX_wI, sX_wP, sX_wL, sX_wN, gI_uI, gI_uL, gL_uI, gL_uL, tk_ne9, tk_inj, nB_u, nM_u, nP_u, nO_u, hN_u, nLn_u, nOp_u, lnP_u, pc_u, kd_u, op_u, pr_u, mInSt_u, mProm_u, nInSt_u, nProm_u, totp_u, tot_u, nB_l, nM_l, nP_l, nO_l, hN_l, nLn_l, nOp_l, lnP_l, pc_l, kd_l, op_l, pr_l, mInSt_l, mProm_l, nInSt_l, nProm_l, totp_l, tot_l, if_false, if_true, false_and, and_false, Nat.reduceEqDiff, reduceIte, reduceCtorEq, and_true, true_and] using h9
  · have h9 := r_k12 R
    unfold Ck12
    simpa (disch := omega) only [sI_wI, sI_wP, sI_wL, sI_wN, sP_wI, sP_wP, sP_wL, sP_wN, sL_wI, sL_wP, sL_wL, sL_wN, sX_wI, sX_wP, sX_wL, sX_wN, gI_uI, gI_uL, gL_uI, gL_uL, tk_ne9, tk_inj, nB_u, nM_u, nP_u, nO_u, hN_u, nLn_u, nOp_u, lnP_u, pc_u, kd_u, op_u, pr_u, mInSt_u, mProm_u, nInSt_u, nProm_u, totp_u, tot_u, nB_l, nM_l, nP_l, nO_l, hN_l, nLn_l, nOp_l, lnP_l, pc_l, kd_l, op_l, pr_l, mInSt_l, mProm_l, nInSt_l, nProm_l, totp_l, tot_l, if_false, if_true, false_and, and_false, Nat.reduceEqDiff, reduceIte, reduceCtorEq, and_true, true_and] using h9
  · have h9 := r_ksa R
    unfold Cksa
    simpa (disch := omega) only [sI_wI, sI_wP, sI_wL, sI_wN, sP_wI, sP_wP, sP_wL, sP_wN, sL_wI, sL_wP, sL_wL, sL_wN, sX_wI, sX_wP, sX_wL, sX_wN, gI_uI, gI_uL, gL_uI, gL_uL, tk_ne9, tk_inj, nB_u, nM_u, nP_u, nO_u, hN_u, nLn_u, nOp_u, lnP_u, pc_u, kd_u, op_u, pr_u, mInSt_u, mProm_u, nInSt_u, nProm_u, totp_u, tot_u, nB_l, nM_l, nP_l, nO_l, hN_l, nLn_l, nOp_l, lnP_l, pc_l, kd_l, op_l, pr_l, mInSt_l, mProm_l, nInSt_l, nProm_l, totp_l, tot_l, if_false, if_true, false_and, and_false, Nat.reduceEqDiff, reduceIte, reduceCtorEq, and_true, true_and] using h9
  · have h9 := r_ksb R
    unfold Cksb
    simpa (disch := omega) only [sI_wI, sI_wP, sI_wL, sI_wN, sP_wI, sP_wP, sP_wL, sP_wN, sL_wI, sL_wP, sL_wL, sL_wN, sX_wI, sX_wP, sX_wL, sX_wN, gI_uI, gI_uL, gL_uI, gL_uL, tk_ne9, tk_inj, nB_u, nM_u, nP_u, nO_u, hN_u, nLn_u, nOp_u, lnP_u, pc_u, kd_u, op_u, pr_u, mInSt_u, mProm_u, nInSt_u, nProm_u, totp_u, tot_u, nB_l, nM_l, nP_l, nO_l, hN_l, nLn_l, nOp_l, lnP_l, pc_l, kd_l, op_l, pr_l, mInSt_l, mProm_l, nInSt_l, nProm_l, totp_l, tot_l, if_false, if_true, false_and, and_false, Nat.reduceEqDiff, reduceIte, reduceCtorEq, and_true, true_and] using h9
  · have h9 := r_ksc R
    unfold Cksc
    simpa (disch := omega) only [sI_wI, sI_wP, sI_wL, sI_wN, sP_wI, sP_wP, sP_wL, sP_wN, sL_wI, sL_wP, sL_wL, sL_wN, sX_wI, sX_wP, sX_wL, sX_wN, gI_uI, gI_uL, gL_uI, gL_uL, tk_ne9, tk_inj, nB_u, nM_u, nP_u, nO_u, hN_u, nLn_u, nOp_u, lnP_u, pc_u, kd_u, op_u, pr_u, mInSt_u, mProm_u, nInSt_u, nProm_u, totp_u, tot_u, nB_l, nM_l, nP_l, nO_l, hN_l, nLn_l, nOp_l, lnP_l, pc_l, kd_l, op_l, pr_l, mInSt_l, mProm_l, nInSt_l, nProm_l, totp_l, tot_l, if_false, if_true, false_and, and_false, Nat.reduceEqDiff, reduceIte, reduceCtorEq, and_true, true_and] using h9
  · have h9 := r_kw R
    unfold Ckw
    simpa (disch := omega) only [sI_wI, sI_wP, sI_wL, sI_wN, sP_wI, sP_wP, sP_wL, sP_wN, sL_wI, sL_wP, sL_wL, sL_wN, sX_wI, sX_wP, sX_wL, sX_wN, gI_uI, gI_uL, gL_uI, gL_uL, tk_ne9, tk_inj, nB_u, nM_u, nP_u, nO_u, hN_u, nLn_u, nOp_u, lnP_u, pc_u, kd_u, op_u, pr_u, mInSt_u, mProm_u, nInSt_u, nProm_u, totp_u, tot_u, nB_l, nM_l, nP_l, nO_l, hN_l, nLn_l, nOp_l, lnP_l, pc_l, kd_l, op_l, pr_l, mInSt_l, mProm_l, nInSt_l, nProm_l, totp_l, tot_l, if_false, if_true, false_and, and_false, Nat.reduceEqDiff, reduceIte, reduceCtorEq, and_true, true_and] using h9
  · have h9 := r_kl R
    unfold Ckl
    simpa (disch := omega) only [sI_wI, sI_wP, sI_wL, sI_wN, sP_wI, sP_wP, sP_wL, sP_wN, sL_wI, sL_wP, sL_wL, sL_wN, sX_wI, sX_wP, sX_wL, sX_wN, gI_uI, gI_uL, gL_uI, gL_uL, tk_ne9, tk_inj, nB_u, nM_u, nP_u, nO_u, hN_u, nLn_u, nOp_u, lnP_u, pc_u, kd_u, op_u, pr_u, mInSt_u, mProm_u, nInSt_u, nProm_u, totp_u, tot_u, nB_l, nM_l, nP_l, nO_l, hN_l, nLn_l, nOp_l, lnP_l, pc_l, kd_l, op_l, pr_l, mInSt_l, mProm_l, nInSt_l, nProm_l, totp_l, tot_l, if_false, if_true, false_and, and_false, Nat.reduceEqDiff, reduceIte, reduceCtorEq, and_true, true_and] using h9
  · have h9 := r_ko R
    unfold Cko
    simpa (disch := omega) only [sI_wI, sI_wP, sI_wL, sI_wN, sP_wI, sP_wP, sP_wL, sP_wN, sL_wI, sL_wP, sL_wL, sL_wN, sX_wI, sX_wP, sX_wL, sX_wN, gI_uI, gI_uL, gL_uI, gL_uL, tk_ne9, tk_inj, nB_u, nM_u, nP_u, nO_u, hN_u, nLn_u, nOp_u, lnP_u, pc_u, kd_u, op_u, pr_u, mInSt_u, mProm_u, nInSt_u, nProm_u, totp_u, tot_u, nB_l, nM_l, nP_l, nO_l, hN_l, nLn_l, nOp_l, lnP_l, pc_l, kd_l, op_l, pr_l, mInSt_l, mProm_l, nInSt_l, nProm_l, totp_l, tot_l, if_false, if_true, false_and, and_false, Nat.reduceEqDiff, reduceIte, reduceCtorEq, and_true, true_and] using h9
  · have h9 := r_kp R
    unfold Ckp
    simpa (disch := omega) only [sI_wI, sI_wP, sI_wL, sI_wN, sP_wI, sP_wP, sP_wL, sP_wN, sL_wI, sL_wP, sL_wL, sL_wN, sX_wI, sX_wP, sX_wL, sX_wN, gI_uI, gI_uL, gL_uI, gL_uL, tk_ne9, tk_inj, nB_u, nM_u, nP_u, nO_u, hN_u, nLn_u, nOp_u, lnP_u, pc_u, kd_u, op_u, pr_u, mInSt_u, mProm_u, nInSt_u, nProm_u, totp_u, tot_u, nB_l, nM_l, nP_l, nO_l, hN_l, nLn_l, nOp_l, lnP_l, pc_l, kd_l, op_l, pr_l, mInSt_l, mProm_l, nInSt_l, nProm_l, totp_l, tot_l, if_false, if_true, false_and, and_false, Nat.reduceEqDiff, reduceIte, reduceCtorEq, and_true, true_and] using h9
  · have h9 := r_l0 R
    unfold Cl0
    simpa (disch := omega) only [sI_wI, sI_wP, sI_wL, sI_wN, sP_wI, sP_wP, sP_wL, sP_wN, sL_wI, sL_wP, sL_wL, sL_wN, sX_wI, sX_wP, sX_wL, sX_wN, gI_uI, gI_uL, gL_uI, gL_uL, tk_ne9, tk_inj, nB_u, nM_u, nP_u, nO_u, hN_u, nLn_u, nOp_u, lnP_u, pc_u, kd_u, op_u, pr_u, mInSt_u, mProm_u, nInSt_u, nProm_u, totp_u, tot_u, nB_l, nM_l, nP_l, nO_l, hN_l, nLn_l, nOp_l, lnP_l, pc_l, kd_l, op_l, pr_l, mInSt_l, mProm_l, nInSt_l, nProm_l, totp_l, tot_l, if_false, if_true, false_and, and_false, Nat.reduceEqDiff, reduceIte, reduceCtorEq, and_true, true_and] using h9
  · have h9 := r_l1 R
    unfold Cl1
    simpa (disch := omega) only [sI_wI, sI_wP, sI_wL, sI_wN, sP_wI, sP_wP, sP_wL, sP_wN, sL_wI, sL_wP, sL_wL, sL_wN, sX_wI, sX_wP, sX_wL, sX_wN, gI_uI, gI_uL, gL_uI, gL_uL, tk_ne9, tk_inj, nB_u, nM_u, nP_u, nO_u, hN_u, nLn_u, nOp_u, lnP_u, pc_u, kd_u, op_u, pr_u, mInSt_u, mProm_u, nInSt_u, nProm_u, totp_u, tot_u, nB_l, nM_l, nP_l, nO_l, hN_l, nLn_l, nOp_l, lnP_l, pc_l, kd_l, op_l, pr_l, mInSt_l, mProm_l, nInSt_l, nProm_l, totp_l, tot_l, if_false, if_true, false_and, and_false, Nat.reduceEqDiff, reduceIte, reduceCtorEq, and_true, true_and] using h9
  · have h9 := r_l2 R
    unfold Cl2
    simpa (disch := omega) only [sI_wI, sI_wP, sI_wL, sI_wN, sP_wI, sP_wP, sP_wL, sP_wN, sL_wI, sL_wP, sL_wL, sL_wN, sX_wI, sX_wP, sX_wL, sX_wN, gI_uI, gI_uL, gL_uI, gL_uL, tk_ne9, tk_inj, nB_u, nM_u, nP_u, nO_u, hN_u, nLn_u, nOp_u, lnP_u, pc_u, kd_u, op_u, pr_u, mInSt_u, mProm_u, nInSt_u, nProm_u, totp_u, tot_u, nB_l, nM_l, nP_l, nO_l, hN_l, nLn_l, nOp_l, lnP_l, pc_l, kd_l, op_l, pr_l, mInSt_l, mProm_l, nInSt_l, nProm_l, totp_l, tot_l, if_false, if_true, false_and, and_false, Nat.reduceEqDiff, reduceIte, reduceCtorEq, and_true, true_and] using h9
  · have h9 := r_l3 R
    unfold Cl3
    simpa (disch := omega) only [sI_wI, sI_wP, sI_wL, sI_wN, sP_wI, sP_wP, sP_wL, sP_wN, sL_wI, sL_wP, sL_wL, sL_wN, sX_wI, sX_wP, sX_wL, sX_wN, gI_uI, gI_uL, gL_uI, gL_uL, tk_ne9, tk_inj, nB_u, nM_u, nP_u, nO_u, hN_u, nLn_u, nOp_u, lnP_u, pc_u, kd_u, op_u, pr_u, mInSt_u, mProm_u, nInSt_u, nProm_u, totp_u, tot_u, nB_l, nM_l, nP_l, nO_l, hN_l, nLn_l, nOp_l, lnP_l, pc_l, kd_l, op_l, pr_l, mInSt_l, mProm_l, nInSt_l, nProm_l, totp_l, tot_l, if_false, if_true, false_and, and_false, Nat.reduceEqDiff, reduceIte, reduceCtorEq, and_true, true_and] using h9
  · have h9 := r_lm R
    unfold Clm
    simpa (disch := omega) only [sI_wI, sI_wP, sI_wL, sI_wN, sP_wI, sP_wP, sP_wL, sP_wN, sL_wI, sL_wP, sL_wL, sL_wN, sX_wI, sX_wP, sX_wL, sX_wN, gI_uI, gI_uL, gL_uI, gL_uL, tk_ne9, tk_inj, nB_u, nM_u, nP_u, nO_u, hN_u, nLn_u, nOp_u, lnP_u, pc_u, kd_u, op_u, pr_u, mInSt_u, mProm_u, nInSt_u, nProm_u, totp_u, tot_u, nB_l, nM_l, nP_l, nO_l, hN_l, nLn_l, nOp_l, lnP_l, pc_l, kd_l, op_l, pr_l, mInSt_l, mProm_l, nInSt_l, nProm_l, totp_l, tot_l, if_false, if_true, false_and, and_false, Nat.reduceEqDiff, reduceIte, reduceCtorEq, and_true, true_and] using h9
  · have h9 := r_o0 R
    unfold Co0
    simpa (disch := omega) only [sI_wI, sI_wP, sI_wL, sI_wN, sP_wI, sP_wP, sP_wL, sP_wN, sL_wI, sL_wP, sL_wL, sL_wN, sX_wI, sX_wP, sX_wL, sX_wN, gI_uI, gI_uL, gL_uI, gL_uL, tk_ne9, tk_inj, nB_u, nM_u, nP_u, nO_u, hN_u, nLn_u, nOp_u, lnP_u, pc_u, kd_u, op_u, pr_u, mInSt_u, mProm_u, nInSt_u, nProm_u, totp_u, tot_u, nB_l, nM_l, nP_l, nO_l, hN_l, nLn_l, nOp_l, lnP_l, pc_l, kd_l, op_l, pr_l, mInSt_l, mProm_l, nInSt_l, nProm_l, totp_l, tot_l, if_false, if_true, false_and, and_false, Nat.reduceEqDiff, reduceIte, reduceCtorEq, and_true, true_and] using h9
  · have h9 := r_o1 R
    unfold Co1
    simpa (disch := omega) only [sI_wI, sI_wP, sI_wL, sI_wN, sP_wI, sP_wP, sP_wL, sP_wN, sL_wI, sL_wP, sL_wL, sL_wN, sX_wI, sX_wP, sX_wL, sX_wN, gI_uI, gI_uL, gL_uI, gL_uL, tk_ne9, tk_inj, nB_u, nM_u, nP_u, nO_u, hN_u, nLn_u, nOp_u, lnP_u, pc_u, kd_u, op_u, pr_u, mInSt_u, mProm_u, nInSt_u, nProm_u, totp_u, tot_u, nB_l, nM_l, nP_l, nO_l, hN_l, nLn_l, nOp_l, lnP_l, pc_l, kd_l, op_l, pr_l, mInSt_l, mProm_l, nInSt_l, nProm_l, totp_l, tot_l, if_false, if_true, false_and, and_false, Nat.reduceEqDiff, reduceIte, reduceCtorEq, and_true, true_and] using h9
  · have h9 := r_o2 R
    unfold Co2
    simpa (disch := omega) only [sI_wI, sI_wP, sI_wL, sI_wN, sP_wI, sP_wP, sP_wL, sP_wN, sL_wI, sL_wP, sL_wL, sL_wN, sX_wI, sX_wP, sX_wL, sX_wN, gI_uI, gI_uL, gL_uI, gL_uL, tk_ne9, tk_inj, nB_u, nM_u, nP_u, nO_u, hN_u, nLn_u, nOp_u, lnP_u, pc_u, kd_u, op_u, pr_u, mInSt_u, mProm_u, nInSt_u, nProm_u, totp_u, tot_u, nB_l, nM_l, nP_l, nO_l, hN_l, nLn_l, nOp_l, lnP_l, pc_l, kd_l, op_l, pr_l, mInSt_l, mProm_l, nInSt_l, nProm_l, totp_l, tot_l, if_false, if_true, false_and, and_false, Nat.reduceEqDiff, reduceIte, reduceCtorEq, and_true, true_and] using h9
  · have h9 := r_o3 R
    unfold Co3
    simpa (disch := omega) only [sI_wI, sI_wP, sI_wL, sI_wN, sP_wI, sP_wP, sP_wL, sP_wN, sL_wI, sL_wP, sL_wL, sL_wN, sX_wI, sX_wP, sX_wL, sX_wN, gI_uI, gI_uL, gL_uI, gL_uL, tk_ne9, tk_inj, nB_u, nM_u, nP_u, nO_u, hN_u, nLn_u, nOp_u, lnP_u, pc_u, kd_u, op_u, pr_u, mInSt_u, mProm_u, nInSt_u, nProm_u, totp_u, tot_u, nB_l, nM_l, nP_l, nO_l, hN_l, nLn_l, nOp_l, lnP_l, pc_l, kd_l, op_l, pr_l, mInSt_l, mProm_l, nInSt_l, nProm_l, totp_l, tot_l, if_false, if_true, false_and, and_false, Nat.reduceEqDiff, reduceIte, reduceCtorEq, and_true, true_and] using h9
  · have h9 := r_om R
    unfold Com
    simpa (disch := omega) only [sI_wI, sI_wP, sI_wL, sI_wN, sP_wI, sP_wP, sP_wL, sP_wN, sL_wI, sL_wP, sL_wL, sL_wN, sX_wI, sX_wP, sX_wL, sX_wN, gI_uI, gI_uL, gL_uI, gL_uL, tk_ne9, tk_inj, nB_u, nM_u, nP_u, nO_u, hN_u, nLn_u, nOp_u, lnP_u, pc_u, kd_u, op_u, pr_u, mInSt_u, mProm_u, nInSt_u, nProm_u, totp_u, tot_u, nB_l, nM_l, nP_l, nO_l, hN_l, nLn_l, nOp_l, lnP_l, pc_l, kd_l, op_l, pr_l, mInSt_l, mProm_l, nInSt_l, nProm_l, totp_l, tot_l, if_false, if_true, false_and, and_false, Nat.reduceEqDiff, reduceIte, reduceCtorEq, and_true, true_and] using h9
  · have h9 := r_b0 R
    unfold Cb0
    simpa (disch := omega) only [sI_wI, sI_wP, sI_wL, sI_wN, sP_wI, sP_wP, sP_wL, sP_wN, sL_wI, sL_wP, sL_wL, sL_wN, sX_wI, sX_wP, sX_wL, sX_wN, gI_uI, gI_uL, gL_uI, gL_uL, tk_ne9, tk_inj, nB_u, nM_u, nP_u, nO_u, hN_u, nLn_u, nOp_u, lnP_u, pc_u, kd_u, op_u, pr_u, mInSt_u, mProm_u, nInSt_u, nProm_u, totp_u, tot_u, nB_l, nM_l, nP_l, nO_l, hN_l, nLn_l, nOp_l, lnP_l, pc_l, kd_l, op_l, pr_l, mInSt_l, mProm_l, nInSt_l, nProm_l, totp_l, tot_l, if_false, if_true, false_and, and_false, Nat.reduceEqDiff, reduceIte, reduceCtorEq, and_true, true_and] using h9
  · have h9 := r_bn R
    unfold Cbn
    simpa (disch := omega) only [sI_wI, sI_wP, sI_wL, sI_wN, sP_wI, sP_wP, sP_wL, sP_wN, sL_wI, sL_wP, sL_wL, sL_wN, sX_wI, sX_wP, sX_wL, sX_wN, gI_uI, gI_uL, gL_uI, gL_uL, tk_ne9, tk_inj, nB_u, nM_u, nP_u, nO_u, hN_u, nLn_u, nOp_u, lnP_u, pc_u, kd_u, op_u, pr_u, mInSt_u, mProm_u, nInSt_u, nProm_u, totp_u, tot_u, nB_l, nM_l, nP_l, nO_l, hN_l, nLn_l, nOp_l, lnP_l, pc_l, kd_l, op_l, pr_l, mInSt_l, mProm_l, nInSt_l, nProm_l, totp_l, tot_l, if_false, if_true, false_and, and_false, Nat.reduceEqDiff, reduceIte, reduceCtorEq, and_true, true_and] using h9
  · have h9 := r_bk R
    unfold Cbk
    simpa (disch := omega) only [sI_wI, sI_wP, sI_wL, sI_wN, sP_wI, sP_wP, sP_wL, sP_wN, sL_wI, sL_wP, sL_wL, sL_wN, sX_wI, sX_wP, sX_wL, sX_wN, gI_uI, gI_uL, gL_uI, gL_uL, tk_ne9, tk_inj, nB_u, nM_u, nP_u, nO_u, hN_u, nLn_u, nOp_u, lnP_u, pc_u, kd_u, op_u, pr_u, mInSt_u, mProm_u, nInSt_u, nProm_u, totp_u, tot_u, nB_l, nM_l, nP_l, nO_l, hN_l, nLn_l, nOp_l, lnP_l, pc_l, kd_l, op_l, pr_l, mInSt_l, mProm_l, nInSt_l, nProm_l, totp_l, tot_l, if_false, if_true, false_and, and_false, Nat.reduceEqDiff, reduceIte, reduceCtorEq, and_true, true_and] using h9
  · have h9 := r_b2 R
    unfold Cb2
    simpa (disch := omega) only [sI_wI, sI_wP, sI_wL, sI_wN, sP_wI, sP_wP, sP_wL, sP_wN, sL_wI, sL_wP, sL_wL, sL_wN, sX_wI, sX_wP, sX_wL, sX_wN, gI_uI, gI_uL, gL_uI, gL_uL, tk_ne9, tk_inj, nB_u, nM_u, nP_u, nO_u, hN_u, nLn_u, nOp_u, lnP_u, pc_u, kd_u, op_u, pr_u, mInSt_u, mProm_u, nInSt_u, nProm_u, totp_u, tot_u, nB_l, nM_l, nP_l, nO_l, hN_l, nLn_l, nOp_l, lnP_l, pc_l, kd_l, op_l, pr_l, mInSt_l, mProm_l, nInSt_l, nProm_l, totp_l, tot_l, if_false, if_true, false_and, and_false, Nat.reduceEqDiff, reduceIte, reduceCtorEq, and_true, true_and] using h9
  · have h9 := r_b3 R
    unfold Cb3
    simpa (disch := omega) only [sI_wI, sI_wP, sI_wL, sI_wN, sP_wI, sP_wP, sP_wL, sP_wN, sL_wI, sL_wP, sL_wL, sL_wN, sX_wI, sX_wP, sX_wL, sX_wN, gI_uI, gI_uL, gL_uI, gL_uL, tk_ne9, tk_inj, nB_u, nM_u, nP_u, nO_u, hN_u, nLn_u, nOp_u, lnP_u, pc_u, kd_u, op_u, pr_u, mInSt_u, mProm_u, nInSt_u, nProm_u, totp_u, tot_u, nB_l, nM_l, nP_l, nO_l, hN_l, nLn_l, nOp_l, lnP_l, pc_l, kd_l, op_l, pr_l, mInSt_l, mProm_l, nInSt_l, nProm_l, totp_l, tot_l, if_false, if_true, false_and, and_false, Nat.reduceEqDiff, reduceIte, reduceCtorEq, and_true, true_and] using h9
  · have h9 := r_b4 R
    unfold Cb4
    simpa (disch := omega) only [sI_wI, sI_wP, sI_wL, sI_wN, sP_wI, sP_wP, sP_wL, sP_wN, sL_wI, sL_wP, sL_wL, sL_wN, sX_wI, sX_wP, sX_wL, sX_wN, gI_uI, gI_uL, gL_uI, gL_uL, tk_ne9, tk_inj, nB_u, nM_u, nP_u, nO_u, hN_u, nLn_u, nOp_u, lnP_u, pc_u, kd_u, op_u, pr_u, mInSt_u, mProm_u, nInSt_u, nProm_u, totp_u, tot_u, nB_l, nM_l, nP_l, nO_l, hN_l, nLn_l, nOp_l, lnP_l, pc_l, kd_l, op_l, pr_l, mInSt_l, mProm_l, nInSt_l, nProm_l, totp_l, tot_l, if_false, if_true, false_and, and_false, Nat.reduceEqDiff, reduceIte, reduceCtorEq, and_true, true_and] using h9
  · have h9 := r_b5 R
    unfold Cb5
    simpa (disch := omega) only [sI_wI, sI_wP, sI_wL, sI_wN, sP_wI, sP_wP, sP_wL, sP_wN, sL_wI, sL_wP, sL_wL, sL_wN, sX_wI, sX_wP, sX_wL, sX_wN, gI_uI, gI_uL, gL_uI, gL_uL, tk_ne9, tk_inj, nB_u, nM_u, nP_u, nO_u, hN_u, nLn_u, nOp_u, lnP_u, pc_u, kd_u, op_u, pr_u, mInSt_u, mProm_u, nInSt_u, nProm_u, totp_u, tot_u, nB_l, nM_l, nP_l, nO_l, hN_l, nLn_l, nOp_l, lnP_l, pc_l, kd_l, op_l, pr_l, mInSt_l, mProm_l, nInSt_l, nProm_l, totp_l, tot_l, if_false, if_true, false_and, and_false, Nat.reduceEqDiff, reduceIte, reduceCtorEq, and_true, true_and] using h9
  · have h9 := r_b6 R
    unfold Cb6
    simpa (disch := omega) only [sI_wI, sI_wP, sI_wL, sI_wN, sP_wI, sP_wP, sP_wL, sP_wN, sL_wI, sL_wP, sL_wL, sL_wN, sX_wI, sX_wP, sX_wL, sX_wN, gI_uI, gI_uL, gL_uI, gL_uL, tk_ne9, tk_inj, nB_u, nM_u, nP_u, nO_u, hN_u, nLn_u, nOp_u, lnP_u, pc_u, kd_u, op_u, pr_u, mInSt_u, mProm_u, nInSt_u, nProm_u, totp_u, tot_u, nB_l, nM_l, nP_l, nO_l, hN_l, nLn_l, nOp_l, lnP_l, pc_l, kd_l, op_l, pr_l, mInSt_l, mProm_l, nInSt_l, nProm_l, totp_l, tot_l, if_false, if_true, false_and, and_false, Nat.reduceEqDiff, reduceIte, reduceCtorEq, and_true, true_and] using h9
  · have h9 := r_b7 R
    unfold Cb7
    simpa (disch := omega) only [sI_wI, sI_wP, sI_wL, sI_wN, sP_wI, sP_wP, sP_wL, sP_wN, sL_wI, sL_wP, sL_wL, sL_wN, sX_wI, sX_wP, sX_wL, sX_wN, gI_uI, gI_uL, gL_uI, gL_uL, tk_ne9, tk_inj, nB_u, nM_u, nP_u, nO_u, hN_u, nLn_u, nOp_u, lnP_u, pc_u, kd_u, op_u, pr_u, mInSt_u, mProm_u, nInSt_u, nProm_u, totp_u, tot_u, nB_l, nM_l, nP_l, nO_l, hN_l, nLn_l, nOp_l, lnP_l, pc_l, kd_l, op_l, pr_l, mInSt_l, mProm_l, nInSt_l, nProm_l, totp_l, tot_l, if_false, if_true, false_and, and_false, Nat.reduceEqDiff, reduceIte, reduceCtorEq, and_true, true_and] using h9
  · have h9 := r_b8 R
    unfold Cb8
    simpa (disch := omega) only [sI_wI, sI_wP, sI_wL, sI_wN, sP_wI, sP_wP, sP_wL, sP_wN, sL_wI, sL_wP, sL_wL, sL_wN, sX_wI, sX_wP, sX_wL, sX_wN, gI_uI, gI_uL, gL_uI, gL_uL, tk_ne9, tk_inj, nB_u, nM_u, nP_u, nO_u, hN_u, nLn_u, nOp_u, lnP_u, pc_u, kd_u, op_u, pr_u, mInSt_u, mProm_u, nInSt_u, nProm_u, totp_u, tot_u, nB_l, nM_l, nP_l, nO_l, hN_l, nLn_l, nOp_l, lnP_l, pc_l, kd_l, op_l, pr_l, mInSt_l, mProm_l, nInSt_l, nProm_l, totp_l, tot_l, if_false, if_true, false_and, and_false, Nat.reduceEqDiff, reduceIte, reduceCtorEq, and_true, true_and] using h9
  · have h9 := r_b9 R
    unfold Cb9
    simpa (disch := omega) only [sI_wI, sI_wP, sI_wL, sI_wN, sP_wI, sP_wP, sP_wL, sP_wN, sL_wI, sL_wP, sL_wL, sL_wN, sX_wI, sX_wP, sX_wL, sX_wN, gI_uI, gI_uL, gL_uI, gL_uL, tk_ne9, tk_inj, nB_u, nM_u, nP_u, nO_u, hN_u, nLn_u, nOp_u, lnP_u, pc_u, kd_u, op_u, pr_u, mInSt_u, mProm_u, nInSt_u, nProm_u, totp_u, tot_u, nB_l, nM_l, nP_l, nO_l, hN_l, nLn_l, nOp_l, lnP_l, pc_l, kd_l, op_l, pr_l, mInSt_l, mProm_l, nInSt_l, nProm_l, totp_l, tot_l, if_false, if_true, false_and, and_false, Nat.reduceEqDiff, reduceIte, reduceCtorEq, and_true, true_and] using h9
  · have h9 := r_b10 R
    unfold Cb10
    simpa (disch := omega) only [sI_wI, sI_wP, sI_wL, sI_wN, sP_wI, sP_wP, sP_wL, sP_wN, sL_wI, sL_wP, sL_wL, sL_wN, sX_wI, sX_wP, sX_wL, sX_wN, gI_uI, gI_uL, gL_uI, gL_uL, tk_ne9, tk_inj, nB_u, nM_u, nP_u, nO_u, hN_u, nLn_u, nOp_u, lnP_u, pc_u, kd_u, op_u, pr_u, mInSt_u, mProm_u, nInSt_u, nProm_u, totp_u, tot_u, nB_l, nM_l, nP_l, nO_l, hN_l, nLn_l, nOp_l, lnP_l, pc_l, kd_l, op_l, pr_l, mInSt_l, mProm_l, nInSt_l, nProm_l, totp_l, tot_l, if_false, if_true, false_and, and_false, Nat.reduceEqDiff, reduceIte, reduceCtorEq, and_true, true_and] using h9
  · have h9 := r_b11 R
    unfold Cb11
    simpa (disch := omega) only [sI_wI, sI_wP, sI_wL, sI_wN, sP_wI, sP_wP, sP_wL, sP_wN, sL_wI, sL_wP, sL_wL, sL_wN, sX_wI, sX_wP, sX_wL, sX_wN, gI_uI, gI_uL, gL_uI, gL_uL, tk_ne9, tk_inj, nB_u, nM_u, nP_u, nO_u, hN_u, nLn_u, nOp_u, lnP_u, pc_u, kd_u, op_u, pr_u, mInSt_u, mProm_u, nInSt_u, nProm_u, totp_u, tot_u, nB_l, nM_l, nP_l, nO_l, hN_l, nLn_l, nOp_l, lnP_l, pc_l, kd_l, op_l, pr_l, mInSt_l, mProm_l, nInSt_l, nProm_l, totp_l, tot_l, if_false, if_true, false_and, and_false, Nat.reduceEqDiff, reduceIte, reduceCtorEq, and_true, true_and] using h9
  · have h9 := r_bK R
    unfold CbK
    simpa (disch := omega) only [sI_wI, sI_wP, sI_wL, sI_wN, sP_wI, sP_wP, sP_wL, sP_wN, sL_wI, sL_wP, sL_wL, sL_wN, sX_wI, sX_wP, sX_wL, sX_wN, gI_uI, gI_uL, gL_uI, gL_uL, tk_ne9, tk_inj, nB_u, nM_u, nP_u, nO_u, hN_u, nLn_u, nOp_u, lnP_u, pc_u, kd_u, op_u, pr_u, mInSt_u, mProm_u, nInSt_u, nProm_u, totp_u, tot_u, nB_l, nM_l, nP_l, nO_l, hN_l, nLn_l, nOp_l, lnP_l, pc_l, kd_l, op_l, pr_l, mInSt_l, mProm_l, nInSt_l, nProm_l, totp_l, tot_l, if_false, if_true, false_and, and_false, Nat.reduceEqDiff, reduceIte, reduceCtorEq, and_true, true_and] using h9
  · have h9 := r_bP R
    unfold CbP
    simpa (disch := omega) only [sI_wI, sI_wP, sI_wL, sI_wN, sP_wI, sP_wP, sP_wL, sP_wN, sL_wI, sL_wP, sL_wL, sL_wN, sX_wI, sX_wP, sX_wL, sX_wN, gI_uI, gI_uL, gL_uI, gL_uL, tk_ne9, tk_inj, nB_u, nM_u, nP_u, nO_u, hN_u, nLn_u, nOp_u, lnP_u, pc_u, kd_u, op_u, pr_u, mInSt_u, mProm_u, nInSt_u, nProm_u, totp_u, tot_u, nB_l, nM_l, nP_l, nO_l, hN_l, nLn_l, nOp_l, lnP_l, pc_l, kd_l, op_l, pr_l, mInSt_l, mProm_l, nInSt_l, nProm_l, totp_l, tot_l, if_false, if_true, false_and, and_false, Nat.reduceEqDiff, reduceIte, reduceCtorEq, and_true, true_and] using h9
  · have h9 := r_bO R
    unfold CbO
    simpa (disch := omega) only [sI_wI, sI_wP, sI_wL, sI_wN, sP_wI, sP_wP, sP_wL, sP_wN, sL_wI, sL_wP, sL_wL, sL_wN, sX_wI, sX_wP, sX_wL, sX_wN, gI_uI, gI_uL, gL_uI, gL_uL, tk_ne9, tk_inj, nB_u, nM_u, nP_u, nO_u, hN_u, nLn_u, nOp_u, lnP_u, pc_u, kd_u, op_u, pr_u, mInSt_u, mProm_u, nInSt_u, nProm_u, totp_u, tot_u, nB_l, nM_l, nP_l, nO_l, hN_l, nLn_l, nOp_l, lnP_l, pc_l, kd_l, op_l, pr_l, mInSt_l, mProm_l, nInSt_l, nProm_l, totp_l, tot_l, if_false, if_true, false_and, and_false, Nat.reduceEqDiff, reduceIte, reduceCtorEq, and_true, true_and] using h9
  · have h9 := r_bW R
    unfold CbW
    simpa (disch := omega) only [sI_wI, sI_wP, sI_wL, sI_wN, sP_wI, sP_wP, sP_wL, sP_wN, sL_wI, sL_wP, sL_wL, sL_wN, sX_wI, sX_wP, sX_wL, sX_wN, gI_uI, gI_uL, gL_uI, gL_uL, tk_ne9, tk_inj, nB_u, nM_u, nP_u, nO_u, hN_u, nLn_u, nOp_u, lnP_u, pc_u, kd_u, op_u, pr_u, mInSt_u, mProm_u, nInSt_u, nProm_u, totp_u, tot_u, nB_l, nM_l, nP_l, nO_l, hN_l, nLn_l, nOp_l, lnP_l, pc_l, kd_l, op_l, pr_l, mInSt_l, mProm_l, nInSt_l, nProm_l, totp_l, tot_l, if_false, if_true, false_and, and_false, Nat.reduceEqDiff, reduceIte, reduceCtorEq, and_true, true_and] using h9
  · have h9 := r_bZ R
    unfold CbZ
    simpa (disch := omega) only [sI_wI, sI_wP, sI_wL, sI_wN, sP_wI, sP_wP, sP_wL, sP_wN, sL_wI, sL_wP, sL_wL, sL_wN, sX_wI, sX_wP, sX_wL, sX_wN, gI_uI, gI_uL, gL_uI, gL_uL, tk_ne9, tk_inj, nB_u, nM_u, nP_u, nO_u, hN_u, nLn_u, nOp_u, lnP_u, pc_u, kd_u, op_u, pr_u, mInSt_u, mProm_u, nInSt_u, nProm_u, totp_u, tot_u, nB_l, nM_l, nP_l, nO_l, hN_l, nLn_l, nOp_l, lnP_l, pc_l, kd_l, op_l, pr_l, mInSt_l, mProm_l, nInSt_l, nProm_l, totp_l, tot_l, if_false, if_true, false_and, and_false, Nat.reduceEqDiff, reduceIte, reduceCtorEq, and_true, true_and] using h9
  · have h9 := r_bF R
    unfold CbF
    simpa (disch := omega) only [sI_wI, sI_wP, sI_wL, sI_wN, sP_wI, sP_wP, sP_wL, sP_wN, sL_wI, sL_wP, sL_wL, sL_wN, sX_wI, sX_wP, sX_wL, sX_wN, gI_uI, gI_uL, gL_uI, gL_uL, tk_ne9, tk_inj, nB_u, nM_u, nP_u, nO_u, hN_u, nLn_u, nOp_u, lnP_u, pc_u, kd_u, op_u, pr_u, mInSt_u, mProm_u, nInSt_u, nProm_u, totp_u, tot_u, nB_l, nM_l, nP_l, nO_l, hN_l, nLn_l, nOp_l, lnP_l, pc_l, kd_l, op_l, pr_l, mInSt_l, mProm_l, nInSt_l, nProm_l, totp_l, tot_l, if_false, if_true, false_and, and_false, Nat.reduceEqDiff, reduceIte, reduceCtorEq, and_true, true_and] using h9
  · have h9 := r_bS R
    unfold CbS
    simpa (disch := omega) only [sI_wI, sI_wP, sI_wL, sI_wN, sP_wI, sP_wP, sP_wL, sP_wN, sL_wI, sL_wP, sL_wL, sL_wN, sX_wI, sX_wP, sX_wL, sX_wN, gI_uI, gI_uL, gL_uI, gL_uL, tk_ne9, tk_inj, nB_u, nM_u, nP_u, nO_u, hN_u, nLn_u, nOp_u, lnP_u, pc_u, kd_u, op_u, pr_u, mInSt_u, mProm_u, nInSt_u, nProm_u, totp_u, tot_u, nB_l, nM_l, nP_l, nO_l, hN_l, nLn_l, nOp_l, lnP_l, pc_l, kd_l, op_l, pr_l, mInSt_l, mProm_l, nInSt_l, nProm_l, totp_l, tot_l, if_false, if_true, false_and, and_false, Nat.reduceEqDiff, reduceIte, reduceCtorEq, and_true, true_and] using h9
  · have h9 := r_bC R
    unfold CbC
    simpa (disch := omega) only [sI_wI, sI_wP, sI_wL, sI_wN, sP_wI, sP_wP, sP_wL, sP_wN, sL_wI, sL_wP, sL_wL, sL_wN, sX_wI, sX_wP, sX_wL, sX_wN, gI_uI, gI_uL, gL_uI, gL_uL, tk_ne9, tk_inj, nB_u, nM_u, nP_u, nO_u, hN_u, nLn_u, nOp_u, lnP_u, pc_u, kd_u, op_u, pr_u, mInSt_u, mProm_u, nInSt_u, nProm_u, totp_u, tot_u, nB_l, nM_l, nP_l, nO_l, hN_l, nLn_l, nOp_l, lnP_l, pc_l, kd_l, op_l, pr_l, mInSt_l, mProm_l, nInSt_l, nProm_l, totp_l, tot_l, if_false, if_true, false_and, and_false, Nat.reduceEqDiff, reduceIte, reduceCtorEq, and_true, true_and] using h9
  · have h9 := r_bT R
    unfold CbT
    simpa (disch := omega) only [sI_wI, sI_wP, sI_wL, sI_wN, sP_wI, sP_wP, sP_wL, sP_wN, sL_wI, sL_wP, sL_wL, sL_wN, sX_wI, sX_wP, sX_wL, sX_wN, gI_uI, gI_uL, gL_uI, gL_uL, tk_ne9, tk_inj, nB_u, nM_u, nP_u, nO_u, hN_u, nLn_u, nOp_u, lnP_u, pc_u, kd_u, op_u, pr_u, mInSt_u, mProm_u, nInSt_u, nProm_u, totp_u, tot_u, nB_l, nM_l, nP_l, nO_l, hN_l, nLn_l, nOp_l, lnP_l, pc_l, kd_l, op_l, pr_l, mInSt_l, mProm_l, nInSt_l, nProm_l, totp_l, tot_l, if_false, if_true, false_and, and_false, Nat.reduceEqDiff, reduceIte, reduceCtorEq, and_true, true_and] using h9
  · have h9 := r_bU R
    unfold CbU
    simpa (disch := omega) only [sI_wI, sI_wP, sI_wL, sI_wN, sP_wI, sP_wP, sP_wL, sP_wN, sL_wI, sL_wP, sL_wL, sL_wN, sX_wI, sX_wP, sX_wL, sX_wN, gI_uI, gI_uL, gL_uI, gL_uL, tk_ne9, tk_inj, nB_u, nM_u, nP_u, nO_u, hN_u, nLn_u, nOp_u, lnP_u, pc_u, kd_u, op_u, pr_u, mInSt_u, mProm_u, nInSt_u, nProm_u, totp_u, tot_u, nB_l, nM_l, nP_l, nO_l, hN_l, nLn_l, nOp_l, lnP_l, pc_l, kd_l, op_l, pr_l, mInSt_l, mProm_l, nInSt_l, nProm_l, totp_l, tot_l, if_false, if_true, false_and, and_false, Nat.reduceEqDiff, reduceIte, reduceCtorEq, and_true, true_and] using h9
  · have h9 := r_bq R
    unfold Cbq
    simpa (disch := omega) only [sI_wI, sI_wP, sI_wL, sI_wN, sP_wI, sP_wP, sP_wL, sP_wN, sL_wI, sL_wP, sL_wL, sL_wN, sX_wI, sX_wP, sX_wL, sX_wN, gI_uI, gI_uL, gL_uI, gL_uL, tk_ne9, tk_inj, nB_u, nM_u, nP_u, nO_u, hN_u, nLn_u, nOp_u, lnP_u, pc_u, kd_u, op_u, pr_u, mInSt_u, mProm_u, nInSt_u, nProm_u, totp_u, tot_u, nB_l, nM_l, nP_l, nO_l, hN_l, nLn_l, nOp_l, lnP_l, pc_l, kd_l, op_l, pr_l, mInSt_l, mProm_l, nInSt_l, nProm_l, totp_l, tot_l, if_false, if_true, false_and, and_false, Nat.reduceEqDiff, reduceIte, reduceCtorEq, and_true, true_and] using h9
  · have h9 := r_ps R
    unfold Cps
    simpa (disch := omega) only [sI_wI, sI_wP, sI_wL, sI_wN, sP_wI, sP_wP, sP_wL, sP_wN, sL_wI, sL_wP, sL_wL, sL_wN, sX_wI, sX_wP, sX_wL, sX_wN, gI_uI, gI_uL, gL_uI, gL_uL, tk_ne9, tk_inj, nB_u, nM_u, nP_u, nO_u, hN_u, nLn_u, nOp_u, lnP_u, pc_u, kd_u, op_u, pr_u, mInSt_u, mProm_u, nInSt_u, nProm_u, totp_u, tot_u, nB_l, nM_l, nP_l, nO_l, hN_l, nLn_l, nOp_l, lnP_l, pc_l, kd_l, op_l, pr_l, mInSt_l, mProm_l, nInSt_l, nProm_l, totp_l, tot_l, if_false, if_true, false_and, and_false, Nat.reduceEqDiff, reduceIte, reduceCtorEq, and_true, true_and] using h9
  · have h9 := r_bp R
    unfold Cbp
    simpa (disch := omega) only [sI_wI, sI_wP, sI_wL, sI_wN, sP_wI, sP_wP, sP_wL, sP_wN, sL_wI, sL_wP, sL_wL, sL_wN, sX_wI, sX_wP, sX_wL, sX_wN, gI_uI, gI_uL, gL_uI, gL_uL, tk_ne9, tk_inj, nB_u, nM_u, nP_u, nO_u, hN_u, nLn_u, nOp_u, lnP_u, pc_u, kd_u, op_u, pr_u, mInSt_u, mProm_u, nInSt_u, nProm_u, totp_u, tot_u, nB_l, nM_l, nP_l, nO_l, hN_l, nLn_l, nOp_l, lnP_l, pc_l, kd_l, op_l, pr_l, mInSt_l, mProm_l, nInSt_l, nProm_l, totp_l, tot_l, if_false, if_true, false_and, and_false, Nat.reduceEqDiff, reduceIte, reduceCtorEq, and_true, true_and] using h9
  · have h9 := r_bc R
    unfold Cbc
    simpa (disch := omega) only [sI_wI, sI_wP, sI_wL, sI_wN, sP_wI, sP_wP, sP_wL, sP_wN, sL_wI, sL_wP, sL_wL, sL_wN, sX_wI, sX_wP, sX_wL, sX_wN, gI_uI, gI_uL, gL_uI, gL_uL, tk_ne9, tk_inj, nB_u, nM_u, nP_u, nO_u, hN_u, nLn_u, nOp_u, lnP_u, pc_u, kd_u, op_u, pr_u, mInSt_u, mProm_u, nInSt_u, nProm_u, totp_u, tot_u, nB_l, nM_l, nP_l, nO_l, hN_l, nLn_l, nOp_l, lnP_l, pc_l, kd_l, op_l, pr_l, mInSt_l, mProm_l, nInSt_l, nProm_l, totp_l, tot_l, if_false, if_true, false_and, and_false, Nat.reduceEqDiff, reduceIte, reduceCtorEq, and_true, true_and] using h9
  · have h9 := r_fB R
    unfold CfB
    simpa (disch := omega) only [sI_wI, sI_wP, sI_wL, sI_wN, sP_wI, sP_wP, sP_wL, sP_wN, sL_wI, sL_wP, sL_wL, sL_wN, sX_wI, sX_wP, sX_wL, sX_wN, gI_uI, gI_uL, gL_uI, gL_uL, tk_ne9, tk_inj, nB_u, nM_u, nP_u, nO_u, hN_u, nLn_u, nOp_u, lnP_u, pc_u, kd_u, op_u, pr_u, mInSt_u, mProm_u, nInSt_u, nProm_u, totp_u, tot_u, nB_l, nM_l, nP_l, nO_l, hN_l, nLn_l, nOp_l, lnP_l, pc_l, kd_l, op_l, pr_l, mInSt_l, mProm_l, nInSt_l, nProm_l, totp_l, tot_l, if_false, if_true, false_and, and_false, Nat.reduceEqDiff, reduceIte, reduceCtorEq, and_true, true_and] using h9
  · have h9 := r_fL R
    unfold CfL
    simpa (disch := omega) only [sI_wI, sI_wP, sI_wL, sI_wN, sP_wI, sP_wP, sP_wL, sP_wN, sL_wI, sL_wP, sL_wL, sL_wN, sX_wI, sX_wP, sX_wL, sX_wN, gI_uI, gI_uL, gL_uI, gL_uL, tk_ne9, tk_inj, nB_u, nM_u, nP_u, nO_u, hN_u, nLn_u, nOp_u, lnP_u, pc_u, kd_u, op_u, pr_u, mInSt_u, mProm_u, nInSt_u, nProm_u, totp_u, tot_u, nB_l, nM_l, nP_l, nO_l, hN_l, nLn_l, nOp_l, lnP_l, pc_l, kd_l, op_l, pr_l, mInSt_l, mProm_l, nInSt_l, nProm_l, totp_l, tot_l, if_false, if_true, false_and, and_false, Nat.reduceEqDiff, reduceIte, reduceCtorEq, and_true, true_and] using h9
  · have h9 := r_fO R
    unfold CfO
    simpa (disch := omega) only [sI_wI, sI_wP, sI_wL, sI_wN, sP_wI, sP_wP, sP_wL, sP_wN, sL_wI, sL_wP, sL_wL, sL_wN, sX_wI, sX_wP, sX_wL, sX_wN, gI_uI, gI_uL, gL_uI, gL_uL, tk_ne9, tk_inj, nB_u, nM_u, nP_u, nO_u, hN_u, nLn_u, nOp_u, lnP_u, pc_u, kd_u, op_u, pr_u, mInSt_u, mProm_u, nInSt_u, nProm_u, totp_u, tot_u, nB_l, nM_l, nP_l, nO_l, hN_l, nLn_l, nOp_l, lnP_l, pc_l, kd_l, op_l, pr_l, mInSt_l, mProm_l, nInSt_l, nProm_l, totp_l, tot_l, if_false, if_true, false_and, and_false, Nat.reduceEqDiff, reduceIte, reduceCtorEq, and_true, true_and] using h9
  · have h9 := r_fM R
    unfold CfM
    simpa (disch := omega) only [sI_wI, sI_wP, sI_wL, sI_wN, sP_wI, sP_wP, sP_wL, sP_wN, sL_wI, sL_wP, sL_wL, sL_wN, sX_wI, sX_wP, sX_wL, sX_wN, gI_uI, gI_uL, gL_uI, gL_uL, tk_ne9, tk_inj, nB_u, nM_u, nP_u, nO_u, hN_u, nLn_u, nOp_u, lnP_u, pc_u, kd_u, op_u, pr_u, mInSt_u, mProm_u, nInSt_u, nProm_u, totp_u, tot_u, nB_l, nM_l, nP_l, nO_l, hN_l, nLn_l, nOp_l, lnP_l, pc_l, kd_l, op_l, pr_l, mInSt_l, mProm_l, nInSt_l, nProm_l, totp_l, tot_l, if_false, if_true, false_and, and_false, Nat.reduceEqDiff, reduceIte, reduceCtorEq, and_true, true_and] using h9
  · have h9 := r_fP R
    unfold CfP
    simpa (disch := omega) only [sI_wI, sI_wP, sI_wL, sI_wN, sP_wI, sP_wP, sP_wL, sP_wN, sL_wI, sL_wP, sL_wL, sL_wN, sX_wI, sX_wP, sX_wL, sX_wN, gI_uI, gI_uL, gL_uI, gL_uL, tk_ne9, tk_inj, nB_u, nM_u, nP_u, nO_u, hN_u, nLn_u, nOp_u, lnP_u, pc_u, kd_u, op_u, pr_u, mInSt_u, mProm_u, nInSt_u, nProm_u, totp_u, tot_u, nB_l, nM_l, nP_l, nO_l, hN_l, nLn_l, nOp_l, lnP_l, pc_l, kd_l, op_l, pr_l, mInSt_l, mProm_l, nInSt_l, nProm_l, totp_l, tot_l, if_false, if_true, false_and, and_false, Nat.reduceEqDiff, reduceIte, reduceCtorEq, and_true, true_and] using h9
  · have h9 := r_fR R
    unfold CfR
    simpa (disch := omega) only [sI_wI, sI_wP, sI_wL, sI_wN, sP_wI, sP_wP, sP_wL, sP_wN, sL_wI, sL_wP, sL_wL, sL_wN, sX_wI, sX_wP, sX_wL, sX_wN, gI_uI, gI_uL, gL_uI, gL_uL, tk_ne9, tk_inj, nB_u, nM_u, nP_u, nO_u, hN_u, nLn_u, nOp_u, lnP_u, pc_u, kd_u, op_u, pr_u, mInSt_u, mProm_u, nInSt_u, nProm_u, totp_u, tot_u, nB_l, nM_l, nP_l, nO_l, hN_l, nLn_l, nOp_l, lnP_l, pc_l, kd_l, op_l, pr_l, mInSt_l, mProm_l, nInSt_l, nProm_l, totp_l, tot_l, if_false, if_true, false_and, and_false, Nat.reduceEqDiff, reduceIte, reduceCtorEq, and_true, true_and] using h9
  · have h9 := r_fG R
    unfold CfG
    simpa (disch := omega) only [sI_wI, sI_wP, sI_wL, sI_wN, sP_wI, sP_wP, sP_wL, sP_wN, sL_wI, sL_wP, sL_wL, sL_wN, sX_wI, sX_wP, sX_wL, sX_wN, gI_uI, gI_uL, gL_uI, gL_uL, tk_ne9, tk_inj, nB_u, nM_u, nP_u, nO_u, hN_u, nLn_u, nOp_u, lnP_u, pc_u, kd_u, op_u, pr_u, mInSt_u, mProm_u, nInSt_u, nProm_u, totp_u, tot_u, nB_l, nM_l, nP_l, nO_l, hN_l, nLn_l, nOp_l, lnP_l, pc_l, kd_l, op_l, pr_l, mInSt_l, mProm_l, nInSt_l, nProm_l, totp_l, tot_l, if_false, if_true, false_and, and_false, Nat.reduceEqDiff, reduceIte, reduceCtorEq, and_true, true_and] using h9
  · have h9 := r_m0 R
    unfold Cm0
    simpa (disch := omega) only [sI_wI, sI_wP, sI_wL, sI_wN, sP_wI, sP_wP, sP_wL, sP_wN, sL_wI, sL_wP, sL_wL, sL_wN, sX_wI, sX_wP, sX_wL, sX_wN, gI_uI, gI_uL, gL_uI, gL_uL, tk_ne9, tk_inj, nB_u, nM_u, nP_u, nO_u, hN_u, nLn_u, nOp_u, lnP_u, pc_u, kd_u, op_u, pr_u, mInSt_u, mProm_u, nInSt_u, nProm_u, totp_u, tot_u, nB_l, nM_l, nP_l, nO_l, hN_l, nLn_l, nOp_l, lnP_l, pc_l, kd_l, op_l, pr_l, mInSt_l, mProm_l, nInSt_l, nProm_l, totp_l, tot_l, if_false, if_true, false_and, and_false, Nat.reduceEqDiff, reduceIte, reduceCtorEq, and_true, true_and] using h9
  · have h9 := r_mn R
    unfold Cmn
    simpa (disch := omega) only [sI_wI, sI_wP, sI_wL, sI_wN, sP_wI, sP_wP, sP_wL, sP_wN, sL_wI, sL_wP, sL_wL, sL_wN, sX_wI, sX_wP, sX_wL, sX_wN, gI_uI, gI_uL, gL_uI, gL_uL, tk_ne9, tk_inj, nB_u, nM_u, nP_u, nO_u, hN_u, nLn_u, nOp_u, lnP_u, pc_u, kd_u, op_u, pr_u, mInSt_u, mProm_u, nInSt_u, nProm_u, totp_u, tot_u, nB_l, nM_l, nP_l, nO_l, hN_l, nLn_l, nOp_l, lnP_l, pc_l, kd_l, op_l, pr_l, mInSt_l, mProm_l, nInSt_l, nProm_l, totp_l, tot_l, if_false, if_true, false_and, and_false, Nat.reduceEqDiff, reduceIte, reduceCtorEq, and_true, true_and] using h9
  · have h9 := r_m1 R
    unfold Cm1
    simpa (disch := omega) only [sI_wI, sI_wP, sI_wL, sI_wN, sP_wI, sP_wP, sP_wL, sP_wN, sL_wI, sL_wP, sL_wL, sL_wN, sX_wI, sX_wP, sX_wL, sX_wN, gI_uI, gI_uL, gL_uI, gL_uL, tk_ne9, tk_inj, nB_u, nM_u, nP_u, nO_u, hN_u, nLn_u, nOp_u, lnP_u, pc_u, kd_u, op_u, pr_u, mInSt_u, mProm_u, nInSt_u, nProm_u, totp_u, tot_u, nB_l, nM_l, nP_l, nO_l, hN_l, nLn_l, nOp_l, lnP_l, pc_l, kd_l, op_l, pr_l, mInSt_l, mProm_l, nInSt_l, nProm_l, totp_l, tot_l, if_false, if_true, false_and, and_false, Nat.reduceEqDiff, reduceIte, reduceCtorEq, and_true, true_and] using h9
  · have h9 := r_m2 R
    unfold Cm2
    simpa (disch := omega) only [sI_wI, sI_wP, sI_wL, sI_wN, sP_wI, sP_wP, sP_wL, sP_wN, sL_wI, sL_wP, sL_wL, sL_wN, sX_wI, sX_wP, sX_wL, sX_wN, gI_uI, gI_uL, gL_uI, gL_uL, tk_ne9, tk_inj, nB_u, nM_u, nP_u, nO_u, hN_u, nLn_u, nOp_u, lnP_u, pc_u, kd_u, op_u, pr_u, mInSt_u, mProm_u, nInSt_u, nProm_u, totp_u, tot_u, nB_l, nM_l, nP_l, nO_l, hN_l, nLn_l, nOp_l, lnP_l, pc_l, kd_l, op_l, pr_l, mInSt_l, mProm_l, nInSt_l, nProm_l, totp_l, tot_l, if_false, if_true, false_and, and_false, Nat.reduceEqDiff, reduceIte, reduceCtorEq, and_true, true_and] using h9
  · have h9 := r_m3 R
    unfold Cm3
    simpa (disch := omega) only [sI_wI, sI_wP, sI_wL, sI_wN, sP_wI, sP_wP, sP_wL, sP_wN, sL_wI, sL_wP, sL_wL, sL_wN, sX_wI, sX_wP, sX_wL, sX_wN, gI_uI, gI_uL, gL_uI, gL_uL, tk_ne9, tk_inj, nB_u, nM_u, nP_u, nO_u, hN_u, nLn_u, nOp_u, lnP_u, pc_u, kd_u, op_u, pr_u, mInSt_u, mProm_u, nInSt_u, nProm_u, totp_u, tot_u, nB_l, nM_l, nP_l, nO_l, hN_l, nLn_l, nOp_l, lnP_l, pc_l, kd_l, op_l, pr_l, mInSt_l, mProm_l, nInSt_l, nProm_l, totp_l, tot_l, if_false, if_true, false_and, and_false, Nat.reduceEqDiff, reduceIte, reduceCtorEq, and_true, true_and] using h9
  · have h9 := r_m4 R
    unfold Cm4
    simpa (disch := omega) only [sI_wI, sI_wP, sI_wL, sI_wN, sP_wI, sP_wP, sP_wL, sP_wN, sL_wI, sL_wP, sL_wL, sL_wN, sX_wI, sX_wP, sX_wL, sX_wN, gI_uI, gI_uL, gL_uI, gL_uL, tk_ne9, tk_inj, nB_u, nM_u, nP_u, nO_u, hN_u, nLn_u, nOp_u, lnP_u, pc_u, kd_u, op_u, pr_u, mInSt_u, mProm_u, nInSt_u, nProm_u, totp_u, tot_u, nB_l, nM_l, nP_l, nO_l, hN_l, nLn_l, nOp_l, lnP_l, pc_l, kd_l, op_l, pr_l, mInSt_l, mProm_l, nInSt_l, nProm_l, totp_l, tot_l, if_false, if_true, false_and, and_false, Nat.reduceEqDiff, reduceIte, reduceCtorEq, and_true, true_and] using h9
  · have h9 := r_m5 R
    unfold Cm5
    simpa (disch := omega) only [sI_wI, sI_wP, sI_wL, sI_wN, sP_wI, sP_wP, sP_wL, sP_wN, sL_wI, sL_wP, sL_wL, sL_wN, sX_wI, sX_wP, sX_wL, sX_wN, gI_uI, gI_uL, gL_uI, gL_uL, tk_ne9, tk_inj, nB_u, nM_u, nP_u, nO_u, hN_u, nLn_u, nOp_u, lnP_u, pc_u, kd_u, op_u, pr_u, mInSt_u, mProm_u, nInSt_u, nProm_u, totp_u, tot_u, nB_l, nM_l, nP_l, nO_l, hN_l, nLn_l, nOp_l, lnP_l, pc_l, kd_l, op_l, pr_l, mInSt_l, mProm_l, nInSt_l, nProm_l, totp_l, tot_l, if_false, if_true, false_and, and_false, Nat.reduceEqDiff, reduceIte, reduceCtorEq, and_true, true_and] using h9
  · have h9 := r_m9 R
    unfold Cm9
    simpa (disch := omega) only [sI_wI, sI_wP, sI_wL, sI_wN, sP_wI, sP_wP, sP_wL, sP_wN, sL_wI, sL_wP, sL_wL, sL_wN, sX_wI, sX_wP, sX_wL, sX_wN, gI_uI, gI_uL, gL_uI, gL_uL, tk_ne9, tk_inj, nB_u, nM_u, nP_u, nO_u, hN_u, nLn_u, nOp_u, lnP_u, pc_u, kd_u, op_u, pr_u, mInSt_u, mProm_u, nInSt_u, nProm_u, totp_u, tot_u, nB_l, nM_l, nP_l, nO_l, hN_l, nLn_l, nOp_l, lnP_l, pc_l, kd_l, op_l, pr_l, mInSt_l, mProm_l, nInSt_l, nProm_l, totp_l, tot_l, if_false, if_true, false_and, and_false, Nat.reduceEqDiff, reduceIte, reduceCtorEq, and_true, true_and] using h9
  · have h9 := r_m11 R
    unfold Cm11
    simpa (disch := omega) only [sI_wI, sI_wP, sI_wL, sI_wN, sP_wI, sP_wP, sP_wL, sP_wN, sL_wI, sL_wP, sL_wL, sL_wN, sX_wI, sX_wP, sX_wL, sX_wN, gI_uI, gI_uL, gL_uI, gL_uL, tk_ne9, tk_inj, nB_u, nM_u, nP_u, nO_u, hN_u, nLn_u, nOp_u, lnP_u, pc_u, kd_u, op_u, pr_u, mInSt_u, mProm_u, nInSt_u, nProm_u, totp_u, tot_u, nB_l, nM_l, nP_l, nO_l, hN_l, nLn_l, nOp_l, lnP_l, pc_l, kd_l, op_l, pr_l, mInSt_l, mProm_l, nInSt_l, nProm_l, totp_l, tot_l, if_false, if_true, false_and, and_false, Nat.reduceEqDiff, reduceIte, reduceCtorEq, and_true, true_and] using h9
  · have h9 := r_m13 R
    unfold Cm13
    simpa (disch := omega) only [sI_wI, sI_wP, sI_wL, sI_wN, sP_wI, sP_wP, sP_wL, sP_wN, sL_wI, sL_wP, sL_wL, sL_wN, sX_wI, sX_wP, sX_wL, sX_wN, gI_uI, gI_uL, gL_uI, gL_uL, tk_ne9, tk_inj, nB_u, nM_u, nP_u, nO_u, hN_u, nLn_u, nOp_u, lnP_u, pc_u, kd_u, op_u, pr_u, mInSt_u, mProm_u, nInSt_u, nProm_u, totp_u, tot_u, nB_l, nM_l, nP_l, nO_l, hN_l, nLn_l, nOp_l, lnP_l, pc_l, kd_l, op_l, pr_l, mInSt_l, mProm_l, nInSt_l, nProm_l, totp_l, tot_l, if_false, if_true, false_and, and_false, Nat.reduceEqDiff, reduceIte, reduceCtorEq, and_true, true_and] using h9
  · have h9 := r_m14 R
    unfold Cm14
    simpa (disch := omega) only [sI_wI, sI_wP, sI_wL, sI_wN, sP_wI, sP_wP, sP_wL, sP_wN, sL_wI, sL_wP, sL_wL, sL_wN, sX_wI, sX_wP, sX_wL, sX_wN, gI_uI, gI_uL, gL_uI, gL_uL, tk_ne9, tk_inj, nB_u, nM_u, nP_u, nO_u, hN_u, nLn_u, nOp_u, lnP_u, pc_u, kd_u, op_u, pr_u, mInSt_u, mProm_u, nInSt_u, nProm_u, totp_u, tot_u, nB_l, nM_l, nP_l, nO_l, hN_l, nLn_l, nOp_l, lnP_l, pc_l, kd_l, op_l, pr_l, mInSt_l, mProm_l, nInSt_l, nProm_l, totp_l, tot_l, if_false, if_true, false_and, and_false, Nat.reduceEqDiff, reduceIte, reduceCtorEq, and_true, true_and] using h9
  · have h9 := r_m6 R
    unfold Cm6
    simpa (disch := omega) only [sI_wI, sI_wP, sI_wL, sI_wN, sP_wI, sP_wP, sP_wL, sP_wN, sL_wI, sL_wP, sL_wL, sL_wN, sX_wI, sX_wP, sX_wL, sX_wN, gI_uI, gI_uL, gL_uI, gL_uL, tk_ne9, tk_inj, nB_u, nM_u, nP_u, nO_u, hN_u, nLn_u, nOp_u, lnP_u, pc_u, kd_u, op_u, pr_u, mInSt_u, mProm_u, nInSt_u, nProm_u, totp_u, tot_u, nB_l, nM_l, nP_l, nO_l, hN_l, nLn_l, nOp_l, lnP_l, pc_l, kd_l, op_l, pr_l, mInSt_l, mProm_l, nInSt_l, nProm_l, totp_l, tot_l, if_false, if_true, false_and, and_false, Nat.reduceEqDiff, reduceIte, reduceCtorEq, and_true, true_and] using h9
  · have h9 := r_m7 R
    unfold Cm7
    simpa (disch := omega) only [sI_wI, sI_wP, sI_wL, sI_wN, sP_wI, sP_wP, sP_wL, sP_wN, sL_wI, sL_wP, sL_wL, sL_wN, sX_wI, sX_wP, sX_wL, sX_wN, gI_uI, gI_uL, gL_uI, gL_uL, tk_ne9, tk_inj, nB_u, nM_u, nP_u, nO_u, hN_u, nLn_u, nOp_u, lnP_u, pc_u, kd_u, op_u, pr_u, mInSt_u, mProm_u, nInSt_u, nProm_u, totp_u, tot_u, nB_l, nM_l, nP_l, nO_l, hN_l, nLn_l, nOp_l, lnP_l, pc_l, kd_l, op_l, pr_l, mInSt_l, mProm_l, nInSt_l, nProm_l, totp_l, tot_l, if_false, if_true, false_and, and_false, Nat.reduceEqDiff, reduceIte, reduceCtorEq, and_true, true_and] using h9
  · have h9 := r_m8 R
    unfold Cm8
    simpa (disch := omega) only [sI_wI, sI_wP, sI_wL, sI_wN, sP_wI, sP_wP, sP_wL, sP_wN, sL_wI, sL_wP, sL_wL, sL_wN, sX_wI, sX_wP, sX_wL, sX_wN, gI_uI, gI_uL, gL_uI, gL_uL, tk_ne9, tk_inj, nB_u, nM_u, nP_u, nO_u, hN_u, nLn_u, nOp_u, lnP_u, pc_u, kd_u, op_u, pr_u, mInSt_u, mProm_u, nInSt_u, nProm_u, totp_u, tot_u, nB_l, nM_l, nP_l, nO_l, hN_l, nLn_l, nOp_l, lnP_l, pc_l, kd_l, op_l, pr_l, mInSt_l, mProm_l, nInSt_l, nProm_l, totp_l, tot_l, if_false, if_true, false_and, and_false, Nat.reduceEqDiff, reduceIte, reduceCtorEq, and_true, true_and] using h9
  · have h9 := r_m12 R
    unfold Cm12
    simpa (disch := omega) only [sI_wI, sI_wP, sI_wL, sI_wN, sP_wI, sP_wP, sP_wL, sP_wN, sL_wI, sL_wP, sL_wL, sL_wN, sX_wI, sX_wP, sX_wL, sX_wN, gI_uI, gI_uL, gL_uI, gL_uL, tk_ne9, tk_inj, nB_u, nM_u, nP_u, nO_u, hN_u, nLn_u, nOp_u, lnP_u, pc_u, kd_u, op_u, pr_u, mInSt_u, mProm_u, nInSt_u, nProm_u, totp_u, tot_u, nB_l, nM_l, nP_l, nO_l, hN_l, nLn_l, nOp_l, lnP_l, pc_l, kd_l, op_l, pr_l, mInSt_l, mProm_l, nInSt_l, nProm_l, totp_l, tot_l, if_false, if_true, false_and, and_false, Nat.reduceEqDiff, reduceIte, reduceCtorEq, and_true, true_and] using h9
  · have h9 := r_m10 R
    unfold Cm10
    simpa (disch := omega) only [sI_wI, sI_wP, sI_wL, sI_wN, sP_wI, sP_wP, sP_wL, sP_wN, sL_wI, sL_wP, sL_wL, sL_wN, sX_wI, sX_wP, sX_wL, sX_wN, gI_uI, gI_uL, gL_uI, gL_uL, tk_ne9, tk_inj, nB_u, nM_u, nP_u, nO_u, hN_u, nLn_u, nOp_u, lnP_u, pc_u, kd_u, op_u, pr_u, mInSt_u, mProm_u, nInSt_u, nProm_u, totp_u, tot_u, nB_l, nM_l, nP_l, nO_l, hN_l, nLn_l, nOp_l, lnP_l, pc_l, kd_l, op_l, pr_l, mInSt_l, mProm_l, nInSt_l, nProm_l, totp_l, tot_l, if_false, if_true, false_and, and_false, Nat.reduceEqDiff, reduceIte, reduceCtorEq, and_true, true_and] using h9
  · have h9 := r_mma R
    unfold Cmma
    simpa (disch := omega) only [sI_wI, sI_wP, sI_wL, sI_wN, sP_wI, sP_wP, sP_wL, sP_wN, sL_wI, sL_wP, sL_wL, sL_wN, sX_wI, sX_wP, sX_wL, sX_wN, gI_uI, gI_uL, gL_uI, gL_uL, tk_ne9, tk_inj, nB_u, nM_u, nP_u, nO_u, hN_u, nLn_u, nOp_u, lnP_u, pc_u, kd_u, op_u, pr_u, mInSt_u, mProm_u, nInSt_u, nProm_u, totp_u, tot_u, nB_l, nM_l, nP_l, nO_l, hN_l, nLn_l, nOp_l, lnP_l, pc_l, kd_l, op_l, pr_l, mInSt_l, mProm_l, nInSt_l, nProm_l, totp_l, tot_l, if_false, if_true, false_and, and_false, Nat.reduceEqDiff, reduceIte, reduceCtorEq, and_true, true_and] using h9
  · have h9 := r_mmb R
    unfold Cmmb
    simpa (disch := omega) only [sI_wI, sI_wP, sI_wL, sI_wN, sP_wI, sP_wP, sP_wL, sP_wN, sL_wI, sL_wP, sL_wL, sL_wN, sX_wI, sX_wP, sX_wL, sX_wN, gI_uI, gI_uL, gL_uI, gL_uL, tk_ne9, tk_inj, nB_u, nM_u, nP_u, nO_u, hN_u, nLn_u, nOp_u, lnP_u, pc_u, kd_u, op_u, pr_u, mInSt_u, mProm_u, nInSt_u, nProm_u, totp_u, tot_u, nB_l, nM_l, nP_l, nO_l, hN_l, nLn_l, nOp_l, lnP_l, pc_l, kd_l, op_l, pr_l, mInSt_l, mProm_l, nInSt_l, nProm_l, totp_l, tot_l, if_false, if_true, false_and, and_false, Nat.reduceEqDiff, reduceIte, reduceCtorEq, and_true, true_and] using h9
  · have h9 := r_mmc R
    unfold Cmmc
    simpa (disch := omega) only [sI_wI, sI_wP, sI_wL, sI_wN, sP_wI, sP_wP, sP_wL, sP_wN, sL_wI, sL_wP, sL_wL, sL_wN, sX_wI, sX_wP, sX_wL, sX_wN, gI_uI, gI_uL, gL_uI, gL_uL, tk_ne9, tk_inj, nB_u, nM_u, nP_u, nO_u, hN_u, nLn_u, nOp_u, lnP_u, pc_u, kd_u, op_u, pr_u, mInSt_u, mProm_u, nInSt_u, nProm_u, totp_u, tot_u, nB_l, nM_l, nP_l, nO_l, hN_l, nLn_l, nOp_l, lnP_l, pc_l, kd_l, op_l, pr_l, mInSt_l, mProm_l, nInSt_l, nProm_l, totp_l, tot_l, if_false, if_true, false_and, and_false, Nat.reduceEqDiff, reduceIte, reduceCtorEq, and_true, true_and] using h9
  · have h9 := r_mr29 R
    unfold Cmr29
    simpa (disch := omega) only [sI_wI, sI_wP, sI_wL, sI_wN, sP_wI, sP_wP, sP_wL, sP_wN, sL_wI, sL_wP, sL_wL, sL_wN, sX_wI, sX_wP, sX_wL, sX_wN, gI_uI, gI_uL, gL_uI, gL_uL, tk_ne9, tk_inj, nB_u, nM_u, nP_u, nO_u, hN_u, nLn_u, nOp_u, lnP_u, pc_u, kd_u, op_u, pr_u, mInSt_u, mProm_u, nInSt_u, nProm_u, totp_u, tot_u, nB_l, nM_l, nP_l, nO_l, hN_l, nLn_l, nOp_l, lnP_l, pc_l, kd_l, op_l, pr_l, mInSt_l, mProm_l, nInSt_l, nProm_l, totp_l, tot_l, if_false, if_true, false_and, and_false, Nat.reduceEqDiff, reduceIte, reduceCtorEq, and_true, true_and] using h9
  · have h9 := r_mr30 R
    unfold Cmr30
    simpa (disch := omega) only [sI_wI, sI_wP, sI_wL, sI_wN, sP_wI, sP_wP, sP_wL, sP_wN, sL_wI, sL_wP, sL_wL, sL_wN, sX_wI, sX_wP, sX_wL, sX_wN, gI_uI, gI_uL, gL_uI, gL_uL, tk_ne9, tk_inj, nB_u, nM_u, nP_u, nO_u, hN_u, nLn_u, nOp_u, lnP_u, pc_u, kd_u, op_u, pr_u, mInSt_u, mProm_u, nInSt_u, nProm_u, totp_u, tot_u, nB_l, nM_l, nP_l, nO_l, hN_l, nLn_l, nOp_l, lnP_l, pc_l, kd_l, op_l, pr_l, mInSt_l, mProm_l, nInSt_l, nProm_l, totp_l, tot_l, if_false, if_true, false_and, and_false, Nat.reduceEqDiff, reduceIte, reduceCtorEq, and_true, true_and] using h9
  · have h9 := r_mr31 R
    unfold Cmr31
    simpa (disch := omega) only [sI_wI, sI_wP, sI_wL, sI_wN, sP_wI, sP_wP, sP_wL, sP_wN, sL_wI, sL_wP, sL_wL, sL_wN, sX_wI, sX_wP, sX_wL, sX_wN, gI_uI, gI_uL, gL_uI, gL_uL, tk_ne9, tk_inj, nB_u, nM_u, nP_u, nO_u, hN_u, nLn_u, nOp_u, lnP_u, pc_u, kd_u, op_u, pr_u, mInSt_u, mProm_u, nInSt_u, nProm_u, totp_u, tot_u, nB_l, nM_l, nP_l, nO_l, hN_l, nLn_l, nOp_l, lnP_l, pc_l, kd_l, op_l, pr_l, mInSt_l, mProm_l, nInSt_l, nProm_l, totp_l, tot_l, if_false, if_true, false_and, and_false, Nat.reduceEqDiff, reduceIte, reduceCtorEq, and_true, true_and] using h9
  · have h9 := r_mr32 R
    unfold Cmr32
    simpa (disch := omega) only [sI_wI, sI_wP, sI_wL, sI_wN, sP_wI, sP_wP, sP_wL, sP_wN, sL_wI, sL_wP, sL_wL, sL_wN, sX_wI, sX_wP, sX_wL, sX_wN, gI_uI, gI_uL, gL_uI, gL_uL, tk_ne9, tk_inj, nB_u, nM_u, nP_u, nO_u, hN_u, nLn_u, nOp_u, lnP_u, pc_u, kd_u, op_u, pr_u, mInSt_u, mProm_u, nInSt_u, nProm_u, totp_u, tot_u, nB_l, nM_l, nP_l, nO_l, hN_l, nLn_l, nOp_l, lnP_l, pc_l, kd_l, op_l, pr_l, mInSt_l, mProm_l, nInSt_l, nProm_l, totp_l, tot_l, if_false, if_true, false_and, and_false, Nat.reduceEqDiff, reduceIte, reduceCtorEq, and_true, true_and] using h9
  · have h9 := r_mr35 R
    unfold Cmr35
    simpa (disch := omega) only [sI_wI, sI_wP, sI_wL, sI_wN, sP_wI, sP_wP, sP_wL, sP_wN, sL_wI, sL_wP, sL_wL, sL_wN, sX_wI, sX_wP, sX_wL, sX_wN, gI_uI, gI_uL, gL_uI, gL_uL, tk_ne9, tk_inj, nB_u, nM_u, nP_u, nO_u, hN_u, nLn_u, nOp_u, lnP_u, pc_u, kd_u, op_u, pr_u, mInSt_u, mProm_u, nInSt_u, nProm_u, totp_u, tot_u, nB_l, nM_l, nP_l, nO_l, hN_l, nLn_l, nOp_l, lnP_l, pc_l, kd_l, op_l, pr_l, mInSt_l, mProm_l, nInSt_l, nProm_l, totp_l, tot_l, if_false, if_true, false_and, and_false, Nat.reduceEqDiff, reduceIte, reduceCtorEq, and_true, true_and] using h9
  · have h9 := r_mr39 R
    unfold Cmr39
    simpa (disch := omega) only [sI_wI, sI_wP, sI_wL, sI_wN, sP_wI, sP_wP, sP_wL, sP_wN, sL_wI, sL_wP, sL_wL, sL_wN, sX_wI, sX_wP, sX_wL, sX_wN, gI_uI, gI_uL, gL_uI, gL_uL, tk_ne9, tk_inj, nB_u, nM_u, nP_u, nO_u, hN_u, nLn_u, nOp_u, lnP_u, pc_u, kd_u, op_u, pr_u, mInSt_u, mProm_u, nInSt_u, nProm_u, totp_u, tot_u, nB_l, nM_l, nP_l, nO_l, hN_l, nLn_l, nOp_l, lnP_l, pc_l, kd_l, op_l, pr_l, mInSt_l, mProm_l, nInSt_l, nProm_l, totp_l, tot_l, if_false, if_true, false_and, and_false, Nat.reduceEqDiff, reduceIte, reduceCtorEq, and_true, true_and] using h9
  · have h9 := r_mr40 R
    unfold Cmr40
    simpa (disch := omega) only [sI_wI, sI_wP, sI_wL, sI_wN, sP_wI, sP_wP, sP_wL, sP_wN, sL_wI, sL_wP, sL_wL, sL_wN, sX_wI, sX_wP, sX_wL, sX_wN, gI_uI, gI_uL, gL_uI, gL_uL, tk_ne9, tk_inj, nB_u, nM_u, nP_u, nO_u, hN_u, nLn_u, nOp_u, lnP_u, pc_u, kd_u, op_u, pr_u, mInSt_u, mProm_u, nInSt_u, nProm_u, totp_u, tot_u, nB_l, nM_l, nP_l, nO_l, hN_l, nLn_l, nOp_l, lnP_l, pc_l, kd_l, op_l, pr_l, mInSt_l, mProm_l, nInSt_l, nProm_l, totp_l, tot_l, if_false, if_true, false_and, and_false, Nat.reduceEqDiff, reduceIte, reduceCtorEq, and_true, true_and] using h9
  · have h9 := r_md R
    unfold Cmd
    simpa (disch := omega) only [sI_wI, sI_wP, sI_wL, sI_wN, sP_wI, sP_wP, sP_wL, sP_wN, sL_wI, sL_wP, sL_wL, sL_wN, sX_wI, sX_wP, sX_wL, sX_wN, gI_uI, gI_uL, gL_uI, gL_uL, tk_ne9, tk_inj, nB_u, nM_u, nP_u, nO_u, hN_u, nLn_u, nOp_u, lnP_u, pc_u, kd_u, op_u, pr_u, mInSt_u, mProm_u, nInSt_u, nProm_u, totp_u, tot_u, nB_l, nM_l, nP_l, nO_l, hN_l, nLn_l, nOp_l, lnP_l, pc_l, kd_l, op_l, pr_l, mInSt_l, mProm_l, nInSt_l, nProm_l, totp_l, tot_l, if_false, if_true, false_and, and_false, Nat.reduceEqDiff, reduceIte, reduceCtorEq, and_true, true_and] using h9
  · have h9 := r_mw R
    unfold Cmw
    simpa (disch := omega) only [sI_wI, sI_wP, sI_wL, sI_wN, sP_wI, sP_wP, sP_wL, sP_wN, sL_wI, sL_wP, sL_wL, sL_wN, sX_wI, sX_wP, sX_wL, sX_wN, gI_uI, gI_uL, gL_uI, gL_uL, tk_ne9, tk_inj, nB_u, nM_u, nP_u, nO_u, hN_u, nLn_u, nOp_u, lnP_u, pc_u, kd_u, op_u, pr_u, mInSt_u, mProm_u, nInSt_u, nProm_u, totp_u, tot_u, nB_l, nM_l, nP_l, nO_l, hN_l, nLn_l, nOp_l, lnP_l, pc_l, kd_l, op_l, pr_l, mInSt_l, mProm_l, nInSt_l, nProm_l, totp_l, tot_l, if_false, if_true, false_and, and_false, Nat.reduceEqDiff, reduceIte, reduceCtorEq, and_true, true_and] using h9
  · have h9 := r_q0 R
    unfold Cq0
    simpa (disch := omega) only [sI_wI, sI_wP, sI_wL, sI_wN, sP_wI, sP_wP, sP_wL, sP_wN, sL_wI, sL_wP, sL_wL, sL_wN, sX_wI, sX_wP, sX_wL, sX_wN, gI_uI, gI_uL, gL_uI, gL_uL, tk_ne9, tk_inj, nB_u, nM_u, nP_u, nO_u, hN_u, nLn_u, nOp_u, lnP_u, pc_u, kd_u, op_u, pr_u, mInSt_u, mProm_u, nInSt_u, nProm_u, totp_u, tot_u, nB_l, nM_l, nP_l, nO_l, hN_l, nLn_l, nOp_l, lnP_l, pc_l, kd_l, op_l, pr_l, mInSt_l, mProm_l, nInSt_l, nProm_l, totp_l, tot_l, if_false, if_true, false_and, and_false, Nat.reduceEqDiff, reduceIte, reduceCtorEq, and_true, true_and] using h9
  · have h9 := r_qn R
    unfold Cqn
    simpa (disch := omega) only [sI_wI, sI_wP, sI_wL, sI_wN, sP_wI, sP_wP, sP_wL, sP_wN, sL_wI, sL_wP, sL_wL, sL_wN, sX_wI, sX_wP, sX_wL, sX_wN, gI_uI, gI_uL, gL_uI, gL_uL, tk_ne9, tk_inj, nB_u, nM_u, nP_u, nO_u, hN_u, nLn_u, nOp_u, lnP_u, pc_u, kd_u, op_u, pr_u, mInSt_u, mProm_u, nInSt_u, nProm_u, totp_u, tot_u, nB_l, nM_l, nP_l, nO_l, hN_l, nLn_l, nOp_l, lnP_l, pc_l, kd_l, op_l, pr_l, mInSt_l, mProm_l, nInSt_l, nProm_l, totp_l, tot_l, if_false, if_true, false_and, and_false, Nat.reduceEqDiff, reduceIte, reduceCtorEq, and_true, true_and] using h9
  · have h9 := r_q1 R
    unfold Cq1
    simpa (disch := omega) only [sI_wI, sI_wP, sI_wL, sI_wN, sP_wI, sP_wP, sP_wL, sP_wN, sL_wI, sL_wP, sL_wL, sL_wN, sX_wI, sX_wP, sX_wL, sX_wN, gI_uI, gI_uL, gL_uI, gL_uL, tk_ne9, tk_inj, nB_u, nM_u, nP_u, nO_u, hN_u, nLn_u, nOp_u, lnP_u, pc_u, kd_u, op_u, pr_u, mInSt_u, mProm_u, nInSt_u, nProm_u, totp_u, tot_u, nB_l, nM_l, nP_l, nO_l, hN_l, nLn_l, nOp_l, lnP_l, pc_l, kd_l, op_l, pr_l, mInSt_l, mProm_l, nInSt_l, nProm_l, totp_l, tot_l, if_false, if_true, false_and, and_false, Nat.reduceEqDiff, reduceIte, reduceCtorEq, and_true, true_and] using h9
  · have h9 := r_q2 R
    unfold Cq2
    simpa (disch := omega) only [sI_wI, sI_wP, sI_wL, sI_wN, sP_wI, sP_wP, sP_wL, sP_wN, sL_wI, sL_wP, sL_wL, sL_wN, sX_wI, sX_wP, sX_wL, sX_wN, gI_uI, gI_uL, gL_uI, gL_uL, tk_ne9, tk_inj, nB_u, nM_u, nP_u, nO_u, hN_u, nLn_u, nOp_u, lnP_u, pc_u, kd_u, op_u, pr_u, mInSt_u, mProm_u, nInSt_u, nProm_u, totp_u, tot_u, nB_l, nM_l, nP_l, nO_l, hN_l, nLn_l, nOp_l, lnP_l, pc_l, kd_l, op_l, pr_l, mInSt_l, mProm_l, nInSt_l, nProm_l, totp_l, tot_l, if_false, if_true, false_and, and_false, Nat.reduceEqDiff, reduceIte, reduceCtorEq, and_true, true_and] using h9
  · have h9 := r_q3 R
    unfold Cq3
    simpa (disch := omega) only [sI_wI, sI_wP, sI_wL, sI_wN, sP_wI, sP_wP, sP_wL, sP_wN, sL_wI, sL_wP, sL_wL, sL_wN, sX_wI, sX_wP, sX_wL, sX_wN, gI_uI, gI_uL, gL_uI, gL_uL, tk_ne9, tk_inj, nB_u, nM_u, nP_u, nO_u, hN_u, nLn_u, nOp_u, lnP_u, pc_u, kd_u, op_u, pr_u, mInSt_u, mProm_u, nInSt_u, nProm_u, totp_u, tot_u, nB_l, nM_l, nP_l, nO_l, hN_l, nLn_l, nOp_l, lnP_l, pc_l, kd_l, op_l, pr_l, mInSt_l, mProm_l, nInSt_l, nProm_l, totp_l, tot_l, if_false, if_true, false_and, and_false, Nat.reduceEqDiff, reduceIte, reduceCtorEq, and_true, true_and] using h9
  · have h9 := r_q4 R
    unfold Cq4
    simpa (disch := omega) only [sI_wI, sI_wP, sI_wL, sI_wN, sP_wI, sP_wP, sP_wL, sP_wN, sL_wI, sL_wP, sL_wL, sL_wN, sX_wI, sX_wP, sX_wL, sX_wN, gI_uI, gI_uL, gL_uI, gL_uL, tk_ne9, tk_inj, nB_u, nM_u, nP_u, nO_u, hN_u, nLn_u, nOp_u, lnP_u, pc_u, kd_u, op_u, pr_u, mInSt_u, mProm_u, nInSt_u, nProm_u, totp_u, tot_u, nB_l, nM_l, nP_l, nO_l, hN_l, nLn_l, nOp_l, lnP_l, pc_l, kd_l, op_l, pr_l, mInSt_l, mProm_l, nInSt_l, nProm_l, totp_l, tot_l, if_false, if_true, false_and, and_false, Nat.reduceEqDiff, reduceIte, reduceCtorEq, and_true, true_and] using h9
  · have h9 := r_q5 R
    unfold Cq5
    simpa (disch := omega) only [sI_wI, sI_wP, sI_wL, sI_wN, sP_wI, sP_wP, sP_wL, sP_wN, sL_wI, sL_wP, sL_wL, sL_wN, sX_wI, sX_wP, sX_wL, sX_wN, gI_uI, gI_uL, gL_uI, gL_uL, tk_ne9, tk_inj, nB_u, nM_u, nP_u, nO_u, hN_u, nLn_u, nOp_u, lnP_u, pc_u, kd_u, op_u, pr_u, mInSt_u, mProm_u, nInSt_u, nProm_u, totp_u, tot_u, nB_l, nM_l, nP_l, nO_l, hN_l, nLn_l, nOp_l, lnP_l, pc_l, kd_l, op_l, pr_l, mInSt_l, mProm_l, nInSt_l, nProm_l, totp_l, tot_l, if_false, if_true, false_and, and_false, Nat.reduceEqDiff, reduceIte, reduceCtorEq, and_true, true_and] using h9
  · have h9 := r_q6 R
    unfold Cq6
    simpa (disch := omega) only [sI_wI, sI_wP, sI_wL, sI_wN, sP_wI, sP_wP, sP_wL, sP_wN, sL_wI, sL_wP, sL_wL, sL_wN, sX_wI, sX_wP, sX_wL, sX_wN, gI_uI, gI_uL, gL_uI, gL_uL, tk_ne9, tk_inj, nB_u, nM_u, nP_u, nO_u, hN_u, nLn_u, nOp_u, lnP_u, pc_u, kd_u, op_u, pr_u, mInSt_u, mProm_u, nInSt_u, nProm_u, totp_u, tot_u, nB_l, nM_l, nP_l, nO_l, hN_l, nLn_l, nOp_l, lnP_l, pc_l, kd_l, op_l, pr_l, mInSt_l, mProm_l, nInSt_l, nProm_l, totp_l, tot_l, if_false, if_true, false_and, and_false, Nat.reduceEqDiff, reduceIte, reduceCtorEq, and_true, true_and] using h9
  · have h9 := r_ql R
    unfold Cql
    simpa (disch := omega) only [sI_wI, sI_wP, sI_wL, sI_wN, sP_wI, sP_wP, sP_wL, sP_wN, sL_wI, sL_wP, sL_wL, sL_wN, sX_wI, sX_wP, sX_wL, sX_wN, gI_uI, gI_uL, gL_uI, gL_uL, tk_ne9, tk_inj, nB_u, nM_u, nP_u, nO_u, hN_u, nLn_u, nOp_u, lnP_u, pc_u, kd_u, op_u, pr_u, mInSt_u, mProm_u, nInSt_u, nProm_u, totp_u, tot_u, nB_l, nM_l, nP_l, nO_l, hN_l, nLn_l, nOp_l, lnP_l, pc_l, kd_l, op_l, pr_l, mInSt_l, mProm_l, nInSt_l, nProm_l, totp_l, tot_l, if_false, if_true, false_and, and_false, Nat.reduceEqDiff, reduceIte, reduceCtorEq, and_true, true_and] using h9
  · have h9 := r_qw R
    unfold Cqw
    simpa (disch := omega) only [sI_wI, sI_wP, sI_wL, sI_wN, sP_wI, sP_wP, sP_wL, sP_wN, sL_wI, sL_wP, sL_wL, sL_wN, sX_wI, sX_wP, sX_wL, sX_wN, gI_uI, gI_uL, gL_uI, gL_uL, tk_ne9, tk_inj, nB_u, nM_u, nP_u, nO_u, hN_u, nLn_u, nOp_u, lnP_u, pc_u, kd_u, op_u, pr_u, mInSt_u, mProm_u, nInSt_u, nProm_u, totp_u, tot_u, nB_l, nM_l, nP_l, nO_l, hN_l, nLn_l, nOp_l, lnP_l, pc_l, kd_l, op_l, pr_l, mInSt_l, mProm_l, nInSt_l, nProm_l, totp_l, tot_l, if_false, if_true, false_and, and_false, Nat.reduceEqDiff, reduceIte, reduceCtorEq, and_true, true_and] using h9
  · have h9 := r_qm R
    unfold Cqm
    simpa (disch := omega) only [sI_wI, sI_wP, sI_wL, sI_wN, sP_wI, sP_wP, sP_wL, sP_wN, sL_wI, sL_wP, sL_wL, sL_wN, sX_wI, sX_wP, sX_wL, sX_wN, gI_uI, gI_uL, gL_uI, gL_uL, tk_ne9, tk_inj, nB_u, nM_u, nP_u, nO_u, hN_u, nLn_u, nOp_u, lnP_u, pc_u, kd_u, op_u, pr_u, mInSt_u, mProm_u, nInSt_u, nProm_u, totp_u, tot_u, nB_l, nM_l, nP_l, nO_l, hN_l, nLn_l, nOp_l, lnP_l, pc_l, kd_l, op_l, pr_l, mInSt_l, mProm_l, nInSt_l, nProm_l, totp_l, tot_l, if_false, if_true, false_and, and_false, Nat.reduceEqDiff, reduceIte, reduceCtorEq, and_true, true_and] using h9
  · have h9 := r_qr R
    unfold Cqr
    simpa (disch := omega) only [sI_wI, sI_wP, sI_wL, sI_wN, sP_wI, sP_wP, sP_wL, sP_wN, sL_wI, sL_wP, sL_wL, sL_wN, sX_wI, sX_wP, sX_wL, sX_wN, gI_uI, gI_uL, gL_uI, gL_uL, tk_ne9, tk_inj, nB_u, nM_u, nP_u, nO_u, hN_u, nLn_u, nOp_u, lnP_u, pc_u, kd_u, op_u, pr_u, mInSt_u, mProm_u, nInSt_u, nProm_u, totp_u, tot_u, nB_l, nM_l, nP_l, nO_l, hN_l, nLn_l, nOp_l, lnP_l, pc_l, kd_l, op_l, pr_l, mInSt_l, mProm_l, nInSt_l, nProm_l, totp_l, tot_l, if_false, if_true, false_and, and_false, Nat.reduceEqDiff, reduceIte, reduceCtorEq, and_true, true_and] using h9
  · have h9 := r_r0 R
    unfold Cr0
    simpa (disch := omega) only [sI_wI, sI_wP, sI_wL, sI_wN, sP_wI, sP_wP, sP_wL, sP_wN, sL_wI, sL_wP, sL_wL, sL_wN, sX_wI, sX_wP, sX_wL, sX_wN, gI_uI, gI_uL, gL_uI, gL_uL, tk_ne9, tk_inj, nB_u, nM_u, nP_u, nO_u, hN_u, nLn_u, nOp_u, lnP_u, pc_u, kd_u, op_u, pr_u, mInSt_u, mProm_u, nInSt_u, nProm_u, totp_u, tot_u, nB_l, nM_l, nP_l, nO_l, hN_l, nLn_l, nOp_l, lnP_l, pc_l, kd_l, op_l, pr_l, mInSt_l, mProm_l, nInSt_l, nProm_l, totp_l, tot_l, if_false, if_true, false_and, and_false, Nat.reduceEqDiff, reduceIte, reduceCtorEq, and_true, true_and] using h9
  · have h9 := r_r1 R
    unfold Cr1
    simpa (disch := omega) only [sI_wI, sI_wP, sI_wL, sI_wN, sP_wI, sP_wP, sP_wL, sP_wN, sL_wI, sL_wP, sL_wL, sL_wN, sX_wI, sX_wP, sX_wL, sX_wN, gI_uI, gI_uL, gL_uI, gL_uL, tk_ne9, tk_inj, nB_u, nM_u, nP_u, nO_u, hN_u, nLn_u, nOp_u, lnP_u, pc_u, kd_u, op_u, pr_u, mInSt_u, mProm_u, nInSt_u, nProm_u, totp_u, tot_u, nB_l, nM_l, nP_l, nO_l, hN_l, nLn_l, nOp_l, lnP_l, pc_l, kd_l, op_l, pr_l, mInSt_l, mProm_l, nInSt_l, nProm_l, totp_l, tot_l, if_false, if_true, false_and, and_false, Nat.reduceEqDiff, reduceIte, reduceCtorEq, and_true, true_and] using h9
  · have h9 := r_r2 R
    unfold Cr2
    simpa (disch := omega) only [sI_wI, sI_wP, sI_wL, sI_wN, sP_wI, sP_wP, sP_wL, sP_wN, sL_wI, sL_wP, sL_wL, sL_wN, sX_wI, sX_wP, sX_wL, sX_wN, gI_uI, gI_uL, gL_uI, gL_uL, tk_ne9, tk_inj, nB_u, nM_u, nP_u, nO_u, hN_u, nLn_u, nOp_u, lnP_u, pc_u, kd_u, op_u, pr_u, mInSt_u, mProm_u, nInSt_u, nProm_u, totp_u, tot_u, nB_l, nM_l, nP_l, nO_l, hN_l, nLn_l, nOp_l, lnP_l, pc_l, kd_l, op_l, pr_l, mInSt_l, mProm_l, nInSt_l, nProm_l, totp_l, tot_l, if_false, if_true, false_and, and_false, Nat.reduceEqDiff, reduceIte, reduceCtorEq, and_true, true_and] using h9
  · have h9 := r_r3 R
    unfold Cr3
    simpa (disch := omega) only [sI_wI, sI_wP, sI_wL, sI_wN, sP_wI, sP_wP, sP_wL, sP_wN, sL_wI, sL_wP, sL_wL, sL_wN, sX_wI, sX_wP, sX_wL, sX_wN, gI_uI, gI_uL, gL_uI, gL_uL, tk_ne9, tk_inj, nB_u, nM_u, nP_u, nO_u, hN_u, nLn_u, nOp_u, lnP_u, pc_u, kd_u, op_u, pr_u, mInSt_u, mProm_u, nInSt_u, nProm_u, totp_u, tot_u, nB_l, nM_l, nP_l, nO_l, hN_l, nLn_l, nOp_l, lnP_l, pc_l, kd_l, op_l, pr_l, mInSt_l, mProm_l, nInSt_l, nProm_l, totp_l, tot_l, if_false, if_true, false_and, and_false, Nat.reduceEqDiff, reduceIte, reduceCtorEq, and_true, true_and] using h9
  · have h9 := r_r4 R
    unfold Cr4
    simpa (disch := omega) only [sI_wI, sI_wP, sI_wL, sI_wN, sP_wI, sP_wP, sP_wL, sP_wN, sL_wI, sL_wP, sL_wL, sL_wN, sX_wI, sX_wP, sX_wL, sX_wN, gI_uI, gI_uL, gL_uI, gL_uL, tk_ne9, tk_inj, nB_u, nM_u, nP_u, nO_u, hN_u, nLn_u, nOp_u, lnP_u, pc_u, kd_u, op_u, pr_u, mInSt_u, mProm_u, nInSt_u, nProm_u, totp_u, tot_u, nB_l, nM_l, nP_l, nO_l, hN_l, nLn_l, nOp_l, lnP_l, pc_l, kd_l, op_l, pr_l, mInSt_l, mProm_l, nInSt_l, nProm_l, totp_l, tot_l, if_false, if_true, false_and, and_false, Nat.reduceEqDiff, reduceIte, reduceCtorEq, and_true, true_and] using h9
  · have h9 := r_r5 R
    unfold Cr5
    simpa (disch := omega) only [sI_wI, sI_wP, sI_wL, sI_wN, sP_wI, sP_wP, sP_wL, sP_wN, sL_wI, sL_wP, sL_wL, sL_wN, sX_wI, sX_wP, sX_wL, sX_wN, gI_uI, gI_uL, gL_uI, gL_uL, tk_ne9, tk_inj, nB_u, nM_u, nP_u, nO_u, hN_u, nLn_u, nOp_u, lnP_u, pc_u, kd_u, op_u, pr_u, mInSt_u, mProm_u, nInSt_u, nProm_u, totp_u, tot_u, nB_l, nM_l, nP_l, nO_l, hN_l, nLn_l, nOp_l, lnP_l, pc_l, kd_l, op_l, pr_l, mInSt_l, mProm_l, nInSt_l, nProm_l, totp_l, tot_l, if_false, if_true, false_and, and_false, Nat.reduceEqDiff, reduceIte, reduceCtorEq, and_true, true_and] using h9
  · have h9 := r_r6 R
    unfold Cr6
    simpa (disch := omega) only [sI_wI, sI_wP, sI_wL, sI_wN, sP_wI, sP_wP, sP_wL, sP_wN, sL_wI, sL_wP, sL_wL, sL_wN, sX_wI, sX_wP, sX_wL, sX_wN, gI_uI, gI_uL, gL_uI, gL_uL, tk_ne9, tk_inj, nB_u, nM_u, nP_u, nO_u, hN_u, nLn_u, nOp_u, lnP_u, pc_u, kd_u, op_u, pr_u, mInSt_u, mProm_u, nInSt_u, nProm_u, totp_u, tot_u, nB_l, nM_l, nP_l, nO_l, hN_l, nLn_l, nOp_l, lnP_l, pc_l, kd_l, op_l, pr_l, mInSt_l, mProm_l, nInSt_l, nProm_l, totp_l, tot_l, if_false, if_true, false_and, and_false, Nat.reduceEqDiff, reduceIte, reduceCtorEq, and_true, true_and] using h9
  · have h9 := r_rk R
    unfold Crk
    simpa (disch := omega) only [sI_wI, sI_wP, sI_wL, sI_wN, sP_wI, sP_wP, sP_wL, sP_wN, sL_wI, sL_wP, sL_wL, sL_wN, sX_wI, sX_wP, sX_wL, sX_wN, gI_uI, gI_uL, gL_uI, gL_uL, tk_ne9, tk_inj, nB_u, nM_u, nP_u, nO_u, hN_u, nLn_u, nOp_u, lnP_u, pc_u, kd_u, op_u, pr_u, mInSt_u, mProm_u, nInSt_u, nProm_u, totp_u, tot_u, nB_l, nM_l, nP_l, nO_l, hN_l, nLn_l, nOp_l, lnP_l, pc_l, kd_l, op_l, pr_l, mInSt_l, mProm_l, nInSt_l, nProm_l, totp_l, tot_l, if_false, if_true, false_and, and_false, Nat.reduceEqDiff, reduceIte, reduceCtorEq, and_true, true_and] using h9
  · have h9 := r_rp R
    unfold Crp
    simpa (disch := omega) only [sI_wI, sI_wP, sI_wL, sI_wN, sP_wI, sP_wP, sP_wL, sP_wN, sL_wI, sL_wP, sL_wL, sL_wN, sX_wI, sX_wP, sX_wL, sX_wN, gI_uI, gI_uL, gL_uI, gL_uL, tk_ne9, tk_inj, nB_u, nM_u, nP_u, nO_u, hN_u, nLn_u, nOp_u, lnP_u, pc_u, kd_u, op_u, pr_u, mInSt_u, mProm_u, nInSt_u, nProm_u, totp_u, tot_u, nB_l, nM_l, nP_l, nO_l, hN_l, nLn_l, nOp_l, lnP_l, pc_l, kd_l, op_l, pr_l, mInSt_l, mProm_l, nInSt_l, nProm_l, totp_l, tot_l, if_false, if_true, false_and, and_false, Nat.reduceEqDiff, reduceIte, reduceCtorEq, and_true, true_and] using h9
  · have h9 := r_rq R
    unfold Crq
    simpa (disch := omega) only [sI_wI, sI_wP, sI_wL, sI_wN, sP_wI, sP_wP, sP_wL, sP_wN, sL_wI, sL_wP, sL_wL, sL_wN, sX_wI, sX_wP, sX_wL, sX_wN, gI_uI, gI_uL, gL_uI, gL_uL, tk_ne9, tk_inj, nB_u, nM_u, nP_u, nO_u, hN_u, nLn_u, nOp_u, lnP_u, pc_u, kd_u, op_u, pr_u, mInSt_u, mProm_u, nInSt_u, nProm_u, totp_u, tot_u, nB_l, nM_l, nP_l, nO_l, hN_l, nLn_l, nOp_l, lnP_l, pc_l, kd_l, op_l, pr_l, mInSt_l, mProm_l, nInSt_l, nProm_l, totp_l, tot_l, if_false, if_true, false_and, and_false, Nat.reduceEqDiff, reduceIte, reduceCtorEq, and_true, true_and] using h9
  · have h9 := r_rr R
    unfold Crr
    simpa (disch := omega) only [sI_wI, sI_wP, sI_wL, sI_wN, sP_wI, sP_wP, sP_wL, sP_wN, sL_wI, sL_wP, sL_wL, sL_wN, sX_wI, sX_wP, sX_wL, sX_wN, gI_uI, gI_uL, gL_uI, gL_uL, tk_ne9, tk_inj, nB_u, nM_u, nP_u, nO_u, hN_u, nLn_u, nOp_u, lnP_u, pc_u, kd_u, op_u, pr_u, mInSt_u, mProm_u, nInSt_u, nProm_u, totp_u, tot_u, nB_l, nM_l, nP_l, nO_l, hN_l, nLn_l, nOp_l, lnP_l, pc_l, kd_l, op_l, pr_l, mInSt_l, mProm_l, nInSt_l, nProm_l, totp_l, tot_l, if_false, if_true, false_and, and_false, Nat.reduceEqDiff, reduceIte, reduceCtorEq, and_true, true_and] using h9
  · have h9 := r_rs R
    unfold Crs
    simpa (disch := omega) only [sI_wI, sI_wP, sI_wL, sI_wN, sP_wI, sP_wP, sP_wL, sP_wN, sL_wI, sL_wP, sL_wL, sL_wN, sX_wI, sX_wP, sX_wL, sX_wN, gI_uI, gI_uL, gL_uI, gL_uL, tk_ne9, tk_inj, nB_u, nM_u, nP_u, nO_u, hN_u, nLn_u, nOp_u, lnP_u, pc_u, kd_u, op_u, pr_u, mInSt_u, mProm_u, nInSt_u, nProm_u, totp_u, tot_u, nB_l, nM_l, nP_l, nO_l, hN_l, nLn_l, nOp_l, lnP_l, pc_l, kd_l, op_l, pr_l, mInSt_l, mProm_l, nInSt_l, nProm_l, totp_l, tot_l, if_false, if_true, false_and, and_false, Nat.reduceEqDiff, reduceIte, reduceCtorEq, and_true, true_and] using h9
set_option maxHeartbeats 4000000 in
theorem rel_setStore {e : Nat} {a : Sg} {M : MS} (R : Rel e a M) (k : Nat) (hk : k < 12) (v : Int32) : Rel e (wI a (tk 2 k) 8 v) (uI M 11 k v) := by
  unfold Rel
  refine ⟨?_, ?_, ?_, ?_, ?_, ?_, ?_, ?_, ?_, ?_, ?_, ?_, ?_, ?_, ?_, ?_, ?_, ?_, ?_, ?_, ?_, ?_, ?_, ?_, ?_, ?_, ?_, ?_, ?_, ?_, ?_, ?_, ?_, ?_, ?_, ?_, ?_, ?_, ?_, ?_, ?_, ?_, ?_, ?_, ?_, ?_, ?_, ?_, ?_, ?_, ?_, ?_, ?_, ?_, ?_, ?_, ?_, ?_, ?_, ?_, ?_, ?_, ?_, ?_, ?_, ?_, ?_, ?_, ?_, ?_, ?_, ?_, ?_, ?_, ?_, ?_, ?_, ?_, ?_, ?_, ?_, ?_, ?_, ?_, ?_, ?_, ?_, ?_, ?_, ?_, ?_, ?_, ?_, ?_, ?_, ?_, ?_, ?_, ?_, ?_, ?_, ?_, ?_, ?_, ?_, ?_, ?_, ?_, ?_, ?_, ?_, ?_, ?_, ?_, ?_, ?_, ?_, ?_, ?_, ?_, ?_, ?_, ?_, ?_, ?_, ?_, ?_, ?_, ?_, ?_, ?_, ?_, ?_, ?_, ?_, ?_, ?_, ?_, ?_, ?_, ?_, ?_, ?_, ?_, ?_, ?_, ?_, ?_, ?_⟩
  · have h9 := r_shm R
    unfold Cshm
    simpa (disch := omega) only [sI_wI, sI_wP, sI_wL, sI_wN, sP_wI, sP_wP, sP_wL, sP_wN, sL_wI, sL_wP, sL_wL, sL_wN, sX_wI, sX_wP, sX_wL, sX_wN, gI_uI, gI_uL, gL_uI, gL_uL, tk_ne9, tk_inj, nB_u, nM_u, nP_u, nO_u, hN_u, nLn_u, nOp_u, lnP_u, pc_u, kd_u, op_u, pr_u, mInSt_u, mProm_u, nInSt_u, nProm_u, totp_u, tot_u, nB_l, nM_l, nP_l, nO_l, hN_l, nLn_l, nOp_l, lnP_l, pc_l, kd_l, op_l, pr_l, mInSt_l, mProm_l, nInSt_l, nProm_l, totp_l, tot_l, if_false, if_true, false_and, and_false, Nat.reduceEqDiff, reduceIte, reduceCtorEq, and_true, true_and] using h9
  · have h9 := r_px0 R
    unfold Cpx0
    simpa (disch := omega) only [sI_wI, sI_wP, sI_wL, sI_wN, sP_wI, sP_wP, sP_wL, sP_wN, sL_wI, sL_wP, sL_wL, sL_wN, sX_wI, sX_wP, sX_wL, sX_wN, gI_uI, gI_uL, gL_uI, gL_uL, tk_ne9, tk_inj, nB_u, nM_u, nP_u, nO_u, hN_u, nLn_u, nOp_u, lnP_u, pc_u, kd_u, op_u, pr_u, mInSt_u, mProm_u, nInSt_u, nProm_u, totp_u, tot_u, nB_l, nM_l, nP_l, nO_l, hN_l, nLn_l, nOp_l, lnP_l, pc_l, kd_l, op_l, pr_l, mInSt_l, mProm_l, nInSt_l, nProm_l, totp_l, tot_l, if_false, if_true, false_and, and_false, Nat.reduceEqDiff, reduceIte, reduceCtorEq, and_true, true_and] using h9
  · have h9 := r_px1 R
    unfold Cpx1
    simpa (disch := omega) only [sI_wI, sI_wP, sI_wL, sI_wN, sP_wI, sP_wP, sP_wL, sP_wN, sL_wI, sL_wP, sL_wL, sL_wN, sX_wI, sX_wP, sX_wL, sX_wN, gI_uI, gI_uL, gL_uI, gL_uL, tk_ne9, tk_inj, nB_u, nM_u, nP_u, nO_u, hN_u, nLn_u, nOp_u, lnP_u, pc_u, kd_u, op_u, pr_u, mInSt_u, mProm_u, nInSt_u, nProm_u, totp_u, tot_u, nB_l, nM_l, nP_l, nO_l, hN_l, nLn_l, nOp_l, lnP_l, pc_l, kd_l, op_l, pr_l, mInSt_l, mProm_l, nInSt_l, nProm_l, totp_l, tot_l, if_false, if_true, false_and, and_false, Nat.reduceEqDiff, reduceIte, reduceCtorEq, and_true, true_and] using h9
  · have h9 := r_px2 R
    unfold Cpx2
    simpa (disch := omega) only [sI_wI, sI_wP, sI_wL, sI_wN, sP_wI, sP_wP, sP_wL, sP_wN, sL_wI, sL_wP, sL_wL, sL_wN, sX_wI, sX_wP, sX_wL, sX_wN, gI_uI, gI_uL, gL_uI, gL_uL, tk_ne9, tk_inj, nB_u, nM_u, nP_u, nO_u, hN_u, nLn_u, nOp_u, lnP_u, pc_u, kd_u, op_u, pr_u, mInSt_u, mProm_u, nInSt_u, nProm_u, totp_u, tot_u, nB_l, nM_l, nP_l, nO_l, hN_l, nLn_l, nOp_l, lnP_l, pc_l, kd_l, op_l, pr_l, mInSt_l, mProm_l, nInSt_l, nProm_l, totp_l, tot_l, if_false, if_true, false_and, and_false, Nat.reduceEqDiff, reduceIte, reduceCtorEq, and_true, true_and] using h9
  · have h9 := r_pf0 R
    unfold Cpf0
    simpa (disch := omega) only [sI_wI, sI_wP, sI_wL, sI_wN, sP_wI, sP_wP, sP_wL, sP_wN, sL_wI, sL_wP, sL_wL, sL_wN, sX_wI, sX_wP, sX_wL, sX_wN, gI_uI, gI_uL, gL_uI, gL_uL, tk_ne9, tk_inj, nB_u, nM_u, nP_u, nO_u, hN_u, nLn_u, nOp_u, lnP_u, pc_u, kd_u, op_u, pr_u, mInSt_u, mProm_u, nInSt_u, nProm_u, totp_u, tot_u, nB_l, nM_l, nP_l, nO_l, hN_l, nLn_l, nOp_l, lnP_l, pc_l, kd_l, op_l, pr_l, mInSt_l, mProm_l, nInSt_l, nProm_l, totp_l, tot_l, if_false, if_true, false_and, and_false, Nat.reduceEqDiff, reduceIte, reduceCtorEq, and_true, true_and] using h9
  · have h9 := r_pf1 R
    unfold Cpf1
    simpa (disch := omega) only [sI_wI, sI_wP, sI_wL, sI_wN, sP_wI, sP_wP, sP_wL, sP_wN, sL_wI, sL_wP, sL_wL, sL_wN, sX_wI, sX_wP, sX_wL, sX_wN, gI_uI, gI_uL, gL_uI, gL_uL, tk_ne9, tk_inj, nB_u, nM_u, nP_u, nO_u, hN_u, nLn_u, nOp_u, lnP_u, pc_u, kd_u, op_u, pr_u, mInSt_u, mProm_u, nInSt_u, nProm_u, totp_u, tot_u, nB_l, nM_l, nP_l, nO_l, hN_l, nLn_l, nOp_l, lnP_l, pc_l, kd_l, op_l, pr_l, mInSt_l, mProm_l, nInSt_l, nProm_l, totp_l, tot_l, if_false, if_true, false_and, and_false, Nat.reduceEqDiff, reduceIte, reduceCtorEq, and_true, true_and] using h9
  · have h9 := r_pf3 R
    unfold Cpf3
    simpa (disch := omega) only [sI_wI, sI_wP, sI_wL, sI_wN, sP_wI, sP_wP, sP_wL, sP_wN, sL_wI, sL_wP, sL_wL, sL_wN, sX_wI, sX_wP, sX_wL, sX_wN, gI_uI, gI_uL, gL_uI, gL_uL, tk_ne9, tk_inj, nB_u, nM_u, nP_u, nO_u, hN_u, nLn_u, nOp_u, lnP_u, pc_u, kd_u, op_u, pr_u, mInSt_u, mProm_u, nInSt_u, nProm_u, totp_u, tot_u, nB_l, nM_l, nP_l, nO_l, hN_l, nLn_l, nOp_l, lnP_l, pc_l, kd_l, op_l, pr_l, mInSt_l, mProm_l, nInSt_l, nProm_l, totp_l, tot_l, if_false, if_true, false_and, and_false, Nat.reduceEqDiff, reduceIte, reduceCtorEq, and_true, true_and] using h9
  · have h9 := r_ps0 R
    unfold Cps0
    simpa (disch := omega) only [sI_wI, sI_wP, sI_wL, sI_wN, sP_wI, sP_wP, sP_wL, sP_wN, sL_wI, sL_wP, sL_wL, sL_wN, sX_wI, sX_wP, sX_wL, sX_wN, gI_uI, gI_uL, gL_uI, gL_uL, tk_ne9, tk_inj, nB_u, nM_u, nP_u, nO_u, hN_u, nLn_u, nOp_u, lnP_u, pc_u, kd_u, op_u, pr_u, mInSt_u, mProm_u, nInSt_u, nProm_u, totp_u, tot_u, nB_l, nM_l, nP_l, nO_l, hN_l, nLn_l, nOp_l, lnP_l, pc_l, kd_l, op_l, pr_l, mInSt_l, mProm_l, nInSt_l, nProm_l, totp_l, tot_l, if_false, if_true, false_and, and_false, Nat.reduceEqDiff, reduceIte, reduceCtorEq, and_true, true_and] using h9
  · have h9 := r_ps2 R
    unfold Cps2
    simpa (disch := omega) only [sI_wI, sI_wP, sI_wL, sI_wN, sP_wI, sP_wP, sP_wL, sP_wN, sL_wI, sL_wP, sL_wL, sL_wN, sX_wI, sX_wP, sX_wL, sX_wN, gI_uI, gI_uL, gL_uI, gL_uL, tk_ne9, tk_inj, nB_u, nM_u, nP_u, nO_u, hN_u, nLn_u, nOp_u, lnP_u, pc_u, kd_u, op_u, pr_u, mInSt_u, mProm_u, nInSt_u, nProm_u, totp_u, tot_u, nB_l, nM_l, nP_l, nO_l, hN_l, nLn_l, nOp_l, lnP_l, pc_l, kd_l, op_l, pr_l, mInSt_l, mProm_l, nInSt_l, nProm_l, totp_l, tot_l, if_false, if_true, false_and, and_false, Nat.reduceEqDiff, reduceIte, reduceCtorEq, and_true, true_and] using h9
  · have h9 := r_ps4 R
    unfold Cps4
    simpa (disch := omega) only [sI_wI, sI_wP, sI_wL, sI_wN, sP_wI, sP_wP, sP_wL, sP_wN, sL_wI, sL_wP, sL_wL, sL_wN, sX_wI, sX_wP, sX_wL, sX_wN, gI_uI, gI_uL, gL_uI, gL_uL, tk_ne9, tk_inj, nB_u, nM_u, nP_u, nO_u, hN_u, nLn_u, nOp_u, lnP_u, pc_u, kd_u, op_u, pr_u, mInSt_u, mProm_u, nInSt_u, nProm_u, totp_u, tot_u, nB_l, nM_l, nP_l, nO_l, hN_l, nLn_l, nOp_l, lnP_l, pc_l, kd_l, op_l, pr_l, mInSt_l, mProm_l, nInSt_l, nProm_l, totp_l, tot_l, if_false, if_true, false_and, and_false, Nat.reduceEqDiff, reduceIte, reduceCtorEq, and_true, true_and] using h9
  · have h9 := r_pk R
    unfold Cpk
    simpa (disch := omega) only [sI_wI, sI_wP, sI_wL, sI_wN, sP_wI, sP_wP, sP_wL, sP_wN, sL_wI, sL_wP, sL_wL, sL_wN, sX_wI, sX_wP, sX_wL, sX_wN, gI_uI, gI_uL, gL_uI, gL_uL, tk_ne9, tk_inj, nB_u, nM_u, nP_u, nO_u, hN_u, nLn_u, nOp_u, lnP_u, pc_u, kd_u, op_u, pr_u, mInSt_u, mProm_u, nInSt_u, nProm_u, totp_u, tot_u, nB_l, nM_l, nP_l, nO_l, hN_l, nLn_l, nOp_l, lnP_l, pc_l, kd_l, op_l, pr_l, mInSt_l, mProm_l, nInSt_l, nProm_l, totp_l, tot_l, if_false, if_true, false_and, and_false, Nat.reduceEqDiff, reduceIte, reduceCtorEq, and_true, true_and] using h9
  · have h9 := r_pkl R
    unfold Cpkl
    simpa (disch := omega) only [sI_wI, sI_wP, sI_wL, sI_wN, sP_wI, sP_wP, sP_wL, sP_wN, sL_wI, sL_wP, sL_wL, sL_wN, sX_wI, sX_wP, sX_wL, sX_wN, gI_uI, gI_uL, gL_uI, gL_uL, tk_ne9, tk_inj, nB_u, nM_u, nP_u, nO_u, hN_u, nLn_u, nOp_u, lnP_u, pc_u, kd_u, op_u, pr_u, mInSt_u, mProm_u, nInSt_u, nProm_u, totp_u, tot_u, nB_l, nM_l, nP_l, nO_l, hN_l, nLn_l, nOp_l, lnP_l, pc_l, kd_l, op_l, pr_l, mInSt_l, mProm_l, nInSt_l, nProm_l, totp_l, tot_l, if_false, if_true, false_and, and_false, Nat.reduceEqDiff, reduceIte, reduceCtorEq, and_true, true_and] using h9
  · have h9 := r_pko R
    unfold Cpko
    simpa (disch := omega) only [sI_wI, sI_wP, sI_wL, sI_wN, sP_wI, sP_wP, sP_wL, sP_wN, sL_wI, sL_wP, sL_wL, sL_wN, sX_wI, sX_wP, sX_wL, sX_wN, gI_uI, gI_uL, gL_uI, gL_uL, tk_ne9, tk_inj, nB_u, nM_u, nP_u, nO_u, hN_u, nLn_u, nOp_u, lnP_u, pc_u, kd_u, op_u, pr_u, mInSt_u, mProm_u, nInSt_u, nProm_u, totp_u, tot_u, nB_l, nM_l, nP_l, nO_l, hN_l, nLn_l, nOp_l, lnP_l, pc_l, kd_l, op_l, pr_l, mInSt_l, mProm_l, nInSt_l, nProm_l, totp_l, tot_l, if_false, if_true, false_and, and_false, Nat.reduceEqDiff, reduceIte, reduceCtorEq, and_true, true_and] using h9
  · have h9 := r_ghour R
    unfold Cghour
    simpa (disch := omega) only [sI_wI, sI_wP, sI_wL, sI_wN, sP_wI, sP_wP, sP_wL, sP_wN, sL_wI, sL_wP, sL_wL, sL_wN, sX_wI, sX_wP, sX_wL, sX_wN, gI_uI, gI_uL, gL_uI, gL_uL, tk_ne9, tk_inj, nB_u, nM_u, nP_u, nO_u, hN_u, nLn_u, nOp_u, lnP_u, pc_u, kd_u, op_u, pr_u, mInSt_u, mProm_u, nInSt_u, nProm_u, totp_u, tot_u, nB_l, nM_l, nP_l, nO_l, hN_l, nLn_l, nOp_l, lnP_l, pc_l, kd_l, op_l, pr_l, mInSt_l, mProm_l, nInSt_l, nProm_l, totp_l, tot_l, if_false, if_true, false_and, and_false, Nat.reduceEqDiff, reduceIte, reduceCtorEq, and_true, true_and] using h9
  · have h9 := r_gstand R
    unfold Cgstand
    simpa (disch := omega) only [sI_wI, sI_wP, sI_wL, sI_wN, sP_wI, sP_wP, sP_wL, sP_wN, sL_wI, sL_wP, sL_wL, sL_wN, sX_wI, sX_wP, sX_wL, sX_wN, gI_uI, gI_uL, gL_uI, gL_uL, tk_ne9, tk_inj, nB_u, nM_u, nP_u, nO_u, hN_u, nLn_u, nOp_u, lnP_u, pc_u, kd_u, op_u, pr_u, mInSt_u, mProm_u, nInSt_u, nProm_u, totp_u, tot_u, nB_l, nM_l, nP_l, nO_l, hN_l, nLn_l, nOp_l, lnP_l, pc_l, kd_l, op_l, pr_l, mInSt_l, mProm_l, nInSt_l, nProm_l, totp_l, tot_l, if_false, if_true, false_and, and_false, Nat.reduceEqDiff, reduceIte, reduceCtorEq, and_true, true_and] using h9
  · have h9 := r_gbought R
    unfold Cgbought
    simpa (disch := omega) only [sI_wI, sI_wP, sI_wL, sI_wN, sP_wI, sP_wP, sP_wL, sP_wN, sL_wI, sL_wP, sL_wL, sL_wN, sX_wI, sX_wP, sX_wL, sX_wN, gI_uI, gI_uL, gL_uI, gL_uL, tk_ne9, tk_inj, nB_u, nM_u, nP_u, nO_u, hN_u, nLn_u, nOp_u, lnP_u, pc_u, kd_u, op_u, pr_u, mInSt_u, mProm_u, nInSt_u, nProm_u, totp_u, tot_u, nB_l, nM_l, nP_l, nO_l, hN_l, nLn_l, nOp_l, lnP_l, pc_l, kd_l, op_l, pr_l, mInSt_l, mProm_l, nInSt_l, nProm_l, totp_l, tot_l, if_false, if_true, false_and, and_false, Nat.reduceEqDiff, reduceIte, reduceCtorEq, and_true, true_and] using h9
  · have h9 := r_gmach R
    unfold Cgmach
    simpa (disch := omega) only [sI_wI, sI_wP, sI_wL, sI_wN, sP_wI, sP_wP, sP_wL, sP_wN, sL_wI, sL_wP, sL_wL, sL_wN, sX_wI, sX_wP, sX_wL, sX_wN, gI_uI, gI_uL, gL_uI, gL_uL, tk_ne9, tk_inj, nB_u, nM_u, nP_u, nO_u, hN_u, nLn_u, nOp_u, lnP_u, pc_u, kd_u, op_u, pr_u, mInSt_u, mProm_u, nInSt_u, nProm_u, totp_u, tot_u, nB_l, nM_l, nP_l, nO_l, hN_l, nLn_l, nOp_l, lnP_l, pc_l, kd_l, op_l, pr_l, mInSt_l, mProm_l, nInSt_l, nProm_l, totp_l, tot_l, if_false, if_true, false_and, and_false, Nat.reduceEqDiff, reduceIte, reduceCtorEq, and_true, true_and] using h9
  · have h9 := r_gpers R
    unfold Cgpers
    simpa (disch := omega) only [sI_wI, sI_wP, sI_wL, sI_wN, sP_wI, sP_wP, sP_wL, sP_wN, sL_wI, sL_wP, sL_wL, sL_wN, sX_wI, sX_wP, sX_wL, sX_wN, gI_uI, gI_uL, gL_uI, gL_uL, tk_ne9, tk_inj, nB_u, nM_u, nP_u, nO_u, hN_u, nLn_u, nOp_u, lnP_u, pc_u, kd_u, op_u, pr_u, mInSt_u, mProm_u, nInSt_u, nProm_u, totp_u, tot_u, nB_l, nM_l, nP_l, nO_l, hN_l, nLn_l, nOp_l, lnP_l, pc_l, kd_l, op_l, pr_l, mInSt_l, mProm_l, nInSt_l, nProm_l, totp_l, tot_l, if_false, if_true, false_and, and_false, Nat.reduceEqDiff, reduceIte, reduceCtorEq, and_true, true_and] using h9
  · have h9 := r_gworked R
    unfold Cgworked
    simpa (disch := omega) only [sI_wI, sI_wP, sI_wL, sI_wN, sP_wI, sP_wP, sP_wL, sP_wN, sL_wI, sL_wP, sL_wL, sL_wN, sX_wI, sX_wP, sX_wL, sX_wN, gI_uI, gI_uL, gL_uI, gL_uL, tk_ne9, tk_inj, nB_u, nM_u, nP_u, nO_u, hN_u, nLn_u, nOp_u, lnP_u, pc_u, kd_u, op_u, pr_u, mInSt_u, mProm_u, nInSt_u, nProm_u, totp_u, tot_u, nB_l, nM_l, nP_l, nO_l, hN_l, nLn_l, nOp_l, lnP_l, pc_l, kd_l, op_l, pr_l, mInSt_l, mProm_l, nInSt_l, nProm_l, totp_l, tot_l, if_false, if_true, false_and, and_false, Nat.reduceEqDiff, reduceIte, reduceCtorEq, and_true, true_and] using h9
  · have h9 := r_grep R
    unfold Cgrep
    simpa (disch := omega) only [sI_wI, sI_wP, sI_wL, sI_wN, sP_wI, sP_wP, sP_wL, sP_wN, sL_wI, sL_wP, sL_wL, sL_wN, sX_wI, sX_wP, sX_wL, sX_wN, gI_uI, gI_uL, gL_uI, gL_uL, tk_ne9, tk_inj, nB_u, nM_u, nP_u, nO_u, hN_u, nLn_u, nOp_u, lnP_u, pc_u, kd_u, op_u, pr_u, mInSt_u, mProm_u, nInSt_u, nProm_u, totp_u, tot_u, nB_l, nM_l, nP_l, nO_l, hN_l, nLn_l, nOp_l, lnP_l, pc_l, kd_l, op_l, pr_l, mInSt_l, mProm_l, nInSt_l, nProm_l, totp_l, tot_l, if_false, if_true, false_and, and_false, Nat.reduceEqDiff, reduceIte, reduceCtorEq, and_true, true_and] using h9
  · have h9 := r_gbat R
    unfold Cgbat
    simpa (disch := omega) only [sI_wI, sI_wP, sI_wL, sI_wN, sP_wI, sP_wP, sP_wL, sP_wN, sL_wI, sL_wP, sL_wL, sL_wN, sX_wI, sX_wP, sX_wL, sX_wN, gI_uI, gI_uL, gL_uI, gL_uL, tk_ne9, tk_inj, nB_u, nM_u, nP_u, nO_u, hN_u, nLn_u, nOp_u, lnP_u, pc_u, kd_u, op_u, pr_u, mInSt_u, mProm_u, nInSt_u, nProm_u, totp_u, tot_u, nB_l, nM_l, nP_l, nO_l, hN_l, nLn_l, nOp_l, lnP_l, pc_l, kd_l, op_l, pr_l, mInSt_l, mProm_l, nInSt_l, nProm_l, totp_l, tot_l, if_false, if_true, false_and, and_false, Nat.reduceEqDiff, reduceIte, reduceCtorEq, and_true, true_and] using h9
  · have h9 := r_gord R
    unfold Cgord
    simpa (disch := omega) only [sI_wI, sI_wP, sI_wL, sI_wN, sP_wI, sP_wP, sP_wL, sP_wN, sL_wI, sL_wP, sL_wL, sL_wN, sX_wI, sX_wP, sX_wL, sX_wN, gI_uI, gI_uL, gL_uI, gL_uL, tk_ne9, tk_inj, nB_u, nM_u, nP_u, nO_u, hN_u, nLn_u, nOp_u, lnP_u, pc_u, kd_u, op_u, pr_u, mInSt_u, mProm_u, nInSt_u, nProm_u, totp_u, tot_u, nB_l, nM_l, nP_l, nO_l, hN_l, nLn_l, nOp_l, lnP_l, pc_l, kd_l, op_l, pr_l, mInSt_l, mProm_l, nInSt_l, nProm_l, totp_l, tot_l, if_false, if_true, false_and, and_false, Nat.reduceEqDiff, reduceIte, reduceCtorEq, and_true, true_and] using h9
  · have h9 := r_gq R
    unfold Cgq
    simpa (disch := omega) only [sI_wI, sI_wP, sI_wL, sI_wN, sP_wI, sP_wP, sP_wL, sP_wN, sL_wI, sL_wP, sL_wL, sL_wN, sX_wI, sX_wP, sX_wL, sX_wN, gI_uI, gI_uL, gL_uI, gL_uL, tk_ne9, tk_inj, nB_u, nM_u, nP_u, nO_u, hN_u, nLn_u, nOp_u, lnP_u, pc_u, kd_u, op_u, pr_u, mInSt_u, mProm_u, nInSt_u, nProm_u, totp_u, tot_u, nB_l, nM_l, nP_l, nO_l, hN_l, nLn_l, nOp_l, lnP_l, pc_l, kd_l, op_l, pr_l, mInSt_l, mProm_l, nInSt_l, nProm_l, totp_l, tot_l, if_false, if_true, false_and, and_false, Nat.reduceEqDiff, reduceIte, reduceCtorEq, and_true, true_and] using h9
  · have h9 := r_nB R
    unfold CnB
    simpa (disch := omega) only [sI_wI, sI_wP, sI_wL, sI_wN, sP_wI, sP_wP, sP_wL, sP_wN, sL_wI, sL_wP, sL_wL, sL_wN, sX_wI, sX_wP, sX_wL, sX_wN, gI_uI, gI_uL, gL_uI, gL_uL, tk_ne9, tk_inj, nB_u, nM_u, nP_u, nO_u, hN_u, nLn_u, nOp_u, lnP_u, pc_u, kd_u, op_u, pr_u, mInSt_u, mProm_u, nInSt_u, nProm_u, totp_u, tot_u, nB_l, nM_l, nP_l, nO_l, hN_l, nLn_l, nOp_l, lnP_l, pc_l, kd_l, op_l, pr_l, mInSt_l, mProm_l, nInSt_l, nProm_l, totp_l, tot_l, if_false, if_true, false_and, and_false, Nat.reduceEqDiff, reduceIte, reduceCtorEq, and_true, true_and] using h9
  · have h9 := r_nBx R
    unfold CnBx
    simpa (disch := omega) only [sI_wI, sI_wP, sI_wL, sI_wN, sP_wI, sP_wP, sP_wL, sP_wN, sL_wI, sL_wP, sL_wL, sL_wN, sX_wI, sX_wP, sX_wL, sX_wN, gI_uI, gI_uL, gL_uI, gL_uL, tk_ne9, tk_inj, nB_u, nM_u, nP_u, nO_u, hN_u, nLn_u, nOp_u, lnP_u, pc_u, kd_u, op_u, pr_u, mInSt_u, mProm_u, nInSt_u, nProm_u, totp_u, tot_u, nB_l, nM_l, nP_l, nO_l, hN_l, nLn_l, nOp_l, lnP_l, pc_l, kd_l, op_l, pr_l, mInSt_l, mProm_l, nInSt_l, nProm_l, totp_l, tot_l, if_false, if_true, false_and, and_false, Nat.reduceEqDiff, reduceIte, reduceCtorEq, and_true, true_and] using h9
  · have h9 := r_nM R
    unfold CnM
    simpa (disch := omega) only [sI_wI, sI_wP, sI_wL, sI_wN, sP_wI, sP_wP, sP_wL, sP_wN, sL_wI, sL_wP, sL_wL, sL_wN, sX_wI, sX_wP, sX_wL, sX_wN, gI_uI, gI_uL, gL_uI, gL_uL, tk_ne9, tk_inj, nB_u, nM_u, nP_u, nO_u, hN_u, nLn_u, nOp_u, lnP_u, pc_u, kd_u, op_u, pr_u, mInSt_u, mProm_u, nInSt_u, nProm_u, totp_u, tot_u, nB_l, nM_l, nP_l, nO_l, hN_l, nLn_l, nOp_l, lnP_l, pc_l, kd_l, op_l, pr_l, mInSt_l, mProm_l, nInSt_l, nProm_l, totp_l, tot_l, if_false, if_true, false_and, and_false, Nat.reduceEqDiff, reduceIte, reduceCtorEq, and_true, true_and] using h9
  · have h9 := r_nMx R
    unfold CnMx
    simpa (disch := omega) only [sI_wI, sI_wP, sI_wL, sI_wN, sP_wI, sP_wP, sP_wL, sP_wN, sL_wI, sL_wP, sL_wL, sL_wN, sX_wI, sX_wP, sX_wL, sX_wN, gI_uI, gI_uL, gL_uI, gL_uL, tk_ne9, tk_inj, nB_u, nM_u, nP_u, nO_u, hN_u, nLn_u, nOp_u, lnP_u, pc_u, kd_u, op_u, pr_u, mInSt_u, mProm_u, nInSt_u, nProm_u, totp_u, tot_u, nB_l, nM_l, nP_l, nO_l, hN_l, nLn_l, nOp_l, lnP_l, pc_l, kd_l, op_l, pr_l, mInSt_l, mProm_l, nInSt_l, nProm_l, totp_l, tot_l, if_false, if_true, false_and, and_false, Nat.reduceEqDiff, reduceIte, reduceCtorEq, and_true, true_and] using h9
  · have h9 := r_nP R
    unfold CnP
    simpa (disch := omega) only [sI_wI, sI_wP, sI_wL, sI_wN, sP_wI, sP_wP, sP_wL, sP_wN, sL_wI, sL_wP, sL_wL, sL_wN, sX_wI, sX_wP, sX_wL, sX_wN, gI_uI, gI_uL, gL_uI, gL_uL, tk_ne9, tk_inj, nB_u, nM_u, nP_u, nO_u, hN_u, nLn_u, nOp_u, lnP_u, pc_u, kd_u, op_u, pr_u, mInSt_u, mProm_u, nInSt_u, nProm_u, totp_u, tot_u, nB_l, nM_l, nP_l, nO_l, hN_l, nLn_l, nOp_l, lnP_l, pc_l, kd_l, op_l, pr_l, mInSt_l, mProm_l, nInSt_l, nProm_l, totp_l, tot_l, if_false, if_true, false_and, and_false, Nat.reduceEqDiff, reduceIte, reduceCtorEq, and_true, true_and] using h9
  · have h9 := r_nPx R
    unfold CnPx
    simpa (disch := omega) only [sI_wI, sI_wP, sI_wL, sI_wN, sP_wI, sP_wP, sP_wL, sP_wN, sL_wI, sL_wP, sL_wL, sL_wN, sX_wI, sX_wP, sX_wL, sX_wN, gI_uI, gI_uL, gL_uI, gL_uL, tk_ne9, tk_inj, nB_u, nM_u, nP_u, nO_u, hN_u, nLn_u, nOp_u, lnP_u, pc_u, kd_u, op_u, pr_u, mInSt_u, mProm_u, nInSt_u, nProm_u, totp_u, tot_u, nB_l, nM_l, nP_l, nO_l, hN_l, nLn_l, nOp_l, lnP_l, pc_l, kd_l, op_l, pr_l, mInSt_l, mProm_l, nInSt_l, nProm_l, totp_l, tot_l, if_false, if_true, false_and, and_false, Nat.reduceEqDiff, reduceIte, reduceCtorEq, and_true, true_and] using h9
  · have h9 := r_nO R
    unfold CnO
    simpa (disch := omega) only [sI_wI, sI_wP, sI_wL, sI_wN, sP_wI, sP_wP, sP_wL, sP_wN, sL_wI, sL_wP, sL_wL, sL_wN, sX_wI, sX_wP, sX_wL, sX_wN, gI_uI, gI_uL, gL_uI, gL_uL, tk_ne9, tk_inj, nB_u, nM_u, nP_u, nO_u, hN_u, nLn_u, nOp_u, lnP_u, pc_u, kd_u, op_u, pr_u, mInSt_u, mProm_u, nInSt_u, nProm_u, totp_u, tot_u, nB_l, nM_l, nP_l, nO_l, hN_l, nLn_l, nOp_l, lnP_l, pc_l, kd_l, op_l, pr_l, mInSt_l, mProm_l, nInSt_l, nProm_l, totp_l, tot_l, if_false, if_true, false_and, and_false, Nat.reduceEqDiff, reduceIte, reduceCtorEq, and_true, true_and] using h9
  · have h9 := r_nOx R
    unfold CnOx
    simpa (disch := omega) only [sI_wI, sI_wP, sI_wL, sI_wN, sP_wI, sP_wP, sP_wL, sP_wN, sL_wI, sL_wP, sL_wL, sL_wN, sX_wI, sX_wP, sX_wL, sX_wN, gI_uI, gI_uL, gL_uI, gL_uL, tk_ne9, tk_inj, nB_u, nM_u, nP_u, nO_u, hN_u, nLn_u, nOp_u, lnP_u, pc_u, kd_u, op_u, pr_u, mInSt_u, mProm_u, nInSt_u, nProm_u, totp_u, tot_u, nB_l, nM_l, nP_l, nO_l, hN_l, nLn_l, nOp_l, lnP_l, pc_l, kd_l, op_l, pr_l, mInSt_l, mProm_l, nInSt_l, nProm_l, totp_l, tot_l, if_false, if_true, false_and, and_false, Nat.reduceEqDiff, reduceIte, reduceCtorEq, and_true, true_and] using h9
  · have h9 := r_hr R
    unfold Chr
    simpa (disch := omega) only [sI_wI, sI_wP, sI_wL, sI_wN, sP_wI, sP_wP, sP_wL, sP_wN, sL_wI, sL_wP, sL_wL, sL_wN, sX_wI, sX_wP, sX_wL, sX_wN, gI_uI, gI_uL, gL_uI, gL_uL, tk_ne9, tk_inj, nB_u, nM_u, nP_u, nO_u, hN_u, nLn_u, nOp_u, lnP_u, pc_u, kd_u, op_u, pr_u, mInSt_u, mProm_u, nInSt_u, nProm_u, totp_u, tot_u, nB_l, nM_l, nP_l, nO_l, hN_l, nLn_l, nOp_l, lnP_l, pc_l, kd_l, op_l, pr_l, mInSt_l, mProm_l, nInSt_l, nProm_l, totp_l, tot_l, if_false, if_true, false_and, and_false, Nat.reduceEqDiff, reduceIte, reduceCtorEq, and_true, true_and] using h9
  · have h9 := r_hrx R
    unfold Chrx
    simpa (disch := omega) only [sI_wI, sI_wP, sI_wL, sI_wN, sP_wI, sP_wP, sP_wL, sP_wN, sL_wI, sL_wP, sL_wL, sL_wN, sX_wI, sX_wP, sX_wL, sX_wN, gI_uI, gI_uL, gL_uI, gL_uL, tk_ne9, tk_inj, nB_u, nM_u, nP_u, nO_u, hN_u, nLn_u, nOp_u, lnP_u, pc_u, kd_u, op_u, pr_u, mInSt_u, mProm_u, nInSt_u, nProm_u, totp_u, tot_u, nB_l, nM_l, nP_l, nO_l, hN_l, nLn_l, nOp_l, lnP_l, pc_l, kd_l, op_l, pr_l, mInSt_l, mProm_l, nInSt_l, nProm_l, totp_l, tot_l, if_false, if_true, false_and, and_false, Nat.reduceEqDiff, reduceIte, reduceCtorEq, and_true, true_and] using h9
  · have h9 := r_stb R
    unfold Cstb
    simpa (disch := omega) only [sI_wI, sI_wP, sI_wL, sI_wN, sP_wI, sP_wP, sP_wL, sP_wN, sL_wI, sL_wP, sL_wL, sL_wN, sX_wI, sX_wP, sX_wL, sX_wN, gI_uI, gI_uL, gL_uI, gL_uL, tk_ne9, tk_inj, nB_u, nM_u, nP_u, nO_u, hN_u, nLn_u, nOp_u, lnP_u, pc_u, kd_u, op_u, pr_u, mInSt_u, mProm_u, nInSt_u, nProm_u, totp_u, tot_u, nB_l, nM_l, nP_l, nO_l, hN_l, nLn_l, nOp_l, lnP_l, pc_l, kd_l, op_l, pr_l, mInSt_l, mProm_l, nInSt_l, nProm_l, totp_l, tot_l, if_false, if_true, false_and, and_false, Nat.reduceEqDiff, reduceIte, reduceCtorEq, and_true, true_and] using h9
  · have h9 := r_ex R
    unfold Cex
    simpa (disch := omega) only [sI_wI, sI_wP, sI_wL, sI_wN, sP_wI, sP_wP, sP_wL, sP_wN, sL_wI, sL_wP, sL_wL, sL_wN, sX_wI, sX_wP, sX_wL, sX_wN, gI_uI, gI_uL, gL_uI, gL_uL, tk_ne9, tk_inj, nB_u, nM_u, nP_u, nO_u, hN_u, nLn_u, nOp_u, lnP_u, pc_u, kd_u, op_u, pr_u, mInSt_u, mProm_u, nInSt_u, nProm_u, totp_u, tot_u, nB_l, nM_l, nP_l, nO_l, hN_l, nLn_l, nOp_l, lnP_l, pc_l, kd_l, op_l, pr_l, mInSt_l, mProm_l, nInSt_l, nProm_l, totp_l, tot_l, if_false, if_true, false_and, and_false, Nat.reduceEqDiff, reduceIte, reduceCtorEq, and_true, true_and] using h9
  · have h9 := r_k0 R
    unfold Ck0
    simpa (disch := omega) only [sI_wI, sI_wP, sI_wL, sI_wN, sP_wI, sP_wP, sP_wL, sP_wN, sL_wI, sL_wP, sL_wL, sL_wN, sX_wI, sX_wP, sX_wL, sX_wN, gI_uI, gI_uL, gL_uI, gL_uL, tk_ne9, tk_inj, nB_u, nM_u, nP_u, nO_u, hN_u, nLn_u, nOp_u, lnP_u, pc_u, kd_u, op_u, pr_u, mInSt_u, mProm_u, nInSt_u, nProm_u, totp_u, tot_u, nB_l, nM_l, nP_l, nO_l, hN_l, nLn_l, nOp_l, lnP_l, pc_l, kd_l, op_l, pr_l, mInSt_l, mProm_l, nInSt_l, nProm_l, totp_l, tot_l, if_false, if_true, false_and, and_false, Nat.reduceEqDiff, reduceIte, reduceCtorEq, and_true, true_and] using h9
  · have h9 := r_k1 R
    unfold Ck1
    simpa (disch := omega) only [sI_wI, sI_wP, sI_wL, sI_wN, sP_wI, sP_wP, sP_wL, sP_wN, sL_wI, sL_wP, sL_wL, sL_wN, sX_wI, sX_wP, sX_wL, sX_wN, gI_uI, gI_uL, gL_uI, gL_uL, tk_ne9, tk_inj, nB_u, nM_u, nP_u, nO_u, hN_u, nLn_u, nOp_u, lnP_u, pc_u, kd_u, op_u, pr_u, mInSt_u, mProm_u, nInSt_u, nProm_u, totp_u, tot_u, nB_l, nM_l, nP_l, nO_l, hN_l, nLn_l, nOp_l, lnP_l, pc_l, kd_l, op_l, pr_l, mInSt_l, mProm_l, nInSt_l, nProm_l, totp_l, tot_l, if_false, if_true, false_and, and_false, Nat.reduceEqDiff, reduceIte, reduceCtorEq, and_true, true_and] using h9
  · have h9 := r_k2 R
    unfold Ck2
    simpa (disch := omega) only [sI_wI, sI_wP, sI_wL, sI_wN, sP_wI, sP_wP, sP_wL, sP_wN, sL_wI, sL_wP, sL_wL, sL_wN, sX_wI, sX_wP, sX_wL, sX_wN, gI_uI, gI_uL, gL_uI, gL_uL, tk_ne9, tk_inj, nB_u, nM_u, nP_u, nO_u, hN_u, nLn_u, nOp_u, lnP_u, pc_u, kd_u, op_u, pr_u, mInSt_u, mProm_u, nInSt_u, nProm_u, totp_u, tot_u, nB_l, nM_l, nP_l, nO_l, hN_l, nLn_l, nOp_l, lnP_l, pc_l, kd_l, op_l, pr_l, mInSt_l, mProm_l, nInSt_l, nProm_l, totp_l, tot_l, if_false, if_true, false_and, and_false, Nat.reduceEqDiff, reduceIte, reduceCtorEq, and_true, true_and] using h9
  · have h9 := r_k3 R
    unfold Ck3
    simpa (disch := omega) only [sI_wI, sI_wP, sI_wL, sI_wN, sP_wI, sP_wP, sP_wL, sP_wN, sL_wI, sL_wP, sL_wL, sL_wN, sX_wI, sX_wP, sX_wL, sX_wN, gI_uI, gI_uL, gL_uI, gL_uL, tk_ne9, tk_inj, nB_u, nM_u, nP_u, nO_u, hN_u, nLn_u, nOp_u, lnP_u, pc_u, kd_u, op_u, pr_u, mInSt_u, mProm_u, nInSt_u, nProm_u, totp_u, tot_u, nB_l, nM_l, nP_l, nO_l, hN_l, nLn_l, nOp_l, lnP_l, pc_l, kd_l, op_l, pr_l, mInSt_l, mProm_l, nInSt_l, nProm_l, totp_l, tot_l, if_false, if_true, false_and, and_false, Nat.reduceEqDiff, reduceIte, reduceCtorEq, and_true, true_and] using h9
  · have h9 := r_k5 R
    unfold Ck5
    simpa (disch := omega) only [sI_wI, sI_wP, sI_wL, sI_wN, sP_wI, sP_wP, sP_wL, sP_wN, sL_wI, sL_wP, sL_wL, sL_wN, sX_wI, sX_wP, sX_wL, sX_wN, gI_uI, gI_uL, gL_uI, gL_uL, tk_ne9, tk_inj, nB_u, nM_u, nP_u, nO_u, hN_u, nLn_u, nOp_u, lnP_u, pc_u, kd_u, op_u, pr_u, mInSt_u, mProm_u, nInSt_u, nProm_u, totp_u, tot_u, nB_l, nM_l, nP_l, nO_l, hN_l, nLn_l, nOp_l, lnP_l, pc_l, kd_l, op_l, pr_l, mInSt_l, mProm_l, nInSt_l, nProm_l, totp_l, tot_l, if_false, if_true, false_and, and_false, Nat.reduceEqDiff, reduceIte, reduceCtorEq, and_true, true_and] using h9
  · have h9 := r_k7 R
    unfold Ck7
    simpa (disch := omega) only [sI_wI, sI_wP, sI_wL, sI_wN, sP_wI, sP_wP, sP_wL, sP_wN, sL_wI, sL_wP, sL_wL, sL_wN, sX_wI, sX_wP, sX_wL, sX_wN, gI_uI, gI_uL, gL_uI, gL_uL, tk_ne9, tk_inj, nB_u, nM_u, nP_u, nO_u, hN_u, nLn_u, nOp_u, lnP_u, pc_u, kd_u, op_u, pr_u, mInSt_u, mProm_u, nInSt_u, nProm_u, totp_u, tot_u, nB_l, nM_l, nP_l, nO_l, hN_l, nLn_l, nOp_l, lnP_l, pc_l, kd_l, op_l, pr_l, mInSt_l, mProm_l, nInSt_l, nProm_l, totp_l, tot_l, if_false, if_true, false_and, and_false, Nat.reduceEqDiff, reduceIte, reduceCtorEq, and_true, true_and] using h9
  · intro i hi
    have h9 := r_k8 R i hi
    by_cases e : i = k
    · simp [sI_wI, gI_uI, e]
    · simp [sI_wI, gI_uI, e, tk_inj, h9]
  · have h9 := r_k9 R
    unfold Ck9
    simpa (disch := omega) only [sI_wI, sI_wP, sI_wL, sI_wN, sP_wI, sP_wP, sP_wL, sP_wN, sL_wI, sL_wP, sL_wL, sL_wN, sX_wI, sX_wP, sX_wL, sX_wN, gI_uI, gI_uL, gL_uI, gL_uL, tk_ne9, tk_inj, nB_u, nM_u, nP_u, nO_u, hN_u, nLn_u, nOp_u, lnP_u, pc_u, kd_u, op_u, pr_u, mInSt_u, mProm_u, nInSt_u, nProm_u, totp_u, tot_u, nB_l, nM_l, nP_l, nO_l, hN_l, nLn_l, nOp_l, lnP_l, pc_l, kd_l, op_l, pr_l, mInSt_l, mProm_l, nInSt_l, nProm_l, totp_l, tot_l, if_false, if_true, false_and, and_false, Nat.reduceEqDiff, reduceIte, reduceCtorEq, and_true, true_and] using h9
  · have h9 := r_k10 R
    unfold Ck10
    simpa (disch := omega) only [sI_wI, sI_wP, sI_wL, sI_wN, sP_wI, sP_wP, sP_wL, sP_wN, sL_wI, sL_wP, sL_wL, sL_wN, sX_wI, sX_wP, sX_wL, sX_wN, gI_uI, gI_uL, gL_uI, gL_uL, tk_ne9, tk_inj, nB_u, nM_u, nP_u, nO_u, hN_u, nLn_u, nOp_u, lnP_u, pc_u, kd_u, op_u, pr_u, mInSt_u, mProm_u, nInSt_u, nProm_u, totp_u, tot_u, nB_l, nM_l, nP_l, nO_l, hN_l, nLn_l, nOp_l, lnP_l, pc_l, kd_l, op_l, pr_l, mInSt_l, mProm_l, nInSt_l, nProm_l, totp_l, tot_l, if_false, if_true, false_and, and_false, Nat.reduceEqDiff, reduceIte, reduceCtorEq, and_true, true_and] using h9
  · have h9 := r_k11 R
    unfold Ck11
    simpa (disch := omega) only [sI_wI, sI_wP, sI_wL, sI_wN, sP_wI, sP_wP, sP_wL, sP_wN, sL_wI, sL_wP, sL_wL, sL_wN, sX_wI, sX_wP, sX_wL, sX_wN, gI_uI, gI_uL, gL_uI, gL_uL, tk_ne9, tk_inj, nB_u, nM_u, nP_u, nO_u, hN_u, nLn_u, nOp_u, lnP_u, pc_u, kd_u, op_u, pr_u, mInSt_u, mProm_u, nInSt_u, nProm_u, totp_u, tot_u, nB_l, nM_l, nP_l, nO_l, hN_l, nLn_l, nOp_l, lnP_l, pc_l, kd_l, op_l, pr_l, mInSt_l, mProm_l, nInSt_l, nProm_l, totp_l, tot_l, if_false, if_true, false_and, and_false, Nat.reduceEqDiff, reduceIte, reduceCtorEq, and_true, true_and] using h9
  · have h9 := r_k12 R
    unfold Ck12
    simpa (disch := omega) only [sI_wI, sI_wP, sI_wL, sI_wN, sP_wI, sP_wP, sP_wL, sP_wN, sL_wI, sL_wP, sL_wL, sL_wN, sX_wI, sX_wP, sX_wL, sX_wN, gI_uI, gI_uL, gL_uI, gL_uL, tk_ne9, tk_inj, nB_u, nM_u, nP_u, nO_u, hN_u, nLn_u, nOp_u, lnP_u, pc_u, kd_u, op_u, pr_u, mInSt_u, mProm_u, nInSt_u, nProm_u, totp_u, tot_u, nB_l, nM_l, nP_l, nO_l, hN_l, nLn_l, nOp_l, lnP_l, pc_l, kd_l, op_l, pr_l, mInSt_l, mProm_l, nInSt_l, nProm_l, totp_l, tot_l, if_false, if_true, false_and, and_false, Nat.reduceEqDiff, reduceIte, reduceCtorEq, and_true, true_and] using h9
  · have h9 := r_ksa R
    unfold Cksa
    simpa (disch := omega) only [sI_wI, sI_wP, sI_wL, sI_wN, sP_wI, sP_wP, sP_wL, sP_wN, sL_wI, sL_wP, sL_wL, sL_wN, sX_wI, sX_wP, sX_wL, sX_wN, gI_uI, gI_uL, gL_uI, gL_uL, tk_ne9, tk_inj, nB_u, nM_u, nP_u, nO_u, hN_u, nLn_u, nOp_u, lnP_u, pc_u, kd_u, op_u, pr_u, mInSt_u, mProm_u, nInSt_u, nProm_u, totp_u, tot_u, nB_l, nM_l, nP_l, nO_l, hN_l, nLn_l, nOp_l, lnP_l, pc_l, kd_l, op_l, pr_l, mInSt_l, mProm_l, nInSt_l, nProm_l, totp_l, tot_l, if_false, if_true, false_and, and_false, Nat.reduceEqDiff, reduceIte, reduceCtorEq, and_true, true_and] using h9
  · have h9 := r_ksb R
    unfold Cksb
    simpa (disch := omega) only [sI_wI, sI_wP, sI_wL, sI_wN, sP_wI, sP_wP, sP_wL, sP_wN, sL_wI, sL_wP, sL_wL, sL_wN, sX_wI, sX_wP, sX_wL, sX_wN, gI_uI, gI_uL, gL_uI, gL_uL, tk_ne9, tk_inj, nB_u, nM_u, nP_u, nO_u, hN_u, nLn_u, nOp_u, lnP_u, pc_u, kd_u, op_u, pr_u, mInSt_u, mProm_u, nInSt_u, nProm_u, totp_u, tot_u, nB_l, nM_l, nP_l, nO_l, hN_l, nLn_l, nOp_l, lnP_l, pc_l, kd_l, op_l, pr_l, mInSt_l, mProm_l, nInSt_l, nProm_l, totp_l, tot_l, if_false, if_true, false_and, and_false, Nat.reduceEqDiff, reduceIte, reduceCtorEq, and_true, true_and] using h9
  · have h9 := r_ksc R
    unfold Cksc
    simpa (disch := omega) only [sI_wI, sI_wP, sI_wL, sI_wN, sP_wI, sP_wP, sP_wL, sP_wN, sL_wI, sL_wP, sL_wL, sL_wN, sX_wI, sX_wP, sX_wL, sX_wN, gI_uI, gI_uL, gL_uI, gL_uL, tk_ne9, tk_inj, nB_u, nM_u, nP_u, nO_u, hN_u, nLn_u, nOp_u, lnP_u, pc_u, kd_u, op_u, pr_u, mInSt_u, mProm_u, nInSt_u, nProm_u, totp_u, tot_u, nB_l, nM_l, nP_l, nO_l, hN_l, nLn_l, nOp_l, lnP_l, pc_l, kd_l, op_l, pr_l, mInSt_l, mProm_l, nInSt_l, nProm_l, totp_l, tot_l, if_false, if_true, false_and, and_false, Nat.reduceEqDiff, reduceIte, reduceCtorEq, and_true, true_and] using h9
  · have h9 := r_kw R
    unfold Ckw
    simpa (disch := omega) only [sI_wI, sI_wP, sI_wL, sI_wN, sP_wI, sP_wP, sP_wL, sP_wN, sL_wI, sL_wP, sL_wL, sL_wN, sX_wI, sX_wP, sX_wL, sX_wN, gI_uI, gI_uL, gL_uI, gL_uL, tk_ne9, tk_inj, nB_u, nM_u, nP_u, nO_u, hN_u, nLn_u, nOp_u, lnP_u, pc_u, kd_u, op_u, pr_u, mInSt_u, mProm_u, nInSt_u, nProm_u, totp_u, tot_u, nB_l, nM_l, nP_l, nO_l, hN_l, nLn_l, nOp_l, lnP_l, pc_l, kd_l, op_l, pr_l, mInSt_l, mProm_l, nInSt_l, nProm_l, totp_l, tot_l, if_false, if_true, false_and, and_false, Nat.reduceEqDiff, reduceIte, reduceCtorEq, and_true, true_and] using h9
  · have h9 := r_kl R
    unfold Ckl
    simpa (disch := omega) only [sI_wI, sI_wP, sI_wL, sI_wN, sP_wI, sP_wP, sP_wL, sP_wN, sL_wI, sL_wP, sL_wL, sL_wN, sX_wI, sX_wP, sX_wL, sX_wN, gI_uI, gI_uL, gL_uI, gL_uL, tk_ne9, tk_inj, nB_u, nM_u, nP_u, nO_u, hN_u, nLn_u, nOp_u, lnP_u, pc_u, kd_u, op_u, pr_u, mInSt_u, mProm_u, nInSt_u, nProm_u, totp_u, tot_u, nB_l, nM_l, nP_l, nO_l, hN_l, nLn_l, nOp_l, lnP_l, pc_l, kd_l, op_l, pr_l, mInSt_l, mProm_l, nInSt_l, nProm_l, totp_l, tot_l, if_false, if_true, false_and, and_false, Nat.reduceEqDiff, reduceIte, reduceCtorEq, and_true, true_and] using h9
  · have h9 := r_ko R
    unfold Cko
    simpa (disch := omega) only [sI_wI, sI_wP, sI_wL, sI_wN, sP_wI, sP_wP, sP_wL, sP_wN, sL_wI, sL_wP, sL_wL, sL_wN, sX_wI, sX_wP, sX_wL, sX_wN, gI_uI, gI_uL, gL_uI, gL_uL, tk_ne9, tk_inj, nB_u, nM_u, nP_u, nO_u, hN_u, nLn_u, nOp_u, lnP_u, pc_u, kd_u, op_u, pr_u, mInSt_u, mProm_u, nInSt_u, nProm_u, totp_u, tot_u, nB_l, nM_l, nP_l, nO_l, hN_l, nLn_l, nOp_l, lnP_l, pc_l, kd_l, op_l, pr_l, mInSt_l, mProm_l, nInSt_l, nProm_l, totp_l, tot_l, if_false, if_true, false_and, and_false, Nat.reduceEqDiff, reduceIte, reduceCtorEq, and_true, true_and] using h9
  · have h9 := r_kp R
    unfold Ckp
    simpa (disch := omega) only [sI_wI, sI_wP, sI_wL, sI_wN, sP_wI, sP_wP, sP_wL, sP_wN, sL_wI, sL_wP, sL_wL, sL_wN, sX_wI, sX_wP, sX_wL, sX_wN, gI_uI, gI_uL, gL_uI, gL_uL, tk_ne9, tk_inj, nB_u, nM_u, nP_u, nO_u, hN_u, nLn_u, nOp_u, lnP_u, pc_u, kd_u, op_u, pr_u, mInSt_u, mProm_u, nInSt_u, nProm_u, totp_u, tot_u, nB_l, nM_l, nP_l, nO_l, hN_l, nLn_l, nOp_l, lnP_l, pc_l, kd_l, op_l, pr_l, mInSt_l, mProm_l, nInSt_l, nProm_l, totp_l, tot_l, if_false, if_true, false_and, and_false, Nat.reduceEqDiff, reduceIte, reduceCtorEq, and_true, true_and] using h9
  · have h9 := r_l0 R
    unfold Cl0
    simpa (disch := omega) only [sI_wI, sI_wP, sI_wL, sI_wN, sP_wI, sP_wP, sP_wL, sP_wN, sL_wI, sL_wP, sL_wL, sL_wN, sX_wI, sX_wP, sX_wL, sX_wN, gI_uI, gI_uL, gL_uI, gL_uL, tk_ne9, tk_inj, nB_u, nM_u, nP_u, nO_u, hN_u, nLn_u, nOp_u, lnP_u, pc_u, kd_u, op_u, pr_u, mInSt_u, mProm_u, nInSt_u, nProm_u, totp_u, tot_u, nB_l, nM_l, nP_l, nO_l, hN_l, nLn_l, nOp_l, lnP_l, pc_l, kd_l, op_l, pr_l, mInSt_l, mProm_l, nInSt_l, nProm_l, totp_l, tot_l, if_false, if_true, false_and, and_false, Nat.reduceEqDiff, reduceIte, reduceCtorEq, and_true, true_and] using h9
  · have h9 := r_l1 R
    unfold Cl1
    simpa (disch := omega) only [sI_wI, sI_wP, sI_wL, sI_wN, sP_wI, sP_wP, sP_wL, sP_wN, sL_wI, sL_wP, sL_wL, sL_wN, sX_wI, sX_wP, sX_wL, sX_wN, gI_uI, gI_uL, gL_uI, gL_uL, tk_ne9, tk_inj, nB_u, nM_u, nP_u, nO_u, hN_u, nLn_u, nOp_u, lnP_u, pc_u, kd_u, op_u, pr_u, mInSt_u, mProm_u, nInSt_u, nProm_u, totp_u, tot_u, nB_l, nM_l, nP_l, nO_l, hN_l, nLn_l, nOp_l, lnP_l, pc_l, kd_l, op_l, pr_l, mInSt_l, mProm_l, nInSt_l, nProm_l, totp_l, tot_l, if_false, if_true, false_and, and_false, Nat.reduceEqDiff, reduceIte, reduceCtorEq, and_true, true_and] using h9
  · have h9 := r_l2 R
    unfold Cl2
    simpa (disch := omega) only [sI_wI, sI_wP, sI_wL, sI_wN, sP_wI, sP_wP, sP_wL, sP_wN, sL_wI, sL_wP, sL_wL, sL_wN, sX_wI, sX_wP, sX_wL, sX_wN, gI_uI, gI_uL, gL_uI, gL_uL, tk_ne9, tk_inj, nB_u, nM_u, nP_u, nO_u, hN_u, nLn_u, nOp_u, lnP_u, pc_u, kd_u, op_u, pr_u, mInSt_u, mProm_u, nInSt_u, nProm_u, totp_u, tot_u, nB_l, nM_l, nP_l, nO_l, hN_l, nLn_l, nOp_l, lnP_l, pc_l, kd_l, op_l, pr_l, mInSt_l, mProm_l, nInSt_l, nProm_l, totp_l, tot_l, if_false, if_true, false_and, and_false, Nat.reduceEqDiff, reduceIte, reduceCtorEq, and_true, true_and] using h9
  · have h9 := r_l3 R
    unfold Cl3
    simpa (disch := omega) only [sI_wI, sI_wP, sI_wL, sI_wN, sP_wI, sP_wP, sP_wL, sP_wN, sL_wI, sL_wP, sL_wL, sL_wN, sX_wI, sX_wP, sX_wL, sX_wN, gI_uI, gI_uL, gL_uI, gL_uL, tk_ne9, tk_inj, nB_u, nM_u, nP_u, nO_u, hN_u, nLn_u, nOp_u, lnP_u, pc_u, kd_u, op_u, pr_u, mInSt_u, mProm_u, nInSt_u, nProm_u, totp_u, tot_u, nB_l, nM_l, nP_l, nO_l, hN_l, nLn_l, nOp_l, lnP_l, pc_l, kd_l, op_l, pr_l, mInSt_l, mProm_l, nInSt_l, nProm_l, totp_l, tot_l, if_false, if_true, false_and, and_false, Nat.reduceEqDiff, reduceIte, reduceCtorEq, and_true, true_and] using h9
  · have h9 := r_lm R
    unfold Clm
    simpa (disch := omega) only [sI_wI, sI_wP, sI_wL, sI_wN, sP_wI, sP_wP, sP_wL, sP_wN, sL_wI, sL_wP, sL_wL, sL_wN, sX_wI, sX_wP, sX_wL, sX_wN, gI_uI, gI_uL, gL_uI, gL_uL, tk_ne9, tk_inj, nB_u, nM_u, nP_u, nO_u, hN_u, nLn_u, nOp_u, lnP_u, pc_u, kd_u, op_u, pr_u, mInSt_u, mProm_u, nInSt_u, nProm_u, totp_u, tot_u, nB_l, nM_l, nP_l, nO_l, hN_l, nLn_l, nOp_l, lnP_l, pc_l, kd_l, op_l, pr_l, mInSt_l, mProm_l, nInSt_l, nProm_l, totp_l, tot_l, if_false, if_true, false_and, and_false, Nat.reduceEqDiff, reduceIte, reduceCtorEq, and_true, true_and] using h9
  · have h9 := r_o0 R
    unfold Co0
    simpa (disch := omega) only [sI_wI, sI_wP, sI_wL, sI_wN, sP_wI, sP_wP, sP_wL, sP_wN, sL_wI, sL_wP, sL_wL, sL_wN, sX_wI, sX_wP, sX_wL, sX_wN, gI_uI, gI_uL, gL_uI, gL_uL, tk_ne9, tk_inj, nB_u, nM_u, nP_u, nO_u, hN_u, nLn_u, nOp_u, lnP_u, pc_u, kd_u, op_u, pr_u, mInSt_u, mProm_u, nInSt_u, nProm_u, totp_u, tot_u, nB_l, nM_l, nP_l, nO_l, hN_l, nLn_l, nOp_l, lnP_l, pc_l, kd_l, op_l, pr_l, mInSt_l, mProm_l, nInSt_l, nProm_l, totp_l, tot_l, if_false, if_true, false_and, and_false, Nat.reduceEqDiff, reduceIte, reduceCtorEq, and_true, true_and] using h9
  · have h9 := r_o1 R
    unfold Co1
    simpa (disch := omega) only [sI_wI, sI_wP, sI_wL, sI_wN, sP_wI, sP_wP, sP_wL, sP_wN, sL_wI, sL_wP, sL_wL, sL_wN, sX_wI, sX_wP, sX_wL, sX_wN, gI_uI, gI_uL, gL_uI, gL_uL, tk_ne9, tk_inj, nB_u, nM_u, nP_u, nO_u, hN_u, nLn_u, nOp_u, lnP_u, pc_u, kd_u, op_u, pr_u, mInSt_u, mProm_u, nInSt_u, nProm_u, totp_u, tot_u, nB_l, nM_l, nP_l, nO_l, hN_l, nLn_l, nOp_l, lnP_l, pc_l, kd_l, op_l, pr_l, mInSt_l, mProm_l, nInSt_l, nProm_l, totp_l, tot_l, if_false, if_true, false_and, and_false, Nat.reduceEqDiff, reduceIte, reduceCtorEq, and_true, true_and] using h9
  · have h9 := r_o2 R
    unfold Co2
    simpa (disch := omega) only [sI_wI, sI_wP, sI_wL, sI_wN, sP_wI, sP_wP, sP_wL, sP_wN, sL_wI, sL_wP, sL_wL, sL_wN, sX_wI, sX_wP, sX_wL, sX_wN, gI_uI, gI_uL, gL_uI, gL_uL, tk_ne9, tk_inj, nB_u, nM_u, nP_u, nO_u, hN_u, nLn_u, nOp_u, lnP_u, pc_u, kd_u, op_u, pr_u, mInSt_u, mProm_u, nInSt_u, nProm_u, totp_u, tot_u, nB_l, nM_l, nP_l, nO_l, hN_l, nLn_l, nOp_l, lnP_l, pc_l, kd_l, op_l, pr_l, mInSt_l, mProm_l, nInSt_l, nProm_l, totp_l, tot_l, if_false, if_true, false_and, and_false, Nat.reduceEqDiff, reduceIte, reduceCtorEq, and_true, true_and] using h9
  · have h9 := r_o3 R
    unfold Co3
    simpa (disch := omega) only [sI_wI, sI_wP, sI_wL, sI_wN, sP_wI, sP_wP, sP_wL, sP_wN, sL_wI, sL_wP, sL_wL, sL_wN, sX_wI, sX_wP, sX_wL, sX_wN, gI_uI, gI_uL, gL_uI, gL_uL, tk_ne9, tk_inj, nB_u, nM_u, nP_u, nO_u, hN_u, nLn_u, nOp_u, lnP_u, pc_u, kd_u, op_u, pr_u, mInSt_u, mProm_u, nInSt_u, nProm_u, totp_u, tot_u, nB_l, nM_l, nP_l, nO_l, hN_l, nLn_l, nOp_l, lnP_l, pc_l, kd_l, op_l, pr_l, mInSt_l, mProm_l, nInSt_l, nProm_l, totp_l, tot_l, if_false, if_true, false_and, and_false, Nat.reduceEqDiff, reduceIte, reduceCtorEq, and_true, true_and] using h9
  · have h9 := r_om R
    unfold Com
    simpa (disch := omega) only [sI_wI, sI_wP, sI_wL, sI_wN, sP_wI, sP_wP, sP_wL, sP_wN, sL_wI, sL_wP, sL_wL, sL_wN, sX_wI, sX_wP, sX_wL, sX_wN, gI_uI, gI_uL, gL_uI, gL_uL, tk_ne9, tk_inj, nB_u, nM_u, nP_u, nO_u, hN_u, nLn_u, nOp_u, lnP_u, pc_u, kd_u, op_u, pr_u, mInSt_u, mProm_u, nInSt_u, nProm_u, totp_u, tot_u, nB_l, nM_l, nP_l, nO_l, hN_l, nLn_l, nOp_l, lnP_l, pc_l, kd_l, op_l, pr_l, mInSt_l, mProm_l, nInSt_l, nProm_l, totp_l, tot_l, if_false, if_true, false_and, and_false, Nat.reduceEqDiff, reduceIte, reduceCtorEq, and_true, true_and] using h9
  · have h9 := r_b0 R
    unfold Cb0
    simpa (disch := omega) only [sI_wI, sI_wP, sI_wL, sI_wN, sP_wI, sP_wP, sP_wL, sP_wN, sL_wI, sL_wP, sL_wL, sL_wN, sX_wI, sX_wP, sX_wL, sX_wN, gI_uI, gI_uL, gL_uI, gL_uL, tk_ne9, tk_inj, nB_u, nM_u, nP_u, nO_u, hN_u, nLn_u, nOp_u, lnP_u, pc_u, kd_u, op_u, pr_u, mInSt_u, mProm_u, nInSt_u, nProm_u, totp_u, tot_u, nB_l, nM_l, nP_l, nO_l, hN_l, nLn_l, nOp_l, lnP_l, pc_l, kd_l, op_l, pr_l, mInSt_l, mProm_l, nInSt_l, nProm_l, totp_l, tot_l, if_false, if_true, false_and, and_false, Nat.reduceEqDiff, reduceIte, reduceCtorEq, and_true, true_and] using h9
  · have h9 := r_bn R
    unfold Cbn
    simpa (disch := omega) only [sI_wI, sI_wP, sI_wL, sI_wN, sP_wI, sP_wP, sP_wL, sP_wN, sL_wI, sL_wP, sL_wL, sL_wN, sX_wI, sX_wP, sX_wL, sX_wN, gI_uI, gI_uL, gL_uI, gL_uL, tk_ne9, tk_inj, nB_u, nM_u, nP_u, nO_u, hN_u, nLn_u, nOp_u, lnP_u, pc_u, kd_u, op_u, pr_u, mInSt_u, mProm_u, nInSt_u, nProm_u, totp_u, tot_u, nB_l, nM_l, nP_l, nO_l, hN_l, nLn_l, nOp_l, lnP_l, pc_l, kd_l, op_l, pr_l, mInSt_l, mProm_l, nInSt_l, nProm_l, totp_l, tot_l, if_false, if_true, false_and, and_false, Nat.reduceEqDiff, reduceIte, reduceCtorEq, and_true, true_and] using h9
  · have h9 := r_bk R
    unfold Cbk
    simpa (disch := omega) only [sI_wI, sI_wP, sI_wL, sI_wN, sP_wI, sP_wP, sP_wL, sP_wN, sL_wI, sL_wP, sL_wL, sL_wN, sX_wI, sX_wP, sX_wL, sX_wN, gI_uI, gI_uL, gL_uI, gL_uL, tk_ne9, tk_inj, nB_u, nM_u, nP_u, nO_u, hN_u, nLn_u, nOp_u, lnP_u, pc_u, kd_u, op_u, pr_u, mInSt_u, mProm_u, nInSt_u, nProm_u, totp_u, tot_u, nB_l, nM_l, nP_l, nO_l, hN_l, nLn_l, nOp_l, lnP_l, pc_l, kd_l, op_l, pr_l, mInSt_l, mProm_l, nInSt_l, nProm_l, totp_l, tot_l, if_false, if_true, false_and, and_false, Nat.reduceEqDiff, reduceIte, reduceCtorEq, and_true, true_and] using h9
  · have h9 := r_b2 R
    unfold Cb2
    simpa (disch := omega) only [sI_wI, sI_wP, sI_wL, sI_wN, sP_wI, sP_wP, sP_wL, sP_wN, sL_wI, sL_wP, sL_wL, sL_wN, sX_wI, sX_wP, sX_wL, sX_wN, gI_uI, gI_uL, gL_uI, gL_uL, tk_ne9, tk_inj, nB_u, nM_u, nP_u, nO_u, hN_u, nLn_u, nOp_u, lnP_u, pc_u, kd_u, op_u, pr_u, mInSt_u, mProm_u, nInSt_u, nProm_u, totp_u, tot_u, nB_l, nM_l, nP_l, nO_l, hN_l, nLn_l, nOp_l, lnP_l, pc_l, kd_l, op_l, pr_l, mInSt_l, mProm_l, nInSt_l, nProm_l, totp_l, tot_l, if_false, if_true, false_and, and_false, Nat.reduceEqDiff, reduceIte, reduceCtorEq, and_true, true_and] using h9
  · have h9 := r_b3 R
    unfold Cb3
    simpa (disch := omega) only [sI_wI, sI_wP, sI_wL, sI_wN, sP_wI, sP_wP, sP_wL, sP_wN, sL_wI, sL_wP, sL_wL, sL_wN, sX_wI, sX_wP, sX_wL, sX_wN, gI_uI, gI_uL, gL_uI, gL_uL, tk_ne9, tk_inj, nB_u, nM_u, nP_u, nO_u, hN_u, nLn_u, nOp_u, lnP_u, pc_u, kd_u, op_u, pr_u, mInSt_u, mProm_u, nInSt_u, nProm_u, totp_u, tot_u, nB_l, nM_l, nP_l, nO_l, hN_l, nLn_l, nOp_l, lnP_l, pc_l, kd_l, op_l, pr_l, mInSt_l, mProm_l, nInSt_l, nProm_l, totp_l, tot_l, if_false, if_true, false_and, and_false, Nat.reduceEqDiff, reduceIte, reduceCtorEq, and_true, true_and] using h9
  · have h9 := r_b4 R
    unfold Cb4
    simpa (disch := omega) only [sI_wI, sI_wP, sI_wL, sI_wN, sP_wI, sP_wP, sP_wL, sP_wN, sL_wI, sL_wP, sL_wL, sL_wN, sX_wI, sX_wP, sX_wL, sX_wN, gI_uI, gI_uL, gL_uI, gL_uL, tk_ne9, tk_inj, nB_u, nM_u, nP_u, nO_u, hN_u, nLn_u, nOp_u, lnP_u, pc_u, kd_u, op_u, pr_u, mInSt_u, mProm_u, nInSt_u, nProm_u, totp_u, tot_u, nB_l, nM_l, nP_l, nO_l, hN_l, nLn_l, nOp_l, lnP_l, pc_l, kd_l, op_l, pr_l, mInSt_l, mProm_l, nInSt_l, nProm_l, totp_l, tot_l, if_false, if_true, false_and, and_false, Nat.reduceEqDiff, reduceIte, reduceCtorEq, and_true, true_and] using h9
  · have h9 := r_b5 R
    unfold Cb5
    simpa (disch := omega) only [sI_wI, sI_wP, sI_wL, sI_wN, sP_wI, sP_wP, sP_wL, sP_wN, sL_wI, sL_wP, sL_wL, sL_wN, sX_wI, sX_wP, sX_wL, sX_wN, gI_uI, gI_uL, gL_uI, gL_uL, tk_ne9, tk_inj, nB_u, nM_u, nP_u, nO_u, hN_u, nLn_u, nOp_u, lnP_u, pc_u, kd_u, op_u, pr_u, mInSt_u, mProm_u, nInSt_u, nProm_u, totp_u, tot_u, nB_l, nM_l, nP_l, nO_l, hN_l, nLn_l, nOp_l, lnP_l, pc_l, kd_l, op_l, pr_l, mInSt_l, mProm_l, nInSt_l, nProm_l, totp_l, tot_l, if_false, if_true, false_and, and_false, Nat.reduceEqDiff, reduceIte, reduceCtorEq, and_true, true_and] using h9
  · have h9 := r_b6 R
    unfold Cb6
    simpa (disch := omega) only [sI_wI, sI_wP, sI_wL, sI_wN, sP_wI, sP_wP, sP_wL, sP_wN, sL_wI, sL_wP, sL_wL, sL_wN, sX_wI, sX_wP, sX_wL, sX_wN, gI_uI, gI_uL, gL_uI, gL_uL, tk_ne9, tk_inj, nB_u, nM_u, nP_u, nO_u, hN_u, nLn_u, nOp_u, lnP_u, pc_u, kd_u, op_u, pr_u, mInSt_u, mProm_u, nInSt_u, nProm_u, totp_u, tot_u, nB_l, nM_l, nP_l, nO_l, hN_l, nLn_l, nOp_l, lnP_l, pc_l, kd_l, op_l, pr_l, mInSt_l, mProm_l, nInSt_l, nProm_l, totp_l, tot_l, if_false, if_true, false_and, and_false, Nat.reduceEqDiff, reduceIte, reduceCtorEq, and_true, true_and] using h9
  · have h9 := r_b7 R
    unfold Cb7
    simpa (disch := omega) only [sI_wI, sI_wP, sI_wL, sI_wN, sP_wI, sP_wP, sP_wL, sP_wN, sL_wI, sL_wP, sL_wL, sL_wN, sX_wI, sX_wP, sX_wL, sX_wN, gI_uI, gI_uL, gL_uI, gL_uL, tk_ne9, tk_inj, nB_u, nM_u, nP_u, nO_u, hN_u, nLn_u, nOp_u, lnP_u, pc_u, kd_u, op_u, pr_u, mInSt_u, mProm_u, nInSt_u, nProm_u, totp_u, tot_u, nB_l, nM_l, nP_l, nO_l, hN_l, nLn_l, nOp_l, lnP_l, pc_l, kd_l, op_l, pr_l, mInSt_l, mProm_l, nInSt_l, nProm_l, totp_l, tot_l, if_false, if_true, false_and, and_false, Nat.reduceEqDiff, reduceIte, reduceCtorEq, and_true, true_and] using h9
  · have h9 := r_b8 R
    unfold Cb8
    simpa (disch := omega) only [sI_wI, sI_wP, sI_wL, sI_wN, sP_wI, sP_wP, sP_wL, sP_wN, sL_wI, sL_wP, sL_wL, sL_wN, sX_wI, sX_wP, sX_wL, sX_wN, gI_uI, gI_uL, gL_uI, gL_uL, tk_ne9, tk_inj, nB_u, nM_u, nP_u, nO_u, hN_u, nLn_u, nOp_u, lnP_u, pc_u, kd_u, op_u, pr_u, mInSt_u, mProm_u, nInSt_u, nProm_u, totp_u, tot_u, nB_l, nM_l, nP_l, nO_l, hN_l, nLn_l, nOp_l, lnP_l, pc_l, kd_l, op_l, pr_l, mInSt_l, mProm_l, nInSt_l, nProm_l, totp_l, tot_l, if_false, if_true, false_and, and_false, Nat.reduceEqDiff, reduceIte, reduceCtorEq, and_true, true_and] using h9
  · have h9 := r_b9 R
    unfold Cb9
    simpa (disch := omega) only [sI_wI, sI_wP, sI_wL, sI_wN, sP_wI, sP_wP, sP_wL, sP_wN, sL_wI, sL_wP, sL_wL, sL_wN, sX_wI, sX_wP, sX_wL, sX_wN, gI_uI, gI_uL, gL_uI, gL_uL, tk_ne9, tk_inj, nB_u, nM_u, nP_u, nO_u, hN_u, nLn_u, nOp_u, lnP_u, pc_u, kd_u, op_u, pr_u, mInSt_u, mProm_u, nInSt_u, nProm_u, totp_u, tot_u, nB_l, nM_l, nP_l, nO_l, hN_l, nLn_l, nOp_l, lnP_l, pc_l, kd_l, op_l, pr_l, mInSt_l, mProm_l, nInSt_l, nProm_l, totp_l, tot_l, if_false, if_true, false_and, and_false, Nat.reduceEqDiff, reduceIte, reduceCtorEq, and_true, true_and] using h9
  · have h9 := r_b10 R
    unfold Cb10
    simpa (disch := omega) only [sI_wI, sI_wP, sI_wL, sI_wN, sP_wI, sP_wP, sP_wL, sP_wN, sL_wI, sL_wP, sL_wL, sL_wN, sX_wI, sX_wP, sX_wL, sX_wN, gI_uI, gI_uL, gL_uI, gL_uL, tk_ne9, tk_inj, nB_u, nM_u, nP_u, nO_u, hN_u, nLn_u, nOp_u, lnP_u, pc_u, kd_u, op_u, pr_u, mInSt_u, mProm_u, nInSt_u, nProm_u, totp_u, tot_u, nB_l, nM_l, nP_l, nO_l, hN_l, nLn_l, nOp_l, lnP_l, pc_l, kd_l, op_l, pr_l, mInSt_l, mProm_l, nInSt_l, nProm_l, totp_l, tot_l, if_false, if_true, false_and, and_false, Nat.reduceEqDiff, reduceIte, reduceCtorEq, and_true, true_and] using h9
  · have h9 := r_b11 R
    unfold Cb11
    simpa (disch := omega) only [sI_wI, sI_wP, sI_wL, sI_wN, sP_wI, sP_wP, sP_wL, sP_wN, sL_wI, sL_wP, sL_wL, sL_wN, sX_wI, sX_wP, sX_wL, sX_wN, gI_uI, gI_uL, gL_uI, gL_uL, tk_ne9, tk_inj, nB_u, nM_u, nP_u, nO_u, hN_u, nLn_u, nOp_u, lnP_u, pc_u, kd_u, op_u, pr_u, mInSt_u, mProm_u, nInSt_u, nProm_u, totp_u, tot_u, nB_l, nM_l, nP_l, nO_l, hN_l, nLn_l, nOp_l, lnP_l, pc_l, kd_l, op_l, pr_l, mInSt_l, mProm_l, nInSt_l, nProm_l, totp_l, tot_l, if_false, if_true, false_and, and_false, Nat.reduceEqDiff, reduceIte, reduceCtorEq, and_true, true_and] using h9
  · have h9 := r_bK R
    unfold CbK
    simpa (disch := omega) only [sI_wI, sI_wP, sI_wL, sI_wN, sP_wI, sP_wP, sP_wL, sP_wN, sL_wI, sL_wP, sL_wL, sL_wN, sX_wI, sX_wP, sX_wL, sX_wN, gI_uI, gI_uL, gL_uI, gL_uL, tk_ne9, tk_inj, nB_u, nM_u, nP_u, nO_u, hN_u, nLn_u, nOp_u, lnP_u, pc_u, kd_u, op_u, pr_u, mInSt_u, mProm_u, nInSt_u, nProm_u, totp_u, tot_u, nB_l, nM_l, nP_l, nO_l, hN_l, nLn_l, nOp_l, lnP_l, pc_l, kd_l, op_l, pr_l, mInSt_l, mProm_l, nInSt_l, nProm_l, totp_l, tot_l, if_false, if_true, false_and, and_false, Nat.reduceEqDiff, reduceIte, reduceCtorEq, and_true, true_and] using h9
  · have h9 := r_bP R
    unfold CbP
    simpa (disch := omega) only [sI_wI, sI_wP, sI_wL, sI_wN, sP_wI, sP_wP, sP_wL, sP_wN, sL_wI, sL_wP, sL_wL, sL_wN, sX_wI, sX_wP, sX_wL, sX_wN, gI_uI, gI_uL, gL_uI, gL_uL, tk_ne9, tk_inj, nB_u, nM_u, nP_u, nO_u, hN_u, nLn_u, nOp_u, lnP_u, pc_u, kd_u, op_u, pr_u, mInSt_u, mProm_u, nInSt_u, nProm_u, totp_u, tot_u, nB_l, nM_l, nP_l, nO_l, hN_l, nLn_l, nOp_l, lnP_l, pc_l, kd_l, op_l, pr_l, mInSt_l, mProm_l, nInSt_l, nProm_l, totp_l, tot_l, if_false, if_true, false_and, and_false, Nat.reduceEqDiff, reduceIte, reduceCtorEq, and_true, true_and] using h9
  · have h9 := r_bO R
    unfold CbO
    simpa (disch := omega) only [sI_wI, sI_wP, sI_wL, sI_wN, sP_wI, sP_wP, sP_wL, sP_wN, sL_wI, sL_wP, sL_wL, sL_wN, sX_wI, sX_wP, sX_wL, sX_wN, gI_uI, gI_uL, gL_uI, gL_uL, tk_ne9, tk_inj, nB_u, nM_u, nP_u, nO_u, hN_u, nLn_u, nOp_u, lnP_u, pc_u, kd_u, op_u, pr_u, mInSt_u, mProm_u, nInSt_u, nProm_u, totp_u, tot_u, nB_l, nM_l, nP_l, nO_l, hN_l, nLn_l, nOp_l, lnP_l, pc_l, kd_l, op_l, pr_l, mInSt_l, mProm_l, nInSt_l, nProm_l, totp_l, tot_l, if_false, if_true, false_and, and_false, Nat.reduceEqDiff, reduceIte, reduceCtorEq, and_true, true_and] using h9
  · have h9 := r_bW R
    unfold CbW
    simpa (disch := omega) only [sI_wI, sI_wP, sI_wL, sI_wN, sP_wI, sP_wP, sP_wL, sP_wN, sL_wI, sL_wP, sL_wL, sL_wN, sX_wI, sX_wP, sX_wL, sX_wN, gI_uI, gI_uL, gL_uI, gL_uL, tk_ne9, tk_inj, nB_u, nM_u, nP_u, nO_u, hN_u, nLn_u, nOp_u, lnP_u, pc_u, kd_u, op_u, pr_u, mInSt_u, mProm_u, nInSt_u, nProm_u, totp_u, tot_u, nB_l, nM_l, nP_l, nO_l, hN_l, nLn_l, nOp_l, lnP_l, pc_l, kd_l, op_l, pr_l, mInSt_l, mProm_l, nInSt_l, nProm_l, totp_l, tot_l, if_false, if_true, false_and, and_false, Nat.reduceEqDiff, reduceIte, reduceCtorEq, and_true, true_and] using h9
  · have h9 := r_bZ R
    unfold CbZ
    simpa (disch := omega) only [sI_wI, sI_wP, sI_wL, sI_wN, sP_wI, sP_wP, sP_wL, sP_wN, sL_wI, sL_wP, sL_wL, sL_wN, sX_wI, sX_wP, sX_wL, sX_wN, gI_uI, gI_uL, gL_uI, gL_uL, tk_ne9, tk_inj, nB_u, nM_u, nP_u, nO_u, hN_u, nLn_u, nOp_u, lnP_u, pc_u, kd_u, op_u, pr_u, mInSt_u, mProm_u, nInSt_u, nProm_u, totp_u, tot_u, nB_l, nM_l, nP_l, nO_l, hN_l, nLn_l, nOp_l, lnP_l, pc_l, kd_l, op_l, pr_l, mInSt_l, mProm_l, nInSt_l, nProm_l, totp_l, tot_l, if_false, if_true, false_and, and_false, Nat.reduceEqDiff, reduceIte, reduceCtorEq, and_true, true_and] using h9
  · have h9 := r_bF R
    unfold CbF
    simpa (disch := omega) only [sI_wI, sI_wP, sI_wL, sI_wN, sP_wI, sP_wP, sP_wL, sP_wN, sL_wI, sL_wP, sL_wL, sL_wN, sX_wI, sX_wP, sX_wL, sX_wN, gI_uI, gI_uL, gL_uI, gL_uL, tk_ne9, tk_inj, nB_u, nM_u, nP_u, nO_u, hN_u, nLn_u, nOp_u, lnP_u, pc_u, kd_u, op_u, pr_u, mInSt_u, mProm_u, nInSt_u, nProm_u, totp_u, tot_u, nB_l, nM_l, nP_l, nO_l, hN_l, nLn_l, nOp_l, lnP_l, pc_l, kd_l, op_l, pr_l, mInSt_l, mProm_l, nInSt_l, nProm_l, totp_l, tot_l, if_false, if_true, false_and, and_false, Nat.reduceEqDiff, reduceIte, reduceCtorEq, and_true, true_and] using h9
  · have h9 := r_bS R
    unfold CbS
    simpa (disch := omega) only [sI_wI, sI_wP, sI_wL, sI_wN, sP_wI, sP_wP, sP_wL, sP_wN, sL_wI, sL_wP, sL_wL, sL_wN, sX_wI, sX_wP, sX_wL, sX_wN, gI_uI, gI_uL, gL_uI, gL_uL, tk_ne9, tk_inj, nB_u, nM_u, nP_u, nO_u, hN_u, nLn_u, nOp_u, lnP_u, pc_u, kd_u, op_u, pr_u, mInSt_u, mProm_u, nInSt_u, nProm_u, totp_u, tot_u, nB_l, nM_l, nP_l, nO_l, hN_l, nLn_l, nOp_l, lnP_l, pc_l, kd_l, op_l, pr_l, mInSt_l, mProm_l, nInSt_l, nProm_l, totp_l, tot_l, if_false, if_true, false_and, and_false, Nat.reduceEqDiff, reduceIte, reduceCtorEq, and_true, true_and] using h9
  · have h9 := r_bC R
    unfold CbC
    simpa (disch := omega) only [sI_wI, sI_wP, sI_wL, sI_wN, sP_wI, sP_wP, sP_wL, sP_wN, sL_wI, sL_wP, sL_wL, sL_wN, sX_wI, sX_wP, sX_wL, sX_wN, gI_uI, gI_uL, gL_uI, gL_uL, tk_ne9, tk_inj, nB_u, nM_u, nP_u, nO_u, hN_u, nLn_u, nOp_u, lnP_u, pc_u, kd_u, op_u, pr_u, mInSt_u, mProm_u, nInSt_u, nProm_u, totp_u, tot_u, nB_l, nM_l, nP_l, nO_l, hN_l, nLn_l, nOp_l, lnP_l, pc_l, kd_l, op_l, pr_l, mInSt_l, mProm_l, nInSt_l, nProm_l, totp_l, tot_l, if_false, if_true, false_and, and_false, Nat.reduceEqDiff, reduceIte, reduceCtorEq, and_true, true_and] using h9
  · have h9 := r_bT R
    unfold CbT
    simpa (disch := omega) only [sI_wI, sI_wP, sI_wL, sI_wN, sP_wI, sP_wP, sP_wL, sP_wN, sL_wI, sL_wP, sL_wL, sL_wN, sX_wI, sX_wP, sX_wL, sX_wN, gI_uI, gI_uL, gL_uI, gL_uL, tk_ne9, tk_inj, nB_u, nM_u, nP_u, nO_u, hN_u, nLn_u, nOp_u, lnP_u, pc_u, kd_u, op_u, pr_u, mInSt_u, mProm_u, nInSt_u, nProm_u, totp_u, tot_u, nB_l, nM_l, nP_l, nO_l, hN_l, nLn_l, nOp_l, lnP_l, pc_l, kd_l, op_l, pr_l, mInSt_l, mProm_l, nInSt_l, nProm_l, totp_l, tot_l, if_false, if_true, false_and, and_false, Nat.reduceEqDiff, reduceIte, reduceCtorEq, and_true, true_and] using h9
  · have h9 := r_bU R
    unfold CbU
    simpa (disch := omega) only [sI_wI, sI_wP, sI_wL, sI_wN, sP_wI, sP_wP, sP_wL, sP_wN, sL_wI, sL_wP, sL_wL, sL_wN, sX_wI, sX_wP, sX_wL, sX_wN, gI_uI, gI_uL, gL_uI, gL_uL, tk_ne9, tk_inj, nB_u, nM_u, nP_u, nO_u, hN_u, nLn_u, nOp_u, lnP_u, pc_u, kd_u, op_u, pr_u, mInSt_u, mProm_u, nInSt_u, nProm_u, totp_u, tot_u, nB_l, nM_l, nP_l, nO_l, hN_l, nLn_l, nOp_l, lnP_l, pc_l, kd_l, op_l, pr_l, mInSt_l, mProm_l, nInSt_l, nProm_l, totp_l, tot_l, if_false, if_true, false_and, and_false, Nat.reduceEqDiff, reduceIte, reduceCtorEq, and_true, true_and] using h9
  · have h9 := r_bq R
    unfold Cbq
    simpa (disch := omega) only [sI_wI, sI_wP, sI_wL, sI_wN, sP_wI, sP_wP, sP_wL, sP_wN, sL_wI, sL_wP, sL_wL, sL_wN, sX_wI, sX_wP, sX_wL, sX_wN, gI_uI, gI_uL, gL_uI, gL_uL, tk_ne9, tk_inj, nB_u, nM_u, nP_u, nO_u, hN_u, nLn_u, nOp_u, lnP_u, pc_u, kd_u, op_u, pr_u, mInSt_u, mProm_u, nInSt_u, nProm_u, totp_u, tot_u, nB_l, nM_l, nP_l, nO_l, hN_l, nLn_l, nOp_l, lnP_l, pc_l, kd_l, op_l, pr_l, mInSt_l, mProm_l, nInSt_l, nProm_l, totp_l, tot_l, if_false, if_true, false_and, and_false, Nat.reduceEqDiff, reduceIte, reduceCtorEq, and_true, true_and] using h9
  · have h9 := r_ps R
    unfold Cps
    simpa (disch := omega) only [sI_wI, sI_wP, sI_wL, sI_wN, sP_wI, sP_wP, sP_wL, sP_wN, sL_wI, sL_wP, sL_wL, sL_wN, sX_wI, sX_wP, sX_wL, sX_wN, gI_uI, gI_uL, gL_uI, gL_uL, tk_ne9, tk_inj, nB_u, nM_u, nP_u, nO_u, hN_u, nLn_u, nOp_u, lnP_u, pc_u, kd_u, op_u, pr_u, mInSt_u, mProm_u, nInSt_u, nProm_u, totp_u, tot_u, nB_l, nM_l, nP_l, nO_l, hN_l, nLn_l, nOp_l, lnP_l, pc_l, kd_l, op_l, pr_l, mInSt_l, mProm_l, nInSt_l, nProm_l, totp_l, tot_l, if_false, if_true, false_and, and_false, Nat.reduceEqDiff, reduceIte, reduceCtorEq, and_true, true_and] using h9
  · have h9 := r_bp R
    unfold Cbp
    simpa (disch := omega) only [sI_wI, sI_wP, sI_wL, sI_wN, sP_wI, sP_wP, sP_wL, sP_wN, sL_wI, sL_wP, sL_wL, sL_wN, sX_wI, sX_wP, sX_wL, sX_wN, gI_uI, gI_uL, gL_uI, gL_uL, tk_ne9, tk_inj, nB_u, nM_u, nP_u, nO_u, hN_u, nLn_u, nOp_u, lnP_u, pc_u, kd_u, op_u, pr_u, mInSt_u, mProm_u, nInSt_u, nProm_u, totp_u, tot_u, nB_l, nM_l, nP_l, nO_l, hN_l, nLn_l, nOp_l, lnP_l, pc_l, kd_l, op_l, pr_l, mInSt_l, mProm_l, nInSt_l, nProm_l, totp_l, tot_l, if_false, if_true, false_and, and_false, Nat.reduceEqDiff, reduceIte, reduceCtorEq, and_true, true_and] using h9
  · have h9 := r_bc R
    unfold Cbc
    simpa (disch := omega) only [sI_wI, sI_wP, sI_wL, sI_wN, sP_wI, sP_wP, sP_wL, sP_wN, sL_wI, sL_wP, sL_wL, sL_wN, sX_wI, sX_wP, sX_wL, sX_wN, gI_uI, gI_uL, gL_uI, gL_uL, tk_ne9, tk_inj, nB_u, nM_u, nP_u, nO_u, hN_u, nLn_u, nOp_u, lnP_u, pc_u, kd_u, op_u, pr_u, mInSt_u, mProm_u, nInSt_u, nProm_u, totp_u, tot_u, nB_l, nM_l, nP_l, nO_l, hN_l, nLn_l, nOp_l, lnP_l, pc_l, kd_l, op_l, pr_l, mInSt_l, mProm_l, nInSt_l, nProm_l, totp_l, tot_l, if_false, if_true, false_and, and_false, Nat.reduceEqDiff, reduceIte, reduceCtorEq, and_true, true_and] using h9
  · have h9 := r_fB R
    unfold CfB
    simpa (disch := omega) only [sI_wI, sI_wP, sI_wL, sI_wN, sP_wI, sP_wP, sP_wL, sP_wN, sL_wI, sL_wP, sL_wL, sL_wN, sX_wI, sX_wP, sX_wL, sX_wN, gI_uI, gI_uL, gL_uI, gL_uL, tk_ne9, tk_inj, nB_u, nM_u, nP_u, nO_u, hN_u, nLn_u, nOp_u, lnP_u, pc_u, kd_u, op_u, pr_u, mInSt_u, mProm_u, nInSt_u, nProm_u, totp_u, tot_u, nB_l, nM_l, nP_l, nO_l, hN_l, nLn_l, nOp_l, lnP_l, pc_l, kd_l, op_l, pr_l, mInSt_l, mProm_l, nInSt_l, nProm_l, totp_l, tot_l, if_false, if_true, false_and, and_false, Nat.reduceEqDiff, reduceIte, reduceCtorEq, and_true, true_and] using h9
  · have h9 := r_fL R
    unfold CfL
    simpa (disch := omega) only [sI_wI, sI_wP, sI_wL, sI_wN, sP_wI, sP_wP, sP_wL, sP_wN, sL_wI, sL_wP, sL_wL, sL_wN, sX_wI, sX_wP, sX_wL, sX_wN, gI_uI, gI_uL, gL_uI, gL_uL, tk_ne9, tk_inj, nB_u, nM_u, nP_u, nO_u, hN_u, nLn_u, nOp_u, lnP_u, pc_u, kd_u, op_u, pr_u, mInSt_u, mProm_u, nInSt_u, nProm_u, totp_u, tot_u, nB_l, nM_l, nP_l, nO_l, hN_l, nLn_l, nOp_l, lnP_l, pc_l, kd_l, op_l, pr_l, mInSt_l, mProm_l, nInSt_l, nProm_l, totp_l, tot_l, if_false, if_true, false_and, and_false, Nat.reduceEqDiff, reduceIte, reduceCtorEq, and_true, true_and] using h9
  · have h9 := r_fO R
    unfold CfO
    simpa (disch := omega) only [sI_wI, sI_wP, sI_wL, sI_wN, sP_wI, sP_wP, sP_wL, sP_wN, sL_wI, sL_wP, sL_wL, sL_wN, sX_wI, sX_wP, sX_wL, sX_wN, gI_uI, gI_uL, gL_uI, gL_uL, tk_ne9, tk_inj, nB_u, nM_u, nP_u, nO_u, hN_u, nLn_u, nOp_u, lnP_u, pc_u, kd_u, op_u, pr_u, mInSt_u, mProm_u, nInSt_u, nProm_u, totp_u, tot_u, nB_l, nM_l, nP_l, nO_l, hN_l, nLn_l, nOp_l, lnP_l, pc_l, kd_l, op_l, pr_l, mInSt_l, mProm_l, nInSt_l, nProm_l, totp_l, tot_l, if_false, if_true, false_and, and_false, Nat.reduceEqDiff, reduceIte, reduceCtorEq, and_true, true_and] using h9
  · have h9 := r_fM R
    unfold CfM
    simpa (disch := omega) only [sI_wI, sI_wP, sI_wL, sI_wN, sP_wI, sP_wP, sP_wL, sP_wN, sL_wI, sL_wP, sL_wL, sL_wN, sX_wI, sX_wP, sX_wL, sX_wN, gI_uI, gI_uL, gL_uI, gL_uL, tk_ne9, tk_inj, nB_u, nM_u, nP_u, nO_u, hN_u, nLn_u, nOp_u, lnP_u, pc_u, kd_u, op_u, pr_u, mInSt_u, mProm_u, nInSt_u, nProm_u, totp_u, tot_u, nB_l, nM_l, nP_l, nO_l, hN_l, nLn_l, nOp_l, lnP_l, pc_l, kd_l, op_l, pr_l, mInSt_l, mProm_l, nInSt_l, nProm_l, totp_l, tot_l, if_false, if_true, false_and, and_false, Nat.reduceEqDiff, reduceIte, reduceCtorEq, and_true, true_and] using h9
  · have h9 := r_fP R
    unfold CfP
    simpa (disch := omega) only [sI_wI, sI_wP, sI_wL, sI_wN, sP_wI, sP_wP, sP_wL, sP_wN, sL_wI, sL_wP, sL_wL, sL_wN, sX_wI, sX_wP, sX_wL, sX_wN, gI_uI, gI_uL, gL_uI, gL_uL, tk_ne9, tk_inj, nB_u, nM_u, nP_u, nO_u, hN_u, nLn_u, nOp_u, lnP_u, pc_u, kd_u, op_u, pr_u, mInSt_u, mProm_u, nInSt_u, nProm_u, totp_u, tot_u, nB_l, nM_l, nP_l, nO_l, hN_l, nLn_l, nOp_l, lnP_l, pc_l, kd_l, op_l, pr_l, mInSt_l, mProm_l, nInSt_l, nProm_l, totp_l, tot_l, if_false, if_true, false_and, and_false, Nat.reduceEqDiff, reduceIte, reduceCtorEq, and_true, true_and] using h9
  · have h9 := r_fR R
    unfold CfR
    simpa (disch := omega) only [sI_wI, sI_wP, sI_wL, sI_wN, sP_wI, sP_wP, sP_wL, sP_wN, sL_wI, sL_wP, sL_wL, sL_wN, sX_wI, sX_wP, sX_wL, sX_wN, gI_uI, gI_uL, gL_uI, gL_uL, tk_ne9, tk_inj, nB_u, nM_u, nP_u, nO_u, hN_u, nLn_u, nOp_u, lnP_u, pc_u, kd_u, op_u, pr_u, mInSt_u, mProm_u, nInSt_u, nProm_u, totp_u, tot_u, nB_l, nM_l, nP_l, nO_l, hN_l, nLn_l, nOp_l, lnP_l, pc_l, kd_l, op_l, pr_l, mInSt_l, mProm_l, nInSt_l, nProm_l, totp_l, tot_l, if_false, if_true, false_and, and_false, Nat.reduceEqDiff, reduceIte, reduceCtorEq, and_true, true_and] using h9
  · have h9 := r_fG R
    unfold CfG
    simpa (disch := omega) only [sI_wI, sI_wP, sI_wL, sI_wN, sP_wI, sP_wP, sP_wL, sP_wN, sL_wI, sL_wP, sL_wL, sL_wN, sX_wI, sX_wP, sX_wL, sX_wN, gI_uI, gI_uL, gL_uI, gL_uL, tk_ne9, tk_inj, nB_u, nM_u, nP_u, nO_u, hN_u, nLn_u, nOp_u, lnP_u, pc_u, kd_u, op_u, pr_u, mInSt_u, mProm_u, nInSt_u, nProm_u, totp_u, tot_u, nB_l, nM_l, nP_l, nO_l, hN_l, nLn_l, nOp_l, lnP_l, pc_l, kd_l, op_l, pr_l, mInSt_l, mProm_l, nInSt_l, nProm_l, totp_l, tot_l, if_false, if_true, false_and, and_false, Nat.reduceEqDiff, reduceIte, reduceCtorEq, and_true, true_and] using h9
  · have h9 := r_m0 R
    unfold Cm0
    simpa (disch := omega) only [sI_wI, sI_wP, sI_wL, sI_wN, sP_wI, sP_wP, sP_wL, sP_wN, sL_wI, sL_wP, sL_wL, sL_wN, sX_wI, sX_wP, sX_wL, sX_wN, gI_uI, gI_uL, gL_uI, gL_uL, tk_ne9, tk_inj, nB_u, nM_u, nP_u, nO_u, hN_u, nLn_u, nOp_u, lnP_u, pc_u, kd_u, op_u, pr_u, mInSt_u, mProm_u, nInSt_u, nProm_u, totp_u, tot_u, nB_l, nM_l, nP_l, nO_l, hN_l, nLn_l, nOp_l, lnP_l, pc_l, kd_l, op_l, pr_l, mInSt_l, mProm_l, nInSt_l, nProm_l, totp_l, tot_l, if_false, if_true, false_and, and_false, Nat.reduceEqDiff, reduceIte, reduceCtorEq, and_true, true_and] using h9
  · have h9 := r_mn R
    unfold Cmn
    simpa (disch := omega) only [sI_wI, sI_wP, sI_wL, sI_wN, sP_wI, sP_wP, sP_wL, sP_wN, sL_wI, sL_wP, sL_wL, sL_wN, sX_wI, sX_wP, sX_wL, sX_wN, gI_uI, gI_uL, gL_uI, gL_uL, tk_ne9, tk_inj, nB_u, nM_u, nP_u, nO_u, hN_u, nLn_u, nOp_u, lnP_u, pc_u, kd_u, op_u, pr_u, mInSt_u, mProm_u, nInSt_u, nProm_u, totp_u, tot_u, nB_l, nM_l, nP_l, nO_l, hN_l, nLn_l, nOp_l, lnP_l, pc_l, kd_l, op_l, pr_l, mInSt_l, mProm_l, nInSt_l, nProm_l, totp_l, tot_l, if_false, if_true, false_and, and_false, Nat.reduceEqDiff, reduceIte, reduceCtorEq, and_true, true_and] using h9
  · have h9 := r_m1 R
    unfold Cm1
    simpa (disch := omega) only [sI_wI, sI_wP, sI_wL, sI_wN, sP_wI, sP_wP, sP_wL, sP_wN, sL_wI, sL_wP, sL_wL, sL_wN, sX_wI, sX_wP, sX_wL, sX_wN, gI_uI, gI_uL, gL_uI, gL_uL, tk_ne9, tk_inj, nB_u, nM_u, nP_u, nO_u, hN_u, nLn_u, nOp_u, lnP_u, pc_u, kd_u, op_u, pr_u, mInSt_u, mProm_u, nInSt_u, nProm_u, totp_u, tot_u, nB_l, nM_l, nP_l, nO_l, hN_l, nLn_l, nOp_l, lnP_l, pc_l, kd_l, op_l, pr_l, mInSt_l, mProm_l, nInSt_l, nProm_l, totp_l, tot_l, if_false, if_true, false_and, and_false, Nat.reduceEqDiff, reduceIte, reduceCtorEq, and_true, true_and] using h9
  · have h9 := r_m2 R
    unfold Cm2
    simpa (disch := omega) only [sI_wI, sI_wP, sI_wL, sI_wN, sP_wI, sP_wP, sP_wL, sP_wN, sL_wI, sL_wP, sL_wL, sL_wN, sX_wI, sX_wP, sX_wL, sX_wN, gI_uI, gI_uL, gL_uI, gL_uL, tk_ne9, tk_inj, nB_u, nM_u, nP_u, nO_u, hN_u, nLn_u, nOp_u, lnP_u, pc_u, kd_u, op_u, pr_u, mInSt_u, mProm_u, nInSt_u, nProm_u, totp_u, tot_u, nB_l, nM_l, nP_l, nO_l, hN_l, nLn_l, nOp_l, lnP_l, pc_l, kd_l, op_l, pr_l, mInSt_l, mProm_l, nInSt_l, nProm_l, totp_l, tot_l, if_false, if_true, false_and, and_false, Nat.reduceEqDiff, reduceIte, reduceCtorEq, and_true, true_and] using h9
  · have h9 := r_m3 R
    unfold Cm3
    simpa (disch := omega) only [sI_wI, sI_wP, sI_wL, sI_wN, sP_wI, sP_wP, sP_wL, sP_wN, sL_wI, sL_wP, sL_wL, sL_wN, sX_wI, sX_wP, sX_wL, sX_wN, gI_uI, gI_uL, gL_uI, gL_uL, tk_ne9, tk_inj, nB_u, nM_u, nP_u, nO_u, hN_u, nLn_u, nOp_u, lnP_u, pc_u, kd_u, op_u, pr_u, mInSt_u, mProm_u, nInSt_u, nProm_u, totp_u, tot_u, nB_l, nM_l, nP_l, nO_l, hN_l, nLn_l, nOp_l, lnP_l, pc_l, kd_l, op_l, pr_l, mInSt_l, mProm_l, nInSt_l, nProm_l, totp_l, tot_l, if_false, if_true, false_and, and_false, Nat.reduceEqDiff, reduceIte, reduceCtorEq, and_true, true_and] using h9
  · have h9 := r_m4 R
    unfold Cm4
    simpa (disch := omega) only [sI_wI, sI_wP, sI_wL, sI_wN, sP_wI, sP_wP, sP_wL, sP_wN, sL_wI, sL_wP, sL_wL, sL_wN, sX_wI, sX_wP, sX_wL, sX_wN, gI_uI, gI_uL, gL_uI, gL_uL, tk_ne9, tk_inj, nB_u, nM_u, nP_u, nO_u, hN_u, nLn_u, nOp_u, lnP_u, pc_u, kd_u, op_u, pr_u, mInSt_u, mProm_u, nInSt_u, nProm_u, totp_u, tot_u, nB_l, nM_l, nP_l, nO_l, hN_l, nLn_l, nOp_l, lnP_l, pc_l, kd_l, op_l, pr_l, mInSt_l, mProm_l, nInSt_l, nProm_l, totp_l, tot_l, if_false, if_true, false_and, and_false, Nat.reduceEqDiff, reduceIte, reduceCtorEq, and_true, true_and] using h9
  · have h9 := r_m5 R
    unfold Cm5
    simpa (disch := omega) only [sI_wI, sI_wP, sI_wL, sI_wN, sP_wI, sP_wP, sP_wL, sP_wN, sL_wI, sL_wP, sL_wL, sL_wN, sX_wI, sX_wP, sX_wL, sX_wN, gI_uI, gI_uL, gL_uI, gL_uL, tk_ne9, tk_inj, nB_u, nM_u, nP_u, nO_u, hN_u, nLn_u, nOp_u, lnP_u, pc_u, kd_u, op_u, pr_u, mInSt_u, mProm_u, nInSt_u, nProm_u, totp_u, tot_u, nB_l, nM_l, nP_l, nO_l, hN_l, nLn_l, nOp_l, lnP_l, pc_l, kd_l, op_l, pr_l, mInSt_l, mProm_l, nInSt_l, nProm_l, totp_l, tot_l, if_false, if_true, false_and, and_false, Nat.reduceEqDiff, reduceIte, reduceCtorEq, and_true, true_and] using h9
  · have h9 := r_m9 R
    unfold Cm9
    simpa (disch := omega) only [sI_wI, sI_wP, sI_wL, sI_wN, sP_wI, sP_wP, sP_wL, sP_wN, sL_wI, sL_wP, sL_wL, sL_wN, sX_wI, sX_wP, sX_wL, sX_wN, gI_uI, gI_uL, gL_uI, gL_uL, tk_ne9, tk_inj, nB_u, nM_u, nP_u, nO_u, hN_u, nLn_u, nOp_u, lnP_u, pc_u, kd_u, op_u, pr_u, mInSt_u, mProm_u, nInSt_u, nProm_u, totp_u, tot_u, nB_l, nM_l, nP_l, nO_l, hN_l, nLn_l, nOp_l, lnP_l, pc_l, kd_l, op_l, pr_l, mInSt_l, mProm_l, nInSt_l, nProm_l, totp_l, tot_l, if_false, if_true, false_and, and_false, Nat.reduceEqDiff, reduceIte, reduceCtorEq, and_true, true_and] using h9
  · have h9 := r_m11 R
    unfold Cm11
    simpa (disch := omega) only [sI_wI, sI_wP, sI_wL, sI_wN, sP_wI, sP_wP, sP_wL, sP_wN, sL_wI, sL_wP, sL_wL, sL_wN, sX_wI, sX_wP, sX_wL, sX_wN, gI_uI, gI_uL, gL_uI, gL_uL, tk_ne9, tk_inj, nB_u, nM_u, nP_u, nO_u, hN_u, nLn_u, nOp_u, lnP_u, pc_u, kd_u, op_u, pr_u, mInSt_u, mProm_u, nInSt_u, nProm_u, totp_u, tot_u, nB_l, nM_l, nP_l, nO_l, hN_l, nLn_l, nOp_l, lnP_l, pc_l, kd_l, op_l, pr_l, mInSt_l, mProm_l, nInSt_l, nProm_l, totp_l, tot_l, if_false, if_true, false_and, and_false, Nat.reduceEqDiff, reduceIte, reduceCtorEq, and_true, true_and] using h9
  · have h9 := r_m13 R
    unfold Cm13
    simpa (disch := omega) only [sI_wI, sI_wP, sI_wL, sI_wN, sP_wI, sP_wP, sP_wL, sP_wN, sL_wI, sL_wP, sL_wL, sL_wN, sX_wI, sX_wP, sX_wL, sX_wN, gI_uI, gI_uL, gL_uI, gL_uL, tk_ne9, tk_inj, nB_u, nM_u, nP_u, nO_u, hN_u, nLn_u, nOp_u, lnP_u, pc_u, kd_u, op_u, pr_u, mInSt_u, mProm_u, nInSt_u, nProm_u, totp_u, tot_u, nB_l, nM_l, nP_l, nO_l, hN_l, nLn_l, nOp_l, lnP_l, pc_l, kd_l, op_l, pr_l, mInSt_l, mProm_l, nInSt_l, nProm_l, totp_l, tot_l, if_false, if_true, false_and, and_false, Nat.reduceEqDiff, reduceIte, reduceCtorEq, and_true, true_and] using h9
  · have h9 := r_m14 R
    unfold Cm14
    simpa (disch := omega) only [sI_wI, sI_wP, sI_wL, sI_wN, sP_wI, sP_wP, sP_wL, sP_wN, sL_wI, sL_wP, sL_wL, sL_wN, sX_wI, sX_wP, sX_wL, sX_wN, gI_uI, gI_uL, gL_uI, gL_uL, tk_ne9, tk_inj, nB_u, nM_u, nP_u, nO_u, hN_u, nLn_u, nOp_u, lnP_u, pc_u, kd_u, op_u, pr_u, mInSt_u, mProm_u, nInSt_u, nProm_u, totp_u, tot_u, nB_l, nM_l, nP_l, nO_l, hN_l, nLn_l, nOp_l, lnP_l, pc_l, kd_l, op_l, pr_l, mInSt_l, mProm_l, nInSt_l, nProm_l, totp_l, tot_l, if_false, if_true, false_and, and_false, Nat.reduceEqDiff, reduceIte, reduceCtorEq, and_true, true_and] using h9
  · have h9 := r_m6 R
    unfold Cm6
    simpa (disch := omega) only [sI_wI, sI_wP, sI_wL, sI_wN, sP_wI, sP_wP, sP_wL, sP_wN, sL_wI, sL_wP, sL_wL, sL_wN, sX_wI, sX_wP, sX_wL, sX_wN, gI_uI, gI_uL, gL_uI, gL_uL, tk_ne9, tk_inj, nB_u, nM_u, nP_u, nO_u, hN_u, nLn_u, nOp_u, lnP_u, pc_u, kd_u, op_u, pr_u, mInSt_u, mProm_u, nInSt_u, nProm_u, totp_u, tot_u, nB_l, nM_l, nP_l, nO_l, hN_l, nLn_l, nOp_l, lnP_l, pc_l, kd_l, op_l, pr_l, mInSt_l, mProm_l, nInSt_l, nProm_l, totp_l, tot_l, if_false, if_true, false_and, and_false, Nat.reduceEqDiff, reduceIte, reduceCtorEq, and_true, true_and] using h9
  · have h9 := r_m7 R
    unfold Cm7
    simpa (disch := omega) only [sI_wI, sI_wP, sI_wL, sI_wN, sP_wI, sP_wP, sP_wL, sP_wN, sL_wI, sL_wP, sL_wL, sL_wN, sX_wI, sX_wP, sX_wL, sX_wN, gI_uI, gI_uL, gL_uI, gL_uL, tk_ne9, tk_inj, nB_u, nM_u, nP_u, nO_u, hN_u, nLn_u, nOp_u, lnP_u, pc_u, kd_u, op_u, pr_u, mInSt_u, mProm_u, nInSt_u, nProm_u, totp_u, tot_u, nB_l, nM_l, nP_l, nO_l, hN_l, nLn_l, nOp_l, lnP_l, pc_l, kd_l, op_l, pr_l, mInSt_l, mProm_l, nInSt_l, nProm_l, totp_l, tot_l, if_false, if_true, false_and, and_false, Nat.reduceEqDiff, reduceIte, reduceCtorEq, and_true, true_and] using h9
  · have h9 := r_m8 R
    unfold Cm8
    simpa (disch := omega) only [sI_wI, sI_wP, sI_wL, sI_wN, sP_wI, sP_wP, sP_wL, sP_wN, sL_wI, sL_wP, sL_wL, sL_wN, sX_wI, sX_wP, sX_wL, sX_wN, gI_uI, gI_uL, gL_uI, gL_uL, tk_ne9, tk_inj, nB_u, nM_u, nP_u, nO_u, hN_u, nLn_u, nOp_u, lnP_u, pc_u, kd_u, op_u, pr_u, mInSt_u, mProm_u, nInSt_u, nProm_u, totp_u, tot_u, nB_l, nM_l, nP_l, nO_l, hN_l, nLn_l, nOp_l, lnP_l, pc_l, kd_l, op_l, pr_l, mInSt_l, mProm_l, nInSt_l, nProm_l, totp_l, tot_l, if_false, if_true, false_and, and_false, Nat.reduceEqDiff, reduceIte, reduceCtorEq, and_true, true_and] using h9
  · have h9 := r_m12 R
    unfold Cm12
    simpa (disch := omega) only [sI_wI, sI_wP, sI_wL, sI_wN, sP_wI, sP_wP, sP_wL, sP_wN, sL_wI, sL_wP, sL_wL, sL_wN, sX_wI, sX_wP, sX_wL, sX_wN, gI_uI, gI_uL, gL_uI, gL_uL, tk_ne9, tk_inj, nB_u, nM_u, nP_u, nO_u, hN_u, nLn_u, nOp_u, lnP_u, pc_u, kd_u, op_u, pr_u, mInSt_u, mProm_u, nInSt_u, nProm_u, totp_u, tot_u, nB_l, nM_l, nP_l, nO_l, hN_l, nLn_l, nOp_l, lnP_l, pc_l, kd_l, op_l, pr_l, mInSt_l, mProm_l, nInSt_l, nProm_l, totp_l, tot_l, if_false, if_true, false_and, and_false, Nat.reduceEqDiff, reduceIte, reduceCtorEq, and_true, true_and] using h9
  · have h9 := r_m10 R
    unfold Cm10
    simpa (disch := omega) only [sI_wI, sI_wP, sI_wL, sI_wN, sP_wI, sP_wP, sP_wL, sP_wN, sL_wI, sL_wP, sL_wL, sL_wN, sX_wI, sX_wP, sX_wL, sX_wN, gI_uI, gI_uL, gL_uI, gL_uL, tk_ne9, tk_inj, nB_u, nM_u, nP_u, nO_u, hN_u, nLn_u, nOp_u, lnP_u, pc_u, kd_u, op_u, pr_u, mInSt_u, mProm_u, nInSt_u, nProm_u, totp_u, tot_u, nB_l, nM_l, nP_l, nO_l, hN_l, nLn_l, nOp_l, lnP_l, pc_l, kd_l, op_l, pr_l, mInSt_l, mProm_l, nInSt_l, nProm_l, totp_l, tot_l, if_false, if_true, false_and, and_false, Nat.reduceEqDiff, reduceIte, reduceCtorEq, and_true, true_and] using h9
  · have h9 := r_mma R
    unfold Cmma
    simpa (disch := omega) only [sI_wI, sI_wP, sI_wL, sI_wN, sP_wI, sP_wP, sP_wL, sP_wN, sL_wI, sL_wP, sL_wL, sL_wN, sX_wI, sX_wP, sX_wL, sX_wN, gI_uI, gI_uL, gL_uI, gL_uL, tk_ne9, tk_inj, nB_u, nM_u, nP_u, nO_u, hN_u, nLn_u, nOp_u, lnP_u, pc_u, kd_u, op_u, pr_u, mInSt_u, mProm_u, nInSt_u, nProm_u, totp_u, tot_u, nB_l, nM_l, nP_l, nO_l, hN_l, nLn_l, nOp_l, lnP_l, pc_l, kd_l, op_l, pr_l, mInSt_l, mProm_l, nInSt_l, nProm_l, totp_l, tot_l, if_false, if_true, false_and, and_false, Nat.reduceEqDiff, reduceIte, reduceCtorEq, and_true, true_and] using h9
  · have h9 := r_mmb R
    unfold Cmmb
    simpa (disch := omega) only [sI_wI, sI_wP, sI_wL, sI_wN, sP_wI, sP_wP, sP_wL, sP_wN, sL_wI, sL_wP, sL_wL, sL_wN, sX_wI, sX_wP, sX_wL, sX_wN, gI_uI, gI_uL, gL_uI, gL_uL, tk_ne9, tk_inj, nB_u, nM_u, nP_u, nO_u, hN_u, nLn_u, nOp_u, lnP_u, pc_u, kd_u, op_u, pr_u, mInSt_u, mProm_u, nInSt_u, nProm_u, totp_u, tot_u, nB_l, nM_l, nP_l, nO_l, hN_l, nLn_l, nOp_l, lnP_l, pc_l, kd_l, op_l, pr_l, mInSt_l, mProm_l, nInSt_l, nProm_l, totp_l, tot_l, if_false, if_true, false_and, and_false, Nat.reduceEqDiff, reduceIte, reduceCtorEq, and_true, true_and] using h9
  · have h9 := r_mmc R
    unfold Cmmc
    simpa (disch := omega) only [sI_wI, sI_wP, sI_wL, sI_wN, sP_wI, sP_wP, sP_wL, sP_wN, sL_wI, sL_wP, sL_wL, sL_wN, sX_wI, sX_wP, sX_wL, sX_wN, gI_uI, gI_uL, gL_uI, gL_uL, tk_ne9, tk_inj, nB_u, nM_u, nP_u, nO_u, hN_u, nLn_u, nOp_u, lnP_u, pc_u, kd_u, op_u, pr_u, mInSt_u, mProm_u, nInSt_u, nProm_u, totp_u, tot_u, nB_l, nM_l, nP_l, nO_l, hN_l, nLn_l, nOp_l, lnP_l, pc_l, kd_l, op_l, pr_l, mInSt_l, mProm_l, nInSt_l, nProm_l, totp_l, tot_l, if_false, if_true, false_and, and_false, Nat.reduceEqDiff, reduceIte, reduceCtorEq, and_true, true_and] using h9
  · have h9 := r_mr29 R
    unfold Cmr29
    simpa (disch := omega) only [sI_wI, sI_wP, sI_wL, sI_wN, sP_wI, sP_wP, sP_wL, sP_wN, sL_wI, sL_wP, sL_wL, sL_wN, sX_wI, sX_wP, sX_wL, sX_wN, gI_uI, gI_uL, gL_uI, gL_uL, tk_ne9, tk_inj, nB_u, nM_u, nP_u, nO_u, hN_u, nLn_u, nOp_u, lnP_u, pc_u, kd_u, op_u, pr_u, mInSt_u, mProm_u, nInSt_u, nProm_u, totp_u, tot_u, nB_l, nM_l, nP_l, nO_l, hN_l, nLn_l, nOp_l, lnP_l, pc_l, kd_l, op_l, pr_l, mInSt_l, mProm_l, nInSt_l, nProm_l, totp_l, tot_l, if_false, if_true, false_and, and_false, Nat.reduceEqDiff, reduceIte, reduceCtorEq, and_true, true_and] using h9
  · have h9 := r_mr30 R
    unfold Cmr30
    simpa (disch := omega) only [sI_wI, sI_wP, sI_wL, sI_wN, sP_wI, sP_wP, sP_wL, sP_wN, sL_wI, sL_wP, sL_wL, sL_wN, sX_wI, sX_wP, sX_wL, sX_wN, gI_uI, gI_uL, gL_uI, gL_uL, tk_ne9, tk_inj, nB_u, nM_u, nP_u, nO_u, hN_u, nLn_u, nOp_u, lnP_u, pc_u, kd_u, op_u, pr_u, mInSt_u, mProm_u, nInSt_u, nProm_u, totp_u, tot_u, nB_l, nM_l, nP_l, nO_l, hN_l, nLn_l, nOp_l, lnP_l, pc_l, kd_l, op_l, pr_l, mInSt_l, mProm_l, nInSt_l, nProm_l, totp_l, tot_l, if_false, if_true, false_and, and_false, Nat.reduceEqDiff, reduceIte, reduceCtorEq, and_true, true_and] using h9
  · have h9 := r_mr31 R
    unfold Cmr31
    simpa (disch := omega) only [sI_wI, sI_wP, sI_wL, sI_wN, sP_wI, sP_wP, sP_wL, sP_wN, sL_wI, sL_wP, sL_wL, sL_wN, sX_wI, sX_wP, sX_wL, sX_wN, gI_uI, gI_uL, gL_uI, gL_uL, tk_ne9, tk_inj, nB_u, nM_u, nP_u, nO_u, hN_u, nLn_u, nOp_u, lnP_u, pc_u, kd_u, op_u, pr_u, mInSt_u, mProm_u, nInSt_u, nProm_u, totp_u, tot_u, nB_l, nM_l, nP_l, nO_l, hN_l, nLn_l, nOp_l, lnP_l, pc_l, kd_l, op_l, pr_l, mInSt_l, mProm_l, nInSt_l, nProm_l, totp_l, tot_l, if_false, if_true, false_and, and_false, Nat.reduceEqDiff, reduceIte, reduceCtorEq, and_true, true_and] using h9
  · have h9 := r_mr32 R
    unfold Cmr32
    simpa (disch := omega) only [sI_wI, sI_wP, sI_wL, sI_wN, sP_wI, sP_wP, sP_wL, sP_wN, sL_wI, sL_wP, sL_wL, sL_wN, sX_wI, sX_wP, sX_wL, sX_wN, gI_uI, gI_uL, gL_uI, gL_uL, tk_ne9, tk_inj, nB_u, nM_u, nP_u, nO_u, hN_u, nLn_u, nOp_u, lnP_u, pc_u, kd_u, op_u, pr_u, mInSt_u, mProm_u, nInSt_u, nProm_u, totp_u, tot_u, nB_l, nM_l, nP_l, nO_l, hN_l, nLn_l, nOp_l, lnP_l, pc_l, kd_l, op_l, pr_l, mInSt_l, mProm_l, nInSt_l, nProm_l, totp_l, tot_l, if_false, if_true, false_and, and_false, Nat.reduceEqDiff, reduceIte, reduceCtorEq, and_true, true_and] using h9
  · have h9 := r_mr35 R
    unfold Cmr35
    simpa (disch := omega) only [sI_wI, sI_wP, sI_wL, sI_wN, sP_wI, sP_wP, sP_wL, sP_wN, sL_wI, sL_wP, sL_wL, sL_wN, sX_wI, sX_wP, sX_wL, sX_wN, gI_uI, gI_uL, gL_uI, gL_uL, tk_ne9, tk_inj, nB_u, nM_u, nP_u, nO_u, hN_u, nLn_u, nOp_u, lnP_u, pc_u, kd_u, op_u, pr_u, mInSt_u, mProm_u, nInSt_u, nProm_u, totp_u, tot_u, nB_l, nM_l, nP_l, nO_l, hN_l, nLn_l, nOp_l, lnP_l, pc_l, kd_l, op_l, pr_l, mInSt_l, mProm_l, nInSt_l, nProm_l, totp_l, tot_l, if_false, if_true, false_and, and_false, Nat.reduceEqDiff, reduceIte, reduceCtorEq, and_true, true_and] using h9
  · have h9 := r_mr39 R
    unfold Cmr39
    simpa (disch := omega) only [sI_wI, sI_wP, sI_wL, sI_wN, sP_wI, sP_wP, sP_wL, sP_wN, sL_wI, sL_wP, sL_wL, sL_wN, sX_wI, sX_wP, sX_wL, sX_wN, gI_uI, gI_uL, gL_uI, gL_uL, tk_ne9, tk_inj, nB_u, nM_u, nP_u, nO_u, hN_u, nLn_u, nOp_u, lnP_u, pc_u, kd_u, op_u, pr_u, mInSt_u, mProm_u, nInSt_u, nProm_u, totp_u, tot_u, nB_l, nM_l, nP_l, nO_l, hN_l, nLn_l, nOp_l, lnP_l, pc_l, kd_l, op_l, pr_l, mInSt_l, mProm_l, nInSt_l, nProm_l, totp_l, tot_l, if_false, if_true, false_and, and_false, Nat.reduceEqDiff, reduceIte, reduceCtorEq, and_true, true_and] using h9
  · have h9 := r_mr40 R
    unfold Cmr40
    simpa (disch := omega) only [sI_wI, sI_wP, sI_wL, sI_wN, sP_wI, sP_wP, sP_wL, sP_wN, sL_wI, sL_wP, sL_wL, sL_wN, sX_wI, sX_wP, sX_wL, sX_wN, gI_uI, gI_uL, gL_uI, gL_uL, tk_ne9, tk_inj, nB_u, nM_u, nP_u, nO_u, hN_u, nLn_u, nOp_u, lnP_u, pc_u, kd_u, op_u, pr_u, mInSt_u, mProm_u, nInSt_u, nProm_u, totp_u, tot_u, nB_l, nM_l, nP_l, nO_l, hN_l, nLn_l, nOp_l, lnP_l, pc_l, kd_l, op_l, pr_l, mInSt_l, mProm_l, nInSt_l, nProm_l, totp_l, tot_l, if_false, if_true, false_and, and_false, Nat.reduceEqDiff, reduceIte, reduceCtorEq, and_true, true_and] using h9
  · have h9 := r_md R
    unfold Cmd
    simpa (disch := omega) only [sI_wI, sI_wP, sI_wL, sI_wN, sP_wI, sP_wP, sP_wL, sP_wN, sL_wI, sL_wP, sL_wL, sL_wN, sX_wI, sX_wP, sX_wL, sX_wN, gI_uI, gI_uL, gL_uI, gL_uL, tk_ne9, tk_inj, nB_u, nM_u, nP_u, nO_u, hN_u, nLn_u, nOp_u, lnP_u, pc_u, kd_u, op_u, pr_u, mInSt_u, mProm_u, nInSt_u, nProm_u, totp_u, tot_u, nB_l, nM_l, nP_l, nO_l, hN_l, nLn_l, nOp_l, lnP_l, pc_l, kd_l, op_l, pr_l, mInSt_l, mProm_l, nInSt_l, nProm_l, totp_l, tot_l, if_false, if_true, false_and, and_false, Nat.reduceEqDiff, reduceIte, reduceCtorEq, and_true, true_and] using h9
  · have h9 := r_mw R
    unfold Cmw
    simpa (disch := omega) only [sI_wI, sI_wP, sI_wL, sI_wN, sP_wI, sP_wP, sP_wL, sP_wN, sL_wI, sL_wP, sL_wL, sL_wN, sX_wI, sX_wP, sX_wL, sX_wN, gI_uI, gI_uL, gL_uI, gL_uL, tk_ne9, tk_inj, nB_u, nM_u, nP_u, nO_u, hN_u, nLn_u, nOp_u, lnP_u, pc_u, kd_u, op_u, pr_u, mInSt_u, mProm_u, nInSt_u, nProm_u, totp_u, tot_u, nB_l, nM_l, nP_l, nO_l, hN_l, nLn_l, nOp_l, lnP_l, pc_l, kd_l, op_l, pr_l, mInSt_l, mProm_l, nInSt_l, nProm_l, totp_l, tot_l, if_false, if_true, false_and, and_false, Nat.reduceEqDiff, reduceIte, reduceCtorEq, and_true, true_and] using h9
  · have h9 := r_q0 R
    unfold Cq0
    simpa (disch := omega) only [sI_wI, sI_wP, sI_wL, sI_wN, sP_wI, sP_wP, sP_wL, sP_wN, sL_wI, sL_wP, sL_wL, sL_wN, sX_wI, sX_wP, sX_wL, sX_wN, gI_uI, gI_uL, gL_uI, gL_uL, tk_ne9, tk_inj, nB_u, nM_u, nP_u, nO_u, hN_u, nLn_u, nOp_u, lnP_u, pc_u, kd_u, op_u, pr_u, mInSt_u, mProm_u, nInSt_u, nProm_u, totp_u, tot_u, nB_l, nM_l, nP_l, nO_l, hN_l, nLn_l, nOp_l, lnP_l, pc_l, kd_l, op_l, pr_l, mInSt_l, mProm_l, nInSt_l, nProm_l, totp_l, tot_l, if_false, if_true, false_and, and_false, Nat.reduceEqDiff, reduceIte, reduceCtorEq, and_true, true_and] using h9
  · have h9 := r_qn R
    unfold Cqn
    simpa (disch := omega) only [sI_wI, sI_wP, sI_wL, sI_wN, sP_wI, sP_wP, sP_wL, sP_wN, sL_wI, sL_wP, sL_wL, sL_wN, sX_wI, sX_wP, sX_wL, sX_wN, gI_uI, gI_uL, gL_uI, gL_uL, tk_ne9, tk_inj, nB_u, nM_u, nP_u, nO_u, hN_u, nLn_u, nOp_u, lnP_u, pc_u, kd_u, op_u, pr_u, mInSt_u, mProm_u, nInSt_u, nProm_u, totp_u, tot_u, nB_l, nM_l, nP_l, nO_l, hN_l, nLn_l, nOp_l, lnP_l, pc_l, kd_l, op_l, pr_l, mInSt_l, mProm_l, nInSt_l, nProm_l, totp_l, tot_l, if_false, if_true, false_and, and_false, Nat.reduceEqDiff, reduceIte, reduceCtorEq, and_true, true_and] using h9
  · have h9 := r_q1 R
    unfold Cq1
    simpa (disch := omega) only [sI_wI, sI_wP, sI_wL, sI_wN, sP_wI, sP_wP, sP_wL, sP_wN, sL_wI, sL_wP, sL_wL, sL_wN, sX_wI, sX_wP, sX_wL, sX_wN, gI_uI, gI_uL, gL_uI, gL_uL, tk_ne9, tk_inj, nB_u, nM_u, nP_u, nO_u, hN_u, nLn_u, nOp_u, lnP_u, pc_u, kd_u, op_u, pr_u, mInSt_u, mProm_u, nInSt_u, nProm_u, totp_u, tot_u, nB_l, nM_l, nP_l, nO_l, hN_l, nLn_l, nOp_l, lnP_l, pc_l, kd_l, op_l, pr_l, mInSt_l, mProm_l, nInSt_l, nProm_l, totp_l, tot_l, if_false, if_true, false_and, and_false, Nat.reduceEqDiff, reduceIte, reduceCtorEq, and_true, true_and] using h9
  · have h9 := r_q2 R
    unfold Cq2
    simpa (disch := omega) only [sI_wI, sI_wP, sI_wL, sI_wN, sP_wI, sP_wP, sP_wL, sP_wN, sL_wI, sL_wP, sL_wL, sL_wN, sX_wI, sX_wP, sX_wL, sX_wN, gI_uI, gI_uL, gL_uI, gL_uL, tk_ne9, tk_inj, nB_u, nM_u, nP_u, nO_u, hN_u, nLn_u, nOp_u, lnP_u, pc_u, kd_u, op_u, pr_u, mInSt_u, mProm_u, nInSt_u, nProm_u, totp_u, tot_u, nB_l, nM_l, nP_l, nO_l, hN_l, nLn_l, nOp_l, lnP_l, pc_l, kd_l, op_l, pr_l, mInSt_l, mProm_l, nInSt_l, nProm_l, totp_l, tot_l, if_false, if_true, false_and, and_false, Nat.reduceEqDiff, reduceIte, reduceCtorEq, and_true, true_and] using h9
  · have h9 := r_q3 R
    unfold Cq3
    simpa (disch := omega) only [sI_wI, sI_wP, sI_wL, sI_wN, sP_wI, sP_wP, sP_wL, sP_wN, sL_wI, sL_wP, sL_wL, sL_wN, sX_wI, sX_wP, sX_wL, sX_wN, gI_uI, gI_uL, gL_uI, gL_uL, tk_ne9, tk_inj, nB_u, nM_u, nP_u, nO_u, hN_u, nLn_u, nOp_u, lnP_u, pc_u, kd_u, op_u, pr_u, mInSt_u, mProm_u, nInSt_u, nProm_u, totp_u, tot_u, nB_l, nM_l, nP_l, nO_l, hN_l, nLn_l, nOp_l, lnP_l, pc_l, kd_l, op_l, pr_l, mInSt_l, mProm_l, nInSt_l, nProm_l, totp_l, tot_l, if_false, if_true, false_and, and_false, Nat.reduceEqDiff, reduceIte, reduceCtorEq, and_true, true_and] using h9
  · have h9 := r_q4 R
    unfold Cq4
    simpa (disch := omega) only [sI_wI, sI_wP, sI_wL, sI_wN, sP_wI, sP_wP, sP_wL, sP_wN, sL_wI, sL_wP, sL_wL, sL_wN, sX_wI, sX_wP, sX_wL, sX_wN, gI_uI, gI_uL, gL_uI, gL_uL, tk_ne9, tk_inj, nB_u, nM_u, nP_u, nO_u, hN_u, nLn_u, nOp_u, lnP_u, pc_u, kd_u, op_u, pr_u, mInSt_u, mProm_u, nInSt_u, nProm_u, totp_u, tot_u, nB_l, nM_l, nP_l, nO_l, hN_l, nLn_l, nOp_l, lnP_l, pc_l, kd_l, op_l, pr_l, mInSt_l, mProm_l, nInSt_l, nProm_l, totp_l, tot_l, if_false, if_true, false_and, and_false, Nat.reduceEqDiff, reduceIte, reduceCtorEq, and_true, true_and] using h9
  · have h9 := r_q5 R
    unfold Cq5
    simpa (disch := omega) only [sI_wI, sI_wP, sI_wL, sI_wN, sP_wI, sP_wP, sP_wL, sP_wN, sL_wI, sL_wP, sL_wL, sL_wN, sX_wI, sX_wP, sX_wL, sX_wN, gI_uI, gI_uL, gL_uI, gL_uL, tk_ne9, tk_inj, nB_u, nM_u, nP_u, nO_u, hN_u, nLn_u, nOp_u, lnP_u, pc_u, kd_u, op_u, pr_u, mInSt_u, mProm_u, nInSt_u, nProm_u, totp_u, tot_u, nB_l, nM_l, nP_l, nO_l, hN_l, nLn_l, nOp_l, lnP_l, pc_l, kd_l, op_l, pr_l, mInSt_l, mProm_l, nInSt_l, nProm_l, totp_l, tot_l, if_false, if_true, false_and, and_false, Nat.reduceEqDiff, reduceIte, reduceCtorEq, and_true, true_and] using h9
  · have h9 := r_q6 R
    unfold Cq6
    simpa (disch := omega) only [sI_wI, sI_wP, sI_wL, sI_wN, sP_wI, sP_wP, sP_wL, sP_wN, sL_wI, sL_wP, sL_wL, sL_wN, sX_wI, sX_wP, sX_wL, sX_wN, gI_uI, gI_uL, gL_uI, gL_uL, tk_ne9, tk_inj, nB_u, nM_u, nP_u, nO_u, hN_u, nLn_u, nOp_u, lnP_u, pc_u, kd_u, op_u, pr_u, mInSt_u, mProm_u, nInSt_u, nProm_u, totp_u, tot_u, nB_l, nM_l, nP_l, nO_l, hN_l, nLn_l, nOp_l, lnP_l, pc_l, kd_l, op_l, pr_l, mInSt_l, mProm_l, nInSt_l, nProm_l, totp_l, tot_l, if_false, if_true, false_and, and_false, Nat.reduceEqDiff, reduceIte, reduceCtorEq, and_true, true_and] using h9
  · have h9 := r_ql R
    unfold Cql
    simpa (disch := omega) only [sI_wI, sI_wP, sI_wL, sI_wN, sP_wI, sP_wP, sP_wL, sP_wN, sL_wI, sL_wP, sL_wL, sL_wN, sX_wI, sX_wP, sX_wL, sX_wN, gI_uI, gI_uL, gL_uI, gL_uL, tk_ne9, tk_inj, nB_u, nM_u, nP_u, nO_u, hN_u, nLn_u, nOp_u, lnP_u, pc_u, kd_u, op_u, pr_u, mInSt_u, mProm_u, nInSt_u, nProm_u, totp_u, tot_u, nB_l, nM_l, nP_l, nO_l, hN_l, nLn_l, nOp_l, lnP_l, pc_l, kd_l, op_l, pr_l, mInSt_l, mProm_l, nInSt_l, nProm_l, totp_l, tot_l, if_false, if_true, false_and, and_false, Nat.reduceEqDiff, reduceIte, reduceCtorEq, and_true, true_and] using h9
  · have h9 := r_qw R
    unfold Cqw
    simpa (disch := omega) only [sI_wI, sI_wP, sI_wL, sI_wN, sP_wI, sP_wP, sP_wL, sP_wN, sL_wI, sL_wP, sL_wL, sL_wN, sX_wI, sX_wP, sX_wL, sX_wN, gI_uI, gI_uL, gL_uI, gL_uL, tk_ne9, tk_inj, nB_u, nM_u, nP_u, nO_u, hN_u, nLn_u, nOp_u, lnP_u, pc_u, kd_u, op_u, pr_u, mInSt_u, mProm_u, nInSt_u, nProm_u, totp_u, tot_u, nB_l, nM_l, nP_l, nO_l, hN_l, nLn_l, nOp_l, lnP_l, pc_l, kd_l, op_l, pr_l, mInSt_l, mProm_l, nInSt_l, nProm_l, totp_l, tot_l, if_false, if_true, false_and, and_false, Nat.reduceEqDiff, reduceIte, reduceCtorEq, and_true, true_and] using h9
  · have h9 := r_qm R
    unfold Cqm
    simpa (disch := omega) only [sI_wI, sI_wP, sI_wL, sI_wN, sP_wI, sP_wP, sP_wL, sP_wN, sL_wI, sL_wP, sL_wL, sL_wN, sX_wI, sX_wP, sX_wL, sX_wN, gI_uI, gI_uL, gL_uI, gL_uL, tk_ne9, tk_inj, nB_u, nM_u, nP_u, nO_u, hN_u, nLn_u, nOp_u, lnP_u, pc_u, kd_u, op_u, pr_u, mInSt_u, mProm_u, nInSt_u, nProm_u, totp_u, tot_u, nB_l, nM_l, nP_l, nO_l, hN_l, nLn_l, nOp_l, lnP_l, pc_l, kd_l, op_l, pr_l, mInSt_l, mProm_l, nInSt_l, nProm_l, totp_l, tot_l, if_false, if_true, false_and, and_false, Nat.reduceEqDiff, reduceIte, reduceCtorEq, and_true, true_and] using h9
  · have h9 := r_qr R
    unfold Cqr
    simpa (disch := omega) only [sI_wI, sI_wP, sI_wL, sI_wN, sP_wI, sP_wP, sP_wL, sP_wN, sL_wI, sL_wP, sL_wL, sL_wN, sX_wI, sX_wP, sX_wL, sX_wN, gI_uI, gI_uL, gL_uI, gL_uL, tk_ne9, tk_inj, nB_u, nM_u, nP_u, nO_u, hN_u, nLn_u, nOp_u, lnP_u, pc_u, kd_u, op_u, pr_u, mInSt_u, mProm_u, nInSt_u, nProm_u, totp_u, tot_u, nB_l, nM_l, nP_l, nO_l, hN_l, nLn_l, nOp_l, lnP_l, pc_l, kd_l, op_l, pr_l, mInSt_l, mProm_l, nInSt_l, nProm_l, totp_l, tot_l, if_false, if_true, false_and, and_false, Nat.reduceEqDiff, reduceIte, reduceCtorEq, and_true, true_and] using h9
  · have h9 := r_r0 R
    unfold Cr0
    simpa (disch := omega) only [sI_wI, sI_wP, sI_wL, sI_wN, sP_wI, sP_wP, sP_wL, sP_wN, sL_wI, sL_wP, sL_wL, sL_wN, sX_wI, sX_wP, sX_wL, sX_wN, gI_uI, gI_uL, gL_uI, gL_uL, tk_ne9, tk_inj, nB_u, nM_u, nP_u, nO_u, hN_u, nLn_u, nOp_u, lnP_u, pc_u, kd_u, op_u, pr_u, mInSt_u, mProm_u, nInSt_u, nProm_u, totp_u, tot_u, nB_l, nM_l, nP_l, nO_l, hN_l, nLn_l, nOp_l, lnP_l, pc_l, kd_l, op_l, pr_l, mInSt_l, mProm_l, nInSt_l, nProm_l, totp_l, tot_l, if_false, if_true, false_and, and_false, Nat.reduceEqDiff, reduceIte, reduceCtorEq, and_true, true_and] using h9
  · have h9 := r_r1 R
    unfold Cr1
    simpa (disch := omega) only [sI_wI, sI_wP, sI_wL, sI_wN, sP_wI, sP_wP, sP_wL, sP_wN, sL_wI, sL_wP, sL_wL, sL_wN, sX_wI, sX_wP, sX_wL, sX_wN, gI_uI, gI_uL, gL_uI, gL_uL, tk_ne9, tk_inj, nB_u, nM_u, nP_u, nO_u, hN_u, nLn_u, nOp_u, lnP_u, pc_u, kd_u, op_u, pr_u, mInSt_u, mProm_u, nInSt_u, nProm_u, totp_u, tot_u, nB_l, nM_l, nP_l, nO_l, hN_l, nLn_l, nOp_l, lnP_l, pc_l, kd_l, op_l, pr_l, mInSt_l, mProm_l, nInSt_l, nProm_l, totp_l, tot_l, if_false, if_true, false_and, and_false, Nat.reduceEqDiff, reduceIte, reduceCtorEq, and_true, true_and] using h9
  · have h9 := r_r2 R
    unfold Cr2
    simpa (disch := omega) only [sI_wI, sI_wP, sI_wL, sI_wN, sP_wI, sP_wP, sP_wL, sP_wN, sL_wI, sL_wP, sL_wL, sL_wN, sX_wI, sX_wP, sX_wL, sX_wN, gI_uI, gI_uL, gL_uI, gL_uL, tk_ne9, tk_inj, nB_u, nM_u, nP_u, nO_u, hN_u, nLn_u, nOp_u, lnP_u, pc_u, kd_u, op_u, pr_u, mInSt_u, mProm_u, nInSt_u, nProm_u, totp_u, tot_u, nB_l, nM_l, nP_l, nO_l, hN_l, nLn_l, nOp_l, lnP_l, pc_l, kd_l, op_l, pr_l, mInSt_l, mProm_l, nInSt_l, nProm_l, totp_l, tot_l, if_false, if_true, false_and, and_false, Nat.reduceEqDiff, reduceIte, reduceCtorEq, and_true, true_and] using h9
  · have h9 := r_r3 R
    unfold Cr3
    simpa (disch := omega) only [sI_wI, sI_wP, sI_wL, sI_wN, sP_wI, sP_wP, sP_wL, sP_wN, sL_wI, sL_wP, sL_wL, sL_wN, sX_wI, sX_wP, sX_wL, sX_wN, gI_uI, gI_uL, gL_uI, gL_uL, tk_ne9, tk_inj, nB_u, nM_u, nP_u, nO_u, hN_u, nLn_u, nOp_u, lnP_u, pc_u, kd_u, op_u, pr_u, mInSt_u, mProm_u, nInSt_u, nProm_u, totp_u, tot_u, nB_l, nM_l, nP_l, nO_l, hN_l, nLn_l, nOp_l, lnP_l, pc_l, kd_l, op_l, pr_l, mInSt_l, mProm_l, nInSt_l, nProm_l, totp_l, tot_l, if_false, if_true, false_and, and_false, Nat.reduceEqDiff, reduceIte, reduceCtorEq, and_true, true_and] using h9
  · have h9 := r_r4 R
    unfold Cr4
    simpa (disch := omega) only [sI_wI, sI_wP, sI_wL, sI_wN, sP_wI, sP_wP, sP_wL, sP_wN, sL_wI, sL_wP, sL_wL, sL_wN, sX_wI, sX_wP, sX_wL, sX_wN, gI_uI, gI_uL, gL_uI, gL_uL, tk_ne9, tk_inj, nB_u, nM_u, nP_u, nO_u, hN_u, nLn_u, nOp_u, lnP_u, pc_u, kd_u, op_u, pr_u, mInSt_u, mProm_u, nInSt_u, nProm_u, totp_u, tot_u, nB_l, nM_l, nP_l, nO_l, hN_l, nLn_l, nOp_l, lnP_l, pc_l, kd_l, op_l, pr_l, mInSt_l, mProm_l, nInSt_l, nProm_l, totp_l, tot_l, if_false, if_true, false_and, and_false, Nat.reduceEqDiff, reduceIte, reduceCtorEq, and_true, true_and] using h9
  · have h9 := r_r5 R
    unfold Cr5
    simpa (disch := omega) only [sI_wI, sI_wP, sI_wL, sI_wN, sP_wI, sP_wP, sP_wL, sP_wN, sL_wI, sL_wP, sL_wL, sL_wN, sX_wI, sX_wP, sX_wL, sX_wN, gI_uI, gI_uL, gL_uI, gL_uL, tk_ne9, tk_inj, nB_u, nM_u, nP_u, nO_u, hN_u, nLn_u, nOp_u, lnP_u, pc_u, kd_u, op_u, pr_u, mInSt_u, mProm_u, nInSt_u, nProm_u, totp_u, tot_u, nB_l, nM_l, nP_l, nO_l, hN_l, nLn_l, nOp_l, lnP_l, pc_l, kd_l, op_l, pr_l, mInSt_l, mProm_l, nInSt_l, nProm_l, totp_l, tot_l, if_false, if_true, false_and, and_false, Nat.reduceEqDiff, reduceIte, reduceCtorEq, and_true, true_and] using h9
  · have h9 := r_r6 R
    unfold Cr6
    simpa (disch := omega) only [sI_wI, sI_wP, sI_wL, sI_wN, sP_wI, sP_wP, sP_wL, sP_wN, sL_wI, sL_wP, sL_wL, sL_wN, sX_wI, sX_wP, sX_wL, sX_wN, gI_uI, gI_uL, gL_uI, gL_uL, tk_ne9, tk_inj, nB_u, nM_u, nP_u, nO_u, hN_u, nLn_u, nOp_u, lnP_u, pc_u, kd_u, op_u, pr_u, mInSt_u, mProm_u, nInSt_u, nProm_u, totp_u, tot_u, nB_l, nM_l, nP_l, nO_l, hN_l, nLn_l, nOp_l, lnP_l, pc_l, kd_l, op_l, pr_l, mInSt_l, mProm_l, nInSt_l, nProm_l, totp_l, tot_l, if_false, if_true, false_and, and_false, Nat.reduceEqDiff, reduceIte, reduceCtorEq, and_true, true_and] using h9
  · have h9 := r_rk R
    unfold Crk
    simpa (disch := omega) only [sI_wI, sI_wP, sI_wL, sI_wN, sP_wI, sP_wP, sP_wL, sP_wN, sL_wI, sL_wP, sL_wL, sL_wN, sX_wI, sX_wP, sX_wL, sX_wN, gI_uI, gI_uL, gL_uI, gL_uL, tk_ne9, tk_inj, nB_u, nM_u, nP_u, nO_u, hN_u, nLn_u, nOp_u, lnP_u, pc_u, kd_u, op_u, pr_u, mInSt_u, mProm_u, nInSt_u, nProm_u, totp_u, tot_u, nB_l, nM_l, nP_l, nO_l, hN_l, nLn_l, nOp_l, lnP_l, pc_l, kd_l, op_l, pr_l, mInSt_l, mProm_l, nInSt_l, nProm_l, totp_l, tot_l, if_false, if_true, false_and, and_false, Nat.reduceEqDiff, reduceIte, reduceCtorEq, and_true, true_and] using h9
  · have h9 := r_rp R
    unfold Crp
    simpa (disch := omega) only [sI_wI, sI_wP, sI_wL, sI_wN, sP_wI, sP_wP, sP_wL, sP_wN, sL_wI, sL_wP, sL_wL, sL_wN, sX_wI, sX_wP, sX_wL, sX_wN, gI_uI, gI_uL, gL_uI, gL_uL, tk_ne9, tk_inj, nB_u, nM_u, nP_u, nO_u, hN_u, nLn_u, nOp_u, lnP_u, pc_u, kd_u, op_u, pr_u, mInSt_u, mProm_u, nInSt_u, nProm_u, totp_u, tot_u, nB_l, nM_l, nP_l, nO_l, hN_l, nLn_l, nOp_l, lnP_l, pc_l, kd_l, op_l, pr_l, mInSt_l, mProm_l, nInSt_l, nProm_l, totp_l, tot_l, if_false, if_true, false_and, and_false, Nat.reduceEqDiff, reduceIte, reduceCtorEq, and_true, true_and] using h9
  · have h9 := r_rq R
    unfold Crq
    simpa (disch := omega) only [sI_wI, sI_wP, sI_wL, sI_wN, sP_wI, sP_wP, sP_wL, sP_wN, sL_wI, sL_wP, sL_wL, sL_wN, sX_wI, sX_wP, sX_wL, sX_wN, gI_uI, gI_uL, gL_uI, gL_uL, tk_ne9, tk_inj, nB_u, nM_u, nP_u, nO_u, hN_u, nLn_u, nOp_u, lnP_u, pc_u, kd_u, op_u, pr_u, mInSt_u, mProm_u, nInSt_u, nProm_u, totp_u, tot_u, nB_l, nM_l, nP_l, nO_l, hN_l, nLn_l, nOp_l, lnP_l, pc_l, kd_l, op_l, pr_l, mInSt_l, mProm_l, nInSt_l, nProm_l, totp_l, tot_l, if_false, if_true, false_and, and_false, Nat.reduceEqDiff, reduceIte, reduceCtorEq, and_true, true_and] using h9
  · have h9 := r_rr R
    unfold Crr
    simpa (disch := omega) only [sI_wI, sI_wP, sI_wL, sI_wN, sP_wI, sP_wP, sP_wL, sP_wN, sL_wI, sL_wP, sL_wL, sL_wN, sX_wI, sX_wP, sX_wL, sX_wN, gI_uI, gI_uL, gL_uI, gL_uL, tk_ne9, tk_inj, nB_u, nM_u, nP_u, nO_u, hN_u, nLn_u, nOp_u, lnP_u, pc_u, kd_u, op_u, pr_u, mInSt_u, mProm_u, nInSt_u, nProm_u, totp_u, tot_u, nB_l, nM_l, nP_l, nO_l, hN_l, nLn_l, nOp_l, lnP_l, pc_l, kd_l, op_l, pr_l, mInSt_l, mProm_l, nInSt_l, nProm_l, totp_l, tot_l, if_false, if_true, false_and, and_false, Nat.reduceEqDiff, reduceIte, reduceCtorEq, and_true, true_and] using h9
  · have h9 := r_rs R
    unfold Crs
    simpa (disch := omega) only [sI_wI, sI_wP, sI_wL, sI_wN, sP_wI, sP_wP, sP_wL, sP_wN, sL_wI, sL_wP, sL_wL, sL_wN, sX_wI, sX_wP, sX_wL, sX_wN, gI_uI, gI_uL, gL_uI, gL_uL, tk_ne9, tk_inj, nB_u, nM_u, nP_u, nO_u, hN_u, nLn_u, nOp_u, lnP_u, pc_u, kd_u, op_u, pr_u, mInSt_u, mProm_u, nInSt_u, nProm_u, totp_u, tot_u, nB_l, nM_l, nP_l, nO_l, hN_l, nLn_l, nOp_l, lnP_l, pc_l, kd_l, op_l, pr_l, mInSt_l, mProm_l, nInSt_l, nProm_l, totp_l, tot_l, if_false, if_true, false_and, and_false, Nat.reduceEqDiff, reduceIte, reduceCtorEq, and_true, true_and] using h9
