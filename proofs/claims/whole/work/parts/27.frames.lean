/-! Small facts. -/
theorem nI_ne1 {n : Nat} (h : n < 2 ^ 31 - 1) : nI n ≠ -1 := by
  intro q
  have h2 := congrArg Int32.toInt q
  rw [nI_toInt (by omega), show (-1 : Int32).toInt = -1 by decide] at h2
  omega
theorem kp_nI {k : Nat} (h : k < 2 ^ 31) : kp (nI k) = some (tk 2 k) := by
  unfold kp
  have h2 : nI k ≠ -1 := by
    intro q
    have h2 := congrArg Int32.toInt q
    rw [nI_toInt h, show (-1 : Int32).toInt = -1 by decide] at h2
    omega
  rw [if_neg h2, nI_clamp h]
theorem tp_nI {c k : Nat} (h : k < 2 ^ 31) : tp c (nI k) = some (tk c k) := by
  unfold tp
  have h2 : nI k ≠ -1 := by
    intro q
    have h2 := congrArg Int32.toInt q
    rw [nI_toInt h, show (-1 : Int32).toInt = -1 by decide] at h2
    omega
  rw [if_neg h2, nI_clamp h]
/-! Frames: Rel is kept when class and model write the same. -/
theorem rel_e {e e' : Nat} {a : Sg} {M : MS} (R : Rel e a M) (h : e ≤ e') (h6 : e' ≤ 6) : Rel e' a M := by
  unfold Rel
  refine ⟨?_, ?_, ?_, ?_, ?_, ?_, ?_, ?_, ?_, ?_, ?_, ?_, ?_, ?_, ?_, ?_, ?_, ?_, ?_, ?_, ?_, ?_, ?_, ?_, ?_, ?_, ?_, ?_, ?_, ?_, ?_, ?_, ?_, ?_, ?_, ?_, ?_, ?_, ?_, ?_, ?_, ?_, ?_, ?_, ?_, ?_, ?_, ?_, ?_, ?_, ?_, ?_, ?_, ?_, ?_, ?_, ?_, ?_, ?_, ?_, ?_, ?_, ?_, ?_, ?_, ?_, ?_, ?_, ?_, ?_, ?_, ?_, ?_, ?_, ?_, ?_, ?_, ?_, ?_, ?_, ?_, ?_, ?_, ?_, ?_, ?_, ?_, ?_, ?_, ?_, ?_, ?_, ?_, ?_, ?_, ?_, ?_, ?_, ?_, ?_, ?_, ?_, ?_, ?_, ?_, ?_, ?_, ?_, ?_, ?_, ?_, ?_, ?_, ?_, ?_, ?_, ?_, ?_, ?_, ?_, ?_, ?_, ?_, ?_, ?_, ?_, ?_, ?_, ?_, ?_, ?_, ?_, ?_, ?_, ?_, ?_, ?_, ?_, ?_, ?_, ?_, ?_, ?_, ?_, ?_, ?_, ?_, ?_, ?_⟩
  · exact r_shm R
  · exact r_px0 R
  · exact r_px1 R
  · exact r_px2 R
  · exact r_pf0 R
  · exact r_pf1 R
  · exact r_pf3 R
  · exact r_ps0 R
  · exact r_ps2 R
  · exact r_ps4 R
  · exact r_pk R
  · exact r_pkl R
  · exact r_pko R
  · exact r_ghour R
  · exact r_gstand R
  · exact r_gbought R
  · exact r_gmach R
  · exact r_gpers R
  · exact r_gworked R
  · exact r_grep R
  · exact r_gbat R
  · exact r_gord R
  · exact r_gq R
  · exact r_nB R
  · exact r_nBx R
  · exact r_nM R
  · exact r_nMx R
  · exact r_nP R
  · exact r_nPx R
  · exact r_nO R
  · exact r_nOx R
  · exact r_hr R
  · exact r_hrx R
  · exact r_stb R
  · exact (show e' ≤ 7 by omega)
  · exact r_k0 R
  · exact r_k1 R
  · exact r_k2 R
  · exact r_k3 R
  · exact r_k5 R
  · exact r_k7 R
  · exact r_k8 R
  · exact r_k9 R
  · exact r_k10 R
  · exact r_k11 R
  · exact r_k12 R
  · exact r_ksa R
  · exact r_ksb R
  · exact r_ksc R
  · exact r_kw R
  · exact r_kl R
  · exact r_ko R
  · exact r_kp R
  · exact r_l0 R
  · exact r_l1 R
  · exact r_l2 R
  · exact r_l3 R
  · exact r_lm R
  · exact r_o0 R
  · exact r_o1 R
  · exact r_o2 R
  · exact r_o3 R
  · exact r_om R
  · exact r_b0 R
  · exact r_bn R
  · exact r_bk R
  · exact r_b2 R
  · exact r_b3 R
  · exact r_b4 R
  · exact r_b5 R
  · exact r_b6 R
  · exact r_b7 R
  · exact r_b8 R
  · exact r_b9 R
  · exact r_b10 R
  · exact r_b11 R
  · exact r_bK R
  · exact r_bP R
  · exact r_bO R
  · exact r_bW R
  · exact r_bZ R
  · exact r_bF R
  · exact r_bS R
  · exact r_bC R
  · exact r_bT R
  · exact r_bU R
  · exact r_bq R
  · exact fun _ => r_ps R (by omega)
  · exact r_bp R
  · have h9 := r_bc R
    unfold Cbc
    have h8 : ((e % 7 : Nat) : Int) ≤ ((e' % 7 : Nat) : Int) := by omega
    omega
  · exact r_fB R
  · exact r_fL R
  · exact r_fO R
  · exact r_fM R
  · exact r_fP R
  · exact r_fR R
  · exact r_fG R
  · exact r_m0 R
  · exact r_mn R
  · exact r_m1 R
  · exact r_m2 R
  · exact r_m3 R
  · exact r_m4 R
  · exact r_m5 R
  · exact r_m9 R
  · exact r_m11 R
  · exact r_m13 R
  · exact r_m14 R
  · exact r_m6 R
  · exact r_m7 R
  · exact r_m8 R
  · exact r_m12 R
  · exact r_m10 R
  · exact r_mma R
  · exact r_mmb R
  · exact r_mmc R
  · exact r_mr29 R
  · exact r_mr30 R
  · exact r_mr31 R
  · exact r_mr32 R
  · exact r_mr35 R
  · exact r_mr39 R
  · exact r_mr40 R
  · exact r_md R
  · exact r_mw R
  · exact r_q0 R
  · exact r_qn R
  · exact r_q1 R
  · exact r_q2 R
  · exact r_q3 R
  · exact r_q4 R
  · exact r_q5 R
  · exact r_q6 R
  · exact r_ql R
  · exact r_qw R
  · exact r_qm R
  · exact r_qr R
  · exact r_r0 R
  · exact r_r1 R
  · exact r_r2 R
  · exact r_r3 R
  · exact r_r4 R
  · exact r_r5 R
  · exact r_r6 R
  · exact r_rk R
  · exact r_rp R
  · exact r_rq R
  · exact r_rr R
  · exact r_rs R
set_option maxHeartbeats 8000000 in
theorem rel_left {e : Nat} {a : Sg} {M : MS} (R : Rel e a M) (m : Nat) (hm : m < nM M) (f : Nat) (hf : f ≤ 20) (hl : gI M 34 m ≠ -1 ∨ f = 0) : Rel e (wI a (tk 4 m) 9 (nI f)) (uI M 35 m (nI f)) := by
  unfold Rel
  refine ⟨?_, ?_, ?_, ?_, ?_, ?_, ?_, ?_, ?_, ?_, ?_, ?_, ?_, ?_, ?_, ?_, ?_, ?_, ?_, ?_, ?_, ?_, ?_, ?_, ?_, ?_, ?_, ?_, ?_, ?_, ?_, ?_, ?_, ?_, ?_, ?_, ?_, ?_, ?_, ?_, ?_, ?_, ?_, ?_, ?_, ?_, ?_, ?_, ?_, ?_, ?_, ?_, ?_, ?_, ?_, ?_, ?_, ?_, ?_, ?_, ?_, ?_, ?_, ?_, ?_, ?_, ?_, ?_, ?_, ?_, ?_, ?_, ?_, ?_, ?_, ?_, ?_, ?_, ?_, ?_, ?_, ?_, ?_, ?_, ?_, ?_, ?_, ?_, ?_, ?_, ?_, ?_, ?_, ?_, ?_, ?_, ?_, ?_, ?_, ?_, ?_, ?_, ?_, ?_, ?_, ?_, ?_, ?_, ?_, ?_, ?_, ?_, ?_, ?_, ?_, ?_, ?_, ?_, ?_, ?_, ?_, ?_, ?_, ?_, ?_, ?_, ?_, ?_, ?_, ?_, ?_, ?_, ?_, ?_, ?_, ?_, ?_, ?_, ?_, ?_, ?_, ?_, ?_, ?_, ?_, ?_, ?_, ?_, ?_⟩
  · have h9 := r_shm R
    exact h9
  · have h9 := r_px0 R
    exact h9
  · have h9 := r_px1 R
    exact h9
  · have h9 := r_px2 R
    exact h9
  · have h9 := r_pf0 R
    exact h9
  · have h9 := r_pf1 R
    exact h9
  · have h9 := r_pf3 R
    exact h9
  · have h9 := r_ps0 R
    exact h9
  · have h9 := r_ps2 R
    exact h9
  · have h9 := r_ps4 R
    exact h9
  · have h9 := r_pk R
    exact h9
  · have h9 := r_pkl R
    exact h9
  · have h9 := r_pko R
    exact h9
  · have h9 := r_ghour R
    unfold Cghour
    simpa (disch := omega) only [sI_wI, gI_uI, tk_ne9, tk_inj, if_false, if_true, false_and, and_false, Nat.reduceEqDiff, reduceIte, reduceCtorEq, and_true, true_and] using h9
  · have h9 := r_gstand R
    unfold Cgstand
    simpa (disch := omega) only [sI_wI, gI_uI, tk_ne9, tk_inj, if_false, if_true, false_and, and_false, Nat.reduceEqDiff, reduceIte, reduceCtorEq, and_true, true_and] using h9
  · have h9 := r_gbought R
    unfold Cgbought
    simpa (disch := omega) only [sI_wI, gI_uI, tk_ne9, tk_inj, if_false, if_true, false_and, and_false, Nat.reduceEqDiff, reduceIte, reduceCtorEq, and_true, true_and] using h9
  · have h9 := r_gmach R
    unfold Cgmach
    simpa (disch := omega) only [sI_wI, gI_uI, tk_ne9, tk_inj, if_false, if_true, false_and, and_false, Nat.reduceEqDiff, reduceIte, reduceCtorEq, and_true, true_and] using h9
  · have h9 := r_gpers R
    unfold Cgpers
    simpa (disch := omega) only [sI_wI, gI_uI, tk_ne9, tk_inj, if_false, if_true, false_and, and_false, Nat.reduceEqDiff, reduceIte, reduceCtorEq, and_true, true_and] using h9
  · have h9 := r_gworked R
    unfold Cgworked
    simpa (disch := omega) only [sI_wI, gI_uI, tk_ne9, tk_inj, if_false, if_true, false_and, and_false, Nat.reduceEqDiff, reduceIte, reduceCtorEq, and_true, true_and] using h9
  · have h9 := r_grep R
    unfold Cgrep
    simpa (disch := omega) only [sI_wI, gI_uI, tk_ne9, tk_inj, if_false, if_true, false_and, and_false, Nat.reduceEqDiff, reduceIte, reduceCtorEq, and_true, true_and] using h9
  · have h9 := r_gbat R
    unfold Cgbat
    simpa (disch := omega) only [sI_wI, gI_uI, tk_ne9, tk_inj, if_false, if_true, false_and, and_false, Nat.reduceEqDiff, reduceIte, reduceCtorEq, and_true, true_and] using h9
  · have h9 := r_gord R
    unfold Cgord
    simpa (disch := omega) only [sI_wI, gI_uI, tk_ne9, tk_inj, if_false, if_true, false_and, and_false, Nat.reduceEqDiff, reduceIte, reduceCtorEq, and_true, true_and] using h9
  · have h9 := r_gq R
    unfold Cgq
    simpa (disch := omega) only [sI_wI, gI_uI, tk_ne9, tk_inj, if_false, if_true, false_and, and_false, Nat.reduceEqDiff, reduceIte, reduceCtorEq, and_true, true_and] using h9
  · have h9 := r_nB R
    unfold CnB
    simpa (disch := omega) only [gI_uI, nB_u, tk_ne9, tk_inj, if_false, if_true, false_and, and_false, Nat.reduceEqDiff, reduceIte, reduceCtorEq, and_true, true_and] using h9
  · have h9 := r_nBx R
    unfold CnBx
    simpa (disch := omega) only [nB_u, tk_ne9, tk_inj, if_false, if_true, false_and, and_false, Nat.reduceEqDiff, reduceIte, reduceCtorEq, and_true, true_and] using h9
  · have h9 := r_nM R
    unfold CnM
    simpa (disch := omega) only [gI_uI, nM_u, tk_ne9, tk_inj, if_false, if_true, false_and, and_false, Nat.reduceEqDiff, reduceIte, reduceCtorEq, and_true, true_and] using h9
  · have h9 := r_nMx R
    unfold CnMx
    simpa (disch := omega) only [nM_u, tk_ne9, tk_inj, if_false, if_true, false_and, and_false, Nat.reduceEqDiff, reduceIte, reduceCtorEq, and_true, true_and] using h9
  · have h9 := r_nP R
    unfold CnP
    simpa (disch := omega) only [gI_uI, nP_u, tk_ne9, tk_inj, if_false, if_true, false_and, and_false, Nat.reduceEqDiff, reduceIte, reduceCtorEq, and_true, true_and] using h9
  · have h9 := r_nPx R
    unfold CnPx
    simpa (disch := omega) only [nP_u, tk_ne9, tk_inj, if_false, if_true, false_and, and_false, Nat.reduceEqDiff, reduceIte, reduceCtorEq, and_true, true_and] using h9
  · have h9 := r_nO R
    unfold CnO
    simpa (disch := omega) only [gI_uI, nO_u, tk_ne9, tk_inj, if_false, if_true, false_and, and_false, Nat.reduceEqDiff, reduceIte, reduceCtorEq, and_true, true_and] using h9
  · have h9 := r_nOx R
    unfold CnOx
    simpa (disch := omega) only [nO_u, tk_ne9, tk_inj, if_false, if_true, false_and, and_false, Nat.reduceEqDiff, reduceIte, reduceCtorEq, and_true, true_and] using h9
  · have h9 := r_hr R
    unfold Chr
    simpa (disch := omega) only [gI_uI, hN_u, tk_ne9, tk_inj, if_false, if_true, false_and, and_false, Nat.reduceEqDiff, reduceIte, reduceCtorEq, and_true, true_and] using h9
  · have h9 := r_hrx R
    unfold Chrx
    simpa (disch := omega) only [hN_u, tk_ne9, tk_inj, if_false, if_true, false_and, and_false, Nat.reduceEqDiff, reduceIte, reduceCtorEq, and_true, true_and] using h9
  · have h9 := r_stb R
    unfold Cstb
    simpa (disch := omega) only [gI_uI, tk_ne9, tk_inj, if_false, if_true, false_and, and_false, Nat.reduceEqDiff, reduceIte, reduceCtorEq, and_true, true_and] using h9
  · have h9 := r_ex R
    exact h9
  · have h9 := r_k0 R
    unfold Ck0
    simpa (disch := omega) only [sI_wI, tk_ne9, tk_inj, if_false, if_true, false_and, and_false, Nat.reduceEqDiff, reduceIte, reduceCtorEq, and_true, true_and] using h9
  · have h9 := r_k1 R
    unfold Ck1
    simpa (disch := omega) only [sI_wI, gI_uI, tk_ne9, tk_inj, if_false, if_true, false_and, and_false, Nat.reduceEqDiff, reduceIte, reduceCtorEq, and_true, true_and] using h9
  · have h9 := r_k2 R
    unfold Ck2
    simpa (disch := omega) only [sI_wI, gI_uI, tk_ne9, tk_inj, if_false, if_true, false_and, and_false, Nat.reduceEqDiff, reduceIte, reduceCtorEq, and_true, true_and] using h9
  · have h9 := r_k3 R
    unfold Ck3
    simpa (disch := omega) only [sI_wI, gI_uI, tk_ne9, tk_inj, if_false, if_true, false_and, and_false, Nat.reduceEqDiff, reduceIte, reduceCtorEq, and_true, true_and] using h9
  · have h9 := r_k5 R
    unfold Ck5
    simpa (disch := omega) only [sI_wI, gI_uI, tk_ne9, tk_inj, if_false, if_true, false_and, and_false, Nat.reduceEqDiff, reduceIte, reduceCtorEq, and_true, true_and] using h9
  · have h9 := r_k7 R
    unfold Ck7
    simpa (disch := omega) only [sI_wI, gI_uI, tk_ne9, tk_inj, if_false, if_true, false_and, and_false, Nat.reduceEqDiff, reduceIte, reduceCtorEq, and_true, true_and] using h9
  · have h9 := r_k8 R
    unfold Ck8
    simpa (disch := omega) only [sI_wI, gI_uI, tk_ne9, tk_inj, if_false, if_true, false_and, and_false, Nat.reduceEqDiff, reduceIte, reduceCtorEq, and_true, true_and] using h9
  · have h9 := r_k9 R
    unfold Ck9
    simpa (disch := omega) only [sI_wI, gI_uI, tk_ne9, tk_inj, if_false, if_true, false_and, and_false, Nat.reduceEqDiff, reduceIte, reduceCtorEq, and_true, true_and] using h9
  · have h9 := r_k10 R
    unfold Ck10
    simpa (disch := omega) only [sI_wI, nB_u, mInSt_u, tk_ne9, tk_inj, if_false, if_true, false_and, and_false, Nat.reduceEqDiff, reduceIte, reduceCtorEq, and_true, true_and] using h9
  · have h9 := r_k11 R
    unfold Ck11
    simpa (disch := omega) only [sI_wI, nO_u, mProm_u, tk_ne9, tk_inj, if_false, if_true, false_and, and_false, Nat.reduceEqDiff, reduceIte, reduceCtorEq, and_true, true_and] using h9
  · have h9 := r_k12 R
    unfold Ck12
    simpa (disch := omega) only [sI_wI, tk_ne9, tk_inj, if_false, if_true, false_and, and_false, Nat.reduceEqDiff, reduceIte, reduceCtorEq, and_true, true_and] using h9
  · have h9 := r_ksa R
    unfold Cksa
    simpa (disch := omega) only [gI_uI, tk_ne9, tk_inj, if_false, if_true, false_and, and_false, Nat.reduceEqDiff, reduceIte, reduceCtorEq, and_true, true_and] using h9
  · have h9 := r_ksb R
    unfold Cksb
    simpa (disch := omega) only [gI_uI, nOp_u, tk_ne9, tk_inj, if_false, if_true, false_and, and_false, Nat.reduceEqDiff, reduceIte, reduceCtorEq, and_true, true_and] using h9
  · have h9 := r_ksc R
    unfold Cksc
    simpa (disch := omega) only [gI_uI, nLn_u, nOp_u, tk_ne9, tk_inj, if_false, if_true, false_and, and_false, Nat.reduceEqDiff, reduceIte, reduceCtorEq, and_true, true_and] using h9
  · have h9 := r_kw R
    unfold Ckw
    simpa (disch := omega) only [gI_uI, tk_ne9, tk_inj, if_false, if_true, false_and, and_false, Nat.reduceEqDiff, reduceIte, reduceCtorEq, and_true, true_and] using h9
  · have h9 := r_kl R
    unfold Ckl
    simpa (disch := omega) only [gI_uI, nLn_u, tk_ne9, tk_inj, if_false, if_true, false_and, and_false, Nat.reduceEqDiff, reduceIte, reduceCtorEq, and_true, true_and] using h9
  · have h9 := r_ko R
    unfold Cko
    simpa (disch := omega) only [gI_uI, nOp_u, tk_ne9, tk_inj, if_false, if_true, false_and, and_false, Nat.reduceEqDiff, reduceIte, reduceCtorEq, and_true, true_and] using h9
  · have h9 := r_kp R
    unfold Ckp
    simpa (disch := omega) only [gI_uI, tk_ne9, tk_inj, if_false, if_true, false_and, and_false, Nat.reduceEqDiff, reduceIte, reduceCtorEq, and_true, true_and] using h9
  · have h9 := r_l0 R
    unfold Cl0
    simpa (disch := omega) only [sP_wI, nLn_u, tk_ne9, tk_inj, if_false, if_true, false_and, and_false, Nat.reduceEqDiff, reduceIte, reduceCtorEq, and_true, true_and] using h9
  · have h9 := r_l1 R
    unfold Cl1
    simpa (disch := omega) only [sP_wI, nLn_u, lnP_u, tk_ne9, tk_inj, if_false, if_true, false_and, and_false, Nat.reduceEqDiff, reduceIte, reduceCtorEq, and_true, true_and] using h9
  · have h9 := r_l2 R
    unfold Cl2
    simpa (disch := omega) only [sI_wI, gI_uI, nLn_u, tk_ne9, tk_inj, if_false, if_true, false_and, and_false, Nat.reduceEqDiff, reduceIte, reduceCtorEq, and_true, true_and] using h9
  · have h9 := r_l3 R
    unfold Cl3
    simpa (disch := omega) only [sP_wI, gI_uI, nLn_u, tk_ne9, tk_inj, if_false, if_true, false_and, and_false, Nat.reduceEqDiff, reduceIte, reduceCtorEq, and_true, true_and] using h9
  · have h9 := r_lm R
    unfold Clm
    simpa (disch := omega) only [gI_uI, nLn_u, lnP_u, tk_ne9, tk_inj, if_false, if_true, false_and, and_false, Nat.reduceEqDiff, reduceIte, reduceCtorEq, and_true, true_and] using h9
  · have h9 := r_o0 R
    unfold Co0
    simpa (disch := omega) only [sP_wI, nOp_u, tk_ne9, tk_inj, if_false, if_true, false_and, and_false, Nat.reduceEqDiff, reduceIte, reduceCtorEq, and_true, true_and] using h9
  · have h9 := r_o1 R
    unfold Co1
    simpa (disch := omega) only [sI_wI, gI_uI, nOp_u, tk_ne9, tk_inj, if_false, if_true, false_and, and_false, Nat.reduceEqDiff, reduceIte, reduceCtorEq, and_true, true_and] using h9
  · have h9 := r_o2 R
    unfold Co2
    simpa (disch := omega) only [sI_wI, gI_uI, nOp_u, tk_ne9, tk_inj, if_false, if_true, false_and, and_false, Nat.reduceEqDiff, reduceIte, reduceCtorEq, and_true, true_and] using h9
  · have h9 := r_o3 R
    unfold Co3
    simpa (disch := omega) only [sI_wI, gI_uI, nOp_u, tk_ne9, tk_inj, if_false, if_true, false_and, and_false, Nat.reduceEqDiff, reduceIte, reduceCtorEq, and_true, true_and] using h9
  · have h9 := r_om R
    unfold Com
    simpa (disch := omega) only [gI_uI, nOp_u, tk_ne9, tk_inj, if_false, if_true, false_and, and_false, Nat.reduceEqDiff, reduceIte, reduceCtorEq, and_true, true_and] using h9
  · have h9 := r_b0 R
    unfold Cb0
    simpa (disch := omega) only [sP_wI, nB_u, tk_ne9, tk_inj, if_false, if_true, false_and, and_false, Nat.reduceEqDiff, reduceIte, reduceCtorEq, and_true, true_and] using h9
  · have h9 := r_bn R
    unfold Cbn
    simpa (disch := omega) only [sI_wI, nB_u, tk_ne9, tk_inj, if_false, if_true, false_and, and_false, Nat.reduceEqDiff, reduceIte, reduceCtorEq, and_true, true_and] using h9
  · have h9 := r_bk R
    unfold Cbk
    simpa (disch := omega) only [sP_wI, nB_u, kd_u, tk_ne9, tk_inj, if_false, if_true, false_and, and_false, Nat.reduceEqDiff, reduceIte, reduceCtorEq, and_true, true_and] using h9
  · have h9 := r_b2 R
    unfold Cb2
    simpa (disch := omega) only [sI_wI, gI_uI, nB_u, tk_ne9, tk_inj, if_false, if_true, false_and, and_false, Nat.reduceEqDiff, reduceIte, reduceCtorEq, and_true, true_and] using h9
  · have h9 := r_b3 R
    unfold Cb3
    simpa (disch := omega) only [sI_wI, gI_uI, nB_u, tk_ne9, tk_inj, if_false, if_true, false_and, and_false, Nat.reduceEqDiff, reduceIte, reduceCtorEq, and_true, true_and] using h9
  · have h9 := r_b4 R
    unfold Cb4
    simpa (disch := omega) only [sI_wI, gI_uI, nB_u, tk_ne9, tk_inj, if_false, if_true, false_and, and_false, Nat.reduceEqDiff, reduceIte, reduceCtorEq, and_true, true_and] using h9
  · have h9 := r_b5 R
    unfold Cb5
    simpa (disch := omega) only [sI_wI, gI_uI, nB_u, tk_ne9, tk_inj, if_false, if_true, false_and, and_false, Nat.reduceEqDiff, reduceIte, reduceCtorEq, and_true, true_and] using h9
  · have h9 := r_b6 R
    unfold Cb6
    simpa (disch := omega) only [sI_wI, gI_uI, nB_u, tk_ne9, tk_inj, if_false, if_true, false_and, and_false, Nat.reduceEqDiff, reduceIte, reduceCtorEq, and_true, true_and] using h9
  · have h9 := r_b7 R
    unfold Cb7
    simpa (disch := omega) only [sI_wI, gI_uI, nB_u, tk_ne9, tk_inj, if_false, if_true, false_and, and_false, Nat.reduceEqDiff, reduceIte, reduceCtorEq, and_true, true_and] using h9
  · have h9 := r_b8 R
    unfold Cb8
    simpa (disch := omega) only [sI_wI, gI_uI, nB_u, tk_ne9, tk_inj, if_false, if_true, false_and, and_false, Nat.reduceEqDiff, reduceIte, reduceCtorEq, and_true, true_and] using h9
  · have h9 := r_b9 R
    unfold Cb9
    simpa (disch := omega) only [sI_wI, gI_uI, nB_u, tk_ne9, tk_inj, if_false, if_true, false_and, and_false, Nat.reduceEqDiff, reduceIte, reduceCtorEq, and_true, true_and] using h9
  · have h9 := r_b10 R
    unfold Cb10
    simpa (disch := omega) only [sI_wI, gI_uI, nB_u, tk_ne9, tk_inj, if_false, if_true, false_and, and_false, Nat.reduceEqDiff, reduceIte, reduceCtorEq, and_true, true_and] using h9
  · have h9 := r_b11 R
    unfold Cb11
    simpa (disch := omega) only [sL_wI, gL_uI, nB_u, tk_ne9, tk_inj, if_false, if_true, false_and, and_false, Nat.reduceEqDiff, reduceIte, reduceCtorEq, and_true, true_and] using h9
  · have h9 := r_bK R
    unfold CbK
    simpa (disch := omega) only [gI_uI, nB_u, kd_u, tk_ne9, tk_inj, if_false, if_true, false_and, and_false, Nat.reduceEqDiff, reduceIte, reduceCtorEq, and_true, true_and] using h9
  · have h9 := r_bP R
    unfold CbP
    simpa (disch := omega) only [gI_uI, nB_u, pc_u, tk_ne9, tk_inj, if_false, if_true, false_and, and_false, Nat.reduceEqDiff, reduceIte, reduceCtorEq, and_true, true_and] using h9
  · have h9 := r_bO R
    unfold CbO
    simpa (disch := omega) only [gI_uI, nB_u, op_u, tk_ne9, tk_inj, if_false, if_true, false_and, and_false, Nat.reduceEqDiff, reduceIte, reduceCtorEq, and_true, true_and] using h9
  · have h9 := r_bW R
    unfold CbW
    simpa (disch := omega) only [gI_uI, nB_u, nOp_u, kd_u, op_u, tk_ne9, tk_inj, if_false, if_true, false_and, and_false, Nat.reduceEqDiff, reduceIte, reduceCtorEq, and_true, true_and] using h9
  · have h9 := r_bZ R
    unfold CbZ
    simpa (disch := omega) only [gI_uI, nB_u, pc_u, tk_ne9, tk_inj, if_false, if_true, false_and, and_false, Nat.reduceEqDiff, reduceIte, reduceCtorEq, and_true, true_and] using h9
  · have h9 := r_bF R
    unfold CbF
    simpa (disch := omega) only [gI_uI, nB_u, tk_ne9, tk_inj, if_false, if_true, false_and, and_false, Nat.reduceEqDiff, reduceIte, reduceCtorEq, and_true, true_and] using h9
  · have h9 := r_bS R
    unfold CbS
    simpa (disch := omega) only [gI_uI, nB_u, tk_ne9, tk_inj, if_false, if_true, false_and, and_false, Nat.reduceEqDiff, reduceIte, reduceCtorEq, and_true, true_and] using h9
  · have h9 := r_bC R
    unfold CbC
    simpa (disch := omega) only [gI_uI, nB_u, tk_ne9, tk_inj, if_false, if_true, false_and, and_false, Nat.reduceEqDiff, reduceIte, reduceCtorEq, and_true, true_and] using h9
  · have h9 := r_bT R
    unfold CbT
    simpa (disch := omega) only [gI_uI, nB_u, tk_ne9, tk_inj, if_false, if_true, false_and, and_false, Nat.reduceEqDiff, reduceIte, reduceCtorEq, and_true, true_and] using h9
  · have h9 := r_bU R
    unfold CbU
    simpa (disch := omega) only [gI_uI, nB_u, kd_u, tk_ne9, tk_inj, if_false, if_true, false_and, and_false, Nat.reduceEqDiff, reduceIte, reduceCtorEq, and_true, true_and] using h9
  · have h9 := r_bq R
    unfold Cbq
    simpa (disch := omega) only [nB_u, totp_u, tk_ne9, tk_inj, if_false, if_true, false_and, and_false, Nat.reduceEqDiff, reduceIte, reduceCtorEq, and_true, true_and] using h9
  · have h9 := r_ps R
    unfold Cps
    simpa (disch := omega) only [nB_u, nO_u, nInSt_u, nProm_u, tk_ne9, tk_inj, if_false, if_true, false_and, and_false, Nat.reduceEqDiff, reduceIte, reduceCtorEq, and_true, true_and] using h9
  · have h9 := r_bp R
    unfold Cbp
    simpa (disch := omega) only [gL_uI, nB_u, tk_ne9, tk_inj, if_false, if_true, false_and, and_false, Nat.reduceEqDiff, reduceIte, reduceCtorEq, and_true, true_and] using h9
  · have h9 := r_bc R
    unfold Cbc
    simpa (disch := omega) only [nB_u, hN_u, tot_u, tk_ne9, tk_inj, if_false, if_true, false_and, and_false, Nat.reduceEqDiff, reduceIte, reduceCtorEq, and_true, true_and] using h9
  · have h9 := r_fB R
    unfold CfB
    simpa (disch := omega) only [sX_wI, nB_u, tk_ne9, tk_inj, if_false, if_true, false_and, and_false, Nat.reduceEqDiff, reduceIte, reduceCtorEq, and_true, true_and] using h9
  · have h9 := r_fL R
    unfold CfL
    simpa (disch := omega) only [sX_wI, nLn_u, tk_ne9, tk_inj, if_false, if_true, false_and, and_false, Nat.reduceEqDiff, reduceIte, reduceCtorEq, and_true, true_and] using h9
  · have h9 := r_fO R
    unfold CfO
    simpa (disch := omega) only [sX_wI, nOp_u, tk_ne9, tk_inj, if_false, if_true, false_and, and_false, Nat.reduceEqDiff, reduceIte, reduceCtorEq, and_true, true_and] using h9
  · have h9 := r_fM R
    unfold CfM
    simpa (disch := omega) only [sX_wI, nM_u, tk_ne9, tk_inj, if_false, if_true, false_and, and_false, Nat.reduceEqDiff, reduceIte, reduceCtorEq, and_true, true_and] using h9
  · have h9 := r_fP R
    unfold CfP
    simpa (disch := omega) only [sX_wI, nP_u, tk_ne9, tk_inj, if_false, if_true, false_and, and_false, Nat.reduceEqDiff, reduceIte, reduceCtorEq, and_true, true_and] using h9
  · have h9 := r_fR R
    unfold CfR
    simpa (disch := omega) only [sX_wI, nO_u, tk_ne9, tk_inj, if_false, if_true, false_and, and_false, Nat.reduceEqDiff, reduceIte, reduceCtorEq, and_true, true_and] using h9
  · have h9 := r_fG R
    exact h9
  · have h9 := r_m0 R
    unfold Cm0
    simpa (disch := omega) only [sP_wI, nM_u, tk_ne9, tk_inj, if_false, if_true, false_and, and_false, Nat.reduceEqDiff, reduceIte, reduceCtorEq, and_true, true_and] using h9
  · have h9 := r_mn R
    unfold Cmn
    simpa (disch := omega) only [sI_wI, nM_u, tk_ne9, tk_inj, if_false, if_true, false_and, and_false, Nat.reduceEqDiff, reduceIte, reduceCtorEq, and_true, true_and] using h9
  · have h9 := r_m1 R
    unfold Cm1
    simpa (disch := omega) only [sI_wI, gI_uI, nM_u, tk_ne9, tk_inj, if_false, if_true, false_and, and_false, Nat.reduceEqDiff, reduceIte, reduceCtorEq, and_true, true_and] using h9
  · have h9 := r_m2 R
    unfold Cm2
    simpa (disch := omega) only [sI_wI, gI_uI, nM_u, tk_ne9, tk_inj, if_false, if_true, false_and, and_false, Nat.reduceEqDiff, reduceIte, reduceCtorEq, and_true, true_and] using h9
  · have h9 := r_m3 R
    unfold Cm3
    simpa (disch := omega) only [sI_wI, gI_uI, nM_u, tk_ne9, tk_inj, if_false, if_true, false_and, and_false, Nat.reduceEqDiff, reduceIte, reduceCtorEq, and_true, true_and] using h9
  · have h9 := r_m4 R
    unfold Cm4
    simpa (disch := omega) only [sI_wI, gI_uI, nM_u, tk_ne9, tk_inj, if_false, if_true, false_and, and_false, Nat.reduceEqDiff, reduceIte, reduceCtorEq, and_true, true_and] using h9
  · have h9 := r_m5 R
    unfold Cm5
    simpa (disch := omega) only [sI_wI, gI_uI, nM_u, tk_ne9, tk_inj, if_false, if_true, false_and, and_false, Nat.reduceEqDiff, reduceIte, reduceCtorEq, and_true, true_and] using h9
  · unfold Cm9
    intro x0_ h0
    have h9 := r_m9 R x0_ h0
    by_cases e1 : x0_ = m
    · subst e1
      (try simp (disch := omega) [sI_wI, sI_wP, sI_wL, sI_wN, sP_wI, sP_wP, sP_wL, sP_wN, sL_wI, sL_wP, sL_wL, sL_wN, sX_wI, sX_wP, sX_wL, sX_wN, gI_uI, gI_uL, gL_uI, gL_uL, tk_ne9, tk_inj, nB_u, nM_u, nP_u, nO_u, hN_u, nLn_u, nOp_u, lnP_u, pc_u, kd_u, op_u, pr_u, mInSt_u, mProm_u, nInSt_u, nProm_u, totp_u, tot_u, nB_l, nM_l, nP_l, nO_l, hN_l, nLn_l, nOp_l, lnP_l, pc_l, kd_l, op_l, pr_l, mInSt_l, mProm_l, nInSt_l, nProm_l, totp_l, tot_l, if_false, if_true, false_and, and_false, Nat.reduceEqDiff, reduceIte, reduceCtorEq, and_true, true_and]) <;> first | exact h9 | assumption | grind
    · (try simp (disch := omega) [sI_wI, sI_wP, sI_wL, sI_wN, sP_wI, sP_wP, sP_wL, sP_wN, sL_wI, sL_wP, sL_wL, sL_wN, sX_wI, sX_wP, sX_wL, sX_wN, gI_uI, gI_uL, gL_uI, gL_uL, tk_ne9, tk_inj, nB_u, nM_u, nP_u, nO_u, hN_u, nLn_u, nOp_u, lnP_u, pc_u, kd_u, op_u, pr_u, mInSt_u, mProm_u, nInSt_u, nProm_u, totp_u, tot_u, nB_l, nM_l, nP_l, nO_l, hN_l, nLn_l, nOp_l, lnP_l, pc_l, kd_l, op_l, pr_l, mInSt_l, mProm_l, nInSt_l, nProm_l, totp_l, tot_l, if_false, if_true, false_and, and_false, Nat.reduceEqDiff, reduceIte, reduceCtorEq, and_true, true_and, e1]) <;> first | exact h9 | assumption | grind
  · have h9 := r_m11 R
    unfold Cm11
    simpa (disch := omega) only [sI_wI, gI_uI, nM_u, tk_ne9, tk_inj, if_false, if_true, false_and, and_false, Nat.reduceEqDiff, reduceIte, reduceCtorEq, and_true, true_and] using h9
  · have h9 := r_m13 R
    unfold Cm13
    simpa (disch := omega) only [sI_wI, gI_uI, nM_u, tk_ne9, tk_inj, if_false, if_true, false_and, and_false, Nat.reduceEqDiff, reduceIte, reduceCtorEq, and_true, true_and] using h9
  · have h9 := r_m14 R
    unfold Cm14
    simpa (disch := omega) only [sI_wI, gI_uI, nM_u, tk_ne9, tk_inj, if_false, if_true, false_and, and_false, Nat.reduceEqDiff, reduceIte, reduceCtorEq, and_true, true_and] using h9
  · have h9 := r_m6 R
    unfold Cm6
    simpa (disch := omega) only [sP_wI, gI_uI, nM_u, tk_ne9, tk_inj, if_false, if_true, false_and, and_false, Nat.reduceEqDiff, reduceIte, reduceCtorEq, and_true, true_and] using h9
  · have h9 := r_m7 R
    unfold Cm7
    simpa (disch := omega) only [sP_wI, gI_uI, nM_u, tk_ne9, tk_inj, if_false, if_true, false_and, and_false, Nat.reduceEqDiff, reduceIte, reduceCtorEq, and_true, true_and] using h9
  · have h9 := r_m8 R
    unfold Cm8
    simpa (disch := omega) only [sP_wI, gI_uI, nM_u, tk_ne9, tk_inj, if_false, if_true, false_and, and_false, Nat.reduceEqDiff, reduceIte, reduceCtorEq, and_true, true_and] using h9
  · have h9 := r_m12 R
    unfold Cm12
    simpa (disch := omega) only [sP_wI, gI_uI, nM_u, tk_ne9, tk_inj, if_false, if_true, false_and, and_false, Nat.reduceEqDiff, reduceIte, reduceCtorEq, and_true, true_and] using h9
  · have h9 := r_m10 R
    unfold Cm10
    simpa (disch := omega) only [sI_wI, gI_uI, nB_u, nM_u, tk_ne9, tk_inj, if_false, if_true, false_and, and_false, Nat.reduceEqDiff, reduceIte, reduceCtorEq, and_true, true_and] using h9
  · have h9 := r_mma R
    unfold Cmma
    simpa (disch := omega) only [gI_uI, nM_u, tk_ne9, tk_inj, if_false, if_true, false_and, and_false, Nat.reduceEqDiff, reduceIte, reduceCtorEq, and_true, true_and] using h9
  · unfold Cmmb
    intro x h0
    have h9 := r_mmb R x h0
    by_cases e1 : x = m
    · subst e1
      rcases h9 with h9 | h9
      · left; refine ⟨by simpa [gI_uI] using h9.1, by simpa [gI_uI] using h9.2.1, ?_⟩
        have : f = 0 := hl.resolve_left (fun q => q h9.1)
        subst this; simp [gI_uI]; exact nI_0
      · right; simpa (disch := omega) [gI_uI, nB_u, nP_u] using h9
    · simpa (disch := omega) [gI_uI, nB_u, nP_u, e1] using h9
  · have h9 := r_mmc R
    unfold Cmmc
    simpa (disch := omega) only [gI_uI, nM_u, tk_ne9, tk_inj, if_false, if_true, false_and, and_false, Nat.reduceEqDiff, reduceIte, reduceCtorEq, and_true, true_and] using h9
  · have h9 := r_mr29 R
    unfold Cmr29
    simpa (disch := omega) only [gI_uI, nM_u, tk_ne9, tk_inj, if_false, if_true, false_and, and_false, Nat.reduceEqDiff, reduceIte, reduceCtorEq, and_true, true_and] using h9
  · have h9 := r_mr30 R
    unfold Cmr30
    simpa (disch := omega) only [gI_uI, nM_u, tk_ne9, tk_inj, if_false, if_true, false_and, and_false, Nat.reduceEqDiff, reduceIte, reduceCtorEq, and_true, true_and] using h9
  · have h9 := r_mr31 R
    unfold Cmr31
    simpa (disch := omega) only [gI_uI, nM_u, tk_ne9, tk_inj, if_false, if_true, false_and, and_false, Nat.reduceEqDiff, reduceIte, reduceCtorEq, and_true, true_and] using h9
  · have h9 := r_mr32 R
    unfold Cmr32
    simpa (disch := omega) only [gI_uI, nM_u, tk_ne9, tk_inj, if_false, if_true, false_and, and_false, Nat.reduceEqDiff, reduceIte, reduceCtorEq, and_true, true_and] using h9
  · unfold Cmr35
    intro x h0
    have h9 := r_mr35 R x h0
    by_cases e1 : x = m
    · exact ⟨f, by simp [gI_uI, e1], hf⟩
    · simpa [gI_uI, e1] using h9
  · have h9 := r_mr39 R
    unfold Cmr39
    simpa (disch := omega) only [gI_uI, nM_u, tk_ne9, tk_inj, if_false, if_true, false_and, and_false, Nat.reduceEqDiff, reduceIte, reduceCtorEq, and_true, true_and] using h9
  · have h9 := r_mr40 R
    unfold Cmr40
    simpa (disch := omega) only [gI_uI, nM_u, tk_ne9, tk_inj, if_false, if_true, false_and, and_false, Nat.reduceEqDiff, reduceIte, reduceCtorEq, and_true, true_and] using h9
  · have h9 := r_md R
    unfold Cmd
    simpa (disch := omega) only [gI_uI, nM_u, tk_ne9, tk_inj, if_false, if_true, false_and, and_false, Nat.reduceEqDiff, reduceIte, reduceCtorEq, and_true, true_and] using h9
  · have h9 := r_mw R
    unfold Cmw
    simpa (disch := omega) only [gI_uI, nM_u, tk_ne9, tk_inj, if_false, if_true, false_and, and_false, Nat.reduceEqDiff, reduceIte, reduceCtorEq, and_true, true_and] using h9
  · have h9 := r_q0 R
    unfold Cq0
    simpa (disch := omega) only [sP_wI, nP_u, tk_ne9, tk_inj, if_false, if_true, false_and, and_false, Nat.reduceEqDiff, reduceIte, reduceCtorEq, and_true, true_and] using h9
  · have h9 := r_qn R
    unfold Cqn
    simpa (disch := omega) only [sI_wI, nP_u, tk_ne9, tk_inj, if_false, if_true, false_and, and_false, Nat.reduceEqDiff, reduceIte, reduceCtorEq, and_true, true_and] using h9
  · have h9 := r_q1 R
    unfold Cq1
    simpa (disch := omega) only [sI_wI, gI_uI, nP_u, tk_ne9, tk_inj, if_false, if_true, false_and, and_false, Nat.reduceEqDiff, reduceIte, reduceCtorEq, and_true, true_and] using h9
  · have h9 := r_q2 R
    unfold Cq2
    simpa (disch := omega) only [sI_wI, gI_uI, nP_u, tk_ne9, tk_inj, if_false, if_true, false_and, and_false, Nat.reduceEqDiff, reduceIte, reduceCtorEq, and_true, true_and] using h9
  · have h9 := r_q3 R
    unfold Cq3
    simpa (disch := omega) only [sI_wI, gI_uI, nP_u, tk_ne9, tk_inj, if_false, if_true, false_and, and_false, Nat.reduceEqDiff, reduceIte, reduceCtorEq, and_true, true_and] using h9
  · have h9 := r_q4 R
    unfold Cq4
    simpa (disch := omega) only [sP_wI, nP_u, tk_ne9, tk_inj, if_false, if_true, false_and, and_false, Nat.reduceEqDiff, reduceIte, reduceCtorEq, and_true, true_and] using h9
  · have h9 := r_q5 R
    unfold Cq5
    simpa (disch := omega) only [sP_wI, nP_u, tk_ne9, tk_inj, if_false, if_true, false_and, and_false, Nat.reduceEqDiff, reduceIte, reduceCtorEq, and_true, true_and] using h9
  · have h9 := r_q6 R
    unfold Cq6
    simpa (disch := omega) only [sI_wI, gI_uI, nM_u, nP_u, tk_ne9, tk_inj, if_false, if_true, false_and, and_false, Nat.reduceEqDiff, reduceIte, reduceCtorEq, and_true, true_and] using h9
  · have h9 := r_ql R
    unfold Cql
    simpa (disch := omega) only [sI_wI, gI_uI, nP_u, tk_ne9, tk_inj, if_false, if_true, false_and, and_false, Nat.reduceEqDiff, reduceIte, reduceCtorEq, and_true, true_and] using h9
  · have h9 := r_qw R
    unfold Cqw
    simpa (disch := omega) only [sI_wI, gI_uI, nP_u, tk_ne9, tk_inj, if_false, if_true, false_and, and_false, Nat.reduceEqDiff, reduceIte, reduceCtorEq, and_true, true_and] using h9
  · have h9 := r_qm R
    unfold Cqm
    simpa (disch := omega) only [gI_uI, nP_u, tk_ne9, tk_inj, if_false, if_true, false_and, and_false, Nat.reduceEqDiff, reduceIte, reduceCtorEq, and_true, true_and] using h9
  · have h9 := r_qr R
    unfold Cqr
    simpa (disch := omega) only [gI_uI, nP_u, tk_ne9, tk_inj, if_false, if_true, false_and, and_false, Nat.reduceEqDiff, reduceIte, reduceCtorEq, and_true, true_and] using h9
  · have h9 := r_r0 R
    unfold Cr0
    simpa (disch := omega) only [sP_wI, nO_u, tk_ne9, tk_inj, if_false, if_true, false_and, and_false, Nat.reduceEqDiff, reduceIte, reduceCtorEq, and_true, true_and] using h9
  · have h9 := r_r1 R
    unfold Cr1
    simpa (disch := omega) only [sP_wI, gI_uI, nO_u, tk_ne9, tk_inj, if_false, if_true, false_and, and_false, Nat.reduceEqDiff, reduceIte, reduceCtorEq, and_true, true_and] using h9
  · have h9 := r_r2 R
    unfold Cr2
    simpa (disch := omega) only [sI_wI, gI_uI, nO_u, tk_ne9, tk_inj, if_false, if_true, false_and, and_false, Nat.reduceEqDiff, reduceIte, reduceCtorEq, and_true, true_and] using h9
  · have h9 := r_r3 R
    unfold Cr3
    simpa (disch := omega) only [sI_wI, gI_uI, nO_u, tk_ne9, tk_inj, if_false, if_true, false_and, and_false, Nat.reduceEqDiff, reduceIte, reduceCtorEq, and_true, true_and] using h9
  · have h9 := r_r4 R
    unfold Cr4
    simpa (disch := omega) only [sI_wI, gI_uI, nO_u, tk_ne9, tk_inj, if_false, if_true, false_and, and_false, Nat.reduceEqDiff, reduceIte, reduceCtorEq, and_true, true_and] using h9
  · have h9 := r_r5 R
    unfold Cr5
    simpa (disch := omega) only [sP_wI, gI_uI, nO_u, tk_ne9, tk_inj, if_false, if_true, false_and, and_false, Nat.reduceEqDiff, reduceIte, reduceCtorEq, and_true, true_and] using h9
  · have h9 := r_r6 R
    unfold Cr6
    simpa (disch := omega) only [sI_wI, gI_uI, nO_u, tk_ne9, tk_inj, if_false, if_true, false_and, and_false, Nat.reduceEqDiff, reduceIte, reduceCtorEq, and_true, true_and] using h9
  · have h9 := r_rk R
    unfold Crk
    simpa (disch := omega) only [gI_uI, nO_u, tk_ne9, tk_inj, if_false, if_true, false_and, and_false, Nat.reduceEqDiff, reduceIte, reduceCtorEq, and_true, true_and] using h9
  · have h9 := r_rp R
    unfold Crp
    simpa (disch := omega) only [gI_uI, nO_u, tk_ne9, tk_inj, if_false, if_true, false_and, and_false, Nat.reduceEqDiff, reduceIte, reduceCtorEq, and_true, true_and] using h9
  · have h9 := r_rq R
    unfold Crq
    simpa (disch := omega) only [gI_uI, nO_u, pr_u, tk_ne9, tk_inj, if_false, if_true, false_and, and_false, Nat.reduceEqDiff, reduceIte, reduceCtorEq, and_true, true_and] using h9
  · have h9 := r_rr R
    unfold Crr
    simpa (disch := omega) only [gI_uI, nO_u, pr_u, tk_ne9, tk_inj, if_false, if_true, false_and, and_false, Nat.reduceEqDiff, reduceIte, reduceCtorEq, and_true, true_and] using h9
  · have h9 := r_rs R
    unfold Crs
    simpa (disch := omega) only [gI_uI, nB_u, nO_u, tk_ne9, tk_inj, if_false, if_true, false_and, and_false, Nat.reduceEqDiff, reduceIte, reduceCtorEq, and_true, true_and] using h9
set_option maxHeartbeats 8000000 in
theorem rel_wear {e : Nat} {a : Sg} {M : MS} (R : Rel e a M) (m : Nat) (hm : m < nM M) (v : Int32) : Rel e (wI a (tk 4 m) 11 v) (uI M 37 m v) := by
  unfold Rel
  refine ⟨?_, ?_, ?_, ?_, ?_, ?_, ?_, ?_, ?_, ?_, ?_, ?_, ?_, ?_, ?_, ?_, ?_, ?_, ?_, ?_, ?_, ?_, ?_, ?_, ?_, ?_, ?_, ?_, ?_, ?_, ?_, ?_, ?_, ?_, ?_, ?_, ?_, ?_, ?_, ?_, ?_, ?_, ?_, ?_, ?_, ?_, ?_, ?_, ?_, ?_, ?_, ?_, ?_, ?_, ?_, ?_, ?_, ?_, ?_, ?_, ?_, ?_, ?_, ?_, ?_, ?_, ?_, ?_, ?_, ?_, ?_, ?_, ?_, ?_, ?_, ?_, ?_, ?_, ?_, ?_, ?_, ?_, ?_, ?_, ?_, ?_, ?_, ?_, ?_, ?_, ?_, ?_, ?_, ?_, ?_, ?_, ?_, ?_, ?_, ?_, ?_, ?_, ?_, ?_, ?_, ?_, ?_, ?_, ?_, ?_, ?_, ?_, ?_, ?_, ?_, ?_, ?_, ?_, ?_, ?_, ?_, ?_, ?_, ?_, ?_, ?_, ?_, ?_, ?_, ?_, ?_, ?_, ?_, ?_, ?_, ?_, ?_, ?_, ?_, ?_, ?_, ?_, ?_, ?_, ?_, ?_, ?_, ?_, ?_⟩
  · have h9 := r_shm R
    exact h9
  · have h9 := r_px0 R
    exact h9
  · have h9 := r_px1 R
    exact h9
  · have h9 := r_px2 R
    exact h9
  · have h9 := r_pf0 R
    exact h9
  · have h9 := r_pf1 R
    exact h9
  · have h9 := r_pf3 R
    exact h9
  · have h9 := r_ps0 R
    exact h9
  · have h9 := r_ps2 R
    exact h9
  · have h9 := r_ps4 R
    exact h9
  · have h9 := r_pk R
    exact h9
  · have h9 := r_pkl R
    exact h9
  · have h9 := r_pko R
    exact h9
  · have h9 := r_ghour R
    unfold Cghour
    simpa (disch := omega) only [sI_wI, gI_uI, tk_ne9, tk_inj, if_false, if_true, false_and, and_false, Nat.reduceEqDiff, reduceIte, reduceCtorEq, and_true, true_and] using h9
  · have h9 := r_gstand R
    unfold Cgstand
    simpa (disch := omega) only [sI_wI, gI_uI, tk_ne9, tk_inj, if_false, if_true, false_and, and_false, Nat.reduceEqDiff, reduceIte, reduceCtorEq, and_true, true_and] using h9
  · have h9 := r_gbought R
    unfold Cgbought
    simpa (disch := omega) only [sI_wI, gI_uI, tk_ne9, tk_inj, if_false, if_true, false_and, and_false, Nat.reduceEqDiff, reduceIte, reduceCtorEq, and_true, true_and] using h9
  · have h9 := r_gmach R
    unfold Cgmach
    simpa (disch := omega) only [sI_wI, gI_uI, tk_ne9, tk_inj, if_false, if_true, false_and, and_false, Nat.reduceEqDiff, reduceIte, reduceCtorEq, and_true, true_and] using h9
  · have h9 := r_gpers R
    unfold Cgpers
    simpa (disch := omega) only [sI_wI, gI_uI, tk_ne9, tk_inj, if_false, if_true, false_and, and_false, Nat.reduceEqDiff, reduceIte, reduceCtorEq, and_true, true_and] using h9
  · have h9 := r_gworked R
    unfold Cgworked
    simpa (disch := omega) only [sI_wI, gI_uI, tk_ne9, tk_inj, if_false, if_true, false_and, and_false, Nat.reduceEqDiff, reduceIte, reduceCtorEq, and_true, true_and] using h9
  · have h9 := r_grep R
    unfold Cgrep
    simpa (disch := omega) only [sI_wI, gI_uI, tk_ne9, tk_inj, if_false, if_true, false_and, and_false, Nat.reduceEqDiff, reduceIte, reduceCtorEq, and_true, true_and] using h9
  · have h9 := r_gbat R
    unfold Cgbat
    simpa (disch := omega) only [sI_wI, gI_uI, tk_ne9, tk_inj, if_false, if_true, false_and, and_false, Nat.reduceEqDiff, reduceIte, reduceCtorEq, and_true, true_and] using h9
  · have h9 := r_gord R
    unfold Cgord
    simpa (disch := omega) only [sI_wI, gI_uI, tk_ne9, tk_inj, if_false, if_true, false_and, and_false, Nat.reduceEqDiff, reduceIte, reduceCtorEq, and_true, true_and] using h9
  · have h9 := r_gq R
    unfold Cgq
    simpa (disch := omega) only [sI_wI, gI_uI, tk_ne9, tk_inj, if_false, if_true, false_and, and_false, Nat.reduceEqDiff, reduceIte, reduceCtorEq, and_true, true_and] using h9
  · have h9 := r_nB R
    unfold CnB
    simpa (disch := omega) only [gI_uI, nB_u, tk_ne9, tk_inj, if_false, if_true, false_and, and_false, Nat.reduceEqDiff, reduceIte, reduceCtorEq, and_true, true_and] using h9
  · have h9 := r_nBx R
    unfold CnBx
    simpa (disch := omega) only [nB_u, tk_ne9, tk_inj, if_false, if_true, false_and, and_false, Nat.reduceEqDiff, reduceIte, reduceCtorEq, and_true, true_and] using h9
  · have h9 := r_nM R
    unfold CnM
    simpa (disch := omega) only [gI_uI, nM_u, tk_ne9, tk_inj, if_false, if_true, false_and, and_false, Nat.reduceEqDiff, reduceIte, reduceCtorEq, and_true, true_and] using h9
  · have h9 := r_nMx R
    unfold CnMx
    simpa (disch := omega) only [nM_u, tk_ne9, tk_inj, if_false, if_true, false_and, and_false, Nat.reduceEqDiff, reduceIte, reduceCtorEq, and_true, true_and] using h9
  · have h9 := r_nP R
    unfold CnP
    simpa (disch := omega) only [gI_uI, nP_u, tk_ne9, tk_inj, if_false, if_true, false_and, and_false, Nat.reduceEqDiff, reduceIte, reduceCtorEq, and_true, true_and] using h9
  · have h9 := r_nPx R
    unfold CnPx
    simpa (disch := omega) only [nP_u, tk_ne9, tk_inj, if_false, if_true, false_and, and_false, Nat.reduceEqDiff, reduceIte, reduceCtorEq, and_true, true_and] using h9
  · have h9 := r_nO R
    unfold CnO
    simpa (disch := omega) only [gI_uI, nO_u, tk_ne9, tk_inj, if_false, if_true, false_and, and_false, Nat.reduceEqDiff, reduceIte, reduceCtorEq, and_true, true_and] using h9
  · have h9 := r_nOx R
    unfold CnOx
    simpa (disch := omega) only [nO_u, tk_ne9, tk_inj, if_false, if_true, false_and, and_false, Nat.reduceEqDiff, reduceIte, reduceCtorEq, and_true, true_and] using h9
  · have h9 := r_hr R
    unfold Chr
    simpa (disch := omega) only [gI_uI, hN_u, tk_ne9, tk_inj, if_false, if_true, false_and, and_false, Nat.reduceEqDiff, reduceIte, reduceCtorEq, and_true, true_and] using h9
  · have h9 := r_hrx R
    unfold Chrx
    simpa (disch := omega) only [hN_u, tk_ne9, tk_inj, if_false, if_true, false_and, and_false, Nat.reduceEqDiff, reduceIte, reduceCtorEq, and_true, true_and] using h9
  · have h9 := r_stb R
    unfold Cstb
    simpa (disch := omega) only [gI_uI, tk_ne9, tk_inj, if_false, if_true, false_and, and_false, Nat.reduceEqDiff, reduceIte, reduceCtorEq, and_true, true_and] using h9
  · have h9 := r_ex R
    exact h9
  · have h9 := r_k0 R
    unfold Ck0
    simpa (disch := omega) only [sI_wI, tk_ne9, tk_inj, if_false, if_true, false_and, and_false, Nat.reduceEqDiff, reduceIte, reduceCtorEq, and_true, true_and] using h9
  · have h9 := r_k1 R
    unfold Ck1
    simpa (disch := omega) only [sI_wI, gI_uI, tk_ne9, tk_inj, if_false, if_true, false_and, and_false, Nat.reduceEqDiff, reduceIte, reduceCtorEq, and_true, true_and] using h9
  · have h9 := r_k2 R
    unfold Ck2
    simpa (disch := omega) only [sI_wI, gI_uI, tk_ne9, tk_inj, if_false, if_true, false_and, and_false, Nat.reduceEqDiff, reduceIte, reduceCtorEq, and_true, true_and] using h9
  · have h9 := r_k3 R
    unfold Ck3
    simpa (disch := omega) only [sI_wI, gI_uI, tk_ne9, tk_inj, if_false, if_true, false_and, and_false, Nat.reduceEqDiff, reduceIte, reduceCtorEq, and_true, true_and] using h9
  · have h9 := r_k5 R
    unfold Ck5
    simpa (disch := omega) only [sI_wI, gI_uI, tk_ne9, tk_inj, if_false, if_true, false_and, and_false, Nat.reduceEqDiff, reduceIte, reduceCtorEq, and_true, true_and] using h9
  · have h9 := r_k7 R
    unfold Ck7
    simpa (disch := omega) only [sI_wI, gI_uI, tk_ne9, tk_inj, if_false, if_true, false_and, and_false, Nat.reduceEqDiff, reduceIte, reduceCtorEq, and_true, true_and] using h9
  · have h9 := r_k8 R
    unfold Ck8
    simpa (disch := omega) only [sI_wI, gI_uI, tk_ne9, tk_inj, if_false, if_true, false_and, and_false, Nat.reduceEqDiff, reduceIte, reduceCtorEq, and_true, true_and] using h9
  · have h9 := r_k9 R
    unfold Ck9
    simpa (disch := omega) only [sI_wI, gI_uI, tk_ne9, tk_inj, if_false, if_true, false_and, and_false, Nat.reduceEqDiff, reduceIte, reduceCtorEq, and_true, true_and] using h9
  · have h9 := r_k10 R
    unfold Ck10
    simpa (disch := omega) only [sI_wI, nB_u, mInSt_u, tk_ne9, tk_inj, if_false, if_true, false_and, and_false, Nat.reduceEqDiff, reduceIte, reduceCtorEq, and_true, true_and] using h9
  · have h9 := r_k11 R
    unfold Ck11
    simpa (disch := omega) only [sI_wI, nO_u, mProm_u, tk_ne9, tk_inj, if_false, if_true, false_and, and_false, Nat.reduceEqDiff, reduceIte, reduceCtorEq, and_true, true_and] using h9
  · have h9 := r_k12 R
    unfold Ck12
    simpa (disch := omega) only [sI_wI, tk_ne9, tk_inj, if_false, if_true, false_and, and_false, Nat.reduceEqDiff, reduceIte, reduceCtorEq, and_true, true_and] using h9
  · have h9 := r_ksa R
    unfold Cksa
    simpa (disch := omega) only [gI_uI, tk_ne9, tk_inj, if_false, if_true, false_and, and_false, Nat.reduceEqDiff, reduceIte, reduceCtorEq, and_true, true_and] using h9
  · have h9 := r_ksb R
    unfold Cksb
    simpa (disch := omega) only [gI_uI, nOp_u, tk_ne9, tk_inj, if_false, if_true, false_and, and_false, Nat.reduceEqDiff, reduceIte, reduceCtorEq, and_true, true_and] using h9
  · have h9 := r_ksc R
    unfold Cksc
    simpa (disch := omega) only [gI_uI, nLn_u, nOp_u, tk_ne9, tk_inj, if_false, if_true, false_and, and_false, Nat.reduceEqDiff, reduceIte, reduceCtorEq, and_true, true_and] using h9
  · have h9 := r_kw R
    unfold Ckw
    simpa (disch := omega) only [gI_uI, tk_ne9, tk_inj, if_false, if_true, false_and, and_false, Nat.reduceEqDiff, reduceIte, reduceCtorEq, and_true, true_and] using h9
  · have h9 := r_kl R
    unfold Ckl
    simpa (disch := omega) only [gI_uI, nLn_u, tk_ne9, tk_inj, if_false, if_true, false_and, and_false, Nat.reduceEqDiff, reduceIte, reduceCtorEq, and_true, true_and] using h9
  · have h9 := r_ko R
    unfold Cko
    simpa (disch := omega) only [gI_uI, nOp_u, tk_ne9, tk_inj, if_false, if_true, false_and, and_false, Nat.reduceEqDiff, reduceIte, reduceCtorEq, and_true, true_and] using h9
  · have h9 := r_kp R
    unfold Ckp
    simpa (disch := omega) only [gI_uI, tk_ne9, tk_inj, if_false, if_true, false_and, and_false, Nat.reduceEqDiff, reduceIte, reduceCtorEq, and_true, true_and] using h9
  · have h9 := r_l0 R
    unfold Cl0
    simpa (disch := omega) only [sP_wI, nLn_u, tk_ne9, tk_inj, if_false, if_true, false_and, and_false, Nat.reduceEqDiff, reduceIte, reduceCtorEq, and_true, true_and] using h9
  · have h9 := r_l1 R
    unfold Cl1
    simpa (disch := omega) only [sP_wI, nLn_u, lnP_u, tk_ne9, tk_inj, if_false, if_true, false_and, and_false, Nat.reduceEqDiff, reduceIte, reduceCtorEq, and_true, true_and] using h9
  · have h9 := r_l2 R
    unfold Cl2
    simpa (disch := omega) only [sI_wI, gI_uI, nLn_u, tk_ne9, tk_inj, if_false, if_true, false_and, and_false, Nat.reduceEqDiff, reduceIte, reduceCtorEq, and_true, true_and] using h9
  · have h9 := r_l3 R
    unfold Cl3
    simpa (disch := omega) only [sP_wI, gI_uI, nLn_u, tk_ne9, tk_inj, if_false, if_true, false_and, and_false, Nat.reduceEqDiff, reduceIte, reduceCtorEq, and_true, true_and] using h9
  · have h9 := r_lm R
    unfold Clm
    simpa (disch := omega) only [gI_uI, nLn_u, lnP_u, tk_ne9, tk_inj, if_false, if_true, false_and, and_false, Nat.reduceEqDiff, reduceIte, reduceCtorEq, and_true, true_and] using h9
  · have h9 := r_o0 R
    unfold Co0
    simpa (disch := omega) only [sP_wI, nOp_u, tk_ne9, tk_inj, if_false, if_true, false_and, and_false, Nat.reduceEqDiff, reduceIte, reduceCtorEq, and_true, true_and] using h9
  · have h9 := r_o1 R
    unfold Co1
    simpa (disch := omega) only [sI_wI, gI_uI, nOp_u, tk_ne9, tk_inj, if_false, if_true, false_and, and_false, Nat.reduceEqDiff, reduceIte, reduceCtorEq, and_true, true_and] using h9
  · have h9 := r_o2 R
    unfold Co2
    simpa (disch := omega) only [sI_wI, gI_uI, nOp_u, tk_ne9, tk_inj, if_false, if_true, false_and, and_false, Nat.reduceEqDiff, reduceIte, reduceCtorEq, and_true, true_and] using h9
  · have h9 := r_o3 R
    unfold Co3
    simpa (disch := omega) only [sI_wI, gI_uI, nOp_u, tk_ne9, tk_inj, if_false, if_true, false_and, and_false, Nat.reduceEqDiff, reduceIte, reduceCtorEq, and_true, true_and] using h9
  · have h9 := r_om R
    unfold Com
    simpa (disch := omega) only [gI_uI, nOp_u, tk_ne9, tk_inj, if_false, if_true, false_and, and_false, Nat.reduceEqDiff, reduceIte, reduceCtorEq, and_true, true_and] using h9
  · have h9 := r_b0 R
    unfold Cb0
    simpa (disch := omega) only [sP_wI, nB_u, tk_ne9, tk_inj, if_false, if_true, false_and, and_false, Nat.reduceEqDiff, reduceIte, reduceCtorEq, and_true, true_and] using h9
  · have h9 := r_bn R
    unfold Cbn
    simpa (disch := omega) only [sI_wI, nB_u, tk_ne9, tk_inj, if_false, if_true, false_and, and_false, Nat.reduceEqDiff, reduceIte, reduceCtorEq, and_true, true_and] using h9
  · have h9 := r_bk R
    unfold Cbk
    simpa (disch := omega) only [sP_wI, nB_u, kd_u, tk_ne9, tk_inj, if_false, if_true, false_and, and_false, Nat.reduceEqDiff, reduceIte, reduceCtorEq, and_true, true_and] using h9
  · have h9 := r_b2 R
    unfold Cb2
    simpa (disch := omega) only [sI_wI, gI_uI, nB_u, tk_ne9, tk_inj, if_false, if_true, false_and, and_false, Nat.reduceEqDiff, reduceIte, reduceCtorEq, and_true, true_and] using h9
  · have h9 := r_b3 R
    unfold Cb3
    simpa (disch := omega) only [sI_wI, gI_uI, nB_u, tk_ne9, tk_inj, if_false, if_true, false_and, and_false, Nat.reduceEqDiff, reduceIte, reduceCtorEq, and_true, true_and] using h9
  · have h9 := r_b4 R
    unfold Cb4
    simpa (disch := omega) only [sI_wI, gI_uI, nB_u, tk_ne9, tk_inj, if_false, if_true, false_and, and_false, Nat.reduceEqDiff, reduceIte, reduceCtorEq, and_true, true_and] using h9
  · have h9 := r_b5 R
    unfold Cb5
    simpa (disch := omega) only [sI_wI, gI_uI, nB_u, tk_ne9, tk_inj, if_false, if_true, false_and, and_false, Nat.reduceEqDiff, reduceIte, reduceCtorEq, and_true, true_and] using h9
  · have h9 := r_b6 R
    unfold Cb6
    simpa (disch := omega) only [sI_wI, gI_uI, nB_u, tk_ne9, tk_inj, if_false, if_true, false_and, and_false, Nat.reduceEqDiff, reduceIte, reduceCtorEq, and_true, true_and] using h9
  · have h9 := r_b7 R
    unfold Cb7
    simpa (disch := omega) only [sI_wI, gI_uI, nB_u, tk_ne9, tk_inj, if_false, if_true, false_and, and_false, Nat.reduceEqDiff, reduceIte, reduceCtorEq, and_true, true_and] using h9
  · have h9 := r_b8 R
    unfold Cb8
    simpa (disch := omega) only [sI_wI, gI_uI, nB_u, tk_ne9, tk_inj, if_false, if_true, false_and, and_false, Nat.reduceEqDiff, reduceIte, reduceCtorEq, and_true, true_and] using h9
  · have h9 := r_b9 R
    unfold Cb9
    simpa (disch := omega) only [sI_wI, gI_uI, nB_u, tk_ne9, tk_inj, if_false, if_true, false_and, and_false, Nat.reduceEqDiff, reduceIte, reduceCtorEq, and_true, true_and] using h9
  · have h9 := r_b10 R
    unfold Cb10
    simpa (disch := omega) only [sI_wI, gI_uI, nB_u, tk_ne9, tk_inj, if_false, if_true, false_and, and_false, Nat.reduceEqDiff, reduceIte, reduceCtorEq, and_true, true_and] using h9
  · have h9 := r_b11 R
    unfold Cb11
    simpa (disch := omega) only [sL_wI, gL_uI, nB_u, tk_ne9, tk_inj, if_false, if_true, false_and, and_false, Nat.reduceEqDiff, reduceIte, reduceCtorEq, and_true, true_and] using h9
  · have h9 := r_bK R
    unfold CbK
    simpa (disch := omega) only [gI_uI, nB_u, kd_u, tk_ne9, tk_inj, if_false, if_true, false_and, and_false, Nat.reduceEqDiff, reduceIte, reduceCtorEq, and_true, true_and] using h9
  · have h9 := r_bP R
    unfold CbP
    simpa (disch := omega) only [gI_uI, nB_u, pc_u, tk_ne9, tk_inj, if_false, if_true, false_and, and_false, Nat.reduceEqDiff, reduceIte, reduceCtorEq, and_true, true_and] using h9
  · have h9 := r_bO R
    unfold CbO
    simpa (disch := omega) only [gI_uI, nB_u, op_u, tk_ne9, tk_inj, if_false, if_true, false_and, and_false, Nat.reduceEqDiff, reduceIte, reduceCtorEq, and_true, true_and] using h9
  · have h9 := r_bW R
    unfold CbW
    simpa (disch := omega) only [gI_uI, nB_u, nOp_u, kd_u, op_u, tk_ne9, tk_inj, if_false, if_true, false_and, and_false, Nat.reduceEqDiff, reduceIte, reduceCtorEq, and_true, true_and] using h9
  · have h9 := r_bZ R
    unfold CbZ
    simpa (disch := omega) only [gI_uI, nB_u, pc_u, tk_ne9, tk_inj, if_false, if_true, false_and, and_false, Nat.reduceEqDiff, reduceIte, reduceCtorEq, and_true, true_and] using h9
  · have h9 := r_bF R
    unfold CbF
    simpa (disch := omega) only [gI_uI, nB_u, tk_ne9, tk_inj, if_false, if_true, false_and, and_false, Nat.reduceEqDiff, reduceIte, reduceCtorEq, and_true, true_and] using h9
  · have h9 := r_bS R
    unfold CbS
    simpa (disch := omega) only [gI_uI, nB_u, tk_ne9, tk_inj, if_false, if_true, false_and, and_false, Nat.reduceEqDiff, reduceIte, reduceCtorEq, and_true, true_and] using h9
  · have h9 := r_bC R
    unfold CbC
    simpa (disch := omega) only [gI_uI, nB_u, tk_ne9, tk_inj, if_false, if_true, false_and, and_false, Nat.reduceEqDiff, reduceIte, reduceCtorEq, and_true, true_and] using h9
  · have h9 := r_bT R
    unfold CbT
    simpa (disch := omega) only [gI_uI, nB_u, tk_ne9, tk_inj, if_false, if_true, false_and, and_false, Nat.reduceEqDiff, reduceIte, reduceCtorEq, and_true, true_and] using h9
  · have h9 := r_bU R
    unfold CbU
    simpa (disch := omega) only [gI_uI, nB_u, kd_u, tk_ne9, tk_inj, if_false, if_true, false_and, and_false, Nat.reduceEqDiff, reduceIte, reduceCtorEq, and_true, true_and] using h9
  · have h9 := r_bq R
    unfold Cbq
    simpa (disch := omega) only [nB_u, totp_u, tk_ne9, tk_inj, if_false, if_true, false_and, and_false, Nat.reduceEqDiff, reduceIte, reduceCtorEq, and_true, true_and] using h9
  · have h9 := r_ps R
    unfold Cps
    simpa (disch := omega) only [nB_u, nO_u, nInSt_u, nProm_u, tk_ne9, tk_inj, if_false, if_true, false_and, and_false, Nat.reduceEqDiff, reduceIte, reduceCtorEq, and_true, true_and] using h9
  · have h9 := r_bp R
    unfold Cbp
    simpa (disch := omega) only [gL_uI, nB_u, tk_ne9, tk_inj, if_false, if_true, false_and, and_false, Nat.reduceEqDiff, reduceIte, reduceCtorEq, and_true, true_and] using h9
  · have h9 := r_bc R
    unfold Cbc
    simpa (disch := omega) only [nB_u, hN_u, tot_u, tk_ne9, tk_inj, if_false, if_true, false_and, and_false, Nat.reduceEqDiff, reduceIte, reduceCtorEq, and_true, true_and] using h9
  · have h9 := r_fB R
    unfold CfB
    simpa (disch := omega) only [sX_wI, nB_u, tk_ne9, tk_inj, if_false, if_true, false_and, and_false, Nat.reduceEqDiff, reduceIte, reduceCtorEq, and_true, true_and] using h9
  · have h9 := r_fL R
    unfold CfL
    simpa (disch := omega) only [sX_wI, nLn_u, tk_ne9, tk_inj, if_false, if_true, false_and, and_false, Nat.reduceEqDiff, reduceIte, reduceCtorEq, and_true, true_and] using h9
  · have h9 := r_fO R
    unfold CfO
    simpa (disch := omega) only [sX_wI, nOp_u, tk_ne9, tk_inj, if_false, if_true, false_and, and_false, Nat.reduceEqDiff, reduceIte, reduceCtorEq, and_true, true_and] using h9
  · have h9 := r_fM R
    unfold CfM
    simpa (disch := omega) only [sX_wI, nM_u, tk_ne9, tk_inj, if_false, if_true, false_and, and_false, Nat.reduceEqDiff, reduceIte, reduceCtorEq, and_true, true_and] using h9
  · have h9 := r_fP R
    unfold CfP
    simpa (disch := omega) only [sX_wI, nP_u, tk_ne9, tk_inj, if_false, if_true, false_and, and_false, Nat.reduceEqDiff, reduceIte, reduceCtorEq, and_true, true_and] using h9
  · have h9 := r_fR R
    unfold CfR
    simpa (disch := omega) only [sX_wI, nO_u, tk_ne9, tk_inj, if_false, if_true, false_and, and_false, Nat.reduceEqDiff, reduceIte, reduceCtorEq, and_true, true_and] using h9
  · have h9 := r_fG R
    exact h9
  · have h9 := r_m0 R
    unfold Cm0
    simpa (disch := omega) only [sP_wI, nM_u, tk_ne9, tk_inj, if_false, if_true, false_and, and_false, Nat.reduceEqDiff, reduceIte, reduceCtorEq, and_true, true_and] using h9
  · have h9 := r_mn R
    unfold Cmn
    simpa (disch := omega) only [sI_wI, nM_u, tk_ne9, tk_inj, if_false, if_true, false_and, and_false, Nat.reduceEqDiff, reduceIte, reduceCtorEq, and_true, true_and] using h9
  · have h9 := r_m1 R
    unfold Cm1
    simpa (disch := omega) only [sI_wI, gI_uI, nM_u, tk_ne9, tk_inj, if_false, if_true, false_and, and_false, Nat.reduceEqDiff, reduceIte, reduceCtorEq, and_true, true_and] using h9
  · have h9 := r_m2 R
    unfold Cm2
    simpa (disch := omega) only [sI_wI, gI_uI, nM_u, tk_ne9, tk_inj, if_false, if_true, false_and, and_false, Nat.reduceEqDiff, reduceIte, reduceCtorEq, and_true, true_and] using h9
  · have h9 := r_m3 R
    unfold Cm3
    simpa (disch := omega) only [sI_wI, gI_uI, nM_u, tk_ne9, tk_inj, if_false, if_true, false_and, and_false, Nat.reduceEqDiff, reduceIte, reduceCtorEq, and_true, true_and] using h9
  · have h9 := r_m4 R
    unfold Cm4
    simpa (disch := omega) only [sI_wI, gI_uI, nM_u, tk_ne9, tk_inj, if_false, if_true, false_and, and_false, Nat.reduceEqDiff, reduceIte, reduceCtorEq, and_true, true_and] using h9
  · have h9 := r_m5 R
    unfold Cm5
    simpa (disch := omega) only [sI_wI, gI_uI, nM_u, tk_ne9, tk_inj, if_false, if_true, false_and, and_false, Nat.reduceEqDiff, reduceIte, reduceCtorEq, and_true, true_and] using h9
  · have h9 := r_m9 R
    unfold Cm9
    simpa (disch := omega) only [sI_wI, gI_uI, nM_u, tk_ne9, tk_inj, if_false, if_true, false_and, and_false, Nat.reduceEqDiff, reduceIte, reduceCtorEq, and_true, true_and] using h9
  · unfold Cm11
    intro x0_ h0
    have h9 := r_m11 R x0_ h0
    by_cases e1 : x0_ = m
    · subst e1
      (try simp (disch := omega) [sI_wI, sI_wP, sI_wL, sI_wN, sP_wI, sP_wP, sP_wL, sP_wN, sL_wI, sL_wP, sL_wL, sL_wN, sX_wI, sX_wP, sX_wL, sX_wN, gI_uI, gI_uL, gL_uI, gL_uL, tk_ne9, tk_inj, nB_u, nM_u, nP_u, nO_u, hN_u, nLn_u, nOp_u, lnP_u, pc_u, kd_u, op_u, pr_u, mInSt_u, mProm_u, nInSt_u, nProm_u, totp_u, tot_u, nB_l, nM_l, nP_l, nO_l, hN_l, nLn_l, nOp_l, lnP_l, pc_l, kd_l, op_l, pr_l, mInSt_l, mProm_l, nInSt_l, nProm_l, totp_l, tot_l, if_false, if_true, false_and, and_false, Nat.reduceEqDiff, reduceIte, reduceCtorEq, and_true, true_and]) <;> first | exact h9 | assumption | grind
    · (try simp (disch := omega) [sI_wI, sI_wP, sI_wL, sI_wN, sP_wI, sP_wP, sP_wL, sP_wN, sL_wI, sL_wP, sL_wL, sL_wN, sX_wI, sX_wP, sX_wL, sX_wN, gI_uI, gI_uL, gL_uI, gL_uL, tk_ne9, tk_inj, nB_u, nM_u, nP_u, nO_u, hN_u, nLn_u, nOp_u, lnP_u, pc_u, kd_u, op_u, pr_u, mInSt_u, mProm_u, nInSt_u, nProm_u, totp_u, tot_u, nB_l, nM_l, nP_l, nO_l, hN_l, nLn_l, nOp_l, lnP_l, pc_l, kd_l, op_l, pr_l, mInSt_l, mProm_l, nInSt_l, nProm_l, totp_l, tot_l, if_false, if_true, false_and, and_false, Nat.reduceEqDiff, reduceIte, reduceCtorEq, and_true, true_and, e1]) <;> first | exact h9 | assumption | grind
  · have h9 := r_m13 R
    unfold Cm13
    simpa (disch := omega) only [sI_wI, gI_uI, nM_u, tk_ne9, tk_inj, if_false, if_true, false_and, and_false, Nat.reduceEqDiff, reduceIte, reduceCtorEq, and_true, true_and] using h9
  · have h9 := r_m14 R
    unfold Cm14
    simpa (disch := omega) only [sI_wI, gI_uI, nM_u, tk_ne9, tk_inj, if_false, if_true, false_and, and_false, Nat.reduceEqDiff, reduceIte, reduceCtorEq, and_true, true_and] using h9
  · have h9 := r_m6 R
    unfold Cm6
    simpa (disch := omega) only [sP_wI, gI_uI, nM_u, tk_ne9, tk_inj, if_false, if_true, false_and, and_false, Nat.reduceEqDiff, reduceIte, reduceCtorEq, and_true, true_and] using h9
  · have h9 := r_m7 R
    unfold Cm7
    simpa (disch := omega) only [sP_wI, gI_uI, nM_u, tk_ne9, tk_inj, if_false, if_true, false_and, and_false, Nat.reduceEqDiff, reduceIte, reduceCtorEq, and_true, true_and] using h9
  · have h9 := r_m8 R
    unfold Cm8
    simpa (disch := omega) only [sP_wI, gI_uI, nM_u, tk_ne9, tk_inj, if_false, if_true, false_and, and_false, Nat.reduceEqDiff, reduceIte, reduceCtorEq, and_true, true_and] using h9
  · have h9 := r_m12 R
    unfold Cm12
    simpa (disch := omega) only [sP_wI, gI_uI, nM_u, tk_ne9, tk_inj, if_false, if_true, false_and, and_false, Nat.reduceEqDiff, reduceIte, reduceCtorEq, and_true, true_and] using h9
  · have h9 := r_m10 R
    unfold Cm10
    simpa (disch := omega) only [sI_wI, gI_uI, nB_u, nM_u, tk_ne9, tk_inj, if_false, if_true, false_and, and_false, Nat.reduceEqDiff, reduceIte, reduceCtorEq, and_true, true_and] using h9
  · have h9 := r_mma R
    unfold Cmma
    simpa (disch := omega) only [gI_uI, nM_u, tk_ne9, tk_inj, if_false, if_true, false_and, and_false, Nat.reduceEqDiff, reduceIte, reduceCtorEq, and_true, true_and] using h9
  · have h9 := r_mmb R
    unfold Cmmb
    simpa (disch := omega) only [gI_uI, nB_u, nM_u, nP_u, tk_ne9, tk_inj, if_false, if_true, false_and, and_false, Nat.reduceEqDiff, reduceIte, reduceCtorEq, and_true, true_and] using h9
  · have h9 := r_mmc R
    unfold Cmmc
    simpa (disch := omega) only [gI_uI, nM_u, tk_ne9, tk_inj, if_false, if_true, false_and, and_false, Nat.reduceEqDiff, reduceIte, reduceCtorEq, and_true, true_and] using h9
  · have h9 := r_mr29 R
    unfold Cmr29
    simpa (disch := omega) only [gI_uI, nM_u, tk_ne9, tk_inj, if_false, if_true, false_and, and_false, Nat.reduceEqDiff, reduceIte, reduceCtorEq, and_true, true_and] using h9
  · have h9 := r_mr30 R
    unfold Cmr30
    simpa (disch := omega) only [gI_uI, nM_u, tk_ne9, tk_inj, if_false, if_true, false_and, and_false, Nat.reduceEqDiff, reduceIte, reduceCtorEq, and_true, true_and] using h9
  · have h9 := r_mr31 R
    unfold Cmr31
    simpa (disch := omega) only [gI_uI, nM_u, tk_ne9, tk_inj, if_false, if_true, false_and, and_false, Nat.reduceEqDiff, reduceIte, reduceCtorEq, and_true, true_and] using h9
  · have h9 := r_mr32 R
    unfold Cmr32
    simpa (disch := omega) only [gI_uI, nM_u, tk_ne9, tk_inj, if_false, if_true, false_and, and_false, Nat.reduceEqDiff, reduceIte, reduceCtorEq, and_true, true_and] using h9
  · have h9 := r_mr35 R
    unfold Cmr35
    simpa (disch := omega) only [gI_uI, nM_u, tk_ne9, tk_inj, if_false, if_true, false_and, and_false, Nat.reduceEqDiff, reduceIte, reduceCtorEq, and_true, true_and] using h9
  · have h9 := r_mr39 R
    unfold Cmr39
    simpa (disch := omega) only [gI_uI, nM_u, tk_ne9, tk_inj, if_false, if_true, false_and, and_false, Nat.reduceEqDiff, reduceIte, reduceCtorEq, and_true, true_and] using h9
  · have h9 := r_mr40 R
    unfold Cmr40
    simpa (disch := omega) only [gI_uI, nM_u, tk_ne9, tk_inj, if_false, if_true, false_and, and_false, Nat.reduceEqDiff, reduceIte, reduceCtorEq, and_true, true_and] using h9
  · have h9 := r_md R
    unfold Cmd
    simpa (disch := omega) only [gI_uI, nM_u, tk_ne9, tk_inj, if_false, if_true, false_and, and_false, Nat.reduceEqDiff, reduceIte, reduceCtorEq, and_true, true_and] using h9
  · have h9 := r_mw R
    unfold Cmw
    simpa (disch := omega) only [gI_uI, nM_u, tk_ne9, tk_inj, if_false, if_true, false_and, and_false, Nat.reduceEqDiff, reduceIte, reduceCtorEq, and_true, true_and] using h9
  · have h9 := r_q0 R
    unfold Cq0
    simpa (disch := omega) only [sP_wI, nP_u, tk_ne9, tk_inj, if_false, if_true, false_and, and_false, Nat.reduceEqDiff, reduceIte, reduceCtorEq, and_true, true_and] using h9
  · have h9 := r_qn R
    unfold Cqn
    simpa (disch := omega) only [sI_wI, nP_u, tk_ne9, tk_inj, if_false, if_true, false_and, and_false, Nat.reduceEqDiff, reduceIte, reduceCtorEq, and_true, true_and] using h9
  · have h9 := r_q1 R
    unfold Cq1
    simpa (disch := omega) only [sI_wI, gI_uI, nP_u, tk_ne9, tk_inj, if_false, if_true, false_and, and_false, Nat.reduceEqDiff, reduceIte, reduceCtorEq, and_true, true_and] using h9
  · have h9 := r_q2 R
    unfold Cq2
    simpa (disch := omega) only [sI_wI, gI_uI, nP_u, tk_ne9, tk_inj, if_false, if_true, false_and, and_false, Nat.reduceEqDiff, reduceIte, reduceCtorEq, and_true, true_and] using h9
  · have h9 := r_q3 R
    unfold Cq3
    simpa (disch := omega) only [sI_wI, gI_uI, nP_u, tk_ne9, tk_inj, if_false, if_true, false_and, and_false, Nat.reduceEqDiff, reduceIte, reduceCtorEq, and_true, true_and] using h9
  · have h9 := r_q4 R
    unfold Cq4
    simpa (disch := omega) only [sP_wI, nP_u, tk_ne9, tk_inj, if_false, if_true, false_and, and_false, Nat.reduceEqDiff, reduceIte, reduceCtorEq, and_true, true_and] using h9
  · have h9 := r_q5 R
    unfold Cq5
    simpa (disch := omega) only [sP_wI, nP_u, tk_ne9, tk_inj, if_false, if_true, false_and, and_false, Nat.reduceEqDiff, reduceIte, reduceCtorEq, and_true, true_and] using h9
  · have h9 := r_q6 R
    unfold Cq6
    simpa (disch := omega) only [sI_wI, gI_uI, nM_u, nP_u, tk_ne9, tk_inj, if_false, if_true, false_and, and_false, Nat.reduceEqDiff, reduceIte, reduceCtorEq, and_true, true_and] using h9
  · have h9 := r_ql R
    unfold Cql
    simpa (disch := omega) only [sI_wI, gI_uI, nP_u, tk_ne9, tk_inj, if_false, if_true, false_and, and_false, Nat.reduceEqDiff, reduceIte, reduceCtorEq, and_true, true_and] using h9
  · have h9 := r_qw R
    unfold Cqw
    simpa (disch := omega) only [sI_wI, gI_uI, nP_u, tk_ne9, tk_inj, if_false, if_true, false_and, and_false, Nat.reduceEqDiff, reduceIte, reduceCtorEq, and_true, true_and] using h9
  · have h9 := r_qm R
    unfold Cqm
    simpa (disch := omega) only [gI_uI, nP_u, tk_ne9, tk_inj, if_false, if_true, false_and, and_false, Nat.reduceEqDiff, reduceIte, reduceCtorEq, and_true, true_and] using h9
  · have h9 := r_qr R
    unfold Cqr
    simpa (disch := omega) only [gI_uI, nP_u, tk_ne9, tk_inj, if_false, if_true, false_and, and_false, Nat.reduceEqDiff, reduceIte, reduceCtorEq, and_true, true_and] using h9
  · have h9 := r_r0 R
    unfold Cr0
    simpa (disch := omega) only [sP_wI, nO_u, tk_ne9, tk_inj, if_false, if_true, false_and, and_false, Nat.reduceEqDiff, reduceIte, reduceCtorEq, and_true, true_and] using h9
  · have h9 := r_r1 R
    unfold Cr1
    simpa (disch := omega) only [sP_wI, gI_uI, nO_u, tk_ne9, tk_inj, if_false, if_true, false_and, and_false, Nat.reduceEqDiff, reduceIte, reduceCtorEq, and_true, true_and] using h9
  · have h9 := r_r2 R
    unfold Cr2
    simpa (disch := omega) only [sI_wI, gI_uI, nO_u, tk_ne9, tk_inj, if_false, if_true, false_and, and_false, Nat.reduceEqDiff, reduceIte, reduceCtorEq, and_true, true_and] using h9
  · have h9 := r_r3 R
    unfold Cr3
    simpa (disch := omega) only [sI_wI, gI_uI, nO_u, tk_ne9, tk_inj, if_false, if_true, false_and, and_false, Nat.reduceEqDiff, reduceIte, reduceCtorEq, and_true, true_and] using h9
  · have h9 := r_r4 R
    unfold Cr4
    simpa (disch := omega) only [sI_wI, gI_uI, nO_u, tk_ne9, tk_inj, if_false, if_true, false_and, and_false, Nat.reduceEqDiff, reduceIte, reduceCtorEq, and_true, true_and] using h9
  · have h9 := r_r5 R
    unfold Cr5
    simpa (disch := omega) only [sP_wI, gI_uI, nO_u, tk_ne9, tk_inj, if_false, if_true, false_and, and_false, Nat.reduceEqDiff, reduceIte, reduceCtorEq, and_true, true_and] using h9
  · have h9 := r_r6 R
    unfold Cr6
    simpa (disch := omega) only [sI_wI, gI_uI, nO_u, tk_ne9, tk_inj, if_false, if_true, false_and, and_false, Nat.reduceEqDiff, reduceIte, reduceCtorEq, and_true, true_and] using h9
  · have h9 := r_rk R
    unfold Crk
    simpa (disch := omega) only [gI_uI, nO_u, tk_ne9, tk_inj, if_false, if_true, false_and, and_false, Nat.reduceEqDiff, reduceIte, reduceCtorEq, and_true, true_and] using h9
  · have h9 := r_rp R
    unfold Crp
    simpa (disch := omega) only [gI_uI, nO_u, tk_ne9, tk_inj, if_false, if_true, false_and, and_false, Nat.reduceEqDiff, reduceIte, reduceCtorEq, and_true, true_and] using h9
  · have h9 := r_rq R
    unfold Crq
    simpa (disch := omega) only [gI_uI, nO_u, pr_u, tk_ne9, tk_inj, if_false, if_true, false_and, and_false, Nat.reduceEqDiff, reduceIte, reduceCtorEq, and_true, true_and] using h9
  · have h9 := r_rr R
    unfold Crr
    simpa (disch := omega) only [gI_uI, nO_u, pr_u, tk_ne9, tk_inj, if_false, if_true, false_and, and_false, Nat.reduceEqDiff, reduceIte, reduceCtorEq, and_true, true_and] using h9
  · have h9 := r_rs R
    unfold Crs
    simpa (disch := omega) only [gI_uI, nB_u, nO_u, tk_ne9, tk_inj, if_false, if_true, false_and, and_false, Nat.reduceEqDiff, reduceIte, reduceCtorEq, and_true, true_and] using h9
set_option maxHeartbeats 8000000 in
theorem rel_need {e : Nat} {a : Sg} {M : MS} (R : Rel e a M) (m : Nat) (hm : m < nM M) (n : Nat) (hn : n ≤ 2) (h2 : n = 2 → ∃ s : Nat, gI M 40 m = nI s ∧ 1 ≤ s ∧ s ≤ 9) : Rel e (wI a (tk 4 m) 13 (nI n)) (uI M 39 m (nI n)) := by
  unfold Rel
  refine ⟨?_, ?_, ?_, ?_, ?_, ?_, ?_, ?_, ?_, ?_, ?_, ?_, ?_, ?_, ?_, ?_, ?_, ?_, ?_, ?_, ?_, ?_, ?_, ?_, ?_, ?_, ?_, ?_, ?_, ?_, ?_, ?_, ?_, ?_, ?_, ?_, ?_, ?_, ?_, ?_, ?_, ?_, ?_, ?_, ?_, ?_, ?_, ?_, ?_, ?_, ?_, ?_, ?_, ?_, ?_, ?_, ?_, ?_, ?_, ?_, ?_, ?_, ?_, ?_, ?_, ?_, ?_, ?_, ?_, ?_, ?_, ?_, ?_, ?_, ?_, ?_, ?_, ?_, ?_, ?_, ?_, ?_, ?_, ?_, ?_, ?_, ?_, ?_, ?_, ?_, ?_, ?_, ?_, ?_, ?_, ?_, ?_, ?_, ?_, ?_, ?_, ?_, ?_, ?_, ?_, ?_, ?_, ?_, ?_, ?_, ?_, ?_, ?_, ?_, ?_, ?_, ?_, ?_, ?_, ?_, ?_, ?_, ?_, ?_, ?_, ?_, ?_, ?_, ?_, ?_, ?_, ?_, ?_, ?_, ?_, ?_, ?_, ?_, ?_, ?_, ?_, ?_, ?_, ?_, ?_, ?_, ?_, ?_, ?_⟩
  · have h9 := r_shm R
    exact h9
  · have h9 := r_px0 R
    exact h9
  · have h9 := r_px1 R
    exact h9
  · have h9 := r_px2 R
    exact h9
  · have h9 := r_pf0 R
    exact h9
  · have h9 := r_pf1 R
    exact h9
  · have h9 := r_pf3 R
    exact h9
  · have h9 := r_ps0 R
    exact h9
  · have h9 := r_ps2 R
    exact h9
  · have h9 := r_ps4 R
    exact h9
  · have h9 := r_pk R
    exact h9
  · have h9 := r_pkl R
    exact h9
  · have h9 := r_pko R
    exact h9
  · have h9 := r_ghour R
    unfold Cghour
    simpa (disch := omega) only [sI_wI, gI_uI, tk_ne9, tk_inj, if_false, if_true, false_and, and_false, Nat.reduceEqDiff, reduceIte, reduceCtorEq, and_true, true_and] using h9
  · have h9 := r_gstand R
    unfold Cgstand
    simpa (disch := omega) only [sI_wI, gI_uI, tk_ne9, tk_inj, if_false, if_true, false_and, and_false, Nat.reduceEqDiff, reduceIte, reduceCtorEq, and_true, true_and] using h9
  · have h9 := r_gbought R
    unfold Cgbought
    simpa (disch := omega) only [sI_wI, gI_uI, tk_ne9, tk_inj, if_false, if_true, false_and, and_false, Nat.reduceEqDiff, reduceIte, reduceCtorEq, and_true, true_and] using h9
  · have h9 := r_gmach R
    unfold Cgmach
    simpa (disch := omega) only [sI_wI, gI_uI, tk_ne9, tk_inj, if_false, if_true, false_and, and_false, Nat.reduceEqDiff, reduceIte, reduceCtorEq, and_true, true_and] using h9
  · have h9 := r_gpers R
    unfold Cgpers
    simpa (disch := omega) only [sI_wI, gI_uI, tk_ne9, tk_inj, if_false, if_true, false_and, and_false, Nat.reduceEqDiff, reduceIte, reduceCtorEq, and_true, true_and] using h9
  · have h9 := r_gworked R
    unfold Cgworked
    simpa (disch := omega) only [sI_wI, gI_uI, tk_ne9, tk_inj, if_false, if_true, false_and, and_false, Nat.reduceEqDiff, reduceIte, reduceCtorEq, and_true, true_and] using h9
  · have h9 := r_grep R
    unfold Cgrep
    simpa (disch := omega) only [sI_wI, gI_uI, tk_ne9, tk_inj, if_false, if_true, false_and, and_false, Nat.reduceEqDiff, reduceIte, reduceCtorEq, and_true, true_and] using h9
  · have h9 := r_gbat R
    unfold Cgbat
    simpa (disch := omega) only [sI_wI, gI_uI, tk_ne9, tk_inj, if_false, if_true, false_and, and_false, Nat.reduceEqDiff, reduceIte, reduceCtorEq, and_true, true_and] using h9
  · have h9 := r_gord R
    unfold Cgord
    simpa (disch := omega) only [sI_wI, gI_uI, tk_ne9, tk_inj, if_false, if_true, false_and, and_false, Nat.reduceEqDiff, reduceIte, reduceCtorEq, and_true, true_and] using h9
  · have h9 := r_gq R
    unfold Cgq
    simpa (disch := omega) only [sI_wI, gI_uI, tk_ne9, tk_inj, if_false, if_true, false_and, and_false, Nat.reduceEqDiff, reduceIte, reduceCtorEq, and_true, true_and] using h9
  · have h9 := r_nB R
    unfold CnB
    simpa (disch := omega) only [gI_uI, nB_u, tk_ne9, tk_inj, if_false, if_true, false_and, and_false, Nat.reduceEqDiff, reduceIte, reduceCtorEq, and_true, true_and] using h9
  · have h9 := r_nBx R
    unfold CnBx
    simpa (disch := omega) only [nB_u, tk_ne9, tk_inj, if_false, if_true, false_and, and_false, Nat.reduceEqDiff, reduceIte, reduceCtorEq, and_true, true_and] using h9
  · have h9 := r_nM R
    unfold CnM
    simpa (disch := omega) only [gI_uI, nM_u, tk_ne9, tk_inj, if_false, if_true, false_and, and_false, Nat.reduceEqDiff, reduceIte, reduceCtorEq, and_true, true_and] using h9
  · have h9 := r_nMx R
    unfold CnMx
    simpa (disch := omega) only [nM_u, tk_ne9, tk_inj, if_false, if_true, false_and, and_false, Nat.reduceEqDiff, reduceIte, reduceCtorEq, and_true, true_and] using h9
  · have h9 := r_nP R
    unfold CnP
    simpa (disch := omega) only [gI_uI, nP_u, tk_ne9, tk_inj, if_false, if_true, false_and, and_false, Nat.reduceEqDiff, reduceIte, reduceCtorEq, and_true, true_and] using h9
  · have h9 := r_nPx R
    unfold CnPx
    simpa (disch := omega) only [nP_u, tk_ne9, tk_inj, if_false, if_true, false_and, and_false, Nat.reduceEqDiff, reduceIte, reduceCtorEq, and_true, true_and] using h9
  · have h9 := r_nO R
    unfold CnO
    simpa (disch := omega) only [gI_uI, nO_u, tk_ne9, tk_inj, if_false, if_true, false_and, and_false, Nat.reduceEqDiff, reduceIte, reduceCtorEq, and_true, true_and] using h9
  · have h9 := r_nOx R
    unfold CnOx
    simpa (disch := omega) only [nO_u, tk_ne9, tk_inj, if_false, if_true, false_and, and_false, Nat.reduceEqDiff, reduceIte, reduceCtorEq, and_true, true_and] using h9
  · have h9 := r_hr R
    unfold Chr
    simpa (disch := omega) only [gI_uI, hN_u, tk_ne9, tk_inj, if_false, if_true, false_and, and_false, Nat.reduceEqDiff, reduceIte, reduceCtorEq, and_true, true_and] using h9
  · have h9 := r_hrx R
    unfold Chrx
    simpa (disch := omega) only [hN_u, tk_ne9, tk_inj, if_false, if_true, false_and, and_false, Nat.reduceEqDiff, reduceIte, reduceCtorEq, and_true, true_and] using h9
  · have h9 := r_stb R
    unfold Cstb
    simpa (disch := omega) only [gI_uI, tk_ne9, tk_inj, if_false, if_true, false_and, and_false, Nat.reduceEqDiff, reduceIte, reduceCtorEq, and_true, true_and] using h9
  · have h9 := r_ex R
    exact h9
  · have h9 := r_k0 R
    unfold Ck0
    simpa (disch := omega) only [sI_wI, tk_ne9, tk_inj, if_false, if_true, false_and, and_false, Nat.reduceEqDiff, reduceIte, reduceCtorEq, and_true, true_and] using h9
  · have h9 := r_k1 R
    unfold Ck1
    simpa (disch := omega) only [sI_wI, gI_uI, tk_ne9, tk_inj, if_false, if_true, false_and, and_false, Nat.reduceEqDiff, reduceIte, reduceCtorEq, and_true, true_and] using h9
  · have h9 := r_k2 R
    unfold Ck2
    simpa (disch := omega) only [sI_wI, gI_uI, tk_ne9, tk_inj, if_false, if_true, false_and, and_false, Nat.reduceEqDiff, reduceIte, reduceCtorEq, and_true, true_and] using h9
  · have h9 := r_k3 R
    unfold Ck3
    simpa (disch := omega) only [sI_wI, gI_uI, tk_ne9, tk_inj, if_false, if_true, false_and, and_false, Nat.reduceEqDiff, reduceIte, reduceCtorEq, and_true, true_and] using h9
  · have h9 := r_k5 R
    unfold Ck5
    simpa (disch := omega) only [sI_wI, gI_uI, tk_ne9, tk_inj, if_false, if_true, false_and, and_false, Nat.reduceEqDiff, reduceIte, reduceCtorEq, and_true, true_and] using h9
  · have h9 := r_k7 R
    unfold Ck7
    simpa (disch := omega) only [sI_wI, gI_uI, tk_ne9, tk_inj, if_false, if_true, false_and, and_false, Nat.reduceEqDiff, reduceIte, reduceCtorEq, and_true, true_and] using h9
  · have h9 := r_k8 R
    unfold Ck8
    simpa (disch := omega) only [sI_wI, gI_uI, tk_ne9, tk_inj, if_false, if_true, false_and, and_false, Nat.reduceEqDiff, reduceIte, reduceCtorEq, and_true, true_and] using h9
  · have h9 := r_k9 R
    unfold Ck9
    simpa (disch := omega) only [sI_wI, gI_uI, tk_ne9, tk_inj, if_false, if_true, false_and, and_false, Nat.reduceEqDiff, reduceIte, reduceCtorEq, and_true, true_and] using h9
  · have h9 := r_k10 R
    unfold Ck10
    simpa (disch := omega) only [sI_wI, nB_u, mInSt_u, tk_ne9, tk_inj, if_false, if_true, false_and, and_false, Nat.reduceEqDiff, reduceIte, reduceCtorEq, and_true, true_and] using h9
  · have h9 := r_k11 R
    unfold Ck11
    simpa (disch := omega) only [sI_wI, nO_u, mProm_u, tk_ne9, tk_inj, if_false, if_true, false_and, and_false, Nat.reduceEqDiff, reduceIte, reduceCtorEq, and_true, true_and] using h9
  · have h9 := r_k12 R
    unfold Ck12
    simpa (disch := omega) only [sI_wI, tk_ne9, tk_inj, if_false, if_true, false_and, and_false, Nat.reduceEqDiff, reduceIte, reduceCtorEq, and_true, true_and] using h9
  · have h9 := r_ksa R
    unfold Cksa
    simpa (disch := omega) only [gI_uI, tk_ne9, tk_inj, if_false, if_true, false_and, and_false, Nat.reduceEqDiff, reduceIte, reduceCtorEq, and_true, true_and] using h9
  · have h9 := r_ksb R
    unfold Cksb
    simpa (disch := omega) only [gI_uI, nOp_u, tk_ne9, tk_inj, if_false, if_true, false_and, and_false, Nat.reduceEqDiff, reduceIte, reduceCtorEq, and_true, true_and] using h9
  · have h9 := r_ksc R
    unfold Cksc
    simpa (disch := omega) only [gI_uI, nLn_u, nOp_u, tk_ne9, tk_inj, if_false, if_true, false_and, and_false, Nat.reduceEqDiff, reduceIte, reduceCtorEq, and_true, true_and] using h9
  · have h9 := r_kw R
    unfold Ckw
    simpa (disch := omega) only [gI_uI, tk_ne9, tk_inj, if_false, if_true, false_and, and_false, Nat.reduceEqDiff, reduceIte, reduceCtorEq, and_true, true_and] using h9
  · have h9 := r_kl R
    unfold Ckl
    simpa (disch := omega) only [gI_uI, nLn_u, tk_ne9, tk_inj, if_false, if_true, false_and, and_false, Nat.reduceEqDiff, reduceIte, reduceCtorEq, and_true, true_and] using h9
  · have h9 := r_ko R
    unfold Cko
    simpa (disch := omega) only [gI_uI, nOp_u, tk_ne9, tk_inj, if_false, if_true, false_and, and_false, Nat.reduceEqDiff, reduceIte, reduceCtorEq, and_true, true_and] using h9
  · have h9 := r_kp R
    unfold Ckp
    simpa (disch := omega) only [gI_uI, tk_ne9, tk_inj, if_false, if_true, false_and, and_false, Nat.reduceEqDiff, reduceIte, reduceCtorEq, and_true, true_and] using h9
  · have h9 := r_l0 R
    unfold Cl0
    simpa (disch := omega) only [sP_wI, nLn_u, tk_ne9, tk_inj, if_false, if_true, false_and, and_false, Nat.reduceEqDiff, reduceIte, reduceCtorEq, and_true, true_and] using h9
  · have h9 := r_l1 R
    unfold Cl1
    simpa (disch := omega) only [sP_wI, nLn_u, lnP_u, tk_ne9, tk_inj, if_false, if_true, false_and, and_false, Nat.reduceEqDiff, reduceIte, reduceCtorEq, and_true, true_and] using h9
  · have h9 := r_l2 R
    unfold Cl2
    simpa (disch := omega) only [sI_wI, gI_uI, nLn_u, tk_ne9, tk_inj, if_false, if_true, false_and, and_false, Nat.reduceEqDiff, reduceIte, reduceCtorEq, and_true, true_and] using h9
  · have h9 := r_l3 R
    unfold Cl3
    simpa (disch := omega) only [sP_wI, gI_uI, nLn_u, tk_ne9, tk_inj, if_false, if_true, false_and, and_false, Nat.reduceEqDiff, reduceIte, reduceCtorEq, and_true, true_and] using h9
  · have h9 := r_lm R
    unfold Clm
    simpa (disch := omega) only [gI_uI, nLn_u, lnP_u, tk_ne9, tk_inj, if_false, if_true, false_and, and_false, Nat.reduceEqDiff, reduceIte, reduceCtorEq, and_true, true_and] using h9
  · have h9 := r_o0 R
    unfold Co0
    simpa (disch := omega) only [sP_wI, nOp_u, tk_ne9, tk_inj, if_false, if_true, false_and, and_false, Nat.reduceEqDiff, reduceIte, reduceCtorEq, and_true, true_and] using h9
  · have h9 := r_o1 R
    unfold Co1
    simpa (disch := omega) only [sI_wI, gI_uI, nOp_u, tk_ne9, tk_inj, if_false, if_true, false_and, and_false, Nat.reduceEqDiff, reduceIte, reduceCtorEq, and_true, true_and] using h9
  · have h9 := r_o2 R
    unfold Co2
    simpa (disch := omega) only [sI_wI, gI_uI, nOp_u, tk_ne9, tk_inj, if_false, if_true, false_and, and_false, Nat.reduceEqDiff, reduceIte, reduceCtorEq, and_true, true_and] using h9
  · have h9 := r_o3 R
    unfold Co3
    simpa (disch := omega) only [sI_wI, gI_uI, nOp_u, tk_ne9, tk_inj, if_false, if_true, false_and, and_false, Nat.reduceEqDiff, reduceIte, reduceCtorEq, and_true, true_and] using h9
  · have h9 := r_om R
    unfold Com
    simpa (disch := omega) only [gI_uI, nOp_u, tk_ne9, tk_inj, if_false, if_true, false_and, and_false, Nat.reduceEqDiff, reduceIte, reduceCtorEq, and_true, true_and] using h9
  · have h9 := r_b0 R
    unfold Cb0
    simpa (disch := omega) only [sP_wI, nB_u, tk_ne9, tk_inj, if_false, if_true, false_and, and_false, Nat.reduceEqDiff, reduceIte, reduceCtorEq, and_true, true_and] using h9
  · have h9 := r_bn R
    unfold Cbn
    simpa (disch := omega) only [sI_wI, nB_u, tk_ne9, tk_inj, if_false, if_true, false_and, and_false, Nat.reduceEqDiff, reduceIte, reduceCtorEq, and_true, true_and] using h9
  · have h9 := r_bk R
    unfold Cbk
    simpa (disch := omega) only [sP_wI, nB_u, kd_u, tk_ne9, tk_inj, if_false, if_true, false_and, and_false, Nat.reduceEqDiff, reduceIte, reduceCtorEq, and_true, true_and] using h9
  · have h9 := r_b2 R
    unfold Cb2
    simpa (disch := omega) only [sI_wI, gI_uI, nB_u, tk_ne9, tk_inj, if_false, if_true, false_and, and_false, Nat.reduceEqDiff, reduceIte, reduceCtorEq, and_true, true_and] using h9
  · have h9 := r_b3 R
    unfold Cb3
    simpa (disch := omega) only [sI_wI, gI_uI, nB_u, tk_ne9, tk_inj, if_false, if_true, false_and, and_false, Nat.reduceEqDiff, reduceIte, reduceCtorEq, and_true, true_and] using h9
  · have h9 := r_b4 R
    unfold Cb4
    simpa (disch := omega) only [sI_wI, gI_uI, nB_u, tk_ne9, tk_inj, if_false, if_true, false_and, and_false, Nat.reduceEqDiff, reduceIte, reduceCtorEq, and_true, true_and] using h9
  · have h9 := r_b5 R
    unfold Cb5
    simpa (disch := omega) only [sI_wI, gI_uI, nB_u, tk_ne9, tk_inj, if_false, if_true, false_and, and_false, Nat.reduceEqDiff, reduceIte, reduceCtorEq, and_true, true_and] using h9
  · have h9 := r_b6 R
    unfold Cb6
    simpa (disch := omega) only [sI_wI, gI_uI, nB_u, tk_ne9, tk_inj, if_false, if_true, false_and, and_false, Nat.reduceEqDiff, reduceIte, reduceCtorEq, and_true, true_and] using h9
  · have h9 := r_b7 R
    unfold Cb7
    simpa (disch := omega) only [sI_wI, gI_uI, nB_u, tk_ne9, tk_inj, if_false, if_true, false_and, and_false, Nat.reduceEqDiff, reduceIte, reduceCtorEq, and_true, true_and] using h9
  · have h9 := r_b8 R
    unfold Cb8
    simpa (disch := omega) only [sI_wI, gI_uI, nB_u, tk_ne9, tk_inj, if_false, if_true, false_and, and_false, Nat.reduceEqDiff, reduceIte, reduceCtorEq, and_true, true_and] using h9
  · have h9 := r_b9 R
    unfold Cb9
    simpa (disch := omega) only [sI_wI, gI_uI, nB_u, tk_ne9, tk_inj, if_false, if_true, false_and, and_false, Nat.reduceEqDiff, reduceIte, reduceCtorEq, and_true, true_and] using h9
  · have h9 := r_b10 R
    unfold Cb10
    simpa (disch := omega) only [sI_wI, gI_uI, nB_u, tk_ne9, tk_inj, if_false, if_true, false_and, and_false, Nat.reduceEqDiff, reduceIte, reduceCtorEq, and_true, true_and] using h9
  · have h9 := r_b11 R
    unfold Cb11
    simpa (disch := omega) only [sL_wI, gL_uI, nB_u, tk_ne9, tk_inj, if_false, if_true, false_and, and_false, Nat.reduceEqDiff, reduceIte, reduceCtorEq, and_true, true_and] using h9
  · have h9 := r_bK R
    unfold CbK
    simpa (disch := omega) only [gI_uI, nB_u, kd_u, tk_ne9, tk_inj, if_false, if_true, false_and, and_false, Nat.reduceEqDiff, reduceIte, reduceCtorEq, and_true, true_and] using h9
  · have h9 := r_bP R
    unfold CbP
    simpa (disch := omega) only [gI_uI, nB_u, pc_u, tk_ne9, tk_inj, if_false, if_true, false_and, and_false, Nat.reduceEqDiff, reduceIte, reduceCtorEq, and_true, true_and] using h9
  · have h9 := r_bO R
    unfold CbO
    simpa (disch := omega) only [gI_uI, nB_u, op_u, tk_ne9, tk_inj, if_false, if_true, false_and, and_false, Nat.reduceEqDiff, reduceIte, reduceCtorEq, and_true, true_and] using h9
  · have h9 := r_bW R
    unfold CbW
    simpa (disch := omega) only [gI_uI, nB_u, nOp_u, kd_u, op_u, tk_ne9, tk_inj, if_false, if_true, false_and, and_false, Nat.reduceEqDiff, reduceIte, reduceCtorEq, and_true, true_and] using h9
  · have h9 := r_bZ R
    unfold CbZ
    simpa (disch := omega) only [gI_uI, nB_u, pc_u, tk_ne9, tk_inj, if_false, if_true, false_and, and_false, Nat.reduceEqDiff, reduceIte, reduceCtorEq, and_true, true_and] using h9
  · have h9 := r_bF R
    unfold CbF
    simpa (disch := omega) only [gI_uI, nB_u, tk_ne9, tk_inj, if_false, if_true, false_and, and_false, Nat.reduceEqDiff, reduceIte, reduceCtorEq, and_true, true_and] using h9
  · have h9 := r_bS R
    unfold CbS
    simpa (disch := omega) only [gI_uI, nB_u, tk_ne9, tk_inj, if_false, if_true, false_and, and_false, Nat.reduceEqDiff, reduceIte, reduceCtorEq, and_true, true_and] using h9
  · have h9 := r_bC R
    unfold CbC
    simpa (disch := omega) only [gI_uI, nB_u, tk_ne9, tk_inj, if_false, if_true, false_and, and_false, Nat.reduceEqDiff, reduceIte, reduceCtorEq, and_true, true_and] using h9
  · have h9 := r_bT R
    unfold CbT
    simpa (disch := omega) only [gI_uI, nB_u, tk_ne9, tk_inj, if_false, if_true, false_and, and_false, Nat.reduceEqDiff, reduceIte, reduceCtorEq, and_true, true_and] using h9
  · have h9 := r_bU R
    unfold CbU
    simpa (disch := omega) only [gI_uI, nB_u, kd_u, tk_ne9, tk_inj, if_false, if_true, false_and, and_false, Nat.reduceEqDiff, reduceIte, reduceCtorEq, and_true, true_and] using h9
  · have h9 := r_bq R
    unfold Cbq
    simpa (disch := omega) only [nB_u, totp_u, tk_ne9, tk_inj, if_false, if_true, false_and, and_false, Nat.reduceEqDiff, reduceIte, reduceCtorEq, and_true, true_and] using h9
  · have h9 := r_ps R
    unfold Cps
    simpa (disch := omega) only [nB_u, nO_u, nInSt_u, nProm_u, tk_ne9, tk_inj, if_false, if_true, false_and, and_false, Nat.reduceEqDiff, reduceIte, reduceCtorEq, and_true, true_and] using h9
  · have h9 := r_bp R
    unfold Cbp
    simpa (disch := omega) only [gL_uI, nB_u, tk_ne9, tk_inj, if_false, if_true, false_and, and_false, Nat.reduceEqDiff, reduceIte, reduceCtorEq, and_true, true_and] using h9
  · have h9 := r_bc R
    unfold Cbc
    simpa (disch := omega) only [nB_u, hN_u, tot_u, tk_ne9, tk_inj, if_false, if_true, false_and, and_false, Nat.reduceEqDiff, reduceIte, reduceCtorEq, and_true, true_and] using h9
  · have h9 := r_fB R
    unfold CfB
    simpa (disch := omega) only [sX_wI, nB_u, tk_ne9, tk_inj, if_false, if_true, false_and, and_false, Nat.reduceEqDiff, reduceIte, reduceCtorEq, and_true, true_and] using h9
  · have h9 := r_fL R
    unfold CfL
    simpa (disch := omega) only [sX_wI, nLn_u, tk_ne9, tk_inj, if_false, if_true, false_and, and_false, Nat.reduceEqDiff, reduceIte, reduceCtorEq, and_true, true_and] using h9
  · have h9 := r_fO R
    unfold CfO
    simpa (disch := omega) only [sX_wI, nOp_u, tk_ne9, tk_inj, if_false, if_true, false_and, and_false, Nat.reduceEqDiff, reduceIte, reduceCtorEq, and_true, true_and] using h9
  · have h9 := r_fM R
    unfold CfM
    simpa (disch := omega) only [sX_wI, nM_u, tk_ne9, tk_inj, if_false, if_true, false_and, and_false, Nat.reduceEqDiff, reduceIte, reduceCtorEq, and_true, true_and] using h9
  · have h9 := r_fP R
    unfold CfP
    simpa (disch := omega) only [sX_wI, nP_u, tk_ne9, tk_inj, if_false, if_true, false_and, and_false, Nat.reduceEqDiff, reduceIte, reduceCtorEq, and_true, true_and] using h9
  · have h9 := r_fR R
    unfold CfR
    simpa (disch := omega) only [sX_wI, nO_u, tk_ne9, tk_inj, if_false, if_true, false_and, and_false, Nat.reduceEqDiff, reduceIte, reduceCtorEq, and_true, true_and] using h9
  · have h9 := r_fG R
    exact h9
  · have h9 := r_m0 R
    unfold Cm0
    simpa (disch := omega) only [sP_wI, nM_u, tk_ne9, tk_inj, if_false, if_true, false_and, and_false, Nat.reduceEqDiff, reduceIte, reduceCtorEq, and_true, true_and] using h9
  · have h9 := r_mn R
    unfold Cmn
    simpa (disch := omega) only [sI_wI, nM_u, tk_ne9, tk_inj, if_false, if_true, false_and, and_false, Nat.reduceEqDiff, reduceIte, reduceCtorEq, and_true, true_and] using h9
  · have h9 := r_m1 R
    unfold Cm1
    simpa (disch := omega) only [sI_wI, gI_uI, nM_u, tk_ne9, tk_inj, if_false, if_true, false_and, and_false, Nat.reduceEqDiff, reduceIte, reduceCtorEq, and_true, true_and] using h9
  · have h9 := r_m2 R
    unfold Cm2
    simpa (disch := omega) only [sI_wI, gI_uI, nM_u, tk_ne9, tk_inj, if_false, if_true, false_and, and_false, Nat.reduceEqDiff, reduceIte, reduceCtorEq, and_true, true_and] using h9
  · have h9 := r_m3 R
    unfold Cm3
    simpa (disch := omega) only [sI_wI, gI_uI, nM_u, tk_ne9, tk_inj, if_false, if_true, false_and, and_false, Nat.reduceEqDiff, reduceIte, reduceCtorEq, and_true, true_and] using h9
  · have h9 := r_m4 R
    unfold Cm4
    simpa (disch := omega) only [sI_wI, gI_uI, nM_u, tk_ne9, tk_inj, if_false, if_true, false_and, and_false, Nat.reduceEqDiff, reduceIte, reduceCtorEq, and_true, true_and] using h9
  · have h9 := r_m5 R
    unfold Cm5
    simpa (disch := omega) only [sI_wI, gI_uI, nM_u, tk_ne9, tk_inj, if_false, if_true, false_and, and_false, Nat.reduceEqDiff, reduceIte, reduceCtorEq, and_true, true_and] using h9
  · have h9 := r_m9 R
    unfold Cm9
    simpa (disch := omega) only [sI_wI, gI_uI, nM_u, tk_ne9, tk_inj, if_false, if_true, false_and, and_false, Nat.reduceEqDiff, reduceIte, reduceCtorEq, and_true, true_and] using h9
  · have h9 := r_m11 R
    unfold Cm11
    simpa (disch := omega) only [sI_wI, gI_uI, nM_u, tk_ne9, tk_inj, if_false, if_true, false_and, and_false, Nat.reduceEqDiff, reduceIte, reduceCtorEq, and_true, true_and] using h9
  · unfold Cm13
    intro x0_ h0
    have h9 := r_m13 R x0_ h0
    by_cases e1 : x0_ = m
    · subst e1
      (try simp (disch := omega) [sI_wI, sI_wP, sI_wL, sI_wN, sP_wI, sP_wP, sP_wL, sP_wN, sL_wI, sL_wP, sL_wL, sL_wN, sX_wI, sX_wP, sX_wL, sX_wN, gI_uI, gI_uL, gL_uI, gL_uL, tk_ne9, tk_inj, nB_u, nM_u, nP_u, nO_u, hN_u, nLn_u, nOp_u, lnP_u, pc_u, kd_u, op_u, pr_u, mInSt_u, mProm_u, nInSt_u, nProm_u, totp_u, tot_u, nB_l, nM_l, nP_l, nO_l, hN_l, nLn_l, nOp_l, lnP_l, pc_l, kd_l, op_l, pr_l, mInSt_l, mProm_l, nInSt_l, nProm_l, totp_l, tot_l, if_false, if_true, false_and, and_false, Nat.reduceEqDiff, reduceIte, reduceCtorEq, and_true, true_and]) <;> first | exact h9 | assumption | grind
    · (try simp (disch := omega) [sI_wI, sI_wP, sI_wL, sI_wN, sP_wI, sP_wP, sP_wL, sP_wN, sL_wI, sL_wP, sL_wL, sL_wN, sX_wI, sX_wP, sX_wL, sX_wN, gI_uI, gI_uL, gL_uI, gL_uL, tk_ne9, tk_inj, nB_u, nM_u, nP_u, nO_u, hN_u, nLn_u, nOp_u, lnP_u, pc_u, kd_u, op_u, pr_u, mInSt_u, mProm_u, nInSt_u, nProm_u, totp_u, tot_u, nB_l, nM_l, nP_l, nO_l, hN_l, nLn_l, nOp_l, lnP_l, pc_l, kd_l, op_l, pr_l, mInSt_l, mProm_l, nInSt_l, nProm_l, totp_l, tot_l, if_false, if_true, false_and, and_false, Nat.reduceEqDiff, reduceIte, reduceCtorEq, and_true, true_and, e1]) <;> first | exact h9 | assumption | grind
  · have h9 := r_m14 R
    unfold Cm14
    simpa (disch := omega) only [sI_wI, gI_uI, nM_u, tk_ne9, tk_inj, if_false, if_true, false_and, and_false, Nat.reduceEqDiff, reduceIte, reduceCtorEq, and_true, true_and] using h9
  · have h9 := r_m6 R
    unfold Cm6
    simpa (disch := omega) only [sP_wI, gI_uI, nM_u, tk_ne9, tk_inj, if_false, if_true, false_and, and_false, Nat.reduceEqDiff, reduceIte, reduceCtorEq, and_true, true_and] using h9
  · have h9 := r_m7 R
    unfold Cm7
    simpa (disch := omega) only [sP_wI, gI_uI, nM_u, tk_ne9, tk_inj, if_false, if_true, false_and, and_false, Nat.reduceEqDiff, reduceIte, reduceCtorEq, and_true, true_and] using h9
  · have h9 := r_m8 R
    unfold Cm8
    simpa (disch := omega) only [sP_wI, gI_uI, nM_u, tk_ne9, tk_inj, if_false, if_true, false_and, and_false, Nat.reduceEqDiff, reduceIte, reduceCtorEq, and_true, true_and] using h9
  · have h9 := r_m12 R
    unfold Cm12
    simpa (disch := omega) only [sP_wI, gI_uI, nM_u, tk_ne9, tk_inj, if_false, if_true, false_and, and_false, Nat.reduceEqDiff, reduceIte, reduceCtorEq, and_true, true_and] using h9
  · have h9 := r_m10 R
    unfold Cm10
    simpa (disch := omega) only [sI_wI, gI_uI, nB_u, nM_u, tk_ne9, tk_inj, if_false, if_true, false_and, and_false, Nat.reduceEqDiff, reduceIte, reduceCtorEq, and_true, true_and] using h9
  · have h9 := r_mma R
    unfold Cmma
    simpa (disch := omega) only [gI_uI, nM_u, tk_ne9, tk_inj, if_false, if_true, false_and, and_false, Nat.reduceEqDiff, reduceIte, reduceCtorEq, and_true, true_and] using h9
  · have h9 := r_mmb R
    unfold Cmmb
    simpa (disch := omega) only [gI_uI, nB_u, nM_u, nP_u, tk_ne9, tk_inj, if_false, if_true, false_and, and_false, Nat.reduceEqDiff, reduceIte, reduceCtorEq, and_true, true_and] using h9
  · have h9 := r_mmc R
    unfold Cmmc
    simpa (disch := omega) only [gI_uI, nM_u, tk_ne9, tk_inj, if_false, if_true, false_and, and_false, Nat.reduceEqDiff, reduceIte, reduceCtorEq, and_true, true_and] using h9
  · have h9 := r_mr29 R
    unfold Cmr29
    simpa (disch := omega) only [gI_uI, nM_u, tk_ne9, tk_inj, if_false, if_true, false_and, and_false, Nat.reduceEqDiff, reduceIte, reduceCtorEq, and_true, true_and] using h9
  · have h9 := r_mr30 R
    unfold Cmr30
    simpa (disch := omega) only [gI_uI, nM_u, tk_ne9, tk_inj, if_false, if_true, false_and, and_false, Nat.reduceEqDiff, reduceIte, reduceCtorEq, and_true, true_and] using h9
  · have h9 := r_mr31 R
    unfold Cmr31
    simpa (disch := omega) only [gI_uI, nM_u, tk_ne9, tk_inj, if_false, if_true, false_and, and_false, Nat.reduceEqDiff, reduceIte, reduceCtorEq, and_true, true_and] using h9
  · have h9 := r_mr32 R
    unfold Cmr32
    simpa (disch := omega) only [gI_uI, nM_u, tk_ne9, tk_inj, if_false, if_true, false_and, and_false, Nat.reduceEqDiff, reduceIte, reduceCtorEq, and_true, true_and] using h9
  · have h9 := r_mr35 R
    unfold Cmr35
    simpa (disch := omega) only [gI_uI, nM_u, tk_ne9, tk_inj, if_false, if_true, false_and, and_false, Nat.reduceEqDiff, reduceIte, reduceCtorEq, and_true, true_and] using h9
  · unfold Cmr39
    intro x h0
    have h9 := r_mr39 R x h0
    by_cases e1 : x = m
    · exact ⟨n, by simp [gI_uI, e1], hn⟩
    · simpa [gI_uI, e1] using h9
  · unfold Cmr40
    intro x h0 q
    by_cases e1 : x = m
    · subst e1
      have q2 : nI n = nI 2 := by rw [gI_uI, if_pos ⟨rfl, rfl⟩] at q; exact q
      rw [nI_eq (by omega) (by omega)] at q2
      simpa [gI_uI] using h2 q2
    · have q2 : gI M 39 x = 2 := by simpa [gI_uI, e1] using q
      simpa [gI_uI] using r_mr40 R x h0 q2
  · have h9 := r_md R
    unfold Cmd
    simpa (disch := omega) only [gI_uI, nM_u, tk_ne9, tk_inj, if_false, if_true, false_and, and_false, Nat.reduceEqDiff, reduceIte, reduceCtorEq, and_true, true_and] using h9
  · have h9 := r_mw R
    unfold Cmw
    simpa (disch := omega) only [gI_uI, nM_u, tk_ne9, tk_inj, if_false, if_true, false_and, and_false, Nat.reduceEqDiff, reduceIte, reduceCtorEq, and_true, true_and] using h9
  · have h9 := r_q0 R
    unfold Cq0
    simpa (disch := omega) only [sP_wI, nP_u, tk_ne9, tk_inj, if_false, if_true, false_and, and_false, Nat.reduceEqDiff, reduceIte, reduceCtorEq, and_true, true_and] using h9
  · have h9 := r_qn R
    unfold Cqn
    simpa (disch := omega) only [sI_wI, nP_u, tk_ne9, tk_inj, if_false, if_true, false_and, and_false, Nat.reduceEqDiff, reduceIte, reduceCtorEq, and_true, true_and] using h9
  · have h9 := r_q1 R
    unfold Cq1
    simpa (disch := omega) only [sI_wI, gI_uI, nP_u, tk_ne9, tk_inj, if_false, if_true, false_and, and_false, Nat.reduceEqDiff, reduceIte, reduceCtorEq, and_true, true_and] using h9
  · have h9 := r_q2 R
    unfold Cq2
    simpa (disch := omega) only [sI_wI, gI_uI, nP_u, tk_ne9, tk_inj, if_false, if_true, false_and, and_false, Nat.reduceEqDiff, reduceIte, reduceCtorEq, and_true, true_and] using h9
  · have h9 := r_q3 R
    unfold Cq3
    simpa (disch := omega) only [sI_wI, gI_uI, nP_u, tk_ne9, tk_inj, if_false, if_true, false_and, and_false, Nat.reduceEqDiff, reduceIte, reduceCtorEq, and_true, true_and] using h9
  · have h9 := r_q4 R
    unfold Cq4
    simpa (disch := omega) only [sP_wI, nP_u, tk_ne9, tk_inj, if_false, if_true, false_and, and_false, Nat.reduceEqDiff, reduceIte, reduceCtorEq, and_true, true_and] using h9
  · have h9 := r_q5 R
    unfold Cq5
    simpa (disch := omega) only [sP_wI, nP_u, tk_ne9, tk_inj, if_false, if_true, false_and, and_false, Nat.reduceEqDiff, reduceIte, reduceCtorEq, and_true, true_and] using h9
  · have h9 := r_q6 R
    unfold Cq6
    simpa (disch := omega) only [sI_wI, gI_uI, nM_u, nP_u, tk_ne9, tk_inj, if_false, if_true, false_and, and_false, Nat.reduceEqDiff, reduceIte, reduceCtorEq, and_true, true_and] using h9
  · have h9 := r_ql R
    unfold Cql
    simpa (disch := omega) only [sI_wI, gI_uI, nP_u, tk_ne9, tk_inj, if_false, if_true, false_and, and_false, Nat.reduceEqDiff, reduceIte, reduceCtorEq, and_true, true_and] using h9
  · have h9 := r_qw R
    unfold Cqw
    simpa (disch := omega) only [sI_wI, gI_uI, nP_u, tk_ne9, tk_inj, if_false, if_true, false_and, and_false, Nat.reduceEqDiff, reduceIte, reduceCtorEq, and_true, true_and] using h9
  · have h9 := r_qm R
    unfold Cqm
    simpa (disch := omega) only [gI_uI, nP_u, tk_ne9, tk_inj, if_false, if_true, false_and, and_false, Nat.reduceEqDiff, reduceIte, reduceCtorEq, and_true, true_and] using h9
  · have h9 := r_qr R
    unfold Cqr
    simpa (disch := omega) only [gI_uI, nP_u, tk_ne9, tk_inj, if_false, if_true, false_and, and_false, Nat.reduceEqDiff, reduceIte, reduceCtorEq, and_true, true_and] using h9
  · have h9 := r_r0 R
    unfold Cr0
    simpa (disch := omega) only [sP_wI, nO_u, tk_ne9, tk_inj, if_false, if_true, false_and, and_false, Nat.reduceEqDiff, reduceIte, reduceCtorEq, and_true, true_and] using h9
  · have h9 := r_r1 R
    unfold Cr1
    simpa (disch := omega) only [sP_wI, gI_uI, nO_u, tk_ne9, tk_inj, if_false, if_true, false_and, and_false, Nat.reduceEqDiff, reduceIte, reduceCtorEq, and_true, true_and] using h9
  · have h9 := r_r2 R
    unfold Cr2
    simpa (disch := omega) only [sI_wI, gI_uI, nO_u, tk_ne9, tk_inj, if_false, if_true, false_and, and_false, Nat.reduceEqDiff, reduceIte, reduceCtorEq, and_true, true_and] using h9
  · have h9 := r_r3 R
    unfold Cr3
    simpa (disch := omega) only [sI_wI, gI_uI, nO_u, tk_ne9, tk_inj, if_false, if_true, false_and, and_false, Nat.reduceEqDiff, reduceIte, reduceCtorEq, and_true, true_and] using h9
  · have h9 := r_r4 R
    unfold Cr4
    simpa (disch := omega) only [sI_wI, gI_uI, nO_u, tk_ne9, tk_inj, if_false, if_true, false_and, and_false, Nat.reduceEqDiff, reduceIte, reduceCtorEq, and_true, true_and] using h9
  · have h9 := r_r5 R
    unfold Cr5
    simpa (disch := omega) only [sP_wI, gI_uI, nO_u, tk_ne9, tk_inj, if_false, if_true, false_and, and_false, Nat.reduceEqDiff, reduceIte, reduceCtorEq, and_true, true_and] using h9
  · have h9 := r_r6 R
    unfold Cr6
    simpa (disch := omega) only [sI_wI, gI_uI, nO_u, tk_ne9, tk_inj, if_false, if_true, false_and, and_false, Nat.reduceEqDiff, reduceIte, reduceCtorEq, and_true, true_and] using h9
  · have h9 := r_rk R
    unfold Crk
    simpa (disch := omega) only [gI_uI, nO_u, tk_ne9, tk_inj, if_false, if_true, false_and, and_false, Nat.reduceEqDiff, reduceIte, reduceCtorEq, and_true, true_and] using h9
  · have h9 := r_rp R
    unfold Crp
    simpa (disch := omega) only [gI_uI, nO_u, tk_ne9, tk_inj, if_false, if_true, false_and, and_false, Nat.reduceEqDiff, reduceIte, reduceCtorEq, and_true, true_and] using h9
  · have h9 := r_rq R
    unfold Crq
    simpa (disch := omega) only [gI_uI, nO_u, pr_u, tk_ne9, tk_inj, if_false, if_true, false_and, and_false, Nat.reduceEqDiff, reduceIte, reduceCtorEq, and_true, true_and] using h9
  · have h9 := r_rr R
    unfold Crr
    simpa (disch := omega) only [gI_uI, nO_u, pr_u, tk_ne9, tk_inj, if_false, if_true, false_and, and_false, Nat.reduceEqDiff, reduceIte, reduceCtorEq, and_true, true_and] using h9
  · have h9 := r_rs R
    unfold Crs
    simpa (disch := omega) only [gI_uI, nB_u, nO_u, tk_ne9, tk_inj, if_false, if_true, false_and, and_false, Nat.reduceEqDiff, reduceIte, reduceCtorEq, and_true, true_and] using h9
set_option maxHeartbeats 8000000 in
theorem rel_rl {e : Nat} {a : Sg} {M : MS} (R : Rel e a M) (m : Nat) (hm : m < nM M) (v : Int32) (h2 : gI M 39 m = 2 → ∃ s : Nat, v = nI s ∧ 1 ≤ s ∧ s ≤ 9) : Rel e (wI a (tk 4 m) 14 v) (uI M 40 m v) := by
  unfold Rel
  refine ⟨?_, ?_, ?_, ?_, ?_, ?_, ?_, ?_, ?_, ?_, ?_, ?_, ?_, ?_, ?_, ?_, ?_, ?_, ?_, ?_, ?_, ?_, ?_, ?_, ?_, ?_, ?_, ?_, ?_, ?_, ?_, ?_, ?_, ?_, ?_, ?_, ?_, ?_, ?_, ?_, ?_, ?_, ?_, ?_, ?_, ?_, ?_, ?_, ?_, ?_, ?_, ?_, ?_, ?_, ?_, ?_, ?_, ?_, ?_, ?_, ?_, ?_, ?_, ?_, ?_, ?_, ?_, ?_, ?_, ?_, ?_, ?_, ?_, ?_, ?_, ?_, ?_, ?_, ?_, ?_, ?_, ?_, ?_, ?_, ?_, ?_, ?_, ?_, ?_, ?_, ?_, ?_, ?_, ?_, ?_, ?_, ?_, ?_, ?_, ?_, ?_, ?_, ?_, ?_, ?_, ?_, ?_, ?_, ?_, ?_, ?_, ?_, ?_, ?_, ?_, ?_, ?_, ?_, ?_, ?_, ?_, ?_, ?_, ?_, ?_, ?_, ?_, ?_, ?_, ?_, ?_, ?_, ?_, ?_, ?_, ?_, ?_, ?_, ?_, ?_, ?_, ?_, ?_, ?_, ?_, ?_, ?_, ?_, ?_⟩
  · have h9 := r_shm R
    exact h9
  · have h9 := r_px0 R
    exact h9
  · have h9 := r_px1 R
    exact h9
  · have h9 := r_px2 R
    exact h9
  · have h9 := r_pf0 R
    exact h9
  · have h9 := r_pf1 R
    exact h9
  · have h9 := r_pf3 R
    exact h9
  · have h9 := r_ps0 R
    exact h9
  · have h9 := r_ps2 R
    exact h9
  · have h9 := r_ps4 R
    exact h9
  · have h9 := r_pk R
    exact h9
  · have h9 := r_pkl R
    exact h9
  · have h9 := r_pko R
    exact h9
  · have h9 := r_ghour R
    unfold Cghour
    simpa (disch := omega) only [sI_wI, gI_uI, tk_ne9, tk_inj, if_false, if_true, false_and, and_false, Nat.reduceEqDiff, reduceIte, reduceCtorEq, and_true, true_and] using h9
  · have h9 := r_gstand R
    unfold Cgstand
    simpa (disch := omega) only [sI_wI, gI_uI, tk_ne9, tk_inj, if_false, if_true, false_and, and_false, Nat.reduceEqDiff, reduceIte, reduceCtorEq, and_true, true_and] using h9
  · have h9 := r_gbought R
    unfold Cgbought
    simpa (disch := omega) only [sI_wI, gI_uI, tk_ne9, tk_inj, if_false, if_true, false_and, and_false, Nat.reduceEqDiff, reduceIte, reduceCtorEq, and_true, true_and] using h9
  · have h9 := r_gmach R
    unfold Cgmach
    simpa (disch := omega) only [sI_wI, gI_uI, tk_ne9, tk_inj, if_false, if_true, false_and, and_false, Nat.reduceEqDiff, reduceIte, reduceCtorEq, and_true, true_and] using h9
  · have h9 := r_gpers R
    unfold Cgpers
    simpa (disch := omega) only [sI_wI, gI_uI, tk_ne9, tk_inj, if_false, if_true, false_and, and_false, Nat.reduceEqDiff, reduceIte, reduceCtorEq, and_true, true_and] using h9
  · have h9 := r_gworked R
    unfold Cgworked
    simpa (disch := omega) only [sI_wI, gI_uI, tk_ne9, tk_inj, if_false, if_true, false_and, and_false, Nat.reduceEqDiff, reduceIte, reduceCtorEq, and_true, true_and] using h9
  · have h9 := r_grep R
    unfold Cgrep
    simpa (disch := omega) only [sI_wI, gI_uI, tk_ne9, tk_inj, if_false, if_true, false_and, and_false, Nat.reduceEqDiff, reduceIte, reduceCtorEq, and_true, true_and] using h9
  · have h9 := r_gbat R
    unfold Cgbat
    simpa (disch := omega) only [sI_wI, gI_uI, tk_ne9, tk_inj, if_false, if_true, false_and, and_false, Nat.reduceEqDiff, reduceIte, reduceCtorEq, and_true, true_and] using h9
  · have h9 := r_gord R
    unfold Cgord
    simpa (disch := omega) only [sI_wI, gI_uI, tk_ne9, tk_inj, if_false, if_true, false_and, and_false, Nat.reduceEqDiff, reduceIte, reduceCtorEq, and_true, true_and] using h9
  · have h9 := r_gq R
    unfold Cgq
    simpa (disch := omega) only [sI_wI, gI_uI, tk_ne9, tk_inj, if_false, if_true, false_and, and_false, Nat.reduceEqDiff, reduceIte, reduceCtorEq, and_true, true_and] using h9
  · have h9 := r_nB R
    unfold CnB
    simpa (disch := omega) only [gI_uI, nB_u, tk_ne9, tk_inj, if_false, if_true, false_and, and_false, Nat.reduceEqDiff, reduceIte, reduceCtorEq, and_true, true_and] using h9
  · have h9 := r_nBx R
    unfold CnBx
    simpa (disch := omega) only [nB_u, tk_ne9, tk_inj, if_false, if_true, false_and, and_false, Nat.reduceEqDiff, reduceIte, reduceCtorEq, and_true, true_and] using h9
  · have h9 := r_nM R
    unfold CnM
    simpa (disch := omega) only [gI_uI, nM_u, tk_ne9, tk_inj, if_false, if_true, false_and, and_false, Nat.reduceEqDiff, reduceIte, reduceCtorEq, and_true, true_and] using h9
  · have h9 := r_nMx R
    unfold CnMx
    simpa (disch := omega) only [nM_u, tk_ne9, tk_inj, if_false, if_true, false_and, and_false, Nat.reduceEqDiff, reduceIte, reduceCtorEq, and_true, true_and] using h9
  · have h9 := r_nP R
    unfold CnP
    simpa (disch := omega) only [gI_uI, nP_u, tk_ne9, tk_inj, if_false, if_true, false_and, and_false, Nat.reduceEqDiff, reduceIte, reduceCtorEq, and_true, true_and] using h9
  · have h9 := r_nPx R
    unfold CnPx
    simpa (disch := omega) only [nP_u, tk_ne9, tk_inj, if_false, if_true, false_and, and_false, Nat.reduceEqDiff, reduceIte, reduceCtorEq, and_true, true_and] using h9
  · have h9 := r_nO R
    unfold CnO
    simpa (disch := omega) only [gI_uI, nO_u, tk_ne9, tk_inj, if_false, if_true, false_and, and_false, Nat.reduceEqDiff, reduceIte, reduceCtorEq, and_true, true_and] using h9
  · have h9 := r_nOx R
    unfold CnOx
    simpa (disch := omega) only [nO_u, tk_ne9, tk_inj, if_false, if_true, false_and, and_false, Nat.reduceEqDiff, reduceIte, reduceCtorEq, and_true, true_and] using h9
  · have h9 := r_hr R
    unfold Chr
    simpa (disch := omega) only [gI_uI, hN_u, tk_ne9, tk_inj, if_false, if_true, false_and, and_false, Nat.reduceEqDiff, reduceIte, reduceCtorEq, and_true, true_and] using h9
  · have h9 := r_hrx R
    unfold Chrx
    simpa (disch := omega) only [hN_u, tk_ne9, tk_inj, if_false, if_true, false_and, and_false, Nat.reduceEqDiff, reduceIte, reduceCtorEq, and_true, true_and] using h9
  · have h9 := r_stb R
    unfold Cstb
    simpa (disch := omega) only [gI_uI, tk_ne9, tk_inj, if_false, if_true, false_and, and_false, Nat.reduceEqDiff, reduceIte, reduceCtorEq, and_true, true_and] using h9
  · have h9 := r_ex R
    exact h9
  · have h9 := r_k0 R
    unfold Ck0
    simpa (disch := omega) only [sI_wI, tk_ne9, tk_inj, if_false, if_true, false_and, and_false, Nat.reduceEqDiff, reduceIte, reduceCtorEq, and_true, true_and] using h9
  · have h9 := r_k1 R
    unfold Ck1
    simpa (disch := omega) only [sI_wI, gI_uI, tk_ne9, tk_inj, if_false, if_true, false_and, and_false, Nat.reduceEqDiff, reduceIte, reduceCtorEq, and_true, true_and] using h9
  · have h9 := r_k2 R
    unfold Ck2
    simpa (disch := omega) only [sI_wI, gI_uI, tk_ne9, tk_inj, if_false, if_true, false_and, and_false, Nat.reduceEqDiff, reduceIte, reduceCtorEq, and_true, true_and] using h9
  · have h9 := r_k3 R
    unfold Ck3
    simpa (disch := omega) only [sI_wI, gI_uI, tk_ne9, tk_inj, if_false, if_true, false_and, and_false, Nat.reduceEqDiff, reduceIte, reduceCtorEq, and_true, true_and] using h9
  · have h9 := r_k5 R
    unfold Ck5
    simpa (disch := omega) only [sI_wI, gI_uI, tk_ne9, tk_inj, if_false, if_true, false_and, and_false, Nat.reduceEqDiff, reduceIte, reduceCtorEq, and_true, true_and] using h9
  · have h9 := r_k7 R
    unfold Ck7
    simpa (disch := omega) only [sI_wI, gI_uI, tk_ne9, tk_inj, if_false, if_true, false_and, and_false, Nat.reduceEqDiff, reduceIte, reduceCtorEq, and_true, true_and] using h9
  · have h9 := r_k8 R
    unfold Ck8
    simpa (disch := omega) only [sI_wI, gI_uI, tk_ne9, tk_inj, if_false, if_true, false_and, and_false, Nat.reduceEqDiff, reduceIte, reduceCtorEq, and_true, true_and] using h9
  · have h9 := r_k9 R
    unfold Ck9
    simpa (disch := omega) only [sI_wI, gI_uI, tk_ne9, tk_inj, if_false, if_true, false_and, and_false, Nat.reduceEqDiff, reduceIte, reduceCtorEq, and_true, true_and] using h9
  · have h9 := r_k10 R
    unfold Ck10
    simpa (disch := omega) only [sI_wI, nB_u, mInSt_u, tk_ne9, tk_inj, if_false, if_true, false_and, and_false, Nat.reduceEqDiff, reduceIte, reduceCtorEq, and_true, true_and] using h9
  · have h9 := r_k11 R
    unfold Ck11
    simpa (disch := omega) only [sI_wI, nO_u, mProm_u, tk_ne9, tk_inj, if_false, if_true, false_and, and_false, Nat.reduceEqDiff, reduceIte, reduceCtorEq, and_true, true_and] using h9
  · have h9 := r_k12 R
    unfold Ck12
    simpa (disch := omega) only [sI_wI, tk_ne9, tk_inj, if_false, if_true, false_and, and_false, Nat.reduceEqDiff, reduceIte, reduceCtorEq, and_true, true_and] using h9
  · have h9 := r_ksa R
    unfold Cksa
    simpa (disch := omega) only [gI_uI, tk_ne9, tk_inj, if_false, if_true, false_and, and_false, Nat.reduceEqDiff, reduceIte, reduceCtorEq, and_true, true_and] using h9
  · have h9 := r_ksb R
    unfold Cksb
    simpa (disch := omega) only [gI_uI, nOp_u, tk_ne9, tk_inj, if_false, if_true, false_and, and_false, Nat.reduceEqDiff, reduceIte, reduceCtorEq, and_true, true_and] using h9
  · have h9 := r_ksc R
    unfold Cksc
    simpa (disch := omega) only [gI_uI, nLn_u, nOp_u, tk_ne9, tk_inj, if_false, if_true, false_and, and_false, Nat.reduceEqDiff, reduceIte, reduceCtorEq, and_true, true_and] using h9
  · have h9 := r_kw R
    unfold Ckw
    simpa (disch := omega) only [gI_uI, tk_ne9, tk_inj, if_false, if_true, false_and, and_false, Nat.reduceEqDiff, reduceIte, reduceCtorEq, and_true, true_and] using h9
  · have h9 := r_kl R
    unfold Ckl
    simpa (disch := omega) only [gI_uI, nLn_u, tk_ne9, tk_inj, if_false, if_true, false_and, and_false, Nat.reduceEqDiff, reduceIte, reduceCtorEq, and_true, true_and] using h9
  · have h9 := r_ko R
    unfold Cko
    simpa (disch := omega) only [gI_uI, nOp_u, tk_ne9, tk_inj, if_false, if_true, false_and, and_false, Nat.reduceEqDiff, reduceIte, reduceCtorEq, and_true, true_and] using h9
  · have h9 := r_kp R
    unfold Ckp
    simpa (disch := omega) only [gI_uI, tk_ne9, tk_inj, if_false, if_true, false_and, and_false, Nat.reduceEqDiff, reduceIte, reduceCtorEq, and_true, true_and] using h9
  · have h9 := r_l0 R
    unfold Cl0
    simpa (disch := omega) only [sP_wI, nLn_u, tk_ne9, tk_inj, if_false, if_true, false_and, and_false, Nat.reduceEqDiff, reduceIte, reduceCtorEq, and_true, true_and] using h9
  · have h9 := r_l1 R
    unfold Cl1
    simpa (disch := omega) only [sP_wI, nLn_u, lnP_u, tk_ne9, tk_inj, if_false, if_true, false_and, and_false, Nat.reduceEqDiff, reduceIte, reduceCtorEq, and_true, true_and] using h9
  · have h9 := r_l2 R
    unfold Cl2
    simpa (disch := omega) only [sI_wI, gI_uI, nLn_u, tk_ne9, tk_inj, if_false, if_true, false_and, and_false, Nat.reduceEqDiff, reduceIte, reduceCtorEq, and_true, true_and] using h9
  · have h9 := r_l3 R
    unfold Cl3
    simpa (disch := omega) only [sP_wI, gI_uI, nLn_u, tk_ne9, tk_inj, if_false, if_true, false_and, and_false, Nat.reduceEqDiff, reduceIte, reduceCtorEq, and_true, true_and] using h9
  · have h9 := r_lm R
    unfold Clm
    simpa (disch := omega) only [gI_uI, nLn_u, lnP_u, tk_ne9, tk_inj, if_false, if_true, false_and, and_false, Nat.reduceEqDiff, reduceIte, reduceCtorEq, and_true, true_and] using h9
  · have h9 := r_o0 R
    unfold Co0
    simpa (disch := omega) only [sP_wI, nOp_u, tk_ne9, tk_inj, if_false, if_true, false_and, and_false, Nat.reduceEqDiff, reduceIte, reduceCtorEq, and_true, true_and] using h9
  · have h9 := r_o1 R
    unfold Co1
    simpa (disch := omega) only [sI_wI, gI_uI, nOp_u, tk_ne9, tk_inj, if_false, if_true, false_and, and_false, Nat.reduceEqDiff, reduceIte, reduceCtorEq, and_true, true_and] using h9
  · have h9 := r_o2 R
    unfold Co2
    simpa (disch := omega) only [sI_wI, gI_uI, nOp_u, tk_ne9, tk_inj, if_false, if_true, false_and, and_false, Nat.reduceEqDiff, reduceIte, reduceCtorEq, and_true, true_and] using h9
  · have h9 := r_o3 R
    unfold Co3
    simpa (disch := omega) only [sI_wI, gI_uI, nOp_u, tk_ne9, tk_inj, if_false, if_true, false_and, and_false, Nat.reduceEqDiff, reduceIte, reduceCtorEq, and_true, true_and] using h9
  · have h9 := r_om R
    unfold Com
    simpa (disch := omega) only [gI_uI, nOp_u, tk_ne9, tk_inj, if_false, if_true, false_and, and_false, Nat.reduceEqDiff, reduceIte, reduceCtorEq, and_true, true_and] using h9
  · have h9 := r_b0 R
    unfold Cb0
    simpa (disch := omega) only [sP_wI, nB_u, tk_ne9, tk_inj, if_false, if_true, false_and, and_false, Nat.reduceEqDiff, reduceIte, reduceCtorEq, and_true, true_and] using h9
  · have h9 := r_bn R
    unfold Cbn
    simpa (disch := omega) only [sI_wI, nB_u, tk_ne9, tk_inj, if_false, if_true, false_and, and_false, Nat.reduceEqDiff, reduceIte, reduceCtorEq, and_true, true_and] using h9
  · have h9 := r_bk R
    unfold Cbk
    simpa (disch := omega) only [sP_wI, nB_u, kd_u, tk_ne9, tk_inj, if_false, if_true, false_and, and_false, Nat.reduceEqDiff, reduceIte, reduceCtorEq, and_true, true_and] using h9
  · have h9 := r_b2 R
    unfold Cb2
    simpa (disch := omega) only [sI_wI, gI_uI, nB_u, tk_ne9, tk_inj, if_false, if_true, false_and, and_false, Nat.reduceEqDiff, reduceIte, reduceCtorEq, and_true, true_and] using h9
  · have h9 := r_b3 R
    unfold Cb3
    simpa (disch := omega) only [sI_wI, gI_uI, nB_u, tk_ne9, tk_inj, if_false, if_true, false_and, and_false, Nat.reduceEqDiff, reduceIte, reduceCtorEq, and_true, true_and] using h9
  · have h9 := r_b4 R
    unfold Cb4
    simpa (disch := omega) only [sI_wI, gI_uI, nB_u, tk_ne9, tk_inj, if_false, if_true, false_and, and_false, Nat.reduceEqDiff, reduceIte, reduceCtorEq, and_true, true_and] using h9
  · have h9 := r_b5 R
    unfold Cb5
    simpa (disch := omega) only [sI_wI, gI_uI, nB_u, tk_ne9, tk_inj, if_false, if_true, false_and, and_false, Nat.reduceEqDiff, reduceIte, reduceCtorEq, and_true, true_and] using h9
  · have h9 := r_b6 R
    unfold Cb6
    simpa (disch := omega) only [sI_wI, gI_uI, nB_u, tk_ne9, tk_inj, if_false, if_true, false_and, and_false, Nat.reduceEqDiff, reduceIte, reduceCtorEq, and_true, true_and] using h9
  · have h9 := r_b7 R
    unfold Cb7
    simpa (disch := omega) only [sI_wI, gI_uI, nB_u, tk_ne9, tk_inj, if_false, if_true, false_and, and_false, Nat.reduceEqDiff, reduceIte, reduceCtorEq, and_true, true_and] using h9
  · have h9 := r_b8 R
    unfold Cb8
    simpa (disch := omega) only [sI_wI, gI_uI, nB_u, tk_ne9, tk_inj, if_false, if_true, false_and, and_false, Nat.reduceEqDiff, reduceIte, reduceCtorEq, and_true, true_and] using h9
  · have h9 := r_b9 R
    unfold Cb9
    simpa (disch := omega) only [sI_wI, gI_uI, nB_u, tk_ne9, tk_inj, if_false, if_true, false_and, and_false, Nat.reduceEqDiff, reduceIte, reduceCtorEq, and_true, true_and] using h9
  · have h9 := r_b10 R
    unfold Cb10
    simpa (disch := omega) only [sI_wI, gI_uI, nB_u, tk_ne9, tk_inj, if_false, if_true, false_and, and_false, Nat.reduceEqDiff, reduceIte, reduceCtorEq, and_true, true_and] using h9
  · have h9 := r_b11 R
    unfold Cb11
    simpa (disch := omega) only [sL_wI, gL_uI, nB_u, tk_ne9, tk_inj, if_false, if_true, false_and, and_false, Nat.reduceEqDiff, reduceIte, reduceCtorEq, and_true, true_and] using h9
  · have h9 := r_bK R
    unfold CbK
    simpa (disch := omega) only [gI_uI, nB_u, kd_u, tk_ne9, tk_inj, if_false, if_true, false_and, and_false, Nat.reduceEqDiff, reduceIte, reduceCtorEq, and_true, true_and] using h9
  · have h9 := r_bP R
    unfold CbP
    simpa (disch := omega) only [gI_uI, nB_u, pc_u, tk_ne9, tk_inj, if_false, if_true, false_and, and_false, Nat.reduceEqDiff, reduceIte, reduceCtorEq, and_true, true_and] using h9
  · have h9 := r_bO R
    unfold CbO
    simpa (disch := omega) only [gI_uI, nB_u, op_u, tk_ne9, tk_inj, if_false, if_true, false_and, and_false, Nat.reduceEqDiff, reduceIte, reduceCtorEq, and_true, true_and] using h9
  · have h9 := r_bW R
    unfold CbW
    simpa (disch := omega) only [gI_uI, nB_u, nOp_u, kd_u, op_u, tk_ne9, tk_inj, if_false, if_true, false_and, and_false, Nat.reduceEqDiff, reduceIte, reduceCtorEq, and_true, true_and] using h9
  · have h9 := r_bZ R
    unfold CbZ
    simpa (disch := omega) only [gI_uI, nB_u, pc_u, tk_ne9, tk_inj, if_false, if_true, false_and, and_false, Nat.reduceEqDiff, reduceIte, reduceCtorEq, and_true, true_and] using h9
  · have h9 := r_bF R
    unfold CbF
    simpa (disch := omega) only [gI_uI, nB_u, tk_ne9, tk_inj, if_false, if_true, false_and, and_false, Nat.reduceEqDiff, reduceIte, reduceCtorEq, and_true, true_and] using h9
  · have h9 := r_bS R
    unfold CbS
    simpa (disch := omega) only [gI_uI, nB_u, tk_ne9, tk_inj, if_false, if_true, false_and, and_false, Nat.reduceEqDiff, reduceIte, reduceCtorEq, and_true, true_and] using h9
  · have h9 := r_bC R
    unfold CbC
    simpa (disch := omega) only [gI_uI, nB_u, tk_ne9, tk_inj, if_false, if_true, false_and, and_false, Nat.reduceEqDiff, reduceIte, reduceCtorEq, and_true, true_and] using h9
  · have h9 := r_bT R
    unfold CbT
    simpa (disch := omega) only [gI_uI, nB_u, tk_ne9, tk_inj, if_false, if_true, false_and, and_false, Nat.reduceEqDiff, reduceIte, reduceCtorEq, and_true, true_and] using h9
  · have h9 := r_bU R
    unfold CbU
    simpa (disch := omega) only [gI_uI, nB_u, kd_u, tk_ne9, tk_inj, if_false, if_true, false_and, and_false, Nat.reduceEqDiff, reduceIte, reduceCtorEq, and_true, true_and] using h9
  · have h9 := r_bq R
    unfold Cbq
    simpa (disch := omega) only [nB_u, totp_u, tk_ne9, tk_inj, if_false, if_true, false_and, and_false, Nat.reduceEqDiff, reduceIte, reduceCtorEq, and_true, true_and] using h9
  · have h9 := r_ps R
    unfold Cps
    simpa (disch := omega) only [nB_u, nO_u, nInSt_u, nProm_u, tk_ne9, tk_inj, if_false, if_true, false_and, and_false, Nat.reduceEqDiff, reduceIte, reduceCtorEq, and_true, true_and] using h9
  · have h9 := r_bp R
    unfold Cbp
    simpa (disch := omega) only [gL_uI, nB_u, tk_ne9, tk_inj, if_false, if_true, false_and, and_false, Nat.reduceEqDiff, reduceIte, reduceCtorEq, and_true, true_and] using h9
  · have h9 := r_bc R
    unfold Cbc
    simpa (disch := omega) only [nB_u, hN_u, tot_u, tk_ne9, tk_inj, if_false, if_true, false_and, and_false, Nat.reduceEqDiff, reduceIte, reduceCtorEq, and_true, true_and] using h9
  · have h9 := r_fB R
    unfold CfB
    simpa (disch := omega) only [sX_wI, nB_u, tk_ne9, tk_inj, if_false, if_true, false_and, and_false, Nat.reduceEqDiff, reduceIte, reduceCtorEq, and_true, true_and] using h9
  · have h9 := r_fL R
    unfold CfL
    simpa (disch := omega) only [sX_wI, nLn_u, tk_ne9, tk_inj, if_false, if_true, false_and, and_false, Nat.reduceEqDiff, reduceIte, reduceCtorEq, and_true, true_and] using h9
  · have h9 := r_fO R
    unfold CfO
    simpa (disch := omega) only [sX_wI, nOp_u, tk_ne9, tk_inj, if_false, if_true, false_and, and_false, Nat.reduceEqDiff, reduceIte, reduceCtorEq, and_true, true_and] using h9
  · have h9 := r_fM R
    unfold CfM
    simpa (disch := omega) only [sX_wI, nM_u, tk_ne9, tk_inj, if_false, if_true, false_and, and_false, Nat.reduceEqDiff, reduceIte, reduceCtorEq, and_true, true_and] using h9
  · have h9 := r_fP R
    unfold CfP
    simpa (disch := omega) only [sX_wI, nP_u, tk_ne9, tk_inj, if_false, if_true, false_and, and_false, Nat.reduceEqDiff, reduceIte, reduceCtorEq, and_true, true_and] using h9
  · have h9 := r_fR R
    unfold CfR
    simpa (disch := omega) only [sX_wI, nO_u, tk_ne9, tk_inj, if_false, if_true, false_and, and_false, Nat.reduceEqDiff, reduceIte, reduceCtorEq, and_true, true_and] using h9
  · have h9 := r_fG R
    exact h9
  · have h9 := r_m0 R
    unfold Cm0
    simpa (disch := omega) only [sP_wI, nM_u, tk_ne9, tk_inj, if_false, if_true, false_and, and_false, Nat.reduceEqDiff, reduceIte, reduceCtorEq, and_true, true_and] using h9
  · have h9 := r_mn R
    unfold Cmn
    simpa (disch := omega) only [sI_wI, nM_u, tk_ne9, tk_inj, if_false, if_true, false_and, and_false, Nat.reduceEqDiff, reduceIte, reduceCtorEq, and_true, true_and] using h9
  · have h9 := r_m1 R
    unfold Cm1
    simpa (disch := omega) only [sI_wI, gI_uI, nM_u, tk_ne9, tk_inj, if_false, if_true, false_and, and_false, Nat.reduceEqDiff, reduceIte, reduceCtorEq, and_true, true_and] using h9
  · have h9 := r_m2 R
    unfold Cm2
    simpa (disch := omega) only [sI_wI, gI_uI, nM_u, tk_ne9, tk_inj, if_false, if_true, false_and, and_false, Nat.reduceEqDiff, reduceIte, reduceCtorEq, and_true, true_and] using h9
  · have h9 := r_m3 R
    unfold Cm3
    simpa (disch := omega) only [sI_wI, gI_uI, nM_u, tk_ne9, tk_inj, if_false, if_true, false_and, and_false, Nat.reduceEqDiff, reduceIte, reduceCtorEq, and_true, true_and] using h9
  · have h9 := r_m4 R
    unfold Cm4
    simpa (disch := omega) only [sI_wI, gI_uI, nM_u, tk_ne9, tk_inj, if_false, if_true, false_and, and_false, Nat.reduceEqDiff, reduceIte, reduceCtorEq, and_true, true_and] using h9
  · have h9 := r_m5 R
    unfold Cm5
    simpa (disch := omega) only [sI_wI, gI_uI, nM_u, tk_ne9, tk_inj, if_false, if_true, false_and, and_false, Nat.reduceEqDiff, reduceIte, reduceCtorEq, and_true, true_and] using h9
  · have h9 := r_m9 R
    unfold Cm9
    simpa (disch := omega) only [sI_wI, gI_uI, nM_u, tk_ne9, tk_inj, if_false, if_true, false_and, and_false, Nat.reduceEqDiff, reduceIte, reduceCtorEq, and_true, true_and] using h9
  · have h9 := r_m11 R
    unfold Cm11
    simpa (disch := omega) only [sI_wI, gI_uI, nM_u, tk_ne9, tk_inj, if_false, if_true, false_and, and_false, Nat.reduceEqDiff, reduceIte, reduceCtorEq, and_true, true_and] using h9
  · have h9 := r_m13 R
    unfold Cm13
    simpa (disch := omega) only [sI_wI, gI_uI, nM_u, tk_ne9, tk_inj, if_false, if_true, false_and, and_false, Nat.reduceEqDiff, reduceIte, reduceCtorEq, and_true, true_and] using h9
  · unfold Cm14
    intro x0_ h0
    have h9 := r_m14 R x0_ h0
    by_cases e1 : x0_ = m
    · subst e1
      (try simp (disch := omega) [sI_wI, sI_wP, sI_wL, sI_wN, sP_wI, sP_wP, sP_wL, sP_wN, sL_wI, sL_wP, sL_wL, sL_wN, sX_wI, sX_wP, sX_wL, sX_wN, gI_uI, gI_uL, gL_uI, gL_uL, tk_ne9, tk_inj, nB_u, nM_u, nP_u, nO_u, hN_u, nLn_u, nOp_u, lnP_u, pc_u, kd_u, op_u, pr_u, mInSt_u, mProm_u, nInSt_u, nProm_u, totp_u, tot_u, nB_l, nM_l, nP_l, nO_l, hN_l, nLn_l, nOp_l, lnP_l, pc_l, kd_l, op_l, pr_l, mInSt_l, mProm_l, nInSt_l, nProm_l, totp_l, tot_l, if_false, if_true, false_and, and_false, Nat.reduceEqDiff, reduceIte, reduceCtorEq, and_true, true_and]) <;> first | exact h9 | assumption | grind
    · (try simp (disch := omega) [sI_wI, sI_wP, sI_wL, sI_wN, sP_wI, sP_wP, sP_wL, sP_wN, sL_wI, sL_wP, sL_wL, sL_wN, sX_wI, sX_wP, sX_wL, sX_wN, gI_uI, gI_uL, gL_uI, gL_uL, tk_ne9, tk_inj, nB_u, nM_u, nP_u, nO_u, hN_u, nLn_u, nOp_u, lnP_u, pc_u, kd_u, op_u, pr_u, mInSt_u, mProm_u, nInSt_u, nProm_u, totp_u, tot_u, nB_l, nM_l, nP_l, nO_l, hN_l, nLn_l, nOp_l, lnP_l, pc_l, kd_l, op_l, pr_l, mInSt_l, mProm_l, nInSt_l, nProm_l, totp_l, tot_l, if_false, if_true, false_and, and_false, Nat.reduceEqDiff, reduceIte, reduceCtorEq, and_true, true_and, e1]) <;> first | exact h9 | assumption | grind
  · have h9 := r_m6 R
    unfold Cm6
    simpa (disch := omega) only [sP_wI, gI_uI, nM_u, tk_ne9, tk_inj, if_false, if_true, false_and, and_false, Nat.reduceEqDiff, reduceIte, reduceCtorEq, and_true, true_and] using h9
  · have h9 := r_m7 R
    unfold Cm7
    simpa (disch := omega) only [sP_wI, gI_uI, nM_u, tk_ne9, tk_inj, if_false, if_true, false_and, and_false, Nat.reduceEqDiff, reduceIte, reduceCtorEq, and_true, true_and] using h9
  · have h9 := r_m8 R
    unfold Cm8
    simpa (disch := omega) only [sP_wI, gI_uI, nM_u, tk_ne9, tk_inj, if_false, if_true, false_and, and_false, Nat.reduceEqDiff, reduceIte, reduceCtorEq, and_true, true_and] using h9
  · have h9 := r_m12 R
    unfold Cm12
    simpa (disch := omega) only [sP_wI, gI_uI, nM_u, tk_ne9, tk_inj, if_false, if_true, false_and, and_false, Nat.reduceEqDiff, reduceIte, reduceCtorEq, and_true, true_and] using h9
  · have h9 := r_m10 R
    unfold Cm10
    simpa (disch := omega) only [sI_wI, gI_uI, nB_u, nM_u, tk_ne9, tk_inj, if_false, if_true, false_and, and_false, Nat.reduceEqDiff, reduceIte, reduceCtorEq, and_true, true_and] using h9
  · have h9 := r_mma R
    unfold Cmma
    simpa (disch := omega) only [gI_uI, nM_u, tk_ne9, tk_inj, if_false, if_true, false_and, and_false, Nat.reduceEqDiff, reduceIte, reduceCtorEq, and_true, true_and] using h9
  · have h9 := r_mmb R
    unfold Cmmb
    simpa (disch := omega) only [gI_uI, nB_u, nM_u, nP_u, tk_ne9, tk_inj, if_false, if_true, false_and, and_false, Nat.reduceEqDiff, reduceIte, reduceCtorEq, and_true, true_and] using h9
  · have h9 := r_mmc R
    unfold Cmmc
    simpa (disch := omega) only [gI_uI, nM_u, tk_ne9, tk_inj, if_false, if_true, false_and, and_false, Nat.reduceEqDiff, reduceIte, reduceCtorEq, and_true, true_and] using h9
  · have h9 := r_mr29 R
    unfold Cmr29
    simpa (disch := omega) only [gI_uI, nM_u, tk_ne9, tk_inj, if_false, if_true, false_and, and_false, Nat.reduceEqDiff, reduceIte, reduceCtorEq, and_true, true_and] using h9
  · have h9 := r_mr30 R
    unfold Cmr30
    simpa (disch := omega) only [gI_uI, nM_u, tk_ne9, tk_inj, if_false, if_true, false_and, and_false, Nat.reduceEqDiff, reduceIte, reduceCtorEq, and_true, true_and] using h9
  · have h9 := r_mr31 R
    unfold Cmr31
    simpa (disch := omega) only [gI_uI, nM_u, tk_ne9, tk_inj, if_false, if_true, false_and, and_false, Nat.reduceEqDiff, reduceIte, reduceCtorEq, and_true, true_and] using h9
  · have h9 := r_mr32 R
    unfold Cmr32
    simpa (disch := omega) only [gI_uI, nM_u, tk_ne9, tk_inj, if_false, if_true, false_and, and_false, Nat.reduceEqDiff, reduceIte, reduceCtorEq, and_true, true_and] using h9
  · have h9 := r_mr35 R
    unfold Cmr35
    simpa (disch := omega) only [gI_uI, nM_u, tk_ne9, tk_inj, if_false, if_true, false_and, and_false, Nat.reduceEqDiff, reduceIte, reduceCtorEq, and_true, true_and] using h9
  · have h9 := r_mr39 R
    unfold Cmr39
    simpa (disch := omega) only [gI_uI, nM_u, tk_ne9, tk_inj, if_false, if_true, false_and, and_false, Nat.reduceEqDiff, reduceIte, reduceCtorEq, and_true, true_and] using h9
  · unfold Cmr40
    intro x h0 q
    by_cases e1 : x = m
    · subst e1
      have q2 : gI M 39 x = 2 := by simpa [gI_uI] using q
      simpa [gI_uI] using h2 q2
    · have q2 : gI M 39 x = 2 := by simpa [gI_uI] using q
      simpa [gI_uI, e1] using r_mr40 R x h0 q2
  · have h9 := r_md R
    unfold Cmd
    simpa (disch := omega) only [gI_uI, nM_u, tk_ne9, tk_inj, if_false, if_true, false_and, and_false, Nat.reduceEqDiff, reduceIte, reduceCtorEq, and_true, true_and] using h9
  · have h9 := r_mw R
    unfold Cmw
    simpa (disch := omega) only [gI_uI, nM_u, tk_ne9, tk_inj, if_false, if_true, false_and, and_false, Nat.reduceEqDiff, reduceIte, reduceCtorEq, and_true, true_and] using h9
  · have h9 := r_q0 R
    unfold Cq0
    simpa (disch := omega) only [sP_wI, nP_u, tk_ne9, tk_inj, if_false, if_true, false_and, and_false, Nat.reduceEqDiff, reduceIte, reduceCtorEq, and_true, true_and] using h9
  · have h9 := r_qn R
    unfold Cqn
    simpa (disch := omega) only [sI_wI, nP_u, tk_ne9, tk_inj, if_false, if_true, false_and, and_false, Nat.reduceEqDiff, reduceIte, reduceCtorEq, and_true, true_and] using h9
  · have h9 := r_q1 R
    unfold Cq1
    simpa (disch := omega) only [sI_wI, gI_uI, nP_u, tk_ne9, tk_inj, if_false, if_true, false_and, and_false, Nat.reduceEqDiff, reduceIte, reduceCtorEq, and_true, true_and] using h9
  · have h9 := r_q2 R
    unfold Cq2
    simpa (disch := omega) only [sI_wI, gI_uI, nP_u, tk_ne9, tk_inj, if_false, if_true, false_and, and_false, Nat.reduceEqDiff, reduceIte, reduceCtorEq, and_true, true_and] using h9
  · have h9 := r_q3 R
    unfold Cq3
    simpa (disch := omega) only [sI_wI, gI_uI, nP_u, tk_ne9, tk_inj, if_false, if_true, false_and, and_false, Nat.reduceEqDiff, reduceIte, reduceCtorEq, and_true, true_and] using h9
  · have h9 := r_q4 R
    unfold Cq4
    simpa (disch := omega) only [sP_wI, nP_u, tk_ne9, tk_inj, if_false, if_true, false_and, and_false, Nat.reduceEqDiff, reduceIte, reduceCtorEq, and_true, true_and] using h9
  · have h9 := r_q5 R
    unfold Cq5
    simpa (disch := omega) only [sP_wI, nP_u, tk_ne9, tk_inj, if_false, if_true, false_and, and_false, Nat.reduceEqDiff, reduceIte, reduceCtorEq, and_true, true_and] using h9
  · have h9 := r_q6 R
    unfold Cq6
    simpa (disch := omega) only [sI_wI, gI_uI, nM_u, nP_u, tk_ne9, tk_inj, if_false, if_true, false_and, and_false, Nat.reduceEqDiff, reduceIte, reduceCtorEq, and_true, true_and] using h9
  · have h9 := r_ql R
    unfold Cql
    simpa (disch := omega) only [sI_wI, gI_uI, nP_u, tk_ne9, tk_inj, if_false, if_true, false_and, and_false, Nat.reduceEqDiff, reduceIte, reduceCtorEq, and_true, true_and] using h9
  · have h9 := r_qw R
    unfold Cqw
    simpa (disch := omega) only [sI_wI, gI_uI, nP_u, tk_ne9, tk_inj, if_false, if_true, false_and, and_false, Nat.reduceEqDiff, reduceIte, reduceCtorEq, and_true, true_and] using h9
  · have h9 := r_qm R
    unfold Cqm
    simpa (disch := omega) only [gI_uI, nP_u, tk_ne9, tk_inj, if_false, if_true, false_and, and_false, Nat.reduceEqDiff, reduceIte, reduceCtorEq, and_true, true_and] using h9
  · have h9 := r_qr R
    unfold Cqr
    simpa (disch := omega) only [gI_uI, nP_u, tk_ne9, tk_inj, if_false, if_true, false_and, and_false, Nat.reduceEqDiff, reduceIte, reduceCtorEq, and_true, true_and] using h9
  · have h9 := r_r0 R
    unfold Cr0
    simpa (disch := omega) only [sP_wI, nO_u, tk_ne9, tk_inj, if_false, if_true, false_and, and_false, Nat.reduceEqDiff, reduceIte, reduceCtorEq, and_true, true_and] using h9
  · have h9 := r_r1 R
    unfold Cr1
    simpa (disch := omega) only [sP_wI, gI_uI, nO_u, tk_ne9, tk_inj, if_false, if_true, false_and, and_false, Nat.reduceEqDiff, reduceIte, reduceCtorEq, and_true, true_and] using h9
  · have h9 := r_r2 R
    unfold Cr2
    simpa (disch := omega) only [sI_wI, gI_uI, nO_u, tk_ne9, tk_inj, if_false, if_true, false_and, and_false, Nat.reduceEqDiff, reduceIte, reduceCtorEq, and_true, true_and] using h9
  · have h9 := r_r3 R
    unfold Cr3
    simpa (disch := omega) only [sI_wI, gI_uI, nO_u, tk_ne9, tk_inj, if_false, if_true, false_and, and_false, Nat.reduceEqDiff, reduceIte, reduceCtorEq, and_true, true_and] using h9
  · have h9 := r_r4 R
    unfold Cr4
    simpa (disch := omega) only [sI_wI, gI_uI, nO_u, tk_ne9, tk_inj, if_false, if_true, false_and, and_false, Nat.reduceEqDiff, reduceIte, reduceCtorEq, and_true, true_and] using h9
  · have h9 := r_r5 R
    unfold Cr5
    simpa (disch := omega) only [sP_wI, gI_uI, nO_u, tk_ne9, tk_inj, if_false, if_true, false_and, and_false, Nat.reduceEqDiff, reduceIte, reduceCtorEq, and_true, true_and] using h9
  · have h9 := r_r6 R
    unfold Cr6
    simpa (disch := omega) only [sI_wI, gI_uI, nO_u, tk_ne9, tk_inj, if_false, if_true, false_and, and_false, Nat.reduceEqDiff, reduceIte, reduceCtorEq, and_true, true_and] using h9
  · have h9 := r_rk R
    unfold Crk
    simpa (disch := omega) only [gI_uI, nO_u, tk_ne9, tk_inj, if_false, if_true, false_and, and_false, Nat.reduceEqDiff, reduceIte, reduceCtorEq, and_true, true_and] using h9
  · have h9 := r_rp R
    unfold Crp
    simpa (disch := omega) only [gI_uI, nO_u, tk_ne9, tk_inj, if_false, if_true, false_and, and_false, Nat.reduceEqDiff, reduceIte, reduceCtorEq, and_true, true_and] using h9
  · have h9 := r_rq R
    unfold Crq
    simpa (disch := omega) only [gI_uI, nO_u, pr_u, tk_ne9, tk_inj, if_false, if_true, false_and, and_false, Nat.reduceEqDiff, reduceIte, reduceCtorEq, and_true, true_and] using h9
  · have h9 := r_rr R
    unfold Crr
    simpa (disch := omega) only [gI_uI, nO_u, pr_u, tk_ne9, tk_inj, if_false, if_true, false_and, and_false, Nat.reduceEqDiff, reduceIte, reduceCtorEq, and_true, true_and] using h9
  · have h9 := r_rs R
    unfold Crs
    simpa (disch := omega) only [gI_uI, nB_u, nO_u, tk_ne9, tk_inj, if_false, if_true, false_and, and_false, Nat.reduceEqDiff, reduceIte, reduceCtorEq, and_true, true_and] using h9
set_option maxHeartbeats 8000000 in
theorem rel_last {e : Nat} {a : Sg} {M : MS} (R : Rel e a M) (m : Nat) (hm : m < nM M) (k : Nat) (hk : k < 12) : Rel e (wP a (tk 4 m) 12 (some (tk 2 k))) (uI M 38 m (nI k)) := by
  unfold Rel
  refine ⟨?_, ?_, ?_, ?_, ?_, ?_, ?_, ?_, ?_, ?_, ?_, ?_, ?_, ?_, ?_, ?_, ?_, ?_, ?_, ?_, ?_, ?_, ?_, ?_, ?_, ?_, ?_, ?_, ?_, ?_, ?_, ?_, ?_, ?_, ?_, ?_, ?_, ?_, ?_, ?_, ?_, ?_, ?_, ?_, ?_, ?_, ?_, ?_, ?_, ?_, ?_, ?_, ?_, ?_, ?_, ?_, ?_, ?_, ?_, ?_, ?_, ?_, ?_, ?_, ?_, ?_, ?_, ?_, ?_, ?_, ?_, ?_, ?_, ?_, ?_, ?_, ?_, ?_, ?_, ?_, ?_, ?_, ?_, ?_, ?_, ?_, ?_, ?_, ?_, ?_, ?_, ?_, ?_, ?_, ?_, ?_, ?_, ?_, ?_, ?_, ?_, ?_, ?_, ?_, ?_, ?_, ?_, ?_, ?_, ?_, ?_, ?_, ?_, ?_, ?_, ?_, ?_, ?_, ?_, ?_, ?_, ?_, ?_, ?_, ?_, ?_, ?_, ?_, ?_, ?_, ?_, ?_, ?_, ?_, ?_, ?_, ?_, ?_, ?_, ?_, ?_, ?_, ?_, ?_, ?_, ?_, ?_, ?_, ?_⟩
  · have h9 := r_shm R
    unfold Cshm
    simpa (disch := omega) only [sP_wP, tk_ne9, tk_inj, if_false, if_true, false_and, and_false, Nat.reduceEqDiff, reduceIte, reduceCtorEq, and_true, true_and] using h9
  · have h9 := r_px0 R
    unfold Cpx0
    simpa (disch := omega) only [sP_wP, tk_ne9, tk_inj, if_false, if_true, false_and, and_false, Nat.reduceEqDiff, reduceIte, reduceCtorEq, and_true, true_and] using h9
  · have h9 := r_px1 R
    unfold Cpx1
    simpa (disch := omega) only [sP_wP, tk_ne9, tk_inj, if_false, if_true, false_and, and_false, Nat.reduceEqDiff, reduceIte, reduceCtorEq, and_true, true_and] using h9
  · have h9 := r_px2 R
    unfold Cpx2
    simpa (disch := omega) only [sP_wP, tk_ne9, tk_inj, if_false, if_true, false_and, and_false, Nat.reduceEqDiff, reduceIte, reduceCtorEq, and_true, true_and] using h9
  · have h9 := r_pf0 R
    unfold Cpf0
    simpa (disch := omega) only [sP_wP, tk_ne9, tk_inj, if_false, if_true, false_and, and_false, Nat.reduceEqDiff, reduceIte, reduceCtorEq, and_true, true_and] using h9
  · have h9 := r_pf1 R
    unfold Cpf1
    simpa (disch := omega) only [sP_wP, tk_ne9, tk_inj, if_false, if_true, false_and, and_false, Nat.reduceEqDiff, reduceIte, reduceCtorEq, and_true, true_and] using h9
  · have h9 := r_pf3 R
    unfold Cpf3
    simpa (disch := omega) only [sP_wP, tk_ne9, tk_inj, if_false, if_true, false_and, and_false, Nat.reduceEqDiff, reduceIte, reduceCtorEq, and_true, true_and] using h9
  · have h9 := r_ps0 R
    unfold Cps0
    simpa (disch := omega) only [sP_wP, tk_ne9, tk_inj, if_false, if_true, false_and, and_false, Nat.reduceEqDiff, reduceIte, reduceCtorEq, and_true, true_and] using h9
  · have h9 := r_ps2 R
    unfold Cps2
    simpa (disch := omega) only [sP_wP, tk_ne9, tk_inj, if_false, if_true, false_and, and_false, Nat.reduceEqDiff, reduceIte, reduceCtorEq, and_true, true_and] using h9
  · have h9 := r_ps4 R
    unfold Cps4
    simpa (disch := omega) only [sP_wP, tk_ne9, tk_inj, if_false, if_true, false_and, and_false, Nat.reduceEqDiff, reduceIte, reduceCtorEq, and_true, true_and] using h9
  · have h9 := r_pk R
    unfold Cpk
    simpa (disch := omega) only [sP_wP, tk_ne9, tk_inj, if_false, if_true, false_and, and_false, Nat.reduceEqDiff, reduceIte, reduceCtorEq, and_true, true_and] using h9
  · have h9 := r_pkl R
    unfold Cpkl
    simpa (disch := omega) only [sP_wP, tk_ne9, tk_inj, if_false, if_true, false_and, and_false, Nat.reduceEqDiff, reduceIte, reduceCtorEq, and_true, true_and] using h9
  · have h9 := r_pko R
    unfold Cpko
    simpa (disch := omega) only [sP_wP, tk_ne9, tk_inj, if_false, if_true, false_and, and_false, Nat.reduceEqDiff, reduceIte, reduceCtorEq, and_true, true_and] using h9
  · have h9 := r_ghour R
    unfold Cghour
    simpa (disch := omega) only [sI_wP, gI_uI, tk_ne9, tk_inj, if_false, if_true, false_and, and_false, Nat.reduceEqDiff, reduceIte, reduceCtorEq, and_true, true_and] using h9
  · have h9 := r_gstand R
    unfold Cgstand
    simpa (disch := omega) only [sI_wP, gI_uI, tk_ne9, tk_inj, if_false, if_true, false_and, and_false, Nat.reduceEqDiff, reduceIte, reduceCtorEq, and_true, true_and] using h9
  · have h9 := r_gbought R
    unfold Cgbought
    simpa (disch := omega) only [sI_wP, gI_uI, tk_ne9, tk_inj, if_false, if_true, false_and, and_false, Nat.reduceEqDiff, reduceIte, reduceCtorEq, and_true, true_and] using h9
  · have h9 := r_gmach R
    unfold Cgmach
    simpa (disch := omega) only [sI_wP, gI_uI, tk_ne9, tk_inj, if_false, if_true, false_and, and_false, Nat.reduceEqDiff, reduceIte, reduceCtorEq, and_true, true_and] using h9
  · have h9 := r_gpers R
    unfold Cgpers
    simpa (disch := omega) only [sI_wP, gI_uI, tk_ne9, tk_inj, if_false, if_true, false_and, and_false, Nat.reduceEqDiff, reduceIte, reduceCtorEq, and_true, true_and] using h9
  · have h9 := r_gworked R
    unfold Cgworked
    simpa (disch := omega) only [sI_wP, gI_uI, tk_ne9, tk_inj, if_false, if_true, false_and, and_false, Nat.reduceEqDiff, reduceIte, reduceCtorEq, and_true, true_and] using h9
  · have h9 := r_grep R
    unfold Cgrep
    simpa (disch := omega) only [sI_wP, gI_uI, tk_ne9, tk_inj, if_false, if_true, false_and, and_false, Nat.reduceEqDiff, reduceIte, reduceCtorEq, and_true, true_and] using h9
  · have h9 := r_gbat R
    unfold Cgbat
    simpa (disch := omega) only [sI_wP, gI_uI, tk_ne9, tk_inj, if_false, if_true, false_and, and_false, Nat.reduceEqDiff, reduceIte, reduceCtorEq, and_true, true_and] using h9
  · have h9 := r_gord R
    unfold Cgord
    simpa (disch := omega) only [sI_wP, gI_uI, tk_ne9, tk_inj, if_false, if_true, false_and, and_false, Nat.reduceEqDiff, reduceIte, reduceCtorEq, and_true, true_and] using h9
  · have h9 := r_gq R
    unfold Cgq
    simpa (disch := omega) only [sI_wP, gI_uI, tk_ne9, tk_inj, if_false, if_true, false_and, and_false, Nat.reduceEqDiff, reduceIte, reduceCtorEq, and_true, true_and] using h9
  · have h9 := r_nB R
    unfold CnB
    simpa (disch := omega) only [gI_uI, nB_u, tk_ne9, tk_inj, if_false, if_true, false_and, and_false, Nat.reduceEqDiff, reduceIte, reduceCtorEq, and_true, true_and] using h9
  · have h9 := r_nBx R
    unfold CnBx
    simpa (disch := omega) only [nB_u, tk_ne9, tk_inj, if_false, if_true, false_and, and_false, Nat.reduceEqDiff, reduceIte, reduceCtorEq, and_true, true_and] using h9
  · have h9 := r_nM R
    unfold CnM
    simpa (disch := omega) only [gI_uI, nM_u, tk_ne9, tk_inj, if_false, if_true, false_and, and_false, Nat.reduceEqDiff, reduceIte, reduceCtorEq, and_true, true_and] using h9
  · have h9 := r_nMx R
    unfold CnMx
    simpa (disch := omega) only [nM_u, tk_ne9, tk_inj, if_false, if_true, false_and, and_false, Nat.reduceEqDiff, reduceIte, reduceCtorEq, and_true, true_and] using h9
  · have h9 := r_nP R
    unfold CnP
    simpa (disch := omega) only [gI_uI, nP_u, tk_ne9, tk_inj, if_false, if_true, false_and, and_false, Nat.reduceEqDiff, reduceIte, reduceCtorEq, and_true, true_and] using h9
  · have h9 := r_nPx R
    unfold CnPx
    simpa (disch := omega) only [nP_u, tk_ne9, tk_inj, if_false, if_true, false_and, and_false, Nat.reduceEqDiff, reduceIte, reduceCtorEq, and_true, true_and] using h9
  · have h9 := r_nO R
    unfold CnO
    simpa (disch := omega) only [gI_uI, nO_u, tk_ne9, tk_inj, if_false, if_true, false_and, and_false, Nat.reduceEqDiff, reduceIte, reduceCtorEq, and_true, true_and] using h9
  · have h9 := r_nOx R
    unfold CnOx
    simpa (disch := omega) only [nO_u, tk_ne9, tk_inj, if_false, if_true, false_and, and_false, Nat.reduceEqDiff, reduceIte, reduceCtorEq, and_true, true_and] using h9
  · have h9 := r_hr R
    unfold Chr
    simpa (disch := omega) only [gI_uI, hN_u, tk_ne9, tk_inj, if_false, if_true, false_and, and_false, Nat.reduceEqDiff, reduceIte, reduceCtorEq, and_true, true_and] using h9
  · have h9 := r_hrx R
    unfold Chrx
    simpa (disch := omega) only [hN_u, tk_ne9, tk_inj, if_false, if_true, false_and, and_false, Nat.reduceEqDiff, reduceIte, reduceCtorEq, and_true, true_and] using h9
  · have h9 := r_stb R
    unfold Cstb
    simpa (disch := omega) only [gI_uI, tk_ne9, tk_inj, if_false, if_true, false_and, and_false, Nat.reduceEqDiff, reduceIte, reduceCtorEq, and_true, true_and] using h9
  · have h9 := r_ex R
    exact h9
  · have h9 := r_k0 R
    exact h9
  · have h9 := r_k1 R
    unfold Ck1
    simpa (disch := omega) only [sI_wP, gI_uI, tk_ne9, tk_inj, if_false, if_true, false_and, and_false, Nat.reduceEqDiff, reduceIte, reduceCtorEq, and_true, true_and] using h9
  · have h9 := r_k2 R
    unfold Ck2
    simpa (disch := omega) only [sI_wP, gI_uI, tk_ne9, tk_inj, if_false, if_true, false_and, and_false, Nat.reduceEqDiff, reduceIte, reduceCtorEq, and_true, true_and] using h9
  · have h9 := r_k3 R
    unfold Ck3
    simpa (disch := omega) only [sI_wP, gI_uI, tk_ne9, tk_inj, if_false, if_true, false_and, and_false, Nat.reduceEqDiff, reduceIte, reduceCtorEq, and_true, true_and] using h9
  · have h9 := r_k5 R
    unfold Ck5
    simpa (disch := omega) only [sI_wP, gI_uI, tk_ne9, tk_inj, if_false, if_true, false_and, and_false, Nat.reduceEqDiff, reduceIte, reduceCtorEq, and_true, true_and] using h9
  · have h9 := r_k7 R
    unfold Ck7
    simpa (disch := omega) only [sI_wP, gI_uI, tk_ne9, tk_inj, if_false, if_true, false_and, and_false, Nat.reduceEqDiff, reduceIte, reduceCtorEq, and_true, true_and] using h9
  · have h9 := r_k8 R
    unfold Ck8
    simpa (disch := omega) only [sI_wP, gI_uI, tk_ne9, tk_inj, if_false, if_true, false_and, and_false, Nat.reduceEqDiff, reduceIte, reduceCtorEq, and_true, true_and] using h9
  · have h9 := r_k9 R
    unfold Ck9
    simpa (disch := omega) only [sI_wP, gI_uI, tk_ne9, tk_inj, if_false, if_true, false_and, and_false, Nat.reduceEqDiff, reduceIte, reduceCtorEq, and_true, true_and] using h9
  · have h9 := r_k10 R
    unfold Ck10
    simpa (disch := omega) only [sI_wP, nB_u, mInSt_u, tk_ne9, tk_inj, if_false, if_true, false_and, and_false, Nat.reduceEqDiff, reduceIte, reduceCtorEq, and_true, true_and] using h9
  · have h9 := r_k11 R
    unfold Ck11
    simpa (disch := omega) only [sI_wP, nO_u, mProm_u, tk_ne9, tk_inj, if_false, if_true, false_and, and_false, Nat.reduceEqDiff, reduceIte, reduceCtorEq, and_true, true_and] using h9
  · have h9 := r_k12 R
    exact h9
  · have h9 := r_ksa R
    unfold Cksa
    simpa (disch := omega) only [gI_uI, tk_ne9, tk_inj, if_false, if_true, false_and, and_false, Nat.reduceEqDiff, reduceIte, reduceCtorEq, and_true, true_and] using h9
  · have h9 := r_ksb R
    unfold Cksb
    simpa (disch := omega) only [gI_uI, nOp_u, tk_ne9, tk_inj, if_false, if_true, false_and, and_false, Nat.reduceEqDiff, reduceIte, reduceCtorEq, and_true, true_and] using h9
  · have h9 := r_ksc R
    unfold Cksc
    simpa (disch := omega) only [gI_uI, nLn_u, nOp_u, tk_ne9, tk_inj, if_false, if_true, false_and, and_false, Nat.reduceEqDiff, reduceIte, reduceCtorEq, and_true, true_and] using h9
  · have h9 := r_kw R
    unfold Ckw
    simpa (disch := omega) only [gI_uI, tk_ne9, tk_inj, if_false, if_true, false_and, and_false, Nat.reduceEqDiff, reduceIte, reduceCtorEq, and_true, true_and] using h9
  · have h9 := r_kl R
    unfold Ckl
    simpa (disch := omega) only [gI_uI, nLn_u, tk_ne9, tk_inj, if_false, if_true, false_and, and_false, Nat.reduceEqDiff, reduceIte, reduceCtorEq, and_true, true_and] using h9
  · have h9 := r_ko R
    unfold Cko
    simpa (disch := omega) only [gI_uI, nOp_u, tk_ne9, tk_inj, if_false, if_true, false_and, and_false, Nat.reduceEqDiff, reduceIte, reduceCtorEq, and_true, true_and] using h9
  · have h9 := r_kp R
    unfold Ckp
    simpa (disch := omega) only [gI_uI, tk_ne9, tk_inj, if_false, if_true, false_and, and_false, Nat.reduceEqDiff, reduceIte, reduceCtorEq, and_true, true_and] using h9
  · have h9 := r_l0 R
    unfold Cl0
    simpa (disch := omega) only [sP_wP, nLn_u, tk_ne9, tk_inj, if_false, if_true, false_and, and_false, Nat.reduceEqDiff, reduceIte, reduceCtorEq, and_true, true_and] using h9
  · have h9 := r_l1 R
    unfold Cl1
    simpa (disch := omega) only [sP_wP, nLn_u, lnP_u, tk_ne9, tk_inj, if_false, if_true, false_and, and_false, Nat.reduceEqDiff, reduceIte, reduceCtorEq, and_true, true_and] using h9
  · have h9 := r_l2 R
    unfold Cl2
    simpa (disch := omega) only [sI_wP, gI_uI, nLn_u, tk_ne9, tk_inj, if_false, if_true, false_and, and_false, Nat.reduceEqDiff, reduceIte, reduceCtorEq, and_true, true_and] using h9
  · have h9 := r_l3 R
    unfold Cl3
    simpa (disch := omega) only [sP_wP, gI_uI, nLn_u, tk_ne9, tk_inj, if_false, if_true, false_and, and_false, Nat.reduceEqDiff, reduceIte, reduceCtorEq, and_true, true_and] using h9
  · have h9 := r_lm R
    unfold Clm
    simpa (disch := omega) only [gI_uI, nLn_u, lnP_u, tk_ne9, tk_inj, if_false, if_true, false_and, and_false, Nat.reduceEqDiff, reduceIte, reduceCtorEq, and_true, true_and] using h9
  · have h9 := r_o0 R
    unfold Co0
    simpa (disch := omega) only [sP_wP, nOp_u, tk_ne9, tk_inj, if_false, if_true, false_and, and_false, Nat.reduceEqDiff, reduceIte, reduceCtorEq, and_true, true_and] using h9
  · have h9 := r_o1 R
    unfold Co1
    simpa (disch := omega) only [sI_wP, gI_uI, nOp_u, tk_ne9, tk_inj, if_false, if_true, false_and, and_false, Nat.reduceEqDiff, reduceIte, reduceCtorEq, and_true, true_and] using h9
  · have h9 := r_o2 R
    unfold Co2
    simpa (disch := omega) only [sI_wP, gI_uI, nOp_u, tk_ne9, tk_inj, if_false, if_true, false_and, and_false, Nat.reduceEqDiff, reduceIte, reduceCtorEq, and_true, true_and] using h9
  · have h9 := r_o3 R
    unfold Co3
    simpa (disch := omega) only [sI_wP, gI_uI, nOp_u, tk_ne9, tk_inj, if_false, if_true, false_and, and_false, Nat.reduceEqDiff, reduceIte, reduceCtorEq, and_true, true_and] using h9
  · have h9 := r_om R
    unfold Com
    simpa (disch := omega) only [gI_uI, nOp_u, tk_ne9, tk_inj, if_false, if_true, false_and, and_false, Nat.reduceEqDiff, reduceIte, reduceCtorEq, and_true, true_and] using h9
  · have h9 := r_b0 R
    unfold Cb0
    simpa (disch := omega) only [sP_wP, nB_u, tk_ne9, tk_inj, if_false, if_true, false_and, and_false, Nat.reduceEqDiff, reduceIte, reduceCtorEq, and_true, true_and] using h9
  · have h9 := r_bn R
    unfold Cbn
    simpa (disch := omega) only [sI_wP, nB_u, tk_ne9, tk_inj, if_false, if_true, false_and, and_false, Nat.reduceEqDiff, reduceIte, reduceCtorEq, and_true, true_and] using h9
  · have h9 := r_bk R
    unfold Cbk
    simpa (disch := omega) only [sP_wP, nB_u, kd_u, tk_ne9, tk_inj, if_false, if_true, false_and, and_false, Nat.reduceEqDiff, reduceIte, reduceCtorEq, and_true, true_and] using h9
  · have h9 := r_b2 R
    unfold Cb2
    simpa (disch := omega) only [sI_wP, gI_uI, nB_u, tk_ne9, tk_inj, if_false, if_true, false_and, and_false, Nat.reduceEqDiff, reduceIte, reduceCtorEq, and_true, true_and] using h9
  · have h9 := r_b3 R
    unfold Cb3
    simpa (disch := omega) only [sI_wP, gI_uI, nB_u, tk_ne9, tk_inj, if_false, if_true, false_and, and_false, Nat.reduceEqDiff, reduceIte, reduceCtorEq, and_true, true_and] using h9
  · have h9 := r_b4 R
    unfold Cb4
    simpa (disch := omega) only [sI_wP, gI_uI, nB_u, tk_ne9, tk_inj, if_false, if_true, false_and, and_false, Nat.reduceEqDiff, reduceIte, reduceCtorEq, and_true, true_and] using h9
  · have h9 := r_b5 R
    unfold Cb5
    simpa (disch := omega) only [sI_wP, gI_uI, nB_u, tk_ne9, tk_inj, if_false, if_true, false_and, and_false, Nat.reduceEqDiff, reduceIte, reduceCtorEq, and_true, true_and] using h9
  · have h9 := r_b6 R
    unfold Cb6
    simpa (disch := omega) only [sI_wP, gI_uI, nB_u, tk_ne9, tk_inj, if_false, if_true, false_and, and_false, Nat.reduceEqDiff, reduceIte, reduceCtorEq, and_true, true_and] using h9
  · have h9 := r_b7 R
    unfold Cb7
    simpa (disch := omega) only [sI_wP, gI_uI, nB_u, tk_ne9, tk_inj, if_false, if_true, false_and, and_false, Nat.reduceEqDiff, reduceIte, reduceCtorEq, and_true, true_and] using h9
  · have h9 := r_b8 R
    unfold Cb8
    simpa (disch := omega) only [sI_wP, gI_uI, nB_u, tk_ne9, tk_inj, if_false, if_true, false_and, and_false, Nat.reduceEqDiff, reduceIte, reduceCtorEq, and_true, true_and] using h9
  · have h9 := r_b9 R
    unfold Cb9
    simpa (disch := omega) only [sI_wP, gI_uI, nB_u, tk_ne9, tk_inj, if_false, if_true, false_and, and_false, Nat.reduceEqDiff, reduceIte, reduceCtorEq, and_true, true_and] using h9
  · have h9 := r_b10 R
    unfold Cb10
    simpa (disch := omega) only [sI_wP, gI_uI, nB_u, tk_ne9, tk_inj, if_false, if_true, false_and, and_false, Nat.reduceEqDiff, reduceIte, reduceCtorEq, and_true, true_and] using h9
  · have h9 := r_b11 R
    unfold Cb11
    simpa (disch := omega) only [sL_wP, gL_uI, nB_u, tk_ne9, tk_inj, if_false, if_true, false_and, and_false, Nat.reduceEqDiff, reduceIte, reduceCtorEq, and_true, true_and] using h9
  · have h9 := r_bK R
    unfold CbK
    simpa (disch := omega) only [gI_uI, nB_u, kd_u, tk_ne9, tk_inj, if_false, if_true, false_and, and_false, Nat.reduceEqDiff, reduceIte, reduceCtorEq, and_true, true_and] using h9
  · have h9 := r_bP R
    unfold CbP
    simpa (disch := omega) only [gI_uI, nB_u, pc_u, tk_ne9, tk_inj, if_false, if_true, false_and, and_false, Nat.reduceEqDiff, reduceIte, reduceCtorEq, and_true, true_and] using h9
  · have h9 := r_bO R
    unfold CbO
    simpa (disch := omega) only [gI_uI, nB_u, op_u, tk_ne9, tk_inj, if_false, if_true, false_and, and_false, Nat.reduceEqDiff, reduceIte, reduceCtorEq, and_true, true_and] using h9
  · have h9 := r_bW R
    unfold CbW
    simpa (disch := omega) only [gI_uI, nB_u, nOp_u, kd_u, op_u, tk_ne9, tk_inj, if_false, if_true, false_and, and_false, Nat.reduceEqDiff, reduceIte, reduceCtorEq, and_true, true_and] using h9
  · have h9 := r_bZ R
    unfold CbZ
    simpa (disch := omega) only [gI_uI, nB_u, pc_u, tk_ne9, tk_inj, if_false, if_true, false_and, and_false, Nat.reduceEqDiff, reduceIte, reduceCtorEq, and_true, true_and] using h9
  · have h9 := r_bF R
    unfold CbF
    simpa (disch := omega) only [gI_uI, nB_u, tk_ne9, tk_inj, if_false, if_true, false_and, and_false, Nat.reduceEqDiff, reduceIte, reduceCtorEq, and_true, true_and] using h9
  · have h9 := r_bS R
    unfold CbS
    simpa (disch := omega) only [gI_uI, nB_u, tk_ne9, tk_inj, if_false, if_true, false_and, and_false, Nat.reduceEqDiff, reduceIte, reduceCtorEq, and_true, true_and] using h9
  · have h9 := r_bC R
    unfold CbC
    simpa (disch := omega) only [gI_uI, nB_u, tk_ne9, tk_inj, if_false, if_true, false_and, and_false, Nat.reduceEqDiff, reduceIte, reduceCtorEq, and_true, true_and] using h9
  · have h9 := r_bT R
    unfold CbT
    simpa (disch := omega) only [gI_uI, nB_u, tk_ne9, tk_inj, if_false, if_true, false_and, and_false, Nat.reduceEqDiff, reduceIte, reduceCtorEq, and_true, true_and] using h9
  · have h9 := r_bU R
    unfold CbU
    simpa (disch := omega) only [gI_uI, nB_u, kd_u, tk_ne9, tk_inj, if_false, if_true, false_and, and_false, Nat.reduceEqDiff, reduceIte, reduceCtorEq, and_true, true_and] using h9
  · have h9 := r_bq R
    unfold Cbq
    simpa (disch := omega) only [nB_u, totp_u, tk_ne9, tk_inj, if_false, if_true, false_and, and_false, Nat.reduceEqDiff, reduceIte, reduceCtorEq, and_true, true_and] using h9
  · have h9 := r_ps R
    unfold Cps
    simpa (disch := omega) only [nB_u, nO_u, nInSt_u, nProm_u, tk_ne9, tk_inj, if_false, if_true, false_and, and_false, Nat.reduceEqDiff, reduceIte, reduceCtorEq, and_true, true_and] using h9
  · have h9 := r_bp R
    unfold Cbp
    simpa (disch := omega) only [gL_uI, nB_u, tk_ne9, tk_inj, if_false, if_true, false_and, and_false, Nat.reduceEqDiff, reduceIte, reduceCtorEq, and_true, true_and] using h9
  · have h9 := r_bc R
    unfold Cbc
    simpa (disch := omega) only [nB_u, hN_u, tot_u, tk_ne9, tk_inj, if_false, if_true, false_and, and_false, Nat.reduceEqDiff, reduceIte, reduceCtorEq, and_true, true_and] using h9
  · have h9 := r_fB R
    unfold CfB
    simpa (disch := omega) only [sX_wP, nB_u, tk_ne9, tk_inj, if_false, if_true, false_and, and_false, Nat.reduceEqDiff, reduceIte, reduceCtorEq, and_true, true_and] using h9
  · have h9 := r_fL R
    unfold CfL
    simpa (disch := omega) only [sX_wP, nLn_u, tk_ne9, tk_inj, if_false, if_true, false_and, and_false, Nat.reduceEqDiff, reduceIte, reduceCtorEq, and_true, true_and] using h9
  · have h9 := r_fO R
    unfold CfO
    simpa (disch := omega) only [sX_wP, nOp_u, tk_ne9, tk_inj, if_false, if_true, false_and, and_false, Nat.reduceEqDiff, reduceIte, reduceCtorEq, and_true, true_and] using h9
  · have h9 := r_fM R
    unfold CfM
    simpa (disch := omega) only [sX_wP, nM_u, tk_ne9, tk_inj, if_false, if_true, false_and, and_false, Nat.reduceEqDiff, reduceIte, reduceCtorEq, and_true, true_and] using h9
  · have h9 := r_fP R
    unfold CfP
    simpa (disch := omega) only [sX_wP, nP_u, tk_ne9, tk_inj, if_false, if_true, false_and, and_false, Nat.reduceEqDiff, reduceIte, reduceCtorEq, and_true, true_and] using h9
  · have h9 := r_fR R
    unfold CfR
    simpa (disch := omega) only [sX_wP, nO_u, tk_ne9, tk_inj, if_false, if_true, false_and, and_false, Nat.reduceEqDiff, reduceIte, reduceCtorEq, and_true, true_and] using h9
  · have h9 := r_fG R
    exact h9
  · have h9 := r_m0 R
    unfold Cm0
    simpa (disch := omega) only [sP_wP, nM_u, tk_ne9, tk_inj, if_false, if_true, false_and, and_false, Nat.reduceEqDiff, reduceIte, reduceCtorEq, and_true, true_and] using h9
  · have h9 := r_mn R
    unfold Cmn
    simpa (disch := omega) only [sI_wP, nM_u, tk_ne9, tk_inj, if_false, if_true, false_and, and_false, Nat.reduceEqDiff, reduceIte, reduceCtorEq, and_true, true_and] using h9
  · have h9 := r_m1 R
    unfold Cm1
    simpa (disch := omega) only [sI_wP, gI_uI, nM_u, tk_ne9, tk_inj, if_false, if_true, false_and, and_false, Nat.reduceEqDiff, reduceIte, reduceCtorEq, and_true, true_and] using h9
  · have h9 := r_m2 R
    unfold Cm2
    simpa (disch := omega) only [sI_wP, gI_uI, nM_u, tk_ne9, tk_inj, if_false, if_true, false_and, and_false, Nat.reduceEqDiff, reduceIte, reduceCtorEq, and_true, true_and] using h9
  · have h9 := r_m3 R
    unfold Cm3
    simpa (disch := omega) only [sI_wP, gI_uI, nM_u, tk_ne9, tk_inj, if_false, if_true, false_and, and_false, Nat.reduceEqDiff, reduceIte, reduceCtorEq, and_true, true_and] using h9
  · have h9 := r_m4 R
    unfold Cm4
    simpa (disch := omega) only [sI_wP, gI_uI, nM_u, tk_ne9, tk_inj, if_false, if_true, false_and, and_false, Nat.reduceEqDiff, reduceIte, reduceCtorEq, and_true, true_and] using h9
  · have h9 := r_m5 R
    unfold Cm5
    simpa (disch := omega) only [sI_wP, gI_uI, nM_u, tk_ne9, tk_inj, if_false, if_true, false_and, and_false, Nat.reduceEqDiff, reduceIte, reduceCtorEq, and_true, true_and] using h9
  · have h9 := r_m9 R
    unfold Cm9
    simpa (disch := omega) only [sI_wP, gI_uI, nM_u, tk_ne9, tk_inj, if_false, if_true, false_and, and_false, Nat.reduceEqDiff, reduceIte, reduceCtorEq, and_true, true_and] using h9
  · have h9 := r_m11 R
    unfold Cm11
    simpa (disch := omega) only [sI_wP, gI_uI, nM_u, tk_ne9, tk_inj, if_false, if_true, false_and, and_false, Nat.reduceEqDiff, reduceIte, reduceCtorEq, and_true, true_and] using h9
  · have h9 := r_m13 R
    unfold Cm13
    simpa (disch := omega) only [sI_wP, gI_uI, nM_u, tk_ne9, tk_inj, if_false, if_true, false_and, and_false, Nat.reduceEqDiff, reduceIte, reduceCtorEq, and_true, true_and] using h9
  · have h9 := r_m14 R
    unfold Cm14
    simpa (disch := omega) only [sI_wP, gI_uI, nM_u, tk_ne9, tk_inj, if_false, if_true, false_and, and_false, Nat.reduceEqDiff, reduceIte, reduceCtorEq, and_true, true_and] using h9
  · have h9 := r_m6 R
    unfold Cm6
    simpa (disch := omega) only [sP_wP, gI_uI, nM_u, tk_ne9, tk_inj, if_false, if_true, false_and, and_false, Nat.reduceEqDiff, reduceIte, reduceCtorEq, and_true, true_and] using h9
  · have h9 := r_m7 R
    unfold Cm7
    simpa (disch := omega) only [sP_wP, gI_uI, nM_u, tk_ne9, tk_inj, if_false, if_true, false_and, and_false, Nat.reduceEqDiff, reduceIte, reduceCtorEq, and_true, true_and] using h9
  · have h9 := r_m8 R
    unfold Cm8
    simpa (disch := omega) only [sP_wP, gI_uI, nM_u, tk_ne9, tk_inj, if_false, if_true, false_and, and_false, Nat.reduceEqDiff, reduceIte, reduceCtorEq, and_true, true_and] using h9
  · unfold Cm12
    intro x h0
    have h9 := r_m12 R x h0
    by_cases e1 : x = m
    · subst e1; simp [sP_wP, gI_uI, kp_nI (show k < 2 ^ 31 by omega)]
    · simpa [sP_wP, gI_uI, e1, tk_inj] using h9
  · have h9 := r_m10 R
    unfold Cm10
    simpa (disch := omega) only [sI_wP, gI_uI, nB_u, nM_u, tk_ne9, tk_inj, if_false, if_true, false_and, and_false, Nat.reduceEqDiff, reduceIte, reduceCtorEq, and_true, true_and] using h9
  · have h9 := r_mma R
    unfold Cmma
    simpa (disch := omega) only [gI_uI, nM_u, tk_ne9, tk_inj, if_false, if_true, false_and, and_false, Nat.reduceEqDiff, reduceIte, reduceCtorEq, and_true, true_and] using h9
  · have h9 := r_mmb R
    unfold Cmmb
    simpa (disch := omega) only [gI_uI, nB_u, nM_u, nP_u, tk_ne9, tk_inj, if_false, if_true, false_and, and_false, Nat.reduceEqDiff, reduceIte, reduceCtorEq, and_true, true_and] using h9
  · unfold Cmmc
    intro x h0
    have h9 := r_mmc R x h0
    by_cases e1 : x = m
    · exact Or.inr ⟨k, by simp [gI_uI, e1], hk⟩
    · simpa [gI_uI, e1] using h9
  · have h9 := r_mr29 R
    unfold Cmr29
    simpa (disch := omega) only [gI_uI, nM_u, tk_ne9, tk_inj, if_false, if_true, false_and, and_false, Nat.reduceEqDiff, reduceIte, reduceCtorEq, and_true, true_and] using h9
  · have h9 := r_mr30 R
    unfold Cmr30
    simpa (disch := omega) only [gI_uI, nM_u, tk_ne9, tk_inj, if_false, if_true, false_and, and_false, Nat.reduceEqDiff, reduceIte, reduceCtorEq, and_true, true_and] using h9
  · have h9 := r_mr31 R
    unfold Cmr31
    simpa (disch := omega) only [gI_uI, nM_u, tk_ne9, tk_inj, if_false, if_true, false_and, and_false, Nat.reduceEqDiff, reduceIte, reduceCtorEq, and_true, true_and] using h9
  · have h9 := r_mr32 R
    unfold Cmr32
    simpa (disch := omega) only [gI_uI, nM_u, tk_ne9, tk_inj, if_false, if_true, false_and, and_false, Nat.reduceEqDiff, reduceIte, reduceCtorEq, and_true, true_and] using h9
  · have h9 := r_mr35 R
    unfold Cmr35
    simpa (disch := omega) only [gI_uI, nM_u, tk_ne9, tk_inj, if_false, if_true, false_and, and_false, Nat.reduceEqDiff, reduceIte, reduceCtorEq, and_true, true_and] using h9
  · have h9 := r_mr39 R
    unfold Cmr39
    simpa (disch := omega) only [gI_uI, nM_u, tk_ne9, tk_inj, if_false, if_true, false_and, and_false, Nat.reduceEqDiff, reduceIte, reduceCtorEq, and_true, true_and] using h9
  · have h9 := r_mr40 R
    unfold Cmr40
    simpa (disch := omega) only [gI_uI, nM_u, tk_ne9, tk_inj, if_false, if_true, false_and, and_false, Nat.reduceEqDiff, reduceIte, reduceCtorEq, and_true, true_and] using h9
  · have h9 := r_md R
    unfold Cmd
    simpa (disch := omega) only [gI_uI, nM_u, tk_ne9, tk_inj, if_false, if_true, false_and, and_false, Nat.reduceEqDiff, reduceIte, reduceCtorEq, and_true, true_and] using h9
  · have h9 := r_mw R
    unfold Cmw
    simpa (disch := omega) only [gI_uI, nM_u, tk_ne9, tk_inj, if_false, if_true, false_and, and_false, Nat.reduceEqDiff, reduceIte, reduceCtorEq, and_true, true_and] using h9
  · have h9 := r_q0 R
    unfold Cq0
    simpa (disch := omega) only [sP_wP, nP_u, tk_ne9, tk_inj, if_false, if_true, false_and, and_false, Nat.reduceEqDiff, reduceIte, reduceCtorEq, and_true, true_and] using h9
  · have h9 := r_qn R
    unfold Cqn
    simpa (disch := omega) only [sI_wP, nP_u, tk_ne9, tk_inj, if_false, if_true, false_and, and_false, Nat.reduceEqDiff, reduceIte, reduceCtorEq, and_true, true_and] using h9
  · have h9 := r_q1 R
    unfold Cq1
    simpa (disch := omega) only [sI_wP, gI_uI, nP_u, tk_ne9, tk_inj, if_false, if_true, false_and, and_false, Nat.reduceEqDiff, reduceIte, reduceCtorEq, and_true, true_and] using h9
  · have h9 := r_q2 R
    unfold Cq2
    simpa (disch := omega) only [sI_wP, gI_uI, nP_u, tk_ne9, tk_inj, if_false, if_true, false_and, and_false, Nat.reduceEqDiff, reduceIte, reduceCtorEq, and_true, true_and] using h9
  · have h9 := r_q3 R
    unfold Cq3
    simpa (disch := omega) only [sI_wP, gI_uI, nP_u, tk_ne9, tk_inj, if_false, if_true, false_and, and_false, Nat.reduceEqDiff, reduceIte, reduceCtorEq, and_true, true_and] using h9
  · have h9 := r_q4 R
    unfold Cq4
    simpa (disch := omega) only [sP_wP, nP_u, tk_ne9, tk_inj, if_false, if_true, false_and, and_false, Nat.reduceEqDiff, reduceIte, reduceCtorEq, and_true, true_and] using h9
  · have h9 := r_q5 R
    unfold Cq5
    simpa (disch := omega) only [sP_wP, nP_u, tk_ne9, tk_inj, if_false, if_true, false_and, and_false, Nat.reduceEqDiff, reduceIte, reduceCtorEq, and_true, true_and] using h9
  · have h9 := r_q6 R
    unfold Cq6
    simpa (disch := omega) only [sI_wP, gI_uI, nM_u, nP_u, tk_ne9, tk_inj, if_false, if_true, false_and, and_false, Nat.reduceEqDiff, reduceIte, reduceCtorEq, and_true, true_and] using h9
  · have h9 := r_ql R
    unfold Cql
    simpa (disch := omega) only [sI_wP, gI_uI, nP_u, tk_ne9, tk_inj, if_false, if_true, false_and, and_false, Nat.reduceEqDiff, reduceIte, reduceCtorEq, and_true, true_and] using h9
  · have h9 := r_qw R
    unfold Cqw
    simpa (disch := omega) only [sI_wP, gI_uI, nP_u, tk_ne9, tk_inj, if_false, if_true, false_and, and_false, Nat.reduceEqDiff, reduceIte, reduceCtorEq, and_true, true_and] using h9
  · have h9 := r_qm R
    unfold Cqm
    simpa (disch := omega) only [gI_uI, nP_u, tk_ne9, tk_inj, if_false, if_true, false_and, and_false, Nat.reduceEqDiff, reduceIte, reduceCtorEq, and_true, true_and] using h9
  · have h9 := r_qr R
    unfold Cqr
    simpa (disch := omega) only [gI_uI, nP_u, tk_ne9, tk_inj, if_false, if_true, false_and, and_false, Nat.reduceEqDiff, reduceIte, reduceCtorEq, and_true, true_and] using h9
  · have h9 := r_r0 R
    unfold Cr0
    simpa (disch := omega) only [sP_wP, nO_u, tk_ne9, tk_inj, if_false, if_true, false_and, and_false, Nat.reduceEqDiff, reduceIte, reduceCtorEq, and_true, true_and] using h9
  · have h9 := r_r1 R
    unfold Cr1
    simpa (disch := omega) only [sP_wP, gI_uI, nO_u, tk_ne9, tk_inj, if_false, if_true, false_and, and_false, Nat.reduceEqDiff, reduceIte, reduceCtorEq, and_true, true_and] using h9
  · have h9 := r_r2 R
    unfold Cr2
    simpa (disch := omega) only [sI_wP, gI_uI, nO_u, tk_ne9, tk_inj, if_false, if_true, false_and, and_false, Nat.reduceEqDiff, reduceIte, reduceCtorEq, and_true, true_and] using h9
  · have h9 := r_r3 R
    unfold Cr3
    simpa (disch := omega) only [sI_wP, gI_uI, nO_u, tk_ne9, tk_inj, if_false, if_true, false_and, and_false, Nat.reduceEqDiff, reduceIte, reduceCtorEq, and_true, true_and] using h9
  · have h9 := r_r4 R
    unfold Cr4
    simpa (disch := omega) only [sI_wP, gI_uI, nO_u, tk_ne9, tk_inj, if_false, if_true, false_and, and_false, Nat.reduceEqDiff, reduceIte, reduceCtorEq, and_true, true_and] using h9
  · have h9 := r_r5 R
    unfold Cr5
    simpa (disch := omega) only [sP_wP, gI_uI, nO_u, tk_ne9, tk_inj, if_false, if_true, false_and, and_false, Nat.reduceEqDiff, reduceIte, reduceCtorEq, and_true, true_and] using h9
  · have h9 := r_r6 R
    unfold Cr6
    simpa (disch := omega) only [sI_wP, gI_uI, nO_u, tk_ne9, tk_inj, if_false, if_true, false_and, and_false, Nat.reduceEqDiff, reduceIte, reduceCtorEq, and_true, true_and] using h9
  · have h9 := r_rk R
    unfold Crk
    simpa (disch := omega) only [gI_uI, nO_u, tk_ne9, tk_inj, if_false, if_true, false_and, and_false, Nat.reduceEqDiff, reduceIte, reduceCtorEq, and_true, true_and] using h9
  · have h9 := r_rp R
    unfold Crp
    simpa (disch := omega) only [gI_uI, nO_u, tk_ne9, tk_inj, if_false, if_true, false_and, and_false, Nat.reduceEqDiff, reduceIte, reduceCtorEq, and_true, true_and] using h9
  · have h9 := r_rq R
    unfold Crq
    simpa (disch := omega) only [gI_uI, nO_u, pr_u, tk_ne9, tk_inj, if_false, if_true, false_and, and_false, Nat.reduceEqDiff, reduceIte, reduceCtorEq, and_true, true_and] using h9
  · have h9 := r_rr R
    unfold Crr
    simpa (disch := omega) only [gI_uI, nO_u, pr_u, tk_ne9, tk_inj, if_false, if_true, false_and, and_false, Nat.reduceEqDiff, reduceIte, reduceCtorEq, and_true, true_and] using h9
  · have h9 := r_rs R
    unfold Crs
    simpa (disch := omega) only [gI_uI, nB_u, nO_u, tk_ne9, tk_inj, if_false, if_true, false_and, and_false, Nat.reduceEqDiff, reduceIte, reduceCtorEq, and_true, true_and] using h9
set_option maxHeartbeats 8000000 in
theorem rel_wtot {e : Nat} {a : Sg} {M : MS} (R : Rel e a M) (v : Int32) : Rel e (wI a (tk 1 0) 5 v) (uI M 257 0 v) := by
  unfold Rel
  refine ⟨?_, ?_, ?_, ?_, ?_, ?_, ?_, ?_, ?_, ?_, ?_, ?_, ?_, ?_, ?_, ?_, ?_, ?_, ?_, ?_, ?_, ?_, ?_, ?_, ?_, ?_, ?_, ?_, ?_, ?_, ?_, ?_, ?_, ?_, ?_, ?_, ?_, ?_, ?_, ?_, ?_, ?_, ?_, ?_, ?_, ?_, ?_, ?_, ?_, ?_, ?_, ?_, ?_, ?_, ?_, ?_, ?_, ?_, ?_, ?_, ?_, ?_, ?_, ?_, ?_, ?_, ?_, ?_, ?_, ?_, ?_, ?_, ?_, ?_, ?_, ?_, ?_, ?_, ?_, ?_, ?_, ?_, ?_, ?_, ?_, ?_, ?_, ?_, ?_, ?_, ?_, ?_, ?_, ?_, ?_, ?_, ?_, ?_, ?_, ?_, ?_, ?_, ?_, ?_, ?_, ?_, ?_, ?_, ?_, ?_, ?_, ?_, ?_, ?_, ?_, ?_, ?_, ?_, ?_, ?_, ?_, ?_, ?_, ?_, ?_, ?_, ?_, ?_, ?_, ?_, ?_, ?_, ?_, ?_, ?_, ?_, ?_, ?_, ?_, ?_, ?_, ?_, ?_, ?_, ?_, ?_, ?_, ?_, ?_⟩
  · have h9 := r_shm R
    exact h9
  · have h9 := r_px0 R
    exact h9
  · have h9 := r_px1 R
    exact h9
  · have h9 := r_px2 R
    exact h9
  · have h9 := r_pf0 R
    exact h9
  · have h9 := r_pf1 R
    exact h9
  · have h9 := r_pf3 R
    exact h9
  · have h9 := r_ps0 R
    exact h9
  · have h9 := r_ps2 R
    exact h9
  · have h9 := r_ps4 R
    exact h9
  · have h9 := r_pk R
    exact h9
  · have h9 := r_pkl R
    exact h9
  · have h9 := r_pko R
    exact h9
  · have h9 := r_ghour R
    unfold Cghour
    simpa (disch := omega) only [sI_wI, gI_uI, tk_ne9, tk_inj, if_false, if_true, false_and, and_false, Nat.reduceEqDiff, reduceIte, reduceCtorEq, and_true, true_and] using h9
  · have h9 := r_gstand R
    unfold Cgstand
    simpa (disch := omega) only [sI_wI, gI_uI, tk_ne9, tk_inj, if_false, if_true, false_and, and_false, Nat.reduceEqDiff, reduceIte, reduceCtorEq, and_true, true_and] using h9
  · have h9 := r_gbought R
    unfold Cgbought
    simpa (disch := omega) only [sI_wI, gI_uI, tk_ne9, tk_inj, if_false, if_true, false_and, and_false, Nat.reduceEqDiff, reduceIte, reduceCtorEq, and_true, true_and] using h9
  · have h9 := r_gmach R
    unfold Cgmach
    simpa (disch := omega) only [sI_wI, gI_uI, tk_ne9, tk_inj, if_false, if_true, false_and, and_false, Nat.reduceEqDiff, reduceIte, reduceCtorEq, and_true, true_and] using h9
  · have h9 := r_gpers R
    unfold Cgpers
    simpa (disch := omega) only [sI_wI, gI_uI, tk_ne9, tk_inj, if_false, if_true, false_and, and_false, Nat.reduceEqDiff, reduceIte, reduceCtorEq, and_true, true_and] using h9
  · have h9 := r_gworked R
    unfold Cgworked
    simpa (disch := omega) only [sI_wI, gI_uI, tk_ne9, tk_inj, if_false, if_true, false_and, and_false, Nat.reduceEqDiff, reduceIte, reduceCtorEq, and_true, true_and] using h9
  · have h9 := r_grep R
    unfold Cgrep
    simpa (disch := omega) only [sI_wI, gI_uI, tk_ne9, tk_inj, if_false, if_true, false_and, and_false, Nat.reduceEqDiff, reduceIte, reduceCtorEq, and_true, true_and] using h9
  · have h9 := r_gbat R
    unfold Cgbat
    simpa (disch := omega) only [sI_wI, gI_uI, tk_ne9, tk_inj, if_false, if_true, false_and, and_false, Nat.reduceEqDiff, reduceIte, reduceCtorEq, and_true, true_and] using h9
  · have h9 := r_gord R
    unfold Cgord
    simpa (disch := omega) only [sI_wI, gI_uI, tk_ne9, tk_inj, if_false, if_true, false_and, and_false, Nat.reduceEqDiff, reduceIte, reduceCtorEq, and_true, true_and] using h9
  · have h9 := r_gq R
    unfold Cgq
    simpa (disch := omega) only [sI_wI, gI_uI, tk_ne9, tk_inj, if_false, if_true, false_and, and_false, Nat.reduceEqDiff, reduceIte, reduceCtorEq, and_true, true_and] using h9
  · have h9 := r_nB R
    unfold CnB
    simpa (disch := omega) only [gI_uI, nB_u, tk_ne9, tk_inj, if_false, if_true, false_and, and_false, Nat.reduceEqDiff, reduceIte, reduceCtorEq, and_true, true_and] using h9
  · have h9 := r_nBx R
    unfold CnBx
    simpa (disch := omega) only [nB_u, tk_ne9, tk_inj, if_false, if_true, false_and, and_false, Nat.reduceEqDiff, reduceIte, reduceCtorEq, and_true, true_and] using h9
  · have h9 := r_nM R
    unfold CnM
    simpa (disch := omega) only [gI_uI, nM_u, tk_ne9, tk_inj, if_false, if_true, false_and, and_false, Nat.reduceEqDiff, reduceIte, reduceCtorEq, and_true, true_and] using h9
  · have h9 := r_nMx R
    unfold CnMx
    simpa (disch := omega) only [nM_u, tk_ne9, tk_inj, if_false, if_true, false_and, and_false, Nat.reduceEqDiff, reduceIte, reduceCtorEq, and_true, true_and] using h9
  · have h9 := r_nP R
    unfold CnP
    simpa (disch := omega) only [gI_uI, nP_u, tk_ne9, tk_inj, if_false, if_true, false_and, and_false, Nat.reduceEqDiff, reduceIte, reduceCtorEq, and_true, true_and] using h9
  · have h9 := r_nPx R
    unfold CnPx
    simpa (disch := omega) only [nP_u, tk_ne9, tk_inj, if_false, if_true, false_and, and_false, Nat.reduceEqDiff, reduceIte, reduceCtorEq, and_true, true_and] using h9
  · have h9 := r_nO R
    unfold CnO
    simpa (disch := omega) only [gI_uI, nO_u, tk_ne9, tk_inj, if_false, if_true, false_and, and_false, Nat.reduceEqDiff, reduceIte, reduceCtorEq, and_true, true_and] using h9
  · have h9 := r_nOx R
    unfold CnOx
    simpa (disch := omega) only [nO_u, tk_ne9, tk_inj, if_false, if_true, false_and, and_false, Nat.reduceEqDiff, reduceIte, reduceCtorEq, and_true, true_and] using h9
  · have h9 := r_hr R
    unfold Chr
    simpa (disch := omega) only [gI_uI, hN_u, tk_ne9, tk_inj, if_false, if_true, false_and, and_false, Nat.reduceEqDiff, reduceIte, reduceCtorEq, and_true, true_and] using h9
  · have h9 := r_hrx R
    unfold Chrx
    simpa (disch := omega) only [hN_u, tk_ne9, tk_inj, if_false, if_true, false_and, and_false, Nat.reduceEqDiff, reduceIte, reduceCtorEq, and_true, true_and] using h9
  · have h9 := r_stb R
    unfold Cstb
    simpa (disch := omega) only [gI_uI, tk_ne9, tk_inj, if_false, if_true, false_and, and_false, Nat.reduceEqDiff, reduceIte, reduceCtorEq, and_true, true_and] using h9
  · have h9 := r_ex R
    exact h9
  · have h9 := r_k0 R
    unfold Ck0
    simpa (disch := omega) only [sI_wI, tk_ne9, tk_inj, if_false, if_true, false_and, and_false, Nat.reduceEqDiff, reduceIte, reduceCtorEq, and_true, true_and] using h9
  · have h9 := r_k1 R
    unfold Ck1
    simpa (disch := omega) only [sI_wI, gI_uI, tk_ne9, tk_inj, if_false, if_true, false_and, and_false, Nat.reduceEqDiff, reduceIte, reduceCtorEq, and_true, true_and] using h9
  · have h9 := r_k2 R
    unfold Ck2
    simpa (disch := omega) only [sI_wI, gI_uI, tk_ne9, tk_inj, if_false, if_true, false_and, and_false, Nat.reduceEqDiff, reduceIte, reduceCtorEq, and_true, true_and] using h9
  · have h9 := r_k3 R
    unfold Ck3
    simpa (disch := omega) only [sI_wI, gI_uI, tk_ne9, tk_inj, if_false, if_true, false_and, and_false, Nat.reduceEqDiff, reduceIte, reduceCtorEq, and_true, true_and] using h9
  · have h9 := r_k5 R
    unfold Ck5
    simpa (disch := omega) only [sI_wI, gI_uI, tk_ne9, tk_inj, if_false, if_true, false_and, and_false, Nat.reduceEqDiff, reduceIte, reduceCtorEq, and_true, true_and] using h9
  · have h9 := r_k7 R
    unfold Ck7
    simpa (disch := omega) only [sI_wI, gI_uI, tk_ne9, tk_inj, if_false, if_true, false_and, and_false, Nat.reduceEqDiff, reduceIte, reduceCtorEq, and_true, true_and] using h9
  · have h9 := r_k8 R
    unfold Ck8
    simpa (disch := omega) only [sI_wI, gI_uI, tk_ne9, tk_inj, if_false, if_true, false_and, and_false, Nat.reduceEqDiff, reduceIte, reduceCtorEq, and_true, true_and] using h9
  · have h9 := r_k9 R
    unfold Ck9
    simpa (disch := omega) only [sI_wI, gI_uI, tk_ne9, tk_inj, if_false, if_true, false_and, and_false, Nat.reduceEqDiff, reduceIte, reduceCtorEq, and_true, true_and] using h9
  · have h9 := r_k10 R
    unfold Ck10
    simpa (disch := omega) only [sI_wI, nB_u, mInSt_u, tk_ne9, tk_inj, if_false, if_true, false_and, and_false, Nat.reduceEqDiff, reduceIte, reduceCtorEq, and_true, true_and] using h9
  · have h9 := r_k11 R
    unfold Ck11
    simpa (disch := omega) only [sI_wI, nO_u, mProm_u, tk_ne9, tk_inj, if_false, if_true, false_and, and_false, Nat.reduceEqDiff, reduceIte, reduceCtorEq, and_true, true_and] using h9
  · have h9 := r_k12 R
    unfold Ck12
    simpa (disch := omega) only [sI_wI, tk_ne9, tk_inj, if_false, if_true, false_and, and_false, Nat.reduceEqDiff, reduceIte, reduceCtorEq, and_true, true_and] using h9
  · have h9 := r_ksa R
    unfold Cksa
    simpa (disch := omega) only [gI_uI, tk_ne9, tk_inj, if_false, if_true, false_and, and_false, Nat.reduceEqDiff, reduceIte, reduceCtorEq, and_true, true_and] using h9
  · have h9 := r_ksb R
    unfold Cksb
    simpa (disch := omega) only [gI_uI, nOp_u, tk_ne9, tk_inj, if_false, if_true, false_and, and_false, Nat.reduceEqDiff, reduceIte, reduceCtorEq, and_true, true_and] using h9
  · have h9 := r_ksc R
    unfold Cksc
    simpa (disch := omega) only [gI_uI, nLn_u, nOp_u, tk_ne9, tk_inj, if_false, if_true, false_and, and_false, Nat.reduceEqDiff, reduceIte, reduceCtorEq, and_true, true_and] using h9
  · have h9 := r_kw R
    unfold Ckw
    simpa (disch := omega) only [gI_uI, tk_ne9, tk_inj, if_false, if_true, false_and, and_false, Nat.reduceEqDiff, reduceIte, reduceCtorEq, and_true, true_and] using h9
  · have h9 := r_kl R
    unfold Ckl
    simpa (disch := omega) only [gI_uI, nLn_u, tk_ne9, tk_inj, if_false, if_true, false_and, and_false, Nat.reduceEqDiff, reduceIte, reduceCtorEq, and_true, true_and] using h9
  · have h9 := r_ko R
    unfold Cko
    simpa (disch := omega) only [gI_uI, nOp_u, tk_ne9, tk_inj, if_false, if_true, false_and, and_false, Nat.reduceEqDiff, reduceIte, reduceCtorEq, and_true, true_and] using h9
  · have h9 := r_kp R
    unfold Ckp
    simpa (disch := omega) only [gI_uI, tk_ne9, tk_inj, if_false, if_true, false_and, and_false, Nat.reduceEqDiff, reduceIte, reduceCtorEq, and_true, true_and] using h9
  · have h9 := r_l0 R
    unfold Cl0
    simpa (disch := omega) only [sP_wI, nLn_u, tk_ne9, tk_inj, if_false, if_true, false_and, and_false, Nat.reduceEqDiff, reduceIte, reduceCtorEq, and_true, true_and] using h9
  · have h9 := r_l1 R
    unfold Cl1
    simpa (disch := omega) only [sP_wI, nLn_u, lnP_u, tk_ne9, tk_inj, if_false, if_true, false_and, and_false, Nat.reduceEqDiff, reduceIte, reduceCtorEq, and_true, true_and] using h9
  · have h9 := r_l2 R
    unfold Cl2
    simpa (disch := omega) only [sI_wI, gI_uI, nLn_u, tk_ne9, tk_inj, if_false, if_true, false_and, and_false, Nat.reduceEqDiff, reduceIte, reduceCtorEq, and_true, true_and] using h9
  · have h9 := r_l3 R
    unfold Cl3
    simpa (disch := omega) only [sP_wI, gI_uI, nLn_u, tk_ne9, tk_inj, if_false, if_true, false_and, and_false, Nat.reduceEqDiff, reduceIte, reduceCtorEq, and_true, true_and] using h9
  · have h9 := r_lm R
    unfold Clm
    simpa (disch := omega) only [gI_uI, nLn_u, lnP_u, tk_ne9, tk_inj, if_false, if_true, false_and, and_false, Nat.reduceEqDiff, reduceIte, reduceCtorEq, and_true, true_and] using h9
  · have h9 := r_o0 R
    unfold Co0
    simpa (disch := omega) only [sP_wI, nOp_u, tk_ne9, tk_inj, if_false, if_true, false_and, and_false, Nat.reduceEqDiff, reduceIte, reduceCtorEq, and_true, true_and] using h9
  · have h9 := r_o1 R
    unfold Co1
    simpa (disch := omega) only [sI_wI, gI_uI, nOp_u, tk_ne9, tk_inj, if_false, if_true, false_and, and_false, Nat.reduceEqDiff, reduceIte, reduceCtorEq, and_true, true_and] using h9
  · have h9 := r_o2 R
    unfold Co2
    simpa (disch := omega) only [sI_wI, gI_uI, nOp_u, tk_ne9, tk_inj, if_false, if_true, false_and, and_false, Nat.reduceEqDiff, reduceIte, reduceCtorEq, and_true, true_and] using h9
  · have h9 := r_o3 R
    unfold Co3
    simpa (disch := omega) only [sI_wI, gI_uI, nOp_u, tk_ne9, tk_inj, if_false, if_true, false_and, and_false, Nat.reduceEqDiff, reduceIte, reduceCtorEq, and_true, true_and] using h9
  · have h9 := r_om R
    unfold Com
    simpa (disch := omega) only [gI_uI, nOp_u, tk_ne9, tk_inj, if_false, if_true, false_and, and_false, Nat.reduceEqDiff, reduceIte, reduceCtorEq, and_true, true_and] using h9
  · have h9 := r_b0 R
    unfold Cb0
    simpa (disch := omega) only [sP_wI, nB_u, tk_ne9, tk_inj, if_false, if_true, false_and, and_false, Nat.reduceEqDiff, reduceIte, reduceCtorEq, and_true, true_and] using h9
  · have h9 := r_bn R
    unfold Cbn
    simpa (disch := omega) only [sI_wI, nB_u, tk_ne9, tk_inj, if_false, if_true, false_and, and_false, Nat.reduceEqDiff, reduceIte, reduceCtorEq, and_true, true_and] using h9
  · have h9 := r_bk R
    unfold Cbk
    simpa (disch := omega) only [sP_wI, nB_u, kd_u, tk_ne9, tk_inj, if_false, if_true, false_and, and_false, Nat.reduceEqDiff, reduceIte, reduceCtorEq, and_true, true_and] using h9
  · have h9 := r_b2 R
    unfold Cb2
    simpa (disch := omega) only [sI_wI, gI_uI, nB_u, tk_ne9, tk_inj, if_false, if_true, false_and, and_false, Nat.reduceEqDiff, reduceIte, reduceCtorEq, and_true, true_and] using h9
  · have h9 := r_b3 R
    unfold Cb3
    simpa (disch := omega) only [sI_wI, gI_uI, nB_u, tk_ne9, tk_inj, if_false, if_true, false_and, and_false, Nat.reduceEqDiff, reduceIte, reduceCtorEq, and_true, true_and] using h9
  · have h9 := r_b4 R
    unfold Cb4
    simpa (disch := omega) only [sI_wI, gI_uI, nB_u, tk_ne9, tk_inj, if_false, if_true, false_and, and_false, Nat.reduceEqDiff, reduceIte, reduceCtorEq, and_true, true_and] using h9
  · have h9 := r_b5 R
    unfold Cb5
    simpa (disch := omega) only [sI_wI, gI_uI, nB_u, tk_ne9, tk_inj, if_false, if_true, false_and, and_false, Nat.reduceEqDiff, reduceIte, reduceCtorEq, and_true, true_and] using h9
  · have h9 := r_b6 R
    unfold Cb6
    simpa (disch := omega) only [sI_wI, gI_uI, nB_u, tk_ne9, tk_inj, if_false, if_true, false_and, and_false, Nat.reduceEqDiff, reduceIte, reduceCtorEq, and_true, true_and] using h9
  · have h9 := r_b7 R
    unfold Cb7
    simpa (disch := omega) only [sI_wI, gI_uI, nB_u, tk_ne9, tk_inj, if_false, if_true, false_and, and_false, Nat.reduceEqDiff, reduceIte, reduceCtorEq, and_true, true_and] using h9
  · have h9 := r_b8 R
    unfold Cb8
    simpa (disch := omega) only [sI_wI, gI_uI, nB_u, tk_ne9, tk_inj, if_false, if_true, false_and, and_false, Nat.reduceEqDiff, reduceIte, reduceCtorEq, and_true, true_and] using h9
  · have h9 := r_b9 R
    unfold Cb9
    simpa (disch := omega) only [sI_wI, gI_uI, nB_u, tk_ne9, tk_inj, if_false, if_true, false_and, and_false, Nat.reduceEqDiff, reduceIte, reduceCtorEq, and_true, true_and] using h9
  · have h9 := r_b10 R
    unfold Cb10
    simpa (disch := omega) only [sI_wI, gI_uI, nB_u, tk_ne9, tk_inj, if_false, if_true, false_and, and_false, Nat.reduceEqDiff, reduceIte, reduceCtorEq, and_true, true_and] using h9
  · have h9 := r_b11 R
    unfold Cb11
    simpa (disch := omega) only [sL_wI, gL_uI, nB_u, tk_ne9, tk_inj, if_false, if_true, false_and, and_false, Nat.reduceEqDiff, reduceIte, reduceCtorEq, and_true, true_and] using h9
  · have h9 := r_bK R
    unfold CbK
    simpa (disch := omega) only [gI_uI, nB_u, kd_u, tk_ne9, tk_inj, if_false, if_true, false_and, and_false, Nat.reduceEqDiff, reduceIte, reduceCtorEq, and_true, true_and] using h9
  · have h9 := r_bP R
    unfold CbP
    simpa (disch := omega) only [gI_uI, nB_u, pc_u, tk_ne9, tk_inj, if_false, if_true, false_and, and_false, Nat.reduceEqDiff, reduceIte, reduceCtorEq, and_true, true_and] using h9
  · have h9 := r_bO R
    unfold CbO
    simpa (disch := omega) only [gI_uI, nB_u, op_u, tk_ne9, tk_inj, if_false, if_true, false_and, and_false, Nat.reduceEqDiff, reduceIte, reduceCtorEq, and_true, true_and] using h9
  · have h9 := r_bW R
    unfold CbW
    simpa (disch := omega) only [gI_uI, nB_u, nOp_u, kd_u, op_u, tk_ne9, tk_inj, if_false, if_true, false_and, and_false, Nat.reduceEqDiff, reduceIte, reduceCtorEq, and_true, true_and] using h9
  · have h9 := r_bZ R
    unfold CbZ
    simpa (disch := omega) only [gI_uI, nB_u, pc_u, tk_ne9, tk_inj, if_false, if_true, false_and, and_false, Nat.reduceEqDiff, reduceIte, reduceCtorEq, and_true, true_and] using h9
  · have h9 := r_bF R
    unfold CbF
    simpa (disch := omega) only [gI_uI, nB_u, tk_ne9, tk_inj, if_false, if_true, false_and, and_false, Nat.reduceEqDiff, reduceIte, reduceCtorEq, and_true, true_and] using h9
  · have h9 := r_bS R
    unfold CbS
    simpa (disch := omega) only [gI_uI, nB_u, tk_ne9, tk_inj, if_false, if_true, false_and, and_false, Nat.reduceEqDiff, reduceIte, reduceCtorEq, and_true, true_and] using h9
  · have h9 := r_bC R
    unfold CbC
    simpa (disch := omega) only [gI_uI, nB_u, tk_ne9, tk_inj, if_false, if_true, false_and, and_false, Nat.reduceEqDiff, reduceIte, reduceCtorEq, and_true, true_and] using h9
  · have h9 := r_bT R
    unfold CbT
    simpa (disch := omega) only [gI_uI, nB_u, tk_ne9, tk_inj, if_false, if_true, false_and, and_false, Nat.reduceEqDiff, reduceIte, reduceCtorEq, and_true, true_and] using h9
  · have h9 := r_bU R
    unfold CbU
    simpa (disch := omega) only [gI_uI, nB_u, kd_u, tk_ne9, tk_inj, if_false, if_true, false_and, and_false, Nat.reduceEqDiff, reduceIte, reduceCtorEq, and_true, true_and] using h9
  · have h9 := r_bq R
    unfold Cbq
    simpa (disch := omega) only [nB_u, totp_u, tk_ne9, tk_inj, if_false, if_true, false_and, and_false, Nat.reduceEqDiff, reduceIte, reduceCtorEq, and_true, true_and] using h9
  · have h9 := r_ps R
    unfold Cps
    simpa (disch := omega) only [nB_u, nO_u, nInSt_u, nProm_u, tk_ne9, tk_inj, if_false, if_true, false_and, and_false, Nat.reduceEqDiff, reduceIte, reduceCtorEq, and_true, true_and] using h9
  · have h9 := r_bp R
    unfold Cbp
    simpa (disch := omega) only [gL_uI, nB_u, tk_ne9, tk_inj, if_false, if_true, false_and, and_false, Nat.reduceEqDiff, reduceIte, reduceCtorEq, and_true, true_and] using h9
  · have h9 := r_bc R
    unfold Cbc
    simpa (disch := omega) only [nB_u, hN_u, tot_u, tk_ne9, tk_inj, if_false, if_true, false_and, and_false, Nat.reduceEqDiff, reduceIte, reduceCtorEq, and_true, true_and] using h9
  · have h9 := r_fB R
    unfold CfB
    simpa (disch := omega) only [sX_wI, nB_u, tk_ne9, tk_inj, if_false, if_true, false_and, and_false, Nat.reduceEqDiff, reduceIte, reduceCtorEq, and_true, true_and] using h9
  · have h9 := r_fL R
    unfold CfL
    simpa (disch := omega) only [sX_wI, nLn_u, tk_ne9, tk_inj, if_false, if_true, false_and, and_false, Nat.reduceEqDiff, reduceIte, reduceCtorEq, and_true, true_and] using h9
  · have h9 := r_fO R
    unfold CfO
    simpa (disch := omega) only [sX_wI, nOp_u, tk_ne9, tk_inj, if_false, if_true, false_and, and_false, Nat.reduceEqDiff, reduceIte, reduceCtorEq, and_true, true_and] using h9
  · have h9 := r_fM R
    unfold CfM
    simpa (disch := omega) only [sX_wI, nM_u, tk_ne9, tk_inj, if_false, if_true, false_and, and_false, Nat.reduceEqDiff, reduceIte, reduceCtorEq, and_true, true_and] using h9
  · have h9 := r_fP R
    unfold CfP
    simpa (disch := omega) only [sX_wI, nP_u, tk_ne9, tk_inj, if_false, if_true, false_and, and_false, Nat.reduceEqDiff, reduceIte, reduceCtorEq, and_true, true_and] using h9
  · have h9 := r_fR R
    unfold CfR
    simpa (disch := omega) only [sX_wI, nO_u, tk_ne9, tk_inj, if_false, if_true, false_and, and_false, Nat.reduceEqDiff, reduceIte, reduceCtorEq, and_true, true_and] using h9
  · have h9 := r_fG R
    exact h9
  · have h9 := r_m0 R
    unfold Cm0
    simpa (disch := omega) only [sP_wI, nM_u, tk_ne9, tk_inj, if_false, if_true, false_and, and_false, Nat.reduceEqDiff, reduceIte, reduceCtorEq, and_true, true_and] using h9
  · have h9 := r_mn R
    unfold Cmn
    simpa (disch := omega) only [sI_wI, nM_u, tk_ne9, tk_inj, if_false, if_true, false_and, and_false, Nat.reduceEqDiff, reduceIte, reduceCtorEq, and_true, true_and] using h9
  · have h9 := r_m1 R
    unfold Cm1
    simpa (disch := omega) only [sI_wI, gI_uI, nM_u, tk_ne9, tk_inj, if_false, if_true, false_and, and_false, Nat.reduceEqDiff, reduceIte, reduceCtorEq, and_true, true_and] using h9
  · have h9 := r_m2 R
    unfold Cm2
    simpa (disch := omega) only [sI_wI, gI_uI, nM_u, tk_ne9, tk_inj, if_false, if_true, false_and, and_false, Nat.reduceEqDiff, reduceIte, reduceCtorEq, and_true, true_and] using h9
  · have h9 := r_m3 R
    unfold Cm3
    simpa (disch := omega) only [sI_wI, gI_uI, nM_u, tk_ne9, tk_inj, if_false, if_true, false_and, and_false, Nat.reduceEqDiff, reduceIte, reduceCtorEq, and_true, true_and] using h9
  · have h9 := r_m4 R
    unfold Cm4
    simpa (disch := omega) only [sI_wI, gI_uI, nM_u, tk_ne9, tk_inj, if_false, if_true, false_and, and_false, Nat.reduceEqDiff, reduceIte, reduceCtorEq, and_true, true_and] using h9
  · have h9 := r_m5 R
    unfold Cm5
    simpa (disch := omega) only [sI_wI, gI_uI, nM_u, tk_ne9, tk_inj, if_false, if_true, false_and, and_false, Nat.reduceEqDiff, reduceIte, reduceCtorEq, and_true, true_and] using h9
  · have h9 := r_m9 R
    unfold Cm9
    simpa (disch := omega) only [sI_wI, gI_uI, nM_u, tk_ne9, tk_inj, if_false, if_true, false_and, and_false, Nat.reduceEqDiff, reduceIte, reduceCtorEq, and_true, true_and] using h9
  · have h9 := r_m11 R
    unfold Cm11
    simpa (disch := omega) only [sI_wI, gI_uI, nM_u, tk_ne9, tk_inj, if_false, if_true, false_and, and_false, Nat.reduceEqDiff, reduceIte, reduceCtorEq, and_true, true_and] using h9
  · have h9 := r_m13 R
    unfold Cm13
    simpa (disch := omega) only [sI_wI, gI_uI, nM_u, tk_ne9, tk_inj, if_false, if_true, false_and, and_false, Nat.reduceEqDiff, reduceIte, reduceCtorEq, and_true, true_and] using h9
  · have h9 := r_m14 R
    unfold Cm14
    simpa (disch := omega) only [sI_wI, gI_uI, nM_u, tk_ne9, tk_inj, if_false, if_true, false_and, and_false, Nat.reduceEqDiff, reduceIte, reduceCtorEq, and_true, true_and] using h9
  · have h9 := r_m6 R
    unfold Cm6
    simpa (disch := omega) only [sP_wI, gI_uI, nM_u, tk_ne9, tk_inj, if_false, if_true, false_and, and_false, Nat.reduceEqDiff, reduceIte, reduceCtorEq, and_true, true_and] using h9
  · have h9 := r_m7 R
    unfold Cm7
    simpa (disch := omega) only [sP_wI, gI_uI, nM_u, tk_ne9, tk_inj, if_false, if_true, false_and, and_false, Nat.reduceEqDiff, reduceIte, reduceCtorEq, and_true, true_and] using h9
  · have h9 := r_m8 R
    unfold Cm8
    simpa (disch := omega) only [sP_wI, gI_uI, nM_u, tk_ne9, tk_inj, if_false, if_true, false_and, and_false, Nat.reduceEqDiff, reduceIte, reduceCtorEq, and_true, true_and] using h9
  · have h9 := r_m12 R
    unfold Cm12
    simpa (disch := omega) only [sP_wI, gI_uI, nM_u, tk_ne9, tk_inj, if_false, if_true, false_and, and_false, Nat.reduceEqDiff, reduceIte, reduceCtorEq, and_true, true_and] using h9
  · have h9 := r_m10 R
    unfold Cm10
    simpa (disch := omega) only [sI_wI, gI_uI, nB_u, nM_u, tk_ne9, tk_inj, if_false, if_true, false_and, and_false, Nat.reduceEqDiff, reduceIte, reduceCtorEq, and_true, true_and] using h9
  · have h9 := r_mma R
    unfold Cmma
    simpa (disch := omega) only [gI_uI, nM_u, tk_ne9, tk_inj, if_false, if_true, false_and, and_false, Nat.reduceEqDiff, reduceIte, reduceCtorEq, and_true, true_and] using h9
  · have h9 := r_mmb R
    unfold Cmmb
    simpa (disch := omega) only [gI_uI, nB_u, nM_u, nP_u, tk_ne9, tk_inj, if_false, if_true, false_and, and_false, Nat.reduceEqDiff, reduceIte, reduceCtorEq, and_true, true_and] using h9
  · have h9 := r_mmc R
    unfold Cmmc
    simpa (disch := omega) only [gI_uI, nM_u, tk_ne9, tk_inj, if_false, if_true, false_and, and_false, Nat.reduceEqDiff, reduceIte, reduceCtorEq, and_true, true_and] using h9
  · have h9 := r_mr29 R
    unfold Cmr29
    simpa (disch := omega) only [gI_uI, nM_u, tk_ne9, tk_inj, if_false, if_true, false_and, and_false, Nat.reduceEqDiff, reduceIte, reduceCtorEq, and_true, true_and] using h9
  · have h9 := r_mr30 R
    unfold Cmr30
    simpa (disch := omega) only [gI_uI, nM_u, tk_ne9, tk_inj, if_false, if_true, false_and, and_false, Nat.reduceEqDiff, reduceIte, reduceCtorEq, and_true, true_and] using h9
  · have h9 := r_mr31 R
    unfold Cmr31
    simpa (disch := omega) only [gI_uI, nM_u, tk_ne9, tk_inj, if_false, if_true, false_and, and_false, Nat.reduceEqDiff, reduceIte, reduceCtorEq, and_true, true_and] using h9
  · have h9 := r_mr32 R
    unfold Cmr32
    simpa (disch := omega) only [gI_uI, nM_u, tk_ne9, tk_inj, if_false, if_true, false_and, and_false, Nat.reduceEqDiff, reduceIte, reduceCtorEq, and_true, true_and] using h9
  · have h9 := r_mr35 R
    unfold Cmr35
    simpa (disch := omega) only [gI_uI, nM_u, tk_ne9, tk_inj, if_false, if_true, false_and, and_false, Nat.reduceEqDiff, reduceIte, reduceCtorEq, and_true, true_and] using h9
  · have h9 := r_mr39 R
    unfold Cmr39
    simpa (disch := omega) only [gI_uI, nM_u, tk_ne9, tk_inj, if_false, if_true, false_and, and_false, Nat.reduceEqDiff, reduceIte, reduceCtorEq, and_true, true_and] using h9
  · have h9 := r_mr40 R
    unfold Cmr40
    simpa (disch := omega) only [gI_uI, nM_u, tk_ne9, tk_inj, if_false, if_true, false_and, and_false, Nat.reduceEqDiff, reduceIte, reduceCtorEq, and_true, true_and] using h9
  · have h9 := r_md R
    unfold Cmd
    simpa (disch := omega) only [gI_uI, nM_u, tk_ne9, tk_inj, if_false, if_true, false_and, and_false, Nat.reduceEqDiff, reduceIte, reduceCtorEq, and_true, true_and] using h9
  · have h9 := r_mw R
    unfold Cmw
    simpa (disch := omega) only [gI_uI, nM_u, tk_ne9, tk_inj, if_false, if_true, false_and, and_false, Nat.reduceEqDiff, reduceIte, reduceCtorEq, and_true, true_and] using h9
  · have h9 := r_q0 R
    unfold Cq0
    simpa (disch := omega) only [sP_wI, nP_u, tk_ne9, tk_inj, if_false, if_true, false_and, and_false, Nat.reduceEqDiff, reduceIte, reduceCtorEq, and_true, true_and] using h9
  · have h9 := r_qn R
    unfold Cqn
    simpa (disch := omega) only [sI_wI, nP_u, tk_ne9, tk_inj, if_false, if_true, false_and, and_false, Nat.reduceEqDiff, reduceIte, reduceCtorEq, and_true, true_and] using h9
  · have h9 := r_q1 R
    unfold Cq1
    simpa (disch := omega) only [sI_wI, gI_uI, nP_u, tk_ne9, tk_inj, if_false, if_true, false_and, and_false, Nat.reduceEqDiff, reduceIte, reduceCtorEq, and_true, true_and] using h9
  · have h9 := r_q2 R
    unfold Cq2
    simpa (disch := omega) only [sI_wI, gI_uI, nP_u, tk_ne9, tk_inj, if_false, if_true, false_and, and_false, Nat.reduceEqDiff, reduceIte, reduceCtorEq, and_true, true_and] using h9
  · have h9 := r_q3 R
    unfold Cq3
    simpa (disch := omega) only [sI_wI, gI_uI, nP_u, tk_ne9, tk_inj, if_false, if_true, false_and, and_false, Nat.reduceEqDiff, reduceIte, reduceCtorEq, and_true, true_and] using h9
  · have h9 := r_q4 R
    unfold Cq4
    simpa (disch := omega) only [sP_wI, nP_u, tk_ne9, tk_inj, if_false, if_true, false_and, and_false, Nat.reduceEqDiff, reduceIte, reduceCtorEq, and_true, true_and] using h9
  · have h9 := r_q5 R
    unfold Cq5
    simpa (disch := omega) only [sP_wI, nP_u, tk_ne9, tk_inj, if_false, if_true, false_and, and_false, Nat.reduceEqDiff, reduceIte, reduceCtorEq, and_true, true_and] using h9
  · have h9 := r_q6 R
    unfold Cq6
    simpa (disch := omega) only [sI_wI, gI_uI, nM_u, nP_u, tk_ne9, tk_inj, if_false, if_true, false_and, and_false, Nat.reduceEqDiff, reduceIte, reduceCtorEq, and_true, true_and] using h9
  · have h9 := r_ql R
    unfold Cql
    simpa (disch := omega) only [sI_wI, gI_uI, nP_u, tk_ne9, tk_inj, if_false, if_true, false_and, and_false, Nat.reduceEqDiff, reduceIte, reduceCtorEq, and_true, true_and] using h9
  · have h9 := r_qw R
    unfold Cqw
    simpa (disch := omega) only [sI_wI, gI_uI, nP_u, tk_ne9, tk_inj, if_false, if_true, false_and, and_false, Nat.reduceEqDiff, reduceIte, reduceCtorEq, and_true, true_and] using h9
  · have h9 := r_qm R
    unfold Cqm
    simpa (disch := omega) only [gI_uI, nP_u, tk_ne9, tk_inj, if_false, if_true, false_and, and_false, Nat.reduceEqDiff, reduceIte, reduceCtorEq, and_true, true_and] using h9
  · have h9 := r_qr R
    unfold Cqr
    simpa (disch := omega) only [gI_uI, nP_u, tk_ne9, tk_inj, if_false, if_true, false_and, and_false, Nat.reduceEqDiff, reduceIte, reduceCtorEq, and_true, true_and] using h9
  · have h9 := r_r0 R
    unfold Cr0
    simpa (disch := omega) only [sP_wI, nO_u, tk_ne9, tk_inj, if_false, if_true, false_and, and_false, Nat.reduceEqDiff, reduceIte, reduceCtorEq, and_true, true_and] using h9
  · have h9 := r_r1 R
    unfold Cr1
    simpa (disch := omega) only [sP_wI, gI_uI, nO_u, tk_ne9, tk_inj, if_false, if_true, false_and, and_false, Nat.reduceEqDiff, reduceIte, reduceCtorEq, and_true, true_and] using h9
  · have h9 := r_r2 R
    unfold Cr2
    simpa (disch := omega) only [sI_wI, gI_uI, nO_u, tk_ne9, tk_inj, if_false, if_true, false_and, and_false, Nat.reduceEqDiff, reduceIte, reduceCtorEq, and_true, true_and] using h9
  · have h9 := r_r3 R
    unfold Cr3
    simpa (disch := omega) only [sI_wI, gI_uI, nO_u, tk_ne9, tk_inj, if_false, if_true, false_and, and_false, Nat.reduceEqDiff, reduceIte, reduceCtorEq, and_true, true_and] using h9
  · have h9 := r_r4 R
    unfold Cr4
    simpa (disch := omega) only [sI_wI, gI_uI, nO_u, tk_ne9, tk_inj, if_false, if_true, false_and, and_false, Nat.reduceEqDiff, reduceIte, reduceCtorEq, and_true, true_and] using h9
  · have h9 := r_r5 R
    unfold Cr5
    simpa (disch := omega) only [sP_wI, gI_uI, nO_u, tk_ne9, tk_inj, if_false, if_true, false_and, and_false, Nat.reduceEqDiff, reduceIte, reduceCtorEq, and_true, true_and] using h9
  · have h9 := r_r6 R
    unfold Cr6
    simpa (disch := omega) only [sI_wI, gI_uI, nO_u, tk_ne9, tk_inj, if_false, if_true, false_and, and_false, Nat.reduceEqDiff, reduceIte, reduceCtorEq, and_true, true_and] using h9
  · have h9 := r_rk R
    unfold Crk
    simpa (disch := omega) only [gI_uI, nO_u, tk_ne9, tk_inj, if_false, if_true, false_and, and_false, Nat.reduceEqDiff, reduceIte, reduceCtorEq, and_true, true_and] using h9
  · have h9 := r_rp R
    unfold Crp
    simpa (disch := omega) only [gI_uI, nO_u, tk_ne9, tk_inj, if_false, if_true, false_and, and_false, Nat.reduceEqDiff, reduceIte, reduceCtorEq, and_true, true_and] using h9
  · have h9 := r_rq R
    unfold Crq
    simpa (disch := omega) only [gI_uI, nO_u, pr_u, tk_ne9, tk_inj, if_false, if_true, false_and, and_false, Nat.reduceEqDiff, reduceIte, reduceCtorEq, and_true, true_and] using h9
  · have h9 := r_rr R
    unfold Crr
    simpa (disch := omega) only [gI_uI, nO_u, pr_u, tk_ne9, tk_inj, if_false, if_true, false_and, and_false, Nat.reduceEqDiff, reduceIte, reduceCtorEq, and_true, true_and] using h9
  · have h9 := r_rs R
    unfold Crs
    simpa (disch := omega) only [gI_uI, nB_u, nO_u, tk_ne9, tk_inj, if_false, if_true, false_and, and_false, Nat.reduceEqDiff, reduceIte, reduceCtorEq, and_true, true_and] using h9
set_option maxHeartbeats 8000000 in
theorem rel_rtot {e : Nat} {a : Sg} {M : MS} (R : Rel e a M) (v : Int32) : Rel e (wI a (tk 1 0) 6 v) (uI M 258 0 v) := by
  unfold Rel
  refine ⟨?_, ?_, ?_, ?_, ?_, ?_, ?_, ?_, ?_, ?_, ?_, ?_, ?_, ?_, ?_, ?_, ?_, ?_, ?_, ?_, ?_, ?_, ?_, ?_, ?_, ?_, ?_, ?_, ?_, ?_, ?_, ?_, ?_, ?_, ?_, ?_, ?_, ?_, ?_, ?_, ?_, ?_, ?_, ?_, ?_, ?_, ?_, ?_, ?_, ?_, ?_, ?_, ?_, ?_, ?_, ?_, ?_, ?_, ?_, ?_, ?_, ?_, ?_, ?_, ?_, ?_, ?_, ?_, ?_, ?_, ?_, ?_, ?_, ?_, ?_, ?_, ?_, ?_, ?_, ?_, ?_, ?_, ?_, ?_, ?_, ?_, ?_, ?_, ?_, ?_, ?_, ?_, ?_, ?_, ?_, ?_, ?_, ?_, ?_, ?_, ?_, ?_, ?_, ?_, ?_, ?_, ?_, ?_, ?_, ?_, ?_, ?_, ?_, ?_, ?_, ?_, ?_, ?_, ?_, ?_, ?_, ?_, ?_, ?_, ?_, ?_, ?_, ?_, ?_, ?_, ?_, ?_, ?_, ?_, ?_, ?_, ?_, ?_, ?_, ?_, ?_, ?_, ?_, ?_, ?_, ?_, ?_, ?_, ?_⟩
  · have h9 := r_shm R
    exact h9
  · have h9 := r_px0 R
    exact h9
  · have h9 := r_px1 R
    exact h9
  · have h9 := r_px2 R
    exact h9
  · have h9 := r_pf0 R
    exact h9
  · have h9 := r_pf1 R
    exact h9
  · have h9 := r_pf3 R
    exact h9
  · have h9 := r_ps0 R
    exact h9
  · have h9 := r_ps2 R
    exact h9
  · have h9 := r_ps4 R
    exact h9
  · have h9 := r_pk R
    exact h9
  · have h9 := r_pkl R
    exact h9
  · have h9 := r_pko R
    exact h9
  · have h9 := r_ghour R
    unfold Cghour
    simpa (disch := omega) only [sI_wI, gI_uI, tk_ne9, tk_inj, if_false, if_true, false_and, and_false, Nat.reduceEqDiff, reduceIte, reduceCtorEq, and_true, true_and] using h9
  · have h9 := r_gstand R
    unfold Cgstand
    simpa (disch := omega) only [sI_wI, gI_uI, tk_ne9, tk_inj, if_false, if_true, false_and, and_false, Nat.reduceEqDiff, reduceIte, reduceCtorEq, and_true, true_and] using h9
  · have h9 := r_gbought R
    unfold Cgbought
    simpa (disch := omega) only [sI_wI, gI_uI, tk_ne9, tk_inj, if_false, if_true, false_and, and_false, Nat.reduceEqDiff, reduceIte, reduceCtorEq, and_true, true_and] using h9
  · have h9 := r_gmach R
    unfold Cgmach
    simpa (disch := omega) only [sI_wI, gI_uI, tk_ne9, tk_inj, if_false, if_true, false_and, and_false, Nat.reduceEqDiff, reduceIte, reduceCtorEq, and_true, true_and] using h9
  · have h9 := r_gpers R
    unfold Cgpers
    simpa (disch := omega) only [sI_wI, gI_uI, tk_ne9, tk_inj, if_false, if_true, false_and, and_false, Nat.reduceEqDiff, reduceIte, reduceCtorEq, and_true, true_and] using h9
  · have h9 := r_gworked R
    unfold Cgworked
    simpa (disch := omega) only [sI_wI, gI_uI, tk_ne9, tk_inj, if_false, if_true, false_and, and_false, Nat.reduceEqDiff, reduceIte, reduceCtorEq, and_true, true_and] using h9
  · have h9 := r_grep R
    unfold Cgrep
    simpa (disch := omega) only [sI_wI, gI_uI, tk_ne9, tk_inj, if_false, if_true, false_and, and_false, Nat.reduceEqDiff, reduceIte, reduceCtorEq, and_true, true_and] using h9
  · have h9 := r_gbat R
    unfold Cgbat
    simpa (disch := omega) only [sI_wI, gI_uI, tk_ne9, tk_inj, if_false, if_true, false_and, and_false, Nat.reduceEqDiff, reduceIte, reduceCtorEq, and_true, true_and] using h9
  · have h9 := r_gord R
    unfold Cgord
    simpa (disch := omega) only [sI_wI, gI_uI, tk_ne9, tk_inj, if_false, if_true, false_and, and_false, Nat.reduceEqDiff, reduceIte, reduceCtorEq, and_true, true_and] using h9
  · have h9 := r_gq R
    unfold Cgq
    simpa (disch := omega) only [sI_wI, gI_uI, tk_ne9, tk_inj, if_false, if_true, false_and, and_false, Nat.reduceEqDiff, reduceIte, reduceCtorEq, and_true, true_and] using h9
  · have h9 := r_nB R
    unfold CnB
    simpa (disch := omega) only [gI_uI, nB_u, tk_ne9, tk_inj, if_false, if_true, false_and, and_false, Nat.reduceEqDiff, reduceIte, reduceCtorEq, and_true, true_and] using h9
  · have h9 := r_nBx R
    unfold CnBx
    simpa (disch := omega) only [nB_u, tk_ne9, tk_inj, if_false, if_true, false_and, and_false, Nat.reduceEqDiff, reduceIte, reduceCtorEq, and_true, true_and] using h9
  · have h9 := r_nM R
    unfold CnM
    simpa (disch := omega) only [gI_uI, nM_u, tk_ne9, tk_inj, if_false, if_true, false_and, and_false, Nat.reduceEqDiff, reduceIte, reduceCtorEq, and_true, true_and] using h9
  · have h9 := r_nMx R
    unfold CnMx
    simpa (disch := omega) only [nM_u, tk_ne9, tk_inj, if_false, if_true, false_and, and_false, Nat.reduceEqDiff, reduceIte, reduceCtorEq, and_true, true_and] using h9
  · have h9 := r_nP R
    unfold CnP
    simpa (disch := omega) only [gI_uI, nP_u, tk_ne9, tk_inj, if_false, if_true, false_and, and_false, Nat.reduceEqDiff, reduceIte, reduceCtorEq, and_true, true_and] using h9
  · have h9 := r_nPx R
    unfold CnPx
    simpa (disch := omega) only [nP_u, tk_ne9, tk_inj, if_false, if_true, false_and, and_false, Nat.reduceEqDiff, reduceIte, reduceCtorEq, and_true, true_and] using h9
  · have h9 := r_nO R
    unfold CnO
    simpa (disch := omega) only [gI_uI, nO_u, tk_ne9, tk_inj, if_false, if_true, false_and, and_false, Nat.reduceEqDiff, reduceIte, reduceCtorEq, and_true, true_and] using h9
  · have h9 := r_nOx R
    unfold CnOx
    simpa (disch := omega) only [nO_u, tk_ne9, tk_inj, if_false, if_true, false_and, and_false, Nat.reduceEqDiff, reduceIte, reduceCtorEq, and_true, true_and] using h9
  · have h9 := r_hr R
    unfold Chr
    simpa (disch := omega) only [gI_uI, hN_u, tk_ne9, tk_inj, if_false, if_true, false_and, and_false, Nat.reduceEqDiff, reduceIte, reduceCtorEq, and_true, true_and] using h9
  · have h9 := r_hrx R
    unfold Chrx
    simpa (disch := omega) only [hN_u, tk_ne9, tk_inj, if_false, if_true, false_and, and_false, Nat.reduceEqDiff, reduceIte, reduceCtorEq, and_true, true_and] using h9
  · have h9 := r_stb R
    unfold Cstb
    simpa (disch := omega) only [gI_uI, tk_ne9, tk_inj, if_false, if_true, false_and, and_false, Nat.reduceEqDiff, reduceIte, reduceCtorEq, and_true, true_and] using h9
  · have h9 := r_ex R
    exact h9
  · have h9 := r_k0 R
    unfold Ck0
    simpa (disch := omega) only [sI_wI, tk_ne9, tk_inj, if_false, if_true, false_and, and_false, Nat.reduceEqDiff, reduceIte, reduceCtorEq, and_true, true_and] using h9
  · have h9 := r_k1 R
    unfold Ck1
    simpa (disch := omega) only [sI_wI, gI_uI, tk_ne9, tk_inj, if_false, if_true, false_and, and_false, Nat.reduceEqDiff, reduceIte, reduceCtorEq, and_true, true_and] using h9
  · have h9 := r_k2 R
    unfold Ck2
    simpa (disch := omega) only [sI_wI, gI_uI, tk_ne9, tk_inj, if_false, if_true, false_and, and_false, Nat.reduceEqDiff, reduceIte, reduceCtorEq, and_true, true_and] using h9
  · have h9 := r_k3 R
    unfold Ck3
    simpa (disch := omega) only [sI_wI, gI_uI, tk_ne9, tk_inj, if_false, if_true, false_and, and_false, Nat.reduceEqDiff, reduceIte, reduceCtorEq, and_true, true_and] using h9
  · have h9 := r_k5 R
    unfold Ck5
    simpa (disch := omega) only [sI_wI, gI_uI, tk_ne9, tk_inj, if_false, if_true, false_and, and_false, Nat.reduceEqDiff, reduceIte, reduceCtorEq, and_true, true_and] using h9
  · have h9 := r_k7 R
    unfold Ck7
    simpa (disch := omega) only [sI_wI, gI_uI, tk_ne9, tk_inj, if_false, if_true, false_and, and_false, Nat.reduceEqDiff, reduceIte, reduceCtorEq, and_true, true_and] using h9
  · have h9 := r_k8 R
    unfold Ck8
    simpa (disch := omega) only [sI_wI, gI_uI, tk_ne9, tk_inj, if_false, if_true, false_and, and_false, Nat.reduceEqDiff, reduceIte, reduceCtorEq, and_true, true_and] using h9
  · have h9 := r_k9 R
    unfold Ck9
    simpa (disch := omega) only [sI_wI, gI_uI, tk_ne9, tk_inj, if_false, if_true, false_and, and_false, Nat.reduceEqDiff, reduceIte, reduceCtorEq, and_true, true_and] using h9
  · have h9 := r_k10 R
    unfold Ck10
    simpa (disch := omega) only [sI_wI, nB_u, mInSt_u, tk_ne9, tk_inj, if_false, if_true, false_and, and_false, Nat.reduceEqDiff, reduceIte, reduceCtorEq, and_true, true_and] using h9
  · have h9 := r_k11 R
    unfold Ck11
    simpa (disch := omega) only [sI_wI, nO_u, mProm_u, tk_ne9, tk_inj, if_false, if_true, false_and, and_false, Nat.reduceEqDiff, reduceIte, reduceCtorEq, and_true, true_and] using h9
  · have h9 := r_k12 R
    unfold Ck12
    simpa (disch := omega) only [sI_wI, tk_ne9, tk_inj, if_false, if_true, false_and, and_false, Nat.reduceEqDiff, reduceIte, reduceCtorEq, and_true, true_and] using h9
  · have h9 := r_ksa R
    unfold Cksa
    simpa (disch := omega) only [gI_uI, tk_ne9, tk_inj, if_false, if_true, false_and, and_false, Nat.reduceEqDiff, reduceIte, reduceCtorEq, and_true, true_and] using h9
  · have h9 := r_ksb R
    unfold Cksb
    simpa (disch := omega) only [gI_uI, nOp_u, tk_ne9, tk_inj, if_false, if_true, false_and, and_false, Nat.reduceEqDiff, reduceIte, reduceCtorEq, and_true, true_and] using h9
  · have h9 := r_ksc R
    unfold Cksc
    simpa (disch := omega) only [gI_uI, nLn_u, nOp_u, tk_ne9, tk_inj, if_false, if_true, false_and, and_false, Nat.reduceEqDiff, reduceIte, reduceCtorEq, and_true, true_and] using h9
  · have h9 := r_kw R
    unfold Ckw
    simpa (disch := omega) only [gI_uI, tk_ne9, tk_inj, if_false, if_true, false_and, and_false, Nat.reduceEqDiff, reduceIte, reduceCtorEq, and_true, true_and] using h9
  · have h9 := r_kl R
    unfold Ckl
    simpa (disch := omega) only [gI_uI, nLn_u, tk_ne9, tk_inj, if_false, if_true, false_and, and_false, Nat.reduceEqDiff, reduceIte, reduceCtorEq, and_true, true_and] using h9
  · have h9 := r_ko R
    unfold Cko
    simpa (disch := omega) only [gI_uI, nOp_u, tk_ne9, tk_inj, if_false, if_true, false_and, and_false, Nat.reduceEqDiff, reduceIte, reduceCtorEq, and_true, true_and] using h9
  · have h9 := r_kp R
    unfold Ckp
    simpa (disch := omega) only [gI_uI, tk_ne9, tk_inj, if_false, if_true, false_and, and_false, Nat.reduceEqDiff, reduceIte, reduceCtorEq, and_true, true_and] using h9
  · have h9 := r_l0 R
    unfold Cl0
    simpa (disch := omega) only [sP_wI, nLn_u, tk_ne9, tk_inj, if_false, if_true, false_and, and_false, Nat.reduceEqDiff, reduceIte, reduceCtorEq, and_true, true_and] using h9
  · have h9 := r_l1 R
    unfold Cl1
    simpa (disch := omega) only [sP_wI, nLn_u, lnP_u, tk_ne9, tk_inj, if_false, if_true, false_and, and_false, Nat.reduceEqDiff, reduceIte, reduceCtorEq, and_true, true_and] using h9
  · have h9 := r_l2 R
    unfold Cl2
    simpa (disch := omega) only [sI_wI, gI_uI, nLn_u, tk_ne9, tk_inj, if_false, if_true, false_and, and_false, Nat.reduceEqDiff, reduceIte, reduceCtorEq, and_true, true_and] using h9
  · have h9 := r_l3 R
    unfold Cl3
    simpa (disch := omega) only [sP_wI, gI_uI, nLn_u, tk_ne9, tk_inj, if_false, if_true, false_and, and_false, Nat.reduceEqDiff, reduceIte, reduceCtorEq, and_true, true_and] using h9
  · have h9 := r_lm R
    unfold Clm
    simpa (disch := omega) only [gI_uI, nLn_u, lnP_u, tk_ne9, tk_inj, if_false, if_true, false_and, and_false, Nat.reduceEqDiff, reduceIte, reduceCtorEq, and_true, true_and] using h9
  · have h9 := r_o0 R
    unfold Co0
    simpa (disch := omega) only [sP_wI, nOp_u, tk_ne9, tk_inj, if_false, if_true, false_and, and_false, Nat.reduceEqDiff, reduceIte, reduceCtorEq, and_true, true_and] using h9
  · have h9 := r_o1 R
    unfold Co1
    simpa (disch := omega) only [sI_wI, gI_uI, nOp_u, tk_ne9, tk_inj, if_false, if_true, false_and, and_false, Nat.reduceEqDiff, reduceIte, reduceCtorEq, and_true, true_and] using h9
  · have h9 := r_o2 R
    unfold Co2
    simpa (disch := omega) only [sI_wI, gI_uI, nOp_u, tk_ne9, tk_inj, if_false, if_true, false_and, and_false, Nat.reduceEqDiff, reduceIte, reduceCtorEq, and_true, true_and] using h9
  · have h9 := r_o3 R
    unfold Co3
    simpa (disch := omega) only [sI_wI, gI_uI, nOp_u, tk_ne9, tk_inj, if_false, if_true, false_and, and_false, Nat.reduceEqDiff, reduceIte, reduceCtorEq, and_true, true_and] using h9
  · have h9 := r_om R
    unfold Com
    simpa (disch := omega) only [gI_uI, nOp_u, tk_ne9, tk_inj, if_false, if_true, false_and, and_false, Nat.reduceEqDiff, reduceIte, reduceCtorEq, and_true, true_and] using h9
  · have h9 := r_b0 R
    unfold Cb0
    simpa (disch := omega) only [sP_wI, nB_u, tk_ne9, tk_inj, if_false, if_true, false_and, and_false, Nat.reduceEqDiff, reduceIte, reduceCtorEq, and_true, true_and] using h9
  · have h9 := r_bn R
    unfold Cbn
    simpa (disch := omega) only [sI_wI, nB_u, tk_ne9, tk_inj, if_false, if_true, false_and, and_false, Nat.reduceEqDiff, reduceIte, reduceCtorEq, and_true, true_and] using h9
  · have h9 := r_bk R
    unfold Cbk
    simpa (disch := omega) only [sP_wI, nB_u, kd_u, tk_ne9, tk_inj, if_false, if_true, false_and, and_false, Nat.reduceEqDiff, reduceIte, reduceCtorEq, and_true, true_and] using h9
  · have h9 := r_b2 R
    unfold Cb2
    simpa (disch := omega) only [sI_wI, gI_uI, nB_u, tk_ne9, tk_inj, if_false, if_true, false_and, and_false, Nat.reduceEqDiff, reduceIte, reduceCtorEq, and_true, true_and] using h9
  · have h9 := r_b3 R
    unfold Cb3
    simpa (disch := omega) only [sI_wI, gI_uI, nB_u, tk_ne9, tk_inj, if_false, if_true, false_and, and_false, Nat.reduceEqDiff, reduceIte, reduceCtorEq, and_true, true_and] using h9
  · have h9 := r_b4 R
    unfold Cb4
    simpa (disch := omega) only [sI_wI, gI_uI, nB_u, tk_ne9, tk_inj, if_false, if_true, false_and, and_false, Nat.reduceEqDiff, reduceIte, reduceCtorEq, and_true, true_and] using h9
  · have h9 := r_b5 R
    unfold Cb5
    simpa (disch := omega) only [sI_wI, gI_uI, nB_u, tk_ne9, tk_inj, if_false, if_true, false_and, and_false, Nat.reduceEqDiff, reduceIte, reduceCtorEq, and_true, true_and] using h9
  · have h9 := r_b6 R
    unfold Cb6
    simpa (disch := omega) only [sI_wI, gI_uI, nB_u, tk_ne9, tk_inj, if_false, if_true, false_and, and_false, Nat.reduceEqDiff, reduceIte, reduceCtorEq, and_true, true_and] using h9
  · have h9 := r_b7 R
    unfold Cb7
    simpa (disch := omega) only [sI_wI, gI_uI, nB_u, tk_ne9, tk_inj, if_false, if_true, false_and, and_false, Nat.reduceEqDiff, reduceIte, reduceCtorEq, and_true, true_and] using h9
  · have h9 := r_b8 R
    unfold Cb8
    simpa (disch := omega) only [sI_wI, gI_uI, nB_u, tk_ne9, tk_inj, if_false, if_true, false_and, and_false, Nat.reduceEqDiff, reduceIte, reduceCtorEq, and_true, true_and] using h9
  · have h9 := r_b9 R
    unfold Cb9
    simpa (disch := omega) only [sI_wI, gI_uI, nB_u, tk_ne9, tk_inj, if_false, if_true, false_and, and_false, Nat.reduceEqDiff, reduceIte, reduceCtorEq, and_true, true_and] using h9
  · have h9 := r_b10 R
    unfold Cb10
    simpa (disch := omega) only [sI_wI, gI_uI, nB_u, tk_ne9, tk_inj, if_false, if_true, false_and, and_false, Nat.reduceEqDiff, reduceIte, reduceCtorEq, and_true, true_and] using h9
  · have h9 := r_b11 R
    unfold Cb11
    simpa (disch := omega) only [sL_wI, gL_uI, nB_u, tk_ne9, tk_inj, if_false, if_true, false_and, and_false, Nat.reduceEqDiff, reduceIte, reduceCtorEq, and_true, true_and] using h9
  · have h9 := r_bK R
    unfold CbK
    simpa (disch := omega) only [gI_uI, nB_u, kd_u, tk_ne9, tk_inj, if_false, if_true, false_and, and_false, Nat.reduceEqDiff, reduceIte, reduceCtorEq, and_true, true_and] using h9
  · have h9 := r_bP R
    unfold CbP
    simpa (disch := omega) only [gI_uI, nB_u, pc_u, tk_ne9, tk_inj, if_false, if_true, false_and, and_false, Nat.reduceEqDiff, reduceIte, reduceCtorEq, and_true, true_and] using h9
  · have h9 := r_bO R
    unfold CbO
    simpa (disch := omega) only [gI_uI, nB_u, op_u, tk_ne9, tk_inj, if_false, if_true, false_and, and_false, Nat.reduceEqDiff, reduceIte, reduceCtorEq, and_true, true_and] using h9
  · have h9 := r_bW R
    unfold CbW
    simpa (disch := omega) only [gI_uI, nB_u, nOp_u, kd_u, op_u, tk_ne9, tk_inj, if_false, if_true, false_and, and_false, Nat.reduceEqDiff, reduceIte, reduceCtorEq, and_true, true_and] using h9
  · have h9 := r_bZ R
    unfold CbZ
    simpa (disch := omega) only [gI_uI, nB_u, pc_u, tk_ne9, tk_inj, if_false, if_true, false_and, and_false, Nat.reduceEqDiff, reduceIte, reduceCtorEq, and_true, true_and] using h9
  · have h9 := r_bF R
    unfold CbF
    simpa (disch := omega) only [gI_uI, nB_u, tk_ne9, tk_inj, if_false, if_true, false_and, and_false, Nat.reduceEqDiff, reduceIte, reduceCtorEq, and_true, true_and] using h9
  · have h9 := r_bS R
    unfold CbS
    simpa (disch := omega) only [gI_uI, nB_u, tk_ne9, tk_inj, if_false, if_true, false_and, and_false, Nat.reduceEqDiff, reduceIte, reduceCtorEq, and_true, true_and] using h9
  · have h9 := r_bC R
    unfold CbC
    simpa (disch := omega) only [gI_uI, nB_u, tk_ne9, tk_inj, if_false, if_true, false_and, and_false, Nat.reduceEqDiff, reduceIte, reduceCtorEq, and_true, true_and] using h9
  · have h9 := r_bT R
    unfold CbT
    simpa (disch := omega) only [gI_uI, nB_u, tk_ne9, tk_inj, if_false, if_true, false_and, and_false, Nat.reduceEqDiff, reduceIte, reduceCtorEq, and_true, true_and] using h9
  · have h9 := r_bU R
    unfold CbU
    simpa (disch := omega) only [gI_uI, nB_u, kd_u, tk_ne9, tk_inj, if_false, if_true, false_and, and_false, Nat.reduceEqDiff, reduceIte, reduceCtorEq, and_true, true_and] using h9
  · have h9 := r_bq R
    unfold Cbq
    simpa (disch := omega) only [nB_u, totp_u, tk_ne9, tk_inj, if_false, if_true, false_and, and_false, Nat.reduceEqDiff, reduceIte, reduceCtorEq, and_true, true_and] using h9
  · have h9 := r_ps R
    unfold Cps
    simpa (disch := omega) only [nB_u, nO_u, nInSt_u, nProm_u, tk_ne9, tk_inj, if_false, if_true, false_and, and_false, Nat.reduceEqDiff, reduceIte, reduceCtorEq, and_true, true_and] using h9
  · have h9 := r_bp R
    unfold Cbp
    simpa (disch := omega) only [gL_uI, nB_u, tk_ne9, tk_inj, if_false, if_true, false_and, and_false, Nat.reduceEqDiff, reduceIte, reduceCtorEq, and_true, true_and] using h9
  · have h9 := r_bc R
    unfold Cbc
    simpa (disch := omega) only [nB_u, hN_u, tot_u, tk_ne9, tk_inj, if_false, if_true, false_and, and_false, Nat.reduceEqDiff, reduceIte, reduceCtorEq, and_true, true_and] using h9
  · have h9 := r_fB R
    unfold CfB
    simpa (disch := omega) only [sX_wI, nB_u, tk_ne9, tk_inj, if_false, if_true, false_and, and_false, Nat.reduceEqDiff, reduceIte, reduceCtorEq, and_true, true_and] using h9
  · have h9 := r_fL R
    unfold CfL
    simpa (disch := omega) only [sX_wI, nLn_u, tk_ne9, tk_inj, if_false, if_true, false_and, and_false, Nat.reduceEqDiff, reduceIte, reduceCtorEq, and_true, true_and] using h9
  · have h9 := r_fO R
    unfold CfO
    simpa (disch := omega) only [sX_wI, nOp_u, tk_ne9, tk_inj, if_false, if_true, false_and, and_false, Nat.reduceEqDiff, reduceIte, reduceCtorEq, and_true, true_and] using h9
  · have h9 := r_fM R
    unfold CfM
    simpa (disch := omega) only [sX_wI, nM_u, tk_ne9, tk_inj, if_false, if_true, false_and, and_false, Nat.reduceEqDiff, reduceIte, reduceCtorEq, and_true, true_and] using h9
  · have h9 := r_fP R
    unfold CfP
    simpa (disch := omega) only [sX_wI, nP_u, tk_ne9, tk_inj, if_false, if_true, false_and, and_false, Nat.reduceEqDiff, reduceIte, reduceCtorEq, and_true, true_and] using h9
  · have h9 := r_fR R
    unfold CfR
    simpa (disch := omega) only [sX_wI, nO_u, tk_ne9, tk_inj, if_false, if_true, false_and, and_false, Nat.reduceEqDiff, reduceIte, reduceCtorEq, and_true, true_and] using h9
  · have h9 := r_fG R
    exact h9
  · have h9 := r_m0 R
    unfold Cm0
    simpa (disch := omega) only [sP_wI, nM_u, tk_ne9, tk_inj, if_false, if_true, false_and, and_false, Nat.reduceEqDiff, reduceIte, reduceCtorEq, and_true, true_and] using h9
  · have h9 := r_mn R
    unfold Cmn
    simpa (disch := omega) only [sI_wI, nM_u, tk_ne9, tk_inj, if_false, if_true, false_and, and_false, Nat.reduceEqDiff, reduceIte, reduceCtorEq, and_true, true_and] using h9
  · have h9 := r_m1 R
    unfold Cm1
    simpa (disch := omega) only [sI_wI, gI_uI, nM_u, tk_ne9, tk_inj, if_false, if_true, false_and, and_false, Nat.reduceEqDiff, reduceIte, reduceCtorEq, and_true, true_and] using h9
  · have h9 := r_m2 R
    unfold Cm2
    simpa (disch := omega) only [sI_wI, gI_uI, nM_u, tk_ne9, tk_inj, if_false, if_true, false_and, and_false, Nat.reduceEqDiff, reduceIte, reduceCtorEq, and_true, true_and] using h9
  · have h9 := r_m3 R
    unfold Cm3
    simpa (disch := omega) only [sI_wI, gI_uI, nM_u, tk_ne9, tk_inj, if_false, if_true, false_and, and_false, Nat.reduceEqDiff, reduceIte, reduceCtorEq, and_true, true_and] using h9
  · have h9 := r_m4 R
    unfold Cm4
    simpa (disch := omega) only [sI_wI, gI_uI, nM_u, tk_ne9, tk_inj, if_false, if_true, false_and, and_false, Nat.reduceEqDiff, reduceIte, reduceCtorEq, and_true, true_and] using h9
  · have h9 := r_m5 R
    unfold Cm5
    simpa (disch := omega) only [sI_wI, gI_uI, nM_u, tk_ne9, tk_inj, if_false, if_true, false_and, and_false, Nat.reduceEqDiff, reduceIte, reduceCtorEq, and_true, true_and] using h9
  · have h9 := r_m9 R
    unfold Cm9
    simpa (disch := omega) only [sI_wI, gI_uI, nM_u, tk_ne9, tk_inj, if_false, if_true, false_and, and_false, Nat.reduceEqDiff, reduceIte, reduceCtorEq, and_true, true_and] using h9
  · have h9 := r_m11 R
    unfold Cm11
    simpa (disch := omega) only [sI_wI, gI_uI, nM_u, tk_ne9, tk_inj, if_false, if_true, false_and, and_false, Nat.reduceEqDiff, reduceIte, reduceCtorEq, and_true, true_and] using h9
  · have h9 := r_m13 R
    unfold Cm13
    simpa (disch := omega) only [sI_wI, gI_uI, nM_u, tk_ne9, tk_inj, if_false, if_true, false_and, and_false, Nat.reduceEqDiff, reduceIte, reduceCtorEq, and_true, true_and] using h9
  · have h9 := r_m14 R
    unfold Cm14
    simpa (disch := omega) only [sI_wI, gI_uI, nM_u, tk_ne9, tk_inj, if_false, if_true, false_and, and_false, Nat.reduceEqDiff, reduceIte, reduceCtorEq, and_true, true_and] using h9
  · have h9 := r_m6 R
    unfold Cm6
    simpa (disch := omega) only [sP_wI, gI_uI, nM_u, tk_ne9, tk_inj, if_false, if_true, false_and, and_false, Nat.reduceEqDiff, reduceIte, reduceCtorEq, and_true, true_and] using h9
  · have h9 := r_m7 R
    unfold Cm7
    simpa (disch := omega) only [sP_wI, gI_uI, nM_u, tk_ne9, tk_inj, if_false, if_true, false_and, and_false, Nat.reduceEqDiff, reduceIte, reduceCtorEq, and_true, true_and] using h9
  · have h9 := r_m8 R
    unfold Cm8
    simpa (disch := omega) only [sP_wI, gI_uI, nM_u, tk_ne9, tk_inj, if_false, if_true, false_and, and_false, Nat.reduceEqDiff, reduceIte, reduceCtorEq, and_true, true_and] using h9
  · have h9 := r_m12 R
    unfold Cm12
    simpa (disch := omega) only [sP_wI, gI_uI, nM_u, tk_ne9, tk_inj, if_false, if_true, false_and, and_false, Nat.reduceEqDiff, reduceIte, reduceCtorEq, and_true, true_and] using h9
  · have h9 := r_m10 R
    unfold Cm10
    simpa (disch := omega) only [sI_wI, gI_uI, nB_u, nM_u, tk_ne9, tk_inj, if_false, if_true, false_and, and_false, Nat.reduceEqDiff, reduceIte, reduceCtorEq, and_true, true_and] using h9
  · have h9 := r_mma R
    unfold Cmma
    simpa (disch := omega) only [gI_uI, nM_u, tk_ne9, tk_inj, if_false, if_true, false_and, and_false, Nat.reduceEqDiff, reduceIte, reduceCtorEq, and_true, true_and] using h9
  · have h9 := r_mmb R
    unfold Cmmb
    simpa (disch := omega) only [gI_uI, nB_u, nM_u, nP_u, tk_ne9, tk_inj, if_false, if_true, false_and, and_false, Nat.reduceEqDiff, reduceIte, reduceCtorEq, and_true, true_and] using h9
  · have h9 := r_mmc R
    unfold Cmmc
    simpa (disch := omega) only [gI_uI, nM_u, tk_ne9, tk_inj, if_false, if_true, false_and, and_false, Nat.reduceEqDiff, reduceIte, reduceCtorEq, and_true, true_and] using h9
  · have h9 := r_mr29 R
    unfold Cmr29
    simpa (disch := omega) only [gI_uI, nM_u, tk_ne9, tk_inj, if_false, if_true, false_and, and_false, Nat.reduceEqDiff, reduceIte, reduceCtorEq, and_true, true_and] using h9
  · have h9 := r_mr30 R
    unfold Cmr30
    simpa (disch := omega) only [gI_uI, nM_u, tk_ne9, tk_inj, if_false, if_true, false_and, and_false, Nat.reduceEqDiff, reduceIte, reduceCtorEq, and_true, true_and] using h9
  · have h9 := r_mr31 R
    unfold Cmr31
    simpa (disch := omega) only [gI_uI, nM_u, tk_ne9, tk_inj, if_false, if_true, false_and, and_false, Nat.reduceEqDiff, reduceIte, reduceCtorEq, and_true, true_and] using h9
  · have h9 := r_mr32 R
    unfold Cmr32
    simpa (disch := omega) only [gI_uI, nM_u, tk_ne9, tk_inj, if_false, if_true, false_and, and_false, Nat.reduceEqDiff, reduceIte, reduceCtorEq, and_true, true_and] using h9
  · have h9 := r_mr35 R
    unfold Cmr35
    simpa (disch := omega) only [gI_uI, nM_u, tk_ne9, tk_inj, if_false, if_true, false_and, and_false, Nat.reduceEqDiff, reduceIte, reduceCtorEq, and_true, true_and] using h9
  · have h9 := r_mr39 R
    unfold Cmr39
    simpa (disch := omega) only [gI_uI, nM_u, tk_ne9, tk_inj, if_false, if_true, false_and, and_false, Nat.reduceEqDiff, reduceIte, reduceCtorEq, and_true, true_and] using h9
  · have h9 := r_mr40 R
    unfold Cmr40
    simpa (disch := omega) only [gI_uI, nM_u, tk_ne9, tk_inj, if_false, if_true, false_and, and_false, Nat.reduceEqDiff, reduceIte, reduceCtorEq, and_true, true_and] using h9
  · have h9 := r_md R
    unfold Cmd
    simpa (disch := omega) only [gI_uI, nM_u, tk_ne9, tk_inj, if_false, if_true, false_and, and_false, Nat.reduceEqDiff, reduceIte, reduceCtorEq, and_true, true_and] using h9
  · have h9 := r_mw R
    unfold Cmw
    simpa (disch := omega) only [gI_uI, nM_u, tk_ne9, tk_inj, if_false, if_true, false_and, and_false, Nat.reduceEqDiff, reduceIte, reduceCtorEq, and_true, true_and] using h9
  · have h9 := r_q0 R
    unfold Cq0
    simpa (disch := omega) only [sP_wI, nP_u, tk_ne9, tk_inj, if_false, if_true, false_and, and_false, Nat.reduceEqDiff, reduceIte, reduceCtorEq, and_true, true_and] using h9
  · have h9 := r_qn R
    unfold Cqn
    simpa (disch := omega) only [sI_wI, nP_u, tk_ne9, tk_inj, if_false, if_true, false_and, and_false, Nat.reduceEqDiff, reduceIte, reduceCtorEq, and_true, true_and] using h9
  · have h9 := r_q1 R
    unfold Cq1
    simpa (disch := omega) only [sI_wI, gI_uI, nP_u, tk_ne9, tk_inj, if_false, if_true, false_and, and_false, Nat.reduceEqDiff, reduceIte, reduceCtorEq, and_true, true_and] using h9
  · have h9 := r_q2 R
    unfold Cq2
    simpa (disch := omega) only [sI_wI, gI_uI, nP_u, tk_ne9, tk_inj, if_false, if_true, false_and, and_false, Nat.reduceEqDiff, reduceIte, reduceCtorEq, and_true, true_and] using h9
  · have h9 := r_q3 R
    unfold Cq3
    simpa (disch := omega) only [sI_wI, gI_uI, nP_u, tk_ne9, tk_inj, if_false, if_true, false_and, and_false, Nat.reduceEqDiff, reduceIte, reduceCtorEq, and_true, true_and] using h9
  · have h9 := r_q4 R
    unfold Cq4
    simpa (disch := omega) only [sP_wI, nP_u, tk_ne9, tk_inj, if_false, if_true, false_and, and_false, Nat.reduceEqDiff, reduceIte, reduceCtorEq, and_true, true_and] using h9
  · have h9 := r_q5 R
    unfold Cq5
    simpa (disch := omega) only [sP_wI, nP_u, tk_ne9, tk_inj, if_false, if_true, false_and, and_false, Nat.reduceEqDiff, reduceIte, reduceCtorEq, and_true, true_and] using h9
  · have h9 := r_q6 R
    unfold Cq6
    simpa (disch := omega) only [sI_wI, gI_uI, nM_u, nP_u, tk_ne9, tk_inj, if_false, if_true, false_and, and_false, Nat.reduceEqDiff, reduceIte, reduceCtorEq, and_true, true_and] using h9
  · have h9 := r_ql R
    unfold Cql
    simpa (disch := omega) only [sI_wI, gI_uI, nP_u, tk_ne9, tk_inj, if_false, if_true, false_and, and_false, Nat.reduceEqDiff, reduceIte, reduceCtorEq, and_true, true_and] using h9
  · have h9 := r_qw R
    unfold Cqw
    simpa (disch := omega) only [sI_wI, gI_uI, nP_u, tk_ne9, tk_inj, if_false, if_true, false_and, and_false, Nat.reduceEqDiff, reduceIte, reduceCtorEq, and_true, true_and] using h9
  · have h9 := r_qm R
    unfold Cqm
    simpa (disch := omega) only [gI_uI, nP_u, tk_ne9, tk_inj, if_false, if_true, false_and, and_false, Nat.reduceEqDiff, reduceIte, reduceCtorEq, and_true, true_and] using h9
  · have h9 := r_qr R
    unfold Cqr
    simpa (disch := omega) only [gI_uI, nP_u, tk_ne9, tk_inj, if_false, if_true, false_and, and_false, Nat.reduceEqDiff, reduceIte, reduceCtorEq, and_true, true_and] using h9
  · have h9 := r_r0 R
    unfold Cr0
    simpa (disch := omega) only [sP_wI, nO_u, tk_ne9, tk_inj, if_false, if_true, false_and, and_false, Nat.reduceEqDiff, reduceIte, reduceCtorEq, and_true, true_and] using h9
  · have h9 := r_r1 R
    unfold Cr1
    simpa (disch := omega) only [sP_wI, gI_uI, nO_u, tk_ne9, tk_inj, if_false, if_true, false_and, and_false, Nat.reduceEqDiff, reduceIte, reduceCtorEq, and_true, true_and] using h9
  · have h9 := r_r2 R
    unfold Cr2
    simpa (disch := omega) only [sI_wI, gI_uI, nO_u, tk_ne9, tk_inj, if_false, if_true, false_and, and_false, Nat.reduceEqDiff, reduceIte, reduceCtorEq, and_true, true_and] using h9
  · have h9 := r_r3 R
    unfold Cr3
    simpa (disch := omega) only [sI_wI, gI_uI, nO_u, tk_ne9, tk_inj, if_false, if_true, false_and, and_false, Nat.reduceEqDiff, reduceIte, reduceCtorEq, and_true, true_and] using h9
  · have h9 := r_r4 R
    unfold Cr4
    simpa (disch := omega) only [sI_wI, gI_uI, nO_u, tk_ne9, tk_inj, if_false, if_true, false_and, and_false, Nat.reduceEqDiff, reduceIte, reduceCtorEq, and_true, true_and] using h9
  · have h9 := r_r5 R
    unfold Cr5
    simpa (disch := omega) only [sP_wI, gI_uI, nO_u, tk_ne9, tk_inj, if_false, if_true, false_and, and_false, Nat.reduceEqDiff, reduceIte, reduceCtorEq, and_true, true_and] using h9
  · have h9 := r_r6 R
    unfold Cr6
    simpa (disch := omega) only [sI_wI, gI_uI, nO_u, tk_ne9, tk_inj, if_false, if_true, false_and, and_false, Nat.reduceEqDiff, reduceIte, reduceCtorEq, and_true, true_and] using h9
  · have h9 := r_rk R
    unfold Crk
    simpa (disch := omega) only [gI_uI, nO_u, tk_ne9, tk_inj, if_false, if_true, false_and, and_false, Nat.reduceEqDiff, reduceIte, reduceCtorEq, and_true, true_and] using h9
  · have h9 := r_rp R
    unfold Crp
    simpa (disch := omega) only [gI_uI, nO_u, tk_ne9, tk_inj, if_false, if_true, false_and, and_false, Nat.reduceEqDiff, reduceIte, reduceCtorEq, and_true, true_and] using h9
  · have h9 := r_rq R
    unfold Crq
    simpa (disch := omega) only [gI_uI, nO_u, pr_u, tk_ne9, tk_inj, if_false, if_true, false_and, and_false, Nat.reduceEqDiff, reduceIte, reduceCtorEq, and_true, true_and] using h9
  · have h9 := r_rr R
    unfold Crr
    simpa (disch := omega) only [gI_uI, nO_u, pr_u, tk_ne9, tk_inj, if_false, if_true, false_and, and_false, Nat.reduceEqDiff, reduceIte, reduceCtorEq, and_true, true_and] using h9
  · have h9 := r_rs R
    unfold Crs
    simpa (disch := omega) only [gI_uI, nB_u, nO_u, tk_ne9, tk_inj, if_false, if_true, false_and, and_false, Nat.reduceEqDiff, reduceIte, reduceCtorEq, and_true, true_and] using h9
set_option maxHeartbeats 8000000 in
theorem rel_bought {e : Nat} {a : Sg} {M : MS} (R : Rel e a M) (v : Int32) : Rel e (wI a (tk 9 0) 5 v) (uI M 256 0 v) := by
  unfold Rel
  refine ⟨?_, ?_, ?_, ?_, ?_, ?_, ?_, ?_, ?_, ?_, ?_, ?_, ?_, ?_, ?_, ?_, ?_, ?_, ?_, ?_, ?_, ?_, ?_, ?_, ?_, ?_, ?_, ?_, ?_, ?_, ?_, ?_, ?_, ?_, ?_, ?_, ?_, ?_, ?_, ?_, ?_, ?_, ?_, ?_, ?_, ?_, ?_, ?_, ?_, ?_, ?_, ?_, ?_, ?_, ?_, ?_, ?_, ?_, ?_, ?_, ?_, ?_, ?_, ?_, ?_, ?_, ?_, ?_, ?_, ?_, ?_, ?_, ?_, ?_, ?_, ?_, ?_, ?_, ?_, ?_, ?_, ?_, ?_, ?_, ?_, ?_, ?_, ?_, ?_, ?_, ?_, ?_, ?_, ?_, ?_, ?_, ?_, ?_, ?_, ?_, ?_, ?_, ?_, ?_, ?_, ?_, ?_, ?_, ?_, ?_, ?_, ?_, ?_, ?_, ?_, ?_, ?_, ?_, ?_, ?_, ?_, ?_, ?_, ?_, ?_, ?_, ?_, ?_, ?_, ?_, ?_, ?_, ?_, ?_, ?_, ?_, ?_, ?_, ?_, ?_, ?_, ?_, ?_, ?_, ?_, ?_, ?_, ?_, ?_⟩
  · have h9 := r_shm R
    exact h9
  · have h9 := r_px0 R
    exact h9
  · have h9 := r_px1 R
    exact h9
  · have h9 := r_px2 R
    exact h9
  · have h9 := r_pf0 R
    exact h9
  · have h9 := r_pf1 R
    exact h9
  · have h9 := r_pf3 R
    exact h9
  · have h9 := r_ps0 R
    exact h9
  · have h9 := r_ps2 R
    exact h9
  · have h9 := r_ps4 R
    exact h9
  · have h9 := r_pk R
    exact h9
  · have h9 := r_pkl R
    exact h9
  · have h9 := r_pko R
    exact h9
  · have h9 := r_ghour R
    unfold Cghour
    simpa (disch := omega) only [sI_wI, gI_uI, tk_ne9, tk_inj, if_false, if_true, false_and, and_false, Nat.reduceEqDiff, reduceIte, reduceCtorEq, and_true, true_and] using h9
  · have h9 := r_gstand R
    unfold Cgstand
    simpa (disch := omega) only [sI_wI, gI_uI, tk_ne9, tk_inj, if_false, if_true, false_and, and_false, Nat.reduceEqDiff, reduceIte, reduceCtorEq, and_true, true_and] using h9
  · have h9 := r_gbought R
    unfold Cgbought
    simpa (disch := omega) only [sI_wI, gI_uI, tk_ne9, tk_inj, if_false, if_true, false_and, and_false, Nat.reduceEqDiff, reduceIte, reduceCtorEq, and_true, true_and] using h9
  · have h9 := r_gmach R
    unfold Cgmach
    simpa (disch := omega) only [sI_wI, gI_uI, tk_ne9, tk_inj, if_false, if_true, false_and, and_false, Nat.reduceEqDiff, reduceIte, reduceCtorEq, and_true, true_and] using h9
  · have h9 := r_gpers R
    unfold Cgpers
    simpa (disch := omega) only [sI_wI, gI_uI, tk_ne9, tk_inj, if_false, if_true, false_and, and_false, Nat.reduceEqDiff, reduceIte, reduceCtorEq, and_true, true_and] using h9
  · have h9 := r_gworked R
    unfold Cgworked
    simpa (disch := omega) only [sI_wI, gI_uI, tk_ne9, tk_inj, if_false, if_true, false_and, and_false, Nat.reduceEqDiff, reduceIte, reduceCtorEq, and_true, true_and] using h9
  · have h9 := r_grep R
    unfold Cgrep
    simpa (disch := omega) only [sI_wI, gI_uI, tk_ne9, tk_inj, if_false, if_true, false_and, and_false, Nat.reduceEqDiff, reduceIte, reduceCtorEq, and_true, true_and] using h9
  · have h9 := r_gbat R
    unfold Cgbat
    simpa (disch := omega) only [sI_wI, gI_uI, tk_ne9, tk_inj, if_false, if_true, false_and, and_false, Nat.reduceEqDiff, reduceIte, reduceCtorEq, and_true, true_and] using h9
  · have h9 := r_gord R
    unfold Cgord
    simpa (disch := omega) only [sI_wI, gI_uI, tk_ne9, tk_inj, if_false, if_true, false_and, and_false, Nat.reduceEqDiff, reduceIte, reduceCtorEq, and_true, true_and] using h9
  · have h9 := r_gq R
    unfold Cgq
    simpa (disch := omega) only [sI_wI, gI_uI, tk_ne9, tk_inj, if_false, if_true, false_and, and_false, Nat.reduceEqDiff, reduceIte, reduceCtorEq, and_true, true_and] using h9
  · have h9 := r_nB R
    unfold CnB
    simpa (disch := omega) only [gI_uI, nB_u, tk_ne9, tk_inj, if_false, if_true, false_and, and_false, Nat.reduceEqDiff, reduceIte, reduceCtorEq, and_true, true_and] using h9
  · have h9 := r_nBx R
    unfold CnBx
    simpa (disch := omega) only [nB_u, tk_ne9, tk_inj, if_false, if_true, false_and, and_false, Nat.reduceEqDiff, reduceIte, reduceCtorEq, and_true, true_and] using h9
  · have h9 := r_nM R
    unfold CnM
    simpa (disch := omega) only [gI_uI, nM_u, tk_ne9, tk_inj, if_false, if_true, false_and, and_false, Nat.reduceEqDiff, reduceIte, reduceCtorEq, and_true, true_and] using h9
  · have h9 := r_nMx R
    unfold CnMx
    simpa (disch := omega) only [nM_u, tk_ne9, tk_inj, if_false, if_true, false_and, and_false, Nat.reduceEqDiff, reduceIte, reduceCtorEq, and_true, true_and] using h9
  · have h9 := r_nP R
    unfold CnP
    simpa (disch := omega) only [gI_uI, nP_u, tk_ne9, tk_inj, if_false, if_true, false_and, and_false, Nat.reduceEqDiff, reduceIte, reduceCtorEq, and_true, true_and] using h9
  · have h9 := r_nPx R
    unfold CnPx
    simpa (disch := omega) only [nP_u, tk_ne9, tk_inj, if_false, if_true, false_and, and_false, Nat.reduceEqDiff, reduceIte, reduceCtorEq, and_true, true_and] using h9
  · have h9 := r_nO R
    unfold CnO
    simpa (disch := omega) only [gI_uI, nO_u, tk_ne9, tk_inj, if_false, if_true, false_and, and_false, Nat.reduceEqDiff, reduceIte, reduceCtorEq, and_true, true_and] using h9
  · have h9 := r_nOx R
    unfold CnOx
    simpa (disch := omega) only [nO_u, tk_ne9, tk_inj, if_false, if_true, false_and, and_false, Nat.reduceEqDiff, reduceIte, reduceCtorEq, and_true, true_and] using h9
  · have h9 := r_hr R
    unfold Chr
    simpa (disch := omega) only [gI_uI, hN_u, tk_ne9, tk_inj, if_false, if_true, false_and, and_false, Nat.reduceEqDiff, reduceIte, reduceCtorEq, and_true, true_and] using h9
  · have h9 := r_hrx R
    unfold Chrx
    simpa (disch := omega) only [hN_u, tk_ne9, tk_inj, if_false, if_true, false_and, and_false, Nat.reduceEqDiff, reduceIte, reduceCtorEq, and_true, true_and] using h9
  · have h9 := r_stb R
    unfold Cstb
    simpa (disch := omega) only [gI_uI, tk_ne9, tk_inj, if_false, if_true, false_and, and_false, Nat.reduceEqDiff, reduceIte, reduceCtorEq, and_true, true_and] using h9
  · have h9 := r_ex R
    exact h9
  · have h9 := r_k0 R
    unfold Ck0
    simpa (disch := omega) only [sI_wI, tk_ne9, tk_inj, if_false, if_true, false_and, and_false, Nat.reduceEqDiff, reduceIte, reduceCtorEq, and_true, true_and] using h9
  · have h9 := r_k1 R
    unfold Ck1
    simpa (disch := omega) only [sI_wI, gI_uI, tk_ne9, tk_inj, if_false, if_true, false_and, and_false, Nat.reduceEqDiff, reduceIte, reduceCtorEq, and_true, true_and] using h9
  · have h9 := r_k2 R
    unfold Ck2
    simpa (disch := omega) only [sI_wI, gI_uI, tk_ne9, tk_inj, if_false, if_true, false_and, and_false, Nat.reduceEqDiff, reduceIte, reduceCtorEq, and_true, true_and] using h9
  · have h9 := r_k3 R
    unfold Ck3
    simpa (disch := omega) only [sI_wI, gI_uI, tk_ne9, tk_inj, if_false, if_true, false_and, and_false, Nat.reduceEqDiff, reduceIte, reduceCtorEq, and_true, true_and] using h9
  · have h9 := r_k5 R
    unfold Ck5
    simpa (disch := omega) only [sI_wI, gI_uI, tk_ne9, tk_inj, if_false, if_true, false_and, and_false, Nat.reduceEqDiff, reduceIte, reduceCtorEq, and_true, true_and] using h9
  · have h9 := r_k7 R
    unfold Ck7
    simpa (disch := omega) only [sI_wI, gI_uI, tk_ne9, tk_inj, if_false, if_true, false_and, and_false, Nat.reduceEqDiff, reduceIte, reduceCtorEq, and_true, true_and] using h9
  · have h9 := r_k8 R
    unfold Ck8
    simpa (disch := omega) only [sI_wI, gI_uI, tk_ne9, tk_inj, if_false, if_true, false_and, and_false, Nat.reduceEqDiff, reduceIte, reduceCtorEq, and_true, true_and] using h9
  · have h9 := r_k9 R
    unfold Ck9
    simpa (disch := omega) only [sI_wI, gI_uI, tk_ne9, tk_inj, if_false, if_true, false_and, and_false, Nat.reduceEqDiff, reduceIte, reduceCtorEq, and_true, true_and] using h9
  · have h9 := r_k10 R
    unfold Ck10
    simpa (disch := omega) only [sI_wI, nB_u, mInSt_u, tk_ne9, tk_inj, if_false, if_true, false_and, and_false, Nat.reduceEqDiff, reduceIte, reduceCtorEq, and_true, true_and] using h9
  · have h9 := r_k11 R
    unfold Ck11
    simpa (disch := omega) only [sI_wI, nO_u, mProm_u, tk_ne9, tk_inj, if_false, if_true, false_and, and_false, Nat.reduceEqDiff, reduceIte, reduceCtorEq, and_true, true_and] using h9
  · have h9 := r_k12 R
    unfold Ck12
    simpa (disch := omega) only [sI_wI, tk_ne9, tk_inj, if_false, if_true, false_and, and_false, Nat.reduceEqDiff, reduceIte, reduceCtorEq, and_true, true_and] using h9
  · have h9 := r_ksa R
    unfold Cksa
    simpa (disch := omega) only [gI_uI, tk_ne9, tk_inj, if_false, if_true, false_and, and_false, Nat.reduceEqDiff, reduceIte, reduceCtorEq, and_true, true_and] using h9
  · have h9 := r_ksb R
    unfold Cksb
    simpa (disch := omega) only [gI_uI, nOp_u, tk_ne9, tk_inj, if_false, if_true, false_and, and_false, Nat.reduceEqDiff, reduceIte, reduceCtorEq, and_true, true_and] using h9
  · have h9 := r_ksc R
    unfold Cksc
    simpa (disch := omega) only [gI_uI, nLn_u, nOp_u, tk_ne9, tk_inj, if_false, if_true, false_and, and_false, Nat.reduceEqDiff, reduceIte, reduceCtorEq, and_true, true_and] using h9
  · have h9 := r_kw R
    unfold Ckw
    simpa (disch := omega) only [gI_uI, tk_ne9, tk_inj, if_false, if_true, false_and, and_false, Nat.reduceEqDiff, reduceIte, reduceCtorEq, and_true, true_and] using h9
  · have h9 := r_kl R
    unfold Ckl
    simpa (disch := omega) only [gI_uI, nLn_u, tk_ne9, tk_inj, if_false, if_true, false_and, and_false, Nat.reduceEqDiff, reduceIte, reduceCtorEq, and_true, true_and] using h9
  · have h9 := r_ko R
    unfold Cko
    simpa (disch := omega) only [gI_uI, nOp_u, tk_ne9, tk_inj, if_false, if_true, false_and, and_false, Nat.reduceEqDiff, reduceIte, reduceCtorEq, and_true, true_and] using h9
  · have h9 := r_kp R
    unfold Ckp
    simpa (disch := omega) only [gI_uI, tk_ne9, tk_inj, if_false, if_true, false_and, and_false, Nat.reduceEqDiff, reduceIte, reduceCtorEq, and_true, true_and] using h9
  · have h9 := r_l0 R
    unfold Cl0
    simpa (disch := omega) only [sP_wI, nLn_u, tk_ne9, tk_inj, if_false, if_true, false_and, and_false, Nat.reduceEqDiff, reduceIte, reduceCtorEq, and_true, true_and] using h9
  · have h9 := r_l1 R
    unfold Cl1
    simpa (disch := omega) only [sP_wI, nLn_u, lnP_u, tk_ne9, tk_inj, if_false, if_true, false_and, and_false, Nat.reduceEqDiff, reduceIte, reduceCtorEq, and_true, true_and] using h9
  · have h9 := r_l2 R
    unfold Cl2
    simpa (disch := omega) only [sI_wI, gI_uI, nLn_u, tk_ne9, tk_inj, if_false, if_true, false_and, and_false, Nat.reduceEqDiff, reduceIte, reduceCtorEq, and_true, true_and] using h9
  · have h9 := r_l3 R
    unfold Cl3
    simpa (disch := omega) only [sP_wI, gI_uI, nLn_u, tk_ne9, tk_inj, if_false, if_true, false_and, and_false, Nat.reduceEqDiff, reduceIte, reduceCtorEq, and_true, true_and] using h9
  · have h9 := r_lm R
    unfold Clm
    simpa (disch := omega) only [gI_uI, nLn_u, lnP_u, tk_ne9, tk_inj, if_false, if_true, false_and, and_false, Nat.reduceEqDiff, reduceIte, reduceCtorEq, and_true, true_and] using h9
  · have h9 := r_o0 R
    unfold Co0
    simpa (disch := omega) only [sP_wI, nOp_u, tk_ne9, tk_inj, if_false, if_true, false_and, and_false, Nat.reduceEqDiff, reduceIte, reduceCtorEq, and_true, true_and] using h9
  · have h9 := r_o1 R
    unfold Co1
    simpa (disch := omega) only [sI_wI, gI_uI, nOp_u, tk_ne9, tk_inj, if_false, if_true, false_and, and_false, Nat.reduceEqDiff, reduceIte, reduceCtorEq, and_true, true_and] using h9
  · have h9 := r_o2 R
    unfold Co2
    simpa (disch := omega) only [sI_wI, gI_uI, nOp_u, tk_ne9, tk_inj, if_false, if_true, false_and, and_false, Nat.reduceEqDiff, reduceIte, reduceCtorEq, and_true, true_and] using h9
  · have h9 := r_o3 R
    unfold Co3
    simpa (disch := omega) only [sI_wI, gI_uI, nOp_u, tk_ne9, tk_inj, if_false, if_true, false_and, and_false, Nat.reduceEqDiff, reduceIte, reduceCtorEq, and_true, true_and] using h9
  · have h9 := r_om R
    unfold Com
    simpa (disch := omega) only [gI_uI, nOp_u, tk_ne9, tk_inj, if_false, if_true, false_and, and_false, Nat.reduceEqDiff, reduceIte, reduceCtorEq, and_true, true_and] using h9
  · have h9 := r_b0 R
    unfold Cb0
    simpa (disch := omega) only [sP_wI, nB_u, tk_ne9, tk_inj, if_false, if_true, false_and, and_false, Nat.reduceEqDiff, reduceIte, reduceCtorEq, and_true, true_and] using h9
  · have h9 := r_bn R
    unfold Cbn
    simpa (disch := omega) only [sI_wI, nB_u, tk_ne9, tk_inj, if_false, if_true, false_and, and_false, Nat.reduceEqDiff, reduceIte, reduceCtorEq, and_true, true_and] using h9
  · have h9 := r_bk R
    unfold Cbk
    simpa (disch := omega) only [sP_wI, nB_u, kd_u, tk_ne9, tk_inj, if_false, if_true, false_and, and_false, Nat.reduceEqDiff, reduceIte, reduceCtorEq, and_true, true_and] using h9
  · have h9 := r_b2 R
    unfold Cb2
    simpa (disch := omega) only [sI_wI, gI_uI, nB_u, tk_ne9, tk_inj, if_false, if_true, false_and, and_false, Nat.reduceEqDiff, reduceIte, reduceCtorEq, and_true, true_and] using h9
  · have h9 := r_b3 R
    unfold Cb3
    simpa (disch := omega) only [sI_wI, gI_uI, nB_u, tk_ne9, tk_inj, if_false, if_true, false_and, and_false, Nat.reduceEqDiff, reduceIte, reduceCtorEq, and_true, true_and] using h9
  · have h9 := r_b4 R
    unfold Cb4
    simpa (disch := omega) only [sI_wI, gI_uI, nB_u, tk_ne9, tk_inj, if_false, if_true, false_and, and_false, Nat.reduceEqDiff, reduceIte, reduceCtorEq, and_true, true_and] using h9
  · have h9 := r_b5 R
    unfold Cb5
    simpa (disch := omega) only [sI_wI, gI_uI, nB_u, tk_ne9, tk_inj, if_false, if_true, false_and, and_false, Nat.reduceEqDiff, reduceIte, reduceCtorEq, and_true, true_and] using h9
  · have h9 := r_b6 R
    unfold Cb6
    simpa (disch := omega) only [sI_wI, gI_uI, nB_u, tk_ne9, tk_inj, if_false, if_true, false_and, and_false, Nat.reduceEqDiff, reduceIte, reduceCtorEq, and_true, true_and] using h9
  · have h9 := r_b7 R
    unfold Cb7
    simpa (disch := omega) only [sI_wI, gI_uI, nB_u, tk_ne9, tk_inj, if_false, if_true, false_and, and_false, Nat.reduceEqDiff, reduceIte, reduceCtorEq, and_true, true_and] using h9
  · have h9 := r_b8 R
    unfold Cb8
    simpa (disch := omega) only [sI_wI, gI_uI, nB_u, tk_ne9, tk_inj, if_false, if_true, false_and, and_false, Nat.reduceEqDiff, reduceIte, reduceCtorEq, and_true, true_and] using h9
  · have h9 := r_b9 R
    unfold Cb9
    simpa (disch := omega) only [sI_wI, gI_uI, nB_u, tk_ne9, tk_inj, if_false, if_true, false_and, and_false, Nat.reduceEqDiff, reduceIte, reduceCtorEq, and_true, true_and] using h9
  · have h9 := r_b10 R
    unfold Cb10
    simpa (disch := omega) only [sI_wI, gI_uI, nB_u, tk_ne9, tk_inj, if_false, if_true, false_and, and_false, Nat.reduceEqDiff, reduceIte, reduceCtorEq, and_true, true_and] using h9
  · have h9 := r_b11 R
    unfold Cb11
    simpa (disch := omega) only [sL_wI, gL_uI, nB_u, tk_ne9, tk_inj, if_false, if_true, false_and, and_false, Nat.reduceEqDiff, reduceIte, reduceCtorEq, and_true, true_and] using h9
  · have h9 := r_bK R
    unfold CbK
    simpa (disch := omega) only [gI_uI, nB_u, kd_u, tk_ne9, tk_inj, if_false, if_true, false_and, and_false, Nat.reduceEqDiff, reduceIte, reduceCtorEq, and_true, true_and] using h9
  · have h9 := r_bP R
    unfold CbP
    simpa (disch := omega) only [gI_uI, nB_u, pc_u, tk_ne9, tk_inj, if_false, if_true, false_and, and_false, Nat.reduceEqDiff, reduceIte, reduceCtorEq, and_true, true_and] using h9
  · have h9 := r_bO R
    unfold CbO
    simpa (disch := omega) only [gI_uI, nB_u, op_u, tk_ne9, tk_inj, if_false, if_true, false_and, and_false, Nat.reduceEqDiff, reduceIte, reduceCtorEq, and_true, true_and] using h9
  · have h9 := r_bW R
    unfold CbW
    simpa (disch := omega) only [gI_uI, nB_u, nOp_u, kd_u, op_u, tk_ne9, tk_inj, if_false, if_true, false_and, and_false, Nat.reduceEqDiff, reduceIte, reduceCtorEq, and_true, true_and] using h9
  · have h9 := r_bZ R
    unfold CbZ
    simpa (disch := omega) only [gI_uI, nB_u, pc_u, tk_ne9, tk_inj, if_false, if_true, false_and, and_false, Nat.reduceEqDiff, reduceIte, reduceCtorEq, and_true, true_and] using h9
  · have h9 := r_bF R
    unfold CbF
    simpa (disch := omega) only [gI_uI, nB_u, tk_ne9, tk_inj, if_false, if_true, false_and, and_false, Nat.reduceEqDiff, reduceIte, reduceCtorEq, and_true, true_and] using h9
  · have h9 := r_bS R
    unfold CbS
    simpa (disch := omega) only [gI_uI, nB_u, tk_ne9, tk_inj, if_false, if_true, false_and, and_false, Nat.reduceEqDiff, reduceIte, reduceCtorEq, and_true, true_and] using h9
  · have h9 := r_bC R
    unfold CbC
    simpa (disch := omega) only [gI_uI, nB_u, tk_ne9, tk_inj, if_false, if_true, false_and, and_false, Nat.reduceEqDiff, reduceIte, reduceCtorEq, and_true, true_and] using h9
  · have h9 := r_bT R
    unfold CbT
    simpa (disch := omega) only [gI_uI, nB_u, tk_ne9, tk_inj, if_false, if_true, false_and, and_false, Nat.reduceEqDiff, reduceIte, reduceCtorEq, and_true, true_and] using h9
  · have h9 := r_bU R
    unfold CbU
    simpa (disch := omega) only [gI_uI, nB_u, kd_u, tk_ne9, tk_inj, if_false, if_true, false_and, and_false, Nat.reduceEqDiff, reduceIte, reduceCtorEq, and_true, true_and] using h9
  · have h9 := r_bq R
    unfold Cbq
    simpa (disch := omega) only [nB_u, totp_u, tk_ne9, tk_inj, if_false, if_true, false_and, and_false, Nat.reduceEqDiff, reduceIte, reduceCtorEq, and_true, true_and] using h9
  · have h9 := r_ps R
    unfold Cps
    simpa (disch := omega) only [nB_u, nO_u, nInSt_u, nProm_u, tk_ne9, tk_inj, if_false, if_true, false_and, and_false, Nat.reduceEqDiff, reduceIte, reduceCtorEq, and_true, true_and] using h9
  · have h9 := r_bp R
    unfold Cbp
    simpa (disch := omega) only [gL_uI, nB_u, tk_ne9, tk_inj, if_false, if_true, false_and, and_false, Nat.reduceEqDiff, reduceIte, reduceCtorEq, and_true, true_and] using h9
  · have h9 := r_bc R
    unfold Cbc
    simpa (disch := omega) only [nB_u, hN_u, tot_u, tk_ne9, tk_inj, if_false, if_true, false_and, and_false, Nat.reduceEqDiff, reduceIte, reduceCtorEq, and_true, true_and] using h9
  · have h9 := r_fB R
    unfold CfB
    simpa (disch := omega) only [sX_wI, nB_u, tk_ne9, tk_inj, if_false, if_true, false_and, and_false, Nat.reduceEqDiff, reduceIte, reduceCtorEq, and_true, true_and] using h9
  · have h9 := r_fL R
    unfold CfL
    simpa (disch := omega) only [sX_wI, nLn_u, tk_ne9, tk_inj, if_false, if_true, false_and, and_false, Nat.reduceEqDiff, reduceIte, reduceCtorEq, and_true, true_and] using h9
  · have h9 := r_fO R
    unfold CfO
    simpa (disch := omega) only [sX_wI, nOp_u, tk_ne9, tk_inj, if_false, if_true, false_and, and_false, Nat.reduceEqDiff, reduceIte, reduceCtorEq, and_true, true_and] using h9
  · have h9 := r_fM R
    unfold CfM
    simpa (disch := omega) only [sX_wI, nM_u, tk_ne9, tk_inj, if_false, if_true, false_and, and_false, Nat.reduceEqDiff, reduceIte, reduceCtorEq, and_true, true_and] using h9
  · have h9 := r_fP R
    unfold CfP
    simpa (disch := omega) only [sX_wI, nP_u, tk_ne9, tk_inj, if_false, if_true, false_and, and_false, Nat.reduceEqDiff, reduceIte, reduceCtorEq, and_true, true_and] using h9
  · have h9 := r_fR R
    unfold CfR
    simpa (disch := omega) only [sX_wI, nO_u, tk_ne9, tk_inj, if_false, if_true, false_and, and_false, Nat.reduceEqDiff, reduceIte, reduceCtorEq, and_true, true_and] using h9
  · have h9 := r_fG R
    exact h9
  · have h9 := r_m0 R
    unfold Cm0
    simpa (disch := omega) only [sP_wI, nM_u, tk_ne9, tk_inj, if_false, if_true, false_and, and_false, Nat.reduceEqDiff, reduceIte, reduceCtorEq, and_true, true_and] using h9
  · have h9 := r_mn R
    unfold Cmn
    simpa (disch := omega) only [sI_wI, nM_u, tk_ne9, tk_inj, if_false, if_true, false_and, and_false, Nat.reduceEqDiff, reduceIte, reduceCtorEq, and_true, true_and] using h9
  · have h9 := r_m1 R
    unfold Cm1
    simpa (disch := omega) only [sI_wI, gI_uI, nM_u, tk_ne9, tk_inj, if_false, if_true, false_and, and_false, Nat.reduceEqDiff, reduceIte, reduceCtorEq, and_true, true_and] using h9
  · have h9 := r_m2 R
    unfold Cm2
    simpa (disch := omega) only [sI_wI, gI_uI, nM_u, tk_ne9, tk_inj, if_false, if_true, false_and, and_false, Nat.reduceEqDiff, reduceIte, reduceCtorEq, and_true, true_and] using h9
  · have h9 := r_m3 R
    unfold Cm3
    simpa (disch := omega) only [sI_wI, gI_uI, nM_u, tk_ne9, tk_inj, if_false, if_true, false_and, and_false, Nat.reduceEqDiff, reduceIte, reduceCtorEq, and_true, true_and] using h9
  · have h9 := r_m4 R
    unfold Cm4
    simpa (disch := omega) only [sI_wI, gI_uI, nM_u, tk_ne9, tk_inj, if_false, if_true, false_and, and_false, Nat.reduceEqDiff, reduceIte, reduceCtorEq, and_true, true_and] using h9
  · have h9 := r_m5 R
    unfold Cm5
    simpa (disch := omega) only [sI_wI, gI_uI, nM_u, tk_ne9, tk_inj, if_false, if_true, false_and, and_false, Nat.reduceEqDiff, reduceIte, reduceCtorEq, and_true, true_and] using h9
  · have h9 := r_m9 R
    unfold Cm9
    simpa (disch := omega) only [sI_wI, gI_uI, nM_u, tk_ne9, tk_inj, if_false, if_true, false_and, and_false, Nat.reduceEqDiff, reduceIte, reduceCtorEq, and_true, true_and] using h9
  · have h9 := r_m11 R
    unfold Cm11
    simpa (disch := omega) only [sI_wI, gI_uI, nM_u, tk_ne9, tk_inj, if_false, if_true, false_and, and_false, Nat.reduceEqDiff, reduceIte, reduceCtorEq, and_true, true_and] using h9
  · have h9 := r_m13 R
    unfold Cm13
    simpa (disch := omega) only [sI_wI, gI_uI, nM_u, tk_ne9, tk_inj, if_false, if_true, false_and, and_false, Nat.reduceEqDiff, reduceIte, reduceCtorEq, and_true, true_and] using h9
  · have h9 := r_m14 R
    unfold Cm14
    simpa (disch := omega) only [sI_wI, gI_uI, nM_u, tk_ne9, tk_inj, if_false, if_true, false_and, and_false, Nat.reduceEqDiff, reduceIte, reduceCtorEq, and_true, true_and] using h9
  · have h9 := r_m6 R
    unfold Cm6
    simpa (disch := omega) only [sP_wI, gI_uI, nM_u, tk_ne9, tk_inj, if_false, if_true, false_and, and_false, Nat.reduceEqDiff, reduceIte, reduceCtorEq, and_true, true_and] using h9
  · have h9 := r_m7 R
    unfold Cm7
    simpa (disch := omega) only [sP_wI, gI_uI, nM_u, tk_ne9, tk_inj, if_false, if_true, false_and, and_false, Nat.reduceEqDiff, reduceIte, reduceCtorEq, and_true, true_and] using h9
  · have h9 := r_m8 R
    unfold Cm8
    simpa (disch := omega) only [sP_wI, gI_uI, nM_u, tk_ne9, tk_inj, if_false, if_true, false_and, and_false, Nat.reduceEqDiff, reduceIte, reduceCtorEq, and_true, true_and] using h9
  · have h9 := r_m12 R
    unfold Cm12
    simpa (disch := omega) only [sP_wI, gI_uI, nM_u, tk_ne9, tk_inj, if_false, if_true, false_and, and_false, Nat.reduceEqDiff, reduceIte, reduceCtorEq, and_true, true_and] using h9
  · have h9 := r_m10 R
    unfold Cm10
    simpa (disch := omega) only [sI_wI, gI_uI, nB_u, nM_u, tk_ne9, tk_inj, if_false, if_true, false_and, and_false, Nat.reduceEqDiff, reduceIte, reduceCtorEq, and_true, true_and] using h9
  · have h9 := r_mma R
    unfold Cmma
    simpa (disch := omega) only [gI_uI, nM_u, tk_ne9, tk_inj, if_false, if_true, false_and, and_false, Nat.reduceEqDiff, reduceIte, reduceCtorEq, and_true, true_and] using h9
  · have h9 := r_mmb R
    unfold Cmmb
    simpa (disch := omega) only [gI_uI, nB_u, nM_u, nP_u, tk_ne9, tk_inj, if_false, if_true, false_and, and_false, Nat.reduceEqDiff, reduceIte, reduceCtorEq, and_true, true_and] using h9
  · have h9 := r_mmc R
    unfold Cmmc
    simpa (disch := omega) only [gI_uI, nM_u, tk_ne9, tk_inj, if_false, if_true, false_and, and_false, Nat.reduceEqDiff, reduceIte, reduceCtorEq, and_true, true_and] using h9
  · have h9 := r_mr29 R
    unfold Cmr29
    simpa (disch := omega) only [gI_uI, nM_u, tk_ne9, tk_inj, if_false, if_true, false_and, and_false, Nat.reduceEqDiff, reduceIte, reduceCtorEq, and_true, true_and] using h9
  · have h9 := r_mr30 R
    unfold Cmr30
    simpa (disch := omega) only [gI_uI, nM_u, tk_ne9, tk_inj, if_false, if_true, false_and, and_false, Nat.reduceEqDiff, reduceIte, reduceCtorEq, and_true, true_and] using h9
  · have h9 := r_mr31 R
    unfold Cmr31
    simpa (disch := omega) only [gI_uI, nM_u, tk_ne9, tk_inj, if_false, if_true, false_and, and_false, Nat.reduceEqDiff, reduceIte, reduceCtorEq, and_true, true_and] using h9
  · have h9 := r_mr32 R
    unfold Cmr32
    simpa (disch := omega) only [gI_uI, nM_u, tk_ne9, tk_inj, if_false, if_true, false_and, and_false, Nat.reduceEqDiff, reduceIte, reduceCtorEq, and_true, true_and] using h9
  · have h9 := r_mr35 R
    unfold Cmr35
    simpa (disch := omega) only [gI_uI, nM_u, tk_ne9, tk_inj, if_false, if_true, false_and, and_false, Nat.reduceEqDiff, reduceIte, reduceCtorEq, and_true, true_and] using h9
  · have h9 := r_mr39 R
    unfold Cmr39
    simpa (disch := omega) only [gI_uI, nM_u, tk_ne9, tk_inj, if_false, if_true, false_and, and_false, Nat.reduceEqDiff, reduceIte, reduceCtorEq, and_true, true_and] using h9
  · have h9 := r_mr40 R
    unfold Cmr40
    simpa (disch := omega) only [gI_uI, nM_u, tk_ne9, tk_inj, if_false, if_true, false_and, and_false, Nat.reduceEqDiff, reduceIte, reduceCtorEq, and_true, true_and] using h9
  · have h9 := r_md R
    unfold Cmd
    simpa (disch := omega) only [gI_uI, nM_u, tk_ne9, tk_inj, if_false, if_true, false_and, and_false, Nat.reduceEqDiff, reduceIte, reduceCtorEq, and_true, true_and] using h9
  · have h9 := r_mw R
    unfold Cmw
    simpa (disch := omega) only [gI_uI, nM_u, tk_ne9, tk_inj, if_false, if_true, false_and, and_false, Nat.reduceEqDiff, reduceIte, reduceCtorEq, and_true, true_and] using h9
  · have h9 := r_q0 R
    unfold Cq0
    simpa (disch := omega) only [sP_wI, nP_u, tk_ne9, tk_inj, if_false, if_true, false_and, and_false, Nat.reduceEqDiff, reduceIte, reduceCtorEq, and_true, true_and] using h9
  · have h9 := r_qn R
    unfold Cqn
    simpa (disch := omega) only [sI_wI, nP_u, tk_ne9, tk_inj, if_false, if_true, false_and, and_false, Nat.reduceEqDiff, reduceIte, reduceCtorEq, and_true, true_and] using h9
  · have h9 := r_q1 R
    unfold Cq1
    simpa (disch := omega) only [sI_wI, gI_uI, nP_u, tk_ne9, tk_inj, if_false, if_true, false_and, and_false, Nat.reduceEqDiff, reduceIte, reduceCtorEq, and_true, true_and] using h9
  · have h9 := r_q2 R
    unfold Cq2
    simpa (disch := omega) only [sI_wI, gI_uI, nP_u, tk_ne9, tk_inj, if_false, if_true, false_and, and_false, Nat.reduceEqDiff, reduceIte, reduceCtorEq, and_true, true_and] using h9
  · have h9 := r_q3 R
    unfold Cq3
    simpa (disch := omega) only [sI_wI, gI_uI, nP_u, tk_ne9, tk_inj, if_false, if_true, false_and, and_false, Nat.reduceEqDiff, reduceIte, reduceCtorEq, and_true, true_and] using h9
  · have h9 := r_q4 R
    unfold Cq4
    simpa (disch := omega) only [sP_wI, nP_u, tk_ne9, tk_inj, if_false, if_true, false_and, and_false, Nat.reduceEqDiff, reduceIte, reduceCtorEq, and_true, true_and] using h9
  · have h9 := r_q5 R
    unfold Cq5
    simpa (disch := omega) only [sP_wI, nP_u, tk_ne9, tk_inj, if_false, if_true, false_and, and_false, Nat.reduceEqDiff, reduceIte, reduceCtorEq, and_true, true_and] using h9
  · have h9 := r_q6 R
    unfold Cq6
    simpa (disch := omega) only [sI_wI, gI_uI, nM_u, nP_u, tk_ne9, tk_inj, if_false, if_true, false_and, and_false, Nat.reduceEqDiff, reduceIte, reduceCtorEq, and_true, true_and] using h9
  · have h9 := r_ql R
    unfold Cql
    simpa (disch := omega) only [sI_wI, gI_uI, nP_u, tk_ne9, tk_inj, if_false, if_true, false_and, and_false, Nat.reduceEqDiff, reduceIte, reduceCtorEq, and_true, true_and] using h9
  · have h9 := r_qw R
    unfold Cqw
    simpa (disch := omega) only [sI_wI, gI_uI, nP_u, tk_ne9, tk_inj, if_false, if_true, false_and, and_false, Nat.reduceEqDiff, reduceIte, reduceCtorEq, and_true, true_and] using h9
  · have h9 := r_qm R
    unfold Cqm
    simpa (disch := omega) only [gI_uI, nP_u, tk_ne9, tk_inj, if_false, if_true, false_and, and_false, Nat.reduceEqDiff, reduceIte, reduceCtorEq, and_true, true_and] using h9
  · have h9 := r_qr R
    unfold Cqr
    simpa (disch := omega) only [gI_uI, nP_u, tk_ne9, tk_inj, if_false, if_true, false_and, and_false, Nat.reduceEqDiff, reduceIte, reduceCtorEq, and_true, true_and] using h9
  · have h9 := r_r0 R
    unfold Cr0
    simpa (disch := omega) only [sP_wI, nO_u, tk_ne9, tk_inj, if_false, if_true, false_and, and_false, Nat.reduceEqDiff, reduceIte, reduceCtorEq, and_true, true_and] using h9
  · have h9 := r_r1 R
    unfold Cr1
    simpa (disch := omega) only [sP_wI, gI_uI, nO_u, tk_ne9, tk_inj, if_false, if_true, false_and, and_false, Nat.reduceEqDiff, reduceIte, reduceCtorEq, and_true, true_and] using h9
  · have h9 := r_r2 R
    unfold Cr2
    simpa (disch := omega) only [sI_wI, gI_uI, nO_u, tk_ne9, tk_inj, if_false, if_true, false_and, and_false, Nat.reduceEqDiff, reduceIte, reduceCtorEq, and_true, true_and] using h9
  · have h9 := r_r3 R
    unfold Cr3
    simpa (disch := omega) only [sI_wI, gI_uI, nO_u, tk_ne9, tk_inj, if_false, if_true, false_and, and_false, Nat.reduceEqDiff, reduceIte, reduceCtorEq, and_true, true_and] using h9
  · have h9 := r_r4 R
    unfold Cr4
    simpa (disch := omega) only [sI_wI, gI_uI, nO_u, tk_ne9, tk_inj, if_false, if_true, false_and, and_false, Nat.reduceEqDiff, reduceIte, reduceCtorEq, and_true, true_and] using h9
  · have h9 := r_r5 R
    unfold Cr5
    simpa (disch := omega) only [sP_wI, gI_uI, nO_u, tk_ne9, tk_inj, if_false, if_true, false_and, and_false, Nat.reduceEqDiff, reduceIte, reduceCtorEq, and_true, true_and] using h9
  · have h9 := r_r6 R
    unfold Cr6
    simpa (disch := omega) only [sI_wI, gI_uI, nO_u, tk_ne9, tk_inj, if_false, if_true, false_and, and_false, Nat.reduceEqDiff, reduceIte, reduceCtorEq, and_true, true_and] using h9
  · have h9 := r_rk R
    unfold Crk
    simpa (disch := omega) only [gI_uI, nO_u, tk_ne9, tk_inj, if_false, if_true, false_and, and_false, Nat.reduceEqDiff, reduceIte, reduceCtorEq, and_true, true_and] using h9
  · have h9 := r_rp R
    unfold Crp
    simpa (disch := omega) only [gI_uI, nO_u, tk_ne9, tk_inj, if_false, if_true, false_and, and_false, Nat.reduceEqDiff, reduceIte, reduceCtorEq, and_true, true_and] using h9
  · have h9 := r_rq R
    unfold Crq
    simpa (disch := omega) only [gI_uI, nO_u, pr_u, tk_ne9, tk_inj, if_false, if_true, false_and, and_false, Nat.reduceEqDiff, reduceIte, reduceCtorEq, and_true, true_and] using h9
  · have h9 := r_rr R
    unfold Crr
    simpa (disch := omega) only [gI_uI, nO_u, pr_u, tk_ne9, tk_inj, if_false, if_true, false_and, and_false, Nat.reduceEqDiff, reduceIte, reduceCtorEq, and_true, true_and] using h9
  · have h9 := r_rs R
    unfold Crs
    simpa (disch := omega) only [gI_uI, nB_u, nO_u, tk_ne9, tk_inj, if_false, if_true, false_and, and_false, Nat.reduceEqDiff, reduceIte, reduceCtorEq, and_true, true_and] using h9
set_option maxHeartbeats 8000000 in
theorem rel_stand {e : Nat} {a : Sg} {M : MS} (R : Rel e a M) (v : Int32) (hv : b01 v) : Rel e (wI a (tk 9 0) 4 v) (uI M 254 0 v) := by
  unfold Rel
  refine ⟨?_, ?_, ?_, ?_, ?_, ?_, ?_, ?_, ?_, ?_, ?_, ?_, ?_, ?_, ?_, ?_, ?_, ?_, ?_, ?_, ?_, ?_, ?_, ?_, ?_, ?_, ?_, ?_, ?_, ?_, ?_, ?_, ?_, ?_, ?_, ?_, ?_, ?_, ?_, ?_, ?_, ?_, ?_, ?_, ?_, ?_, ?_, ?_, ?_, ?_, ?_, ?_, ?_, ?_, ?_, ?_, ?_, ?_, ?_, ?_, ?_, ?_, ?_, ?_, ?_, ?_, ?_, ?_, ?_, ?_, ?_, ?_, ?_, ?_, ?_, ?_, ?_, ?_, ?_, ?_, ?_, ?_, ?_, ?_, ?_, ?_, ?_, ?_, ?_, ?_, ?_, ?_, ?_, ?_, ?_, ?_, ?_, ?_, ?_, ?_, ?_, ?_, ?_, ?_, ?_, ?_, ?_, ?_, ?_, ?_, ?_, ?_, ?_, ?_, ?_, ?_, ?_, ?_, ?_, ?_, ?_, ?_, ?_, ?_, ?_, ?_, ?_, ?_, ?_, ?_, ?_, ?_, ?_, ?_, ?_, ?_, ?_, ?_, ?_, ?_, ?_, ?_, ?_, ?_, ?_, ?_, ?_, ?_, ?_⟩
  · have h9 := r_shm R
    exact h9
  · have h9 := r_px0 R
    exact h9
  · have h9 := r_px1 R
    exact h9
  · have h9 := r_px2 R
    exact h9
  · have h9 := r_pf0 R
    exact h9
  · have h9 := r_pf1 R
    exact h9
  · have h9 := r_pf3 R
    exact h9
  · have h9 := r_ps0 R
    exact h9
  · have h9 := r_ps2 R
    exact h9
  · have h9 := r_ps4 R
    exact h9
  · have h9 := r_pk R
    exact h9
  · have h9 := r_pkl R
    exact h9
  · have h9 := r_pko R
    exact h9
  · have h9 := r_ghour R
    unfold Cghour
    simpa (disch := omega) only [sI_wI, gI_uI, tk_ne9, tk_inj, if_false, if_true, false_and, and_false, Nat.reduceEqDiff, reduceIte, reduceCtorEq, and_true, true_and] using h9
  · have h9 := r_gstand R
    unfold Cgstand
    simpa (disch := omega) only [sI_wI, gI_uI, tk_ne9, tk_inj, if_false, if_true, false_and, and_false, Nat.reduceEqDiff, reduceIte, reduceCtorEq, and_true, true_and] using h9
  · have h9 := r_gbought R
    unfold Cgbought
    simpa (disch := omega) only [sI_wI, gI_uI, tk_ne9, tk_inj, if_false, if_true, false_and, and_false, Nat.reduceEqDiff, reduceIte, reduceCtorEq, and_true, true_and] using h9
  · have h9 := r_gmach R
    unfold Cgmach
    simpa (disch := omega) only [sI_wI, gI_uI, tk_ne9, tk_inj, if_false, if_true, false_and, and_false, Nat.reduceEqDiff, reduceIte, reduceCtorEq, and_true, true_and] using h9
  · have h9 := r_gpers R
    unfold Cgpers
    simpa (disch := omega) only [sI_wI, gI_uI, tk_ne9, tk_inj, if_false, if_true, false_and, and_false, Nat.reduceEqDiff, reduceIte, reduceCtorEq, and_true, true_and] using h9
  · have h9 := r_gworked R
    unfold Cgworked
    simpa (disch := omega) only [sI_wI, gI_uI, tk_ne9, tk_inj, if_false, if_true, false_and, and_false, Nat.reduceEqDiff, reduceIte, reduceCtorEq, and_true, true_and] using h9
  · have h9 := r_grep R
    unfold Cgrep
    simpa (disch := omega) only [sI_wI, gI_uI, tk_ne9, tk_inj, if_false, if_true, false_and, and_false, Nat.reduceEqDiff, reduceIte, reduceCtorEq, and_true, true_and] using h9
  · have h9 := r_gbat R
    unfold Cgbat
    simpa (disch := omega) only [sI_wI, gI_uI, tk_ne9, tk_inj, if_false, if_true, false_and, and_false, Nat.reduceEqDiff, reduceIte, reduceCtorEq, and_true, true_and] using h9
  · have h9 := r_gord R
    unfold Cgord
    simpa (disch := omega) only [sI_wI, gI_uI, tk_ne9, tk_inj, if_false, if_true, false_and, and_false, Nat.reduceEqDiff, reduceIte, reduceCtorEq, and_true, true_and] using h9
  · have h9 := r_gq R
    unfold Cgq
    simpa (disch := omega) only [sI_wI, gI_uI, tk_ne9, tk_inj, if_false, if_true, false_and, and_false, Nat.reduceEqDiff, reduceIte, reduceCtorEq, and_true, true_and] using h9
  · have h9 := r_nB R
    unfold CnB
    simpa (disch := omega) only [gI_uI, nB_u, tk_ne9, tk_inj, if_false, if_true, false_and, and_false, Nat.reduceEqDiff, reduceIte, reduceCtorEq, and_true, true_and] using h9
  · have h9 := r_nBx R
    unfold CnBx
    simpa (disch := omega) only [nB_u, tk_ne9, tk_inj, if_false, if_true, false_and, and_false, Nat.reduceEqDiff, reduceIte, reduceCtorEq, and_true, true_and] using h9
  · have h9 := r_nM R
    unfold CnM
    simpa (disch := omega) only [gI_uI, nM_u, tk_ne9, tk_inj, if_false, if_true, false_and, and_false, Nat.reduceEqDiff, reduceIte, reduceCtorEq, and_true, true_and] using h9
  · have h9 := r_nMx R
    unfold CnMx
    simpa (disch := omega) only [nM_u, tk_ne9, tk_inj, if_false, if_true, false_and, and_false, Nat.reduceEqDiff, reduceIte, reduceCtorEq, and_true, true_and] using h9
  · have h9 := r_nP R
    unfold CnP
    simpa (disch := omega) only [gI_uI, nP_u, tk_ne9, tk_inj, if_false, if_true, false_and, and_false, Nat.reduceEqDiff, reduceIte, reduceCtorEq, and_true, true_and] using h9
  · have h9 := r_nPx R
    unfold CnPx
    simpa (disch := omega) only [nP_u, tk_ne9, tk_inj, if_false, if_true, false_and, and_false, Nat.reduceEqDiff, reduceIte, reduceCtorEq, and_true, true_and] using h9
  · have h9 := r_nO R
    unfold CnO
    simpa (disch := omega) only [gI_uI, nO_u, tk_ne9, tk_inj, if_false, if_true, false_and, and_false, Nat.reduceEqDiff, reduceIte, reduceCtorEq, and_true, true_and] using h9
  · have h9 := r_nOx R
    unfold CnOx
    simpa (disch := omega) only [nO_u, tk_ne9, tk_inj, if_false, if_true, false_and, and_false, Nat.reduceEqDiff, reduceIte, reduceCtorEq, and_true, true_and] using h9
  · have h9 := r_hr R
    unfold Chr
    simpa (disch := omega) only [gI_uI, hN_u, tk_ne9, tk_inj, if_false, if_true, false_and, and_false, Nat.reduceEqDiff, reduceIte, reduceCtorEq, and_true, true_and] using h9
  · have h9 := r_hrx R
    unfold Chrx
    simpa (disch := omega) only [hN_u, tk_ne9, tk_inj, if_false, if_true, false_and, and_false, Nat.reduceEqDiff, reduceIte, reduceCtorEq, and_true, true_and] using h9
  · unfold Cstb
    simpa [gI_uI] using hv
  · have h9 := r_ex R
    exact h9
  · have h9 := r_k0 R
    unfold Ck0
    simpa (disch := omega) only [sI_wI, tk_ne9, tk_inj, if_false, if_true, false_and, and_false, Nat.reduceEqDiff, reduceIte, reduceCtorEq, and_true, true_and] using h9
  · have h9 := r_k1 R
    unfold Ck1
    simpa (disch := omega) only [sI_wI, gI_uI, tk_ne9, tk_inj, if_false, if_true, false_and, and_false, Nat.reduceEqDiff, reduceIte, reduceCtorEq, and_true, true_and] using h9
  · have h9 := r_k2 R
    unfold Ck2
    simpa (disch := omega) only [sI_wI, gI_uI, tk_ne9, tk_inj, if_false, if_true, false_and, and_false, Nat.reduceEqDiff, reduceIte, reduceCtorEq, and_true, true_and] using h9
  · have h9 := r_k3 R
    unfold Ck3
    simpa (disch := omega) only [sI_wI, gI_uI, tk_ne9, tk_inj, if_false, if_true, false_and, and_false, Nat.reduceEqDiff, reduceIte, reduceCtorEq, and_true, true_and] using h9
  · have h9 := r_k5 R
    unfold Ck5
    simpa (disch := omega) only [sI_wI, gI_uI, tk_ne9, tk_inj, if_false, if_true, false_and, and_false, Nat.reduceEqDiff, reduceIte, reduceCtorEq, and_true, true_and] using h9
  · have h9 := r_k7 R
    unfold Ck7
    simpa (disch := omega) only [sI_wI, gI_uI, tk_ne9, tk_inj, if_false, if_true, false_and, and_false, Nat.reduceEqDiff, reduceIte, reduceCtorEq, and_true, true_and] using h9
  · have h9 := r_k8 R
    unfold Ck8
    simpa (disch := omega) only [sI_wI, gI_uI, tk_ne9, tk_inj, if_false, if_true, false_and, and_false, Nat.reduceEqDiff, reduceIte, reduceCtorEq, and_true, true_and] using h9
  · have h9 := r_k9 R
    unfold Ck9
    simpa (disch := omega) only [sI_wI, gI_uI, tk_ne9, tk_inj, if_false, if_true, false_and, and_false, Nat.reduceEqDiff, reduceIte, reduceCtorEq, and_true, true_and] using h9
  · have h9 := r_k10 R
    unfold Ck10
    simpa (disch := omega) only [sI_wI, nB_u, mInSt_u, tk_ne9, tk_inj, if_false, if_true, false_and, and_false, Nat.reduceEqDiff, reduceIte, reduceCtorEq, and_true, true_and] using h9
  · have h9 := r_k11 R
    unfold Ck11
    simpa (disch := omega) only [sI_wI, nO_u, mProm_u, tk_ne9, tk_inj, if_false, if_true, false_and, and_false, Nat.reduceEqDiff, reduceIte, reduceCtorEq, and_true, true_and] using h9
  · have h9 := r_k12 R
    unfold Ck12
    simpa (disch := omega) only [sI_wI, tk_ne9, tk_inj, if_false, if_true, false_and, and_false, Nat.reduceEqDiff, reduceIte, reduceCtorEq, and_true, true_and] using h9
  · have h9 := r_ksa R
    unfold Cksa
    simpa (disch := omega) only [gI_uI, tk_ne9, tk_inj, if_false, if_true, false_and, and_false, Nat.reduceEqDiff, reduceIte, reduceCtorEq, and_true, true_and] using h9
  · have h9 := r_ksb R
    unfold Cksb
    simpa (disch := omega) only [gI_uI, nOp_u, tk_ne9, tk_inj, if_false, if_true, false_and, and_false, Nat.reduceEqDiff, reduceIte, reduceCtorEq, and_true, true_and] using h9
  · have h9 := r_ksc R
    unfold Cksc
    simpa (disch := omega) only [gI_uI, nLn_u, nOp_u, tk_ne9, tk_inj, if_false, if_true, false_and, and_false, Nat.reduceEqDiff, reduceIte, reduceCtorEq, and_true, true_and] using h9
  · have h9 := r_kw R
    unfold Ckw
    simpa (disch := omega) only [gI_uI, tk_ne9, tk_inj, if_false, if_true, false_and, and_false, Nat.reduceEqDiff, reduceIte, reduceCtorEq, and_true, true_and] using h9
  · have h9 := r_kl R
    unfold Ckl
    simpa (disch := omega) only [gI_uI, nLn_u, tk_ne9, tk_inj, if_false, if_true, false_and, and_false, Nat.reduceEqDiff, reduceIte, reduceCtorEq, and_true, true_and] using h9
  · have h9 := r_ko R
    unfold Cko
    simpa (disch := omega) only [gI_uI, nOp_u, tk_ne9, tk_inj, if_false, if_true, false_and, and_false, Nat.reduceEqDiff, reduceIte, reduceCtorEq, and_true, true_and] using h9
  · have h9 := r_kp R
    unfold Ckp
    simpa (disch := omega) only [gI_uI, tk_ne9, tk_inj, if_false, if_true, false_and, and_false, Nat.reduceEqDiff, reduceIte, reduceCtorEq, and_true, true_and] using h9
  · have h9 := r_l0 R
    unfold Cl0
    simpa (disch := omega) only [sP_wI, nLn_u, tk_ne9, tk_inj, if_false, if_true, false_and, and_false, Nat.reduceEqDiff, reduceIte, reduceCtorEq, and_true, true_and] using h9
  · have h9 := r_l1 R
    unfold Cl1
    simpa (disch := omega) only [sP_wI, nLn_u, lnP_u, tk_ne9, tk_inj, if_false, if_true, false_and, and_false, Nat.reduceEqDiff, reduceIte, reduceCtorEq, and_true, true_and] using h9
  · have h9 := r_l2 R
    unfold Cl2
    simpa (disch := omega) only [sI_wI, gI_uI, nLn_u, tk_ne9, tk_inj, if_false, if_true, false_and, and_false, Nat.reduceEqDiff, reduceIte, reduceCtorEq, and_true, true_and] using h9
  · have h9 := r_l3 R
    unfold Cl3
    simpa (disch := omega) only [sP_wI, gI_uI, nLn_u, tk_ne9, tk_inj, if_false, if_true, false_and, and_false, Nat.reduceEqDiff, reduceIte, reduceCtorEq, and_true, true_and] using h9
  · have h9 := r_lm R
    unfold Clm
    simpa (disch := omega) only [gI_uI, nLn_u, lnP_u, tk_ne9, tk_inj, if_false, if_true, false_and, and_false, Nat.reduceEqDiff, reduceIte, reduceCtorEq, and_true, true_and] using h9
  · have h9 := r_o0 R
    unfold Co0
    simpa (disch := omega) only [sP_wI, nOp_u, tk_ne9, tk_inj, if_false, if_true, false_and, and_false, Nat.reduceEqDiff, reduceIte, reduceCtorEq, and_true, true_and] using h9
  · have h9 := r_o1 R
    unfold Co1
    simpa (disch := omega) only [sI_wI, gI_uI, nOp_u, tk_ne9, tk_inj, if_false, if_true, false_and, and_false, Nat.reduceEqDiff, reduceIte, reduceCtorEq, and_true, true_and] using h9
  · have h9 := r_o2 R
    unfold Co2
    simpa (disch := omega) only [sI_wI, gI_uI, nOp_u, tk_ne9, tk_inj, if_false, if_true, false_and, and_false, Nat.reduceEqDiff, reduceIte, reduceCtorEq, and_true, true_and] using h9
  · have h9 := r_o3 R
    unfold Co3
    simpa (disch := omega) only [sI_wI, gI_uI, nOp_u, tk_ne9, tk_inj, if_false, if_true, false_and, and_false, Nat.reduceEqDiff, reduceIte, reduceCtorEq, and_true, true_and] using h9
  · have h9 := r_om R
    unfold Com
    simpa (disch := omega) only [gI_uI, nOp_u, tk_ne9, tk_inj, if_false, if_true, false_and, and_false, Nat.reduceEqDiff, reduceIte, reduceCtorEq, and_true, true_and] using h9
  · have h9 := r_b0 R
    unfold Cb0
    simpa (disch := omega) only [sP_wI, nB_u, tk_ne9, tk_inj, if_false, if_true, false_and, and_false, Nat.reduceEqDiff, reduceIte, reduceCtorEq, and_true, true_and] using h9
  · have h9 := r_bn R
    unfold Cbn
    simpa (disch := omega) only [sI_wI, nB_u, tk_ne9, tk_inj, if_false, if_true, false_and, and_false, Nat.reduceEqDiff, reduceIte, reduceCtorEq, and_true, true_and] using h9
  · have h9 := r_bk R
    unfold Cbk
    simpa (disch := omega) only [sP_wI, nB_u, kd_u, tk_ne9, tk_inj, if_false, if_true, false_and, and_false, Nat.reduceEqDiff, reduceIte, reduceCtorEq, and_true, true_and] using h9
  · have h9 := r_b2 R
    unfold Cb2
    simpa (disch := omega) only [sI_wI, gI_uI, nB_u, tk_ne9, tk_inj, if_false, if_true, false_and, and_false, Nat.reduceEqDiff, reduceIte, reduceCtorEq, and_true, true_and] using h9
  · have h9 := r_b3 R
    unfold Cb3
    simpa (disch := omega) only [sI_wI, gI_uI, nB_u, tk_ne9, tk_inj, if_false, if_true, false_and, and_false, Nat.reduceEqDiff, reduceIte, reduceCtorEq, and_true, true_and] using h9
  · have h9 := r_b4 R
    unfold Cb4
    simpa (disch := omega) only [sI_wI, gI_uI, nB_u, tk_ne9, tk_inj, if_false, if_true, false_and, and_false, Nat.reduceEqDiff, reduceIte, reduceCtorEq, and_true, true_and] using h9
  · have h9 := r_b5 R
    unfold Cb5
    simpa (disch := omega) only [sI_wI, gI_uI, nB_u, tk_ne9, tk_inj, if_false, if_true, false_and, and_false, Nat.reduceEqDiff, reduceIte, reduceCtorEq, and_true, true_and] using h9
  · have h9 := r_b6 R
    unfold Cb6
    simpa (disch := omega) only [sI_wI, gI_uI, nB_u, tk_ne9, tk_inj, if_false, if_true, false_and, and_false, Nat.reduceEqDiff, reduceIte, reduceCtorEq, and_true, true_and] using h9
  · have h9 := r_b7 R
    unfold Cb7
    simpa (disch := omega) only [sI_wI, gI_uI, nB_u, tk_ne9, tk_inj, if_false, if_true, false_and, and_false, Nat.reduceEqDiff, reduceIte, reduceCtorEq, and_true, true_and] using h9
  · have h9 := r_b8 R
    unfold Cb8
    simpa (disch := omega) only [sI_wI, gI_uI, nB_u, tk_ne9, tk_inj, if_false, if_true, false_and, and_false, Nat.reduceEqDiff, reduceIte, reduceCtorEq, and_true, true_and] using h9
  · have h9 := r_b9 R
    unfold Cb9
    simpa (disch := omega) only [sI_wI, gI_uI, nB_u, tk_ne9, tk_inj, if_false, if_true, false_and, and_false, Nat.reduceEqDiff, reduceIte, reduceCtorEq, and_true, true_and] using h9
  · have h9 := r_b10 R
    unfold Cb10
    simpa (disch := omega) only [sI_wI, gI_uI, nB_u, tk_ne9, tk_inj, if_false, if_true, false_and, and_false, Nat.reduceEqDiff, reduceIte, reduceCtorEq, and_true, true_and] using h9
  · have h9 := r_b11 R
    unfold Cb11
    simpa (disch := omega) only [sL_wI, gL_uI, nB_u, tk_ne9, tk_inj, if_false, if_true, false_and, and_false, Nat.reduceEqDiff, reduceIte, reduceCtorEq, and_true, true_and] using h9
  · have h9 := r_bK R
    unfold CbK
    simpa (disch := omega) only [gI_uI, nB_u, kd_u, tk_ne9, tk_inj, if_false, if_true, false_and, and_false, Nat.reduceEqDiff, reduceIte, reduceCtorEq, and_true, true_and] using h9
  · have h9 := r_bP R
    unfold CbP
    simpa (disch := omega) only [gI_uI, nB_u, pc_u, tk_ne9, tk_inj, if_false, if_true, false_and, and_false, Nat.reduceEqDiff, reduceIte, reduceCtorEq, and_true, true_and] using h9
  · have h9 := r_bO R
    unfold CbO
    simpa (disch := omega) only [gI_uI, nB_u, op_u, tk_ne9, tk_inj, if_false, if_true, false_and, and_false, Nat.reduceEqDiff, reduceIte, reduceCtorEq, and_true, true_and] using h9
  · have h9 := r_bW R
    unfold CbW
    simpa (disch := omega) only [gI_uI, nB_u, nOp_u, kd_u, op_u, tk_ne9, tk_inj, if_false, if_true, false_and, and_false, Nat.reduceEqDiff, reduceIte, reduceCtorEq, and_true, true_and] using h9
  · have h9 := r_bZ R
    unfold CbZ
    simpa (disch := omega) only [gI_uI, nB_u, pc_u, tk_ne9, tk_inj, if_false, if_true, false_and, and_false, Nat.reduceEqDiff, reduceIte, reduceCtorEq, and_true, true_and] using h9
  · have h9 := r_bF R
    unfold CbF
    simpa (disch := omega) only [gI_uI, nB_u, tk_ne9, tk_inj, if_false, if_true, false_and, and_false, Nat.reduceEqDiff, reduceIte, reduceCtorEq, and_true, true_and] using h9
  · have h9 := r_bS R
    unfold CbS
    simpa (disch := omega) only [gI_uI, nB_u, tk_ne9, tk_inj, if_false, if_true, false_and, and_false, Nat.reduceEqDiff, reduceIte, reduceCtorEq, and_true, true_and] using h9
  · have h9 := r_bC R
    unfold CbC
    simpa (disch := omega) only [gI_uI, nB_u, tk_ne9, tk_inj, if_false, if_true, false_and, and_false, Nat.reduceEqDiff, reduceIte, reduceCtorEq, and_true, true_and] using h9
  · have h9 := r_bT R
    unfold CbT
    simpa (disch := omega) only [gI_uI, nB_u, tk_ne9, tk_inj, if_false, if_true, false_and, and_false, Nat.reduceEqDiff, reduceIte, reduceCtorEq, and_true, true_and] using h9
  · have h9 := r_bU R
    unfold CbU
    simpa (disch := omega) only [gI_uI, nB_u, kd_u, tk_ne9, tk_inj, if_false, if_true, false_and, and_false, Nat.reduceEqDiff, reduceIte, reduceCtorEq, and_true, true_and] using h9
  · have h9 := r_bq R
    unfold Cbq
    simpa (disch := omega) only [nB_u, totp_u, tk_ne9, tk_inj, if_false, if_true, false_and, and_false, Nat.reduceEqDiff, reduceIte, reduceCtorEq, and_true, true_and] using h9
  · have h9 := r_ps R
    unfold Cps
    simpa (disch := omega) only [nB_u, nO_u, nInSt_u, nProm_u, tk_ne9, tk_inj, if_false, if_true, false_and, and_false, Nat.reduceEqDiff, reduceIte, reduceCtorEq, and_true, true_and] using h9
  · have h9 := r_bp R
    unfold Cbp
    simpa (disch := omega) only [gL_uI, nB_u, tk_ne9, tk_inj, if_false, if_true, false_and, and_false, Nat.reduceEqDiff, reduceIte, reduceCtorEq, and_true, true_and] using h9
  · have h9 := r_bc R
    unfold Cbc
    simpa (disch := omega) only [nB_u, hN_u, tot_u, tk_ne9, tk_inj, if_false, if_true, false_and, and_false, Nat.reduceEqDiff, reduceIte, reduceCtorEq, and_true, true_and] using h9
  · have h9 := r_fB R
    unfold CfB
    simpa (disch := omega) only [sX_wI, nB_u, tk_ne9, tk_inj, if_false, if_true, false_and, and_false, Nat.reduceEqDiff, reduceIte, reduceCtorEq, and_true, true_and] using h9
  · have h9 := r_fL R
    unfold CfL
    simpa (disch := omega) only [sX_wI, nLn_u, tk_ne9, tk_inj, if_false, if_true, false_and, and_false, Nat.reduceEqDiff, reduceIte, reduceCtorEq, and_true, true_and] using h9
  · have h9 := r_fO R
    unfold CfO
    simpa (disch := omega) only [sX_wI, nOp_u, tk_ne9, tk_inj, if_false, if_true, false_and, and_false, Nat.reduceEqDiff, reduceIte, reduceCtorEq, and_true, true_and] using h9
  · have h9 := r_fM R
    unfold CfM
    simpa (disch := omega) only [sX_wI, nM_u, tk_ne9, tk_inj, if_false, if_true, false_and, and_false, Nat.reduceEqDiff, reduceIte, reduceCtorEq, and_true, true_and] using h9
  · have h9 := r_fP R
    unfold CfP
    simpa (disch := omega) only [sX_wI, nP_u, tk_ne9, tk_inj, if_false, if_true, false_and, and_false, Nat.reduceEqDiff, reduceIte, reduceCtorEq, and_true, true_and] using h9
  · have h9 := r_fR R
    unfold CfR
    simpa (disch := omega) only [sX_wI, nO_u, tk_ne9, tk_inj, if_false, if_true, false_and, and_false, Nat.reduceEqDiff, reduceIte, reduceCtorEq, and_true, true_and] using h9
  · have h9 := r_fG R
    exact h9
  · have h9 := r_m0 R
    unfold Cm0
    simpa (disch := omega) only [sP_wI, nM_u, tk_ne9, tk_inj, if_false, if_true, false_and, and_false, Nat.reduceEqDiff, reduceIte, reduceCtorEq, and_true, true_and] using h9
  · have h9 := r_mn R
    unfold Cmn
    simpa (disch := omega) only [sI_wI, nM_u, tk_ne9, tk_inj, if_false, if_true, false_and, and_false, Nat.reduceEqDiff, reduceIte, reduceCtorEq, and_true, true_and] using h9
  · have h9 := r_m1 R
    unfold Cm1
    simpa (disch := omega) only [sI_wI, gI_uI, nM_u, tk_ne9, tk_inj, if_false, if_true, false_and, and_false, Nat.reduceEqDiff, reduceIte, reduceCtorEq, and_true, true_and] using h9
  · have h9 := r_m2 R
    unfold Cm2
    simpa (disch := omega) only [sI_wI, gI_uI, nM_u, tk_ne9, tk_inj, if_false, if_true, false_and, and_false, Nat.reduceEqDiff, reduceIte, reduceCtorEq, and_true, true_and] using h9
  · have h9 := r_m3 R
    unfold Cm3
    simpa (disch := omega) only [sI_wI, gI_uI, nM_u, tk_ne9, tk_inj, if_false, if_true, false_and, and_false, Nat.reduceEqDiff, reduceIte, reduceCtorEq, and_true, true_and] using h9
  · have h9 := r_m4 R
    unfold Cm4
    simpa (disch := omega) only [sI_wI, gI_uI, nM_u, tk_ne9, tk_inj, if_false, if_true, false_and, and_false, Nat.reduceEqDiff, reduceIte, reduceCtorEq, and_true, true_and] using h9
  · have h9 := r_m5 R
    unfold Cm5
    simpa (disch := omega) only [sI_wI, gI_uI, nM_u, tk_ne9, tk_inj, if_false, if_true, false_and, and_false, Nat.reduceEqDiff, reduceIte, reduceCtorEq, and_true, true_and] using h9
  · have h9 := r_m9 R
    unfold Cm9
    simpa (disch := omega) only [sI_wI, gI_uI, nM_u, tk_ne9, tk_inj, if_false, if_true, false_and, and_false, Nat.reduceEqDiff, reduceIte, reduceCtorEq, and_true, true_and] using h9
  · have h9 := r_m11 R
    unfold Cm11
    simpa (disch := omega) only [sI_wI, gI_uI, nM_u, tk_ne9, tk_inj, if_false, if_true, false_and, and_false, Nat.reduceEqDiff, reduceIte, reduceCtorEq, and_true, true_and] using h9
  · have h9 := r_m13 R
    unfold Cm13
    simpa (disch := omega) only [sI_wI, gI_uI, nM_u, tk_ne9, tk_inj, if_false, if_true, false_and, and_false, Nat.reduceEqDiff, reduceIte, reduceCtorEq, and_true, true_and] using h9
  · have h9 := r_m14 R
    unfold Cm14
    simpa (disch := omega) only [sI_wI, gI_uI, nM_u, tk_ne9, tk_inj, if_false, if_true, false_and, and_false, Nat.reduceEqDiff, reduceIte, reduceCtorEq, and_true, true_and] using h9
  · have h9 := r_m6 R
    unfold Cm6
    simpa (disch := omega) only [sP_wI, gI_uI, nM_u, tk_ne9, tk_inj, if_false, if_true, false_and, and_false, Nat.reduceEqDiff, reduceIte, reduceCtorEq, and_true, true_and] using h9
  · have h9 := r_m7 R
    unfold Cm7
    simpa (disch := omega) only [sP_wI, gI_uI, nM_u, tk_ne9, tk_inj, if_false, if_true, false_and, and_false, Nat.reduceEqDiff, reduceIte, reduceCtorEq, and_true, true_and] using h9
  · have h9 := r_m8 R
    unfold Cm8
    simpa (disch := omega) only [sP_wI, gI_uI, nM_u, tk_ne9, tk_inj, if_false, if_true, false_and, and_false, Nat.reduceEqDiff, reduceIte, reduceCtorEq, and_true, true_and] using h9
  · have h9 := r_m12 R
    unfold Cm12
    simpa (disch := omega) only [sP_wI, gI_uI, nM_u, tk_ne9, tk_inj, if_false, if_true, false_and, and_false, Nat.reduceEqDiff, reduceIte, reduceCtorEq, and_true, true_and] using h9
  · have h9 := r_m10 R
    unfold Cm10
    simpa (disch := omega) only [sI_wI, gI_uI, nB_u, nM_u, tk_ne9, tk_inj, if_false, if_true, false_and, and_false, Nat.reduceEqDiff, reduceIte, reduceCtorEq, and_true, true_and] using h9
  · have h9 := r_mma R
    unfold Cmma
    simpa (disch := omega) only [gI_uI, nM_u, tk_ne9, tk_inj, if_false, if_true, false_and, and_false, Nat.reduceEqDiff, reduceIte, reduceCtorEq, and_true, true_and] using h9
  · have h9 := r_mmb R
    unfold Cmmb
    simpa (disch := omega) only [gI_uI, nB_u, nM_u, nP_u, tk_ne9, tk_inj, if_false, if_true, false_and, and_false, Nat.reduceEqDiff, reduceIte, reduceCtorEq, and_true, true_and] using h9
  · have h9 := r_mmc R
    unfold Cmmc
    simpa (disch := omega) only [gI_uI, nM_u, tk_ne9, tk_inj, if_false, if_true, false_and, and_false, Nat.reduceEqDiff, reduceIte, reduceCtorEq, and_true, true_and] using h9
  · have h9 := r_mr29 R
    unfold Cmr29
    simpa (disch := omega) only [gI_uI, nM_u, tk_ne9, tk_inj, if_false, if_true, false_and, and_false, Nat.reduceEqDiff, reduceIte, reduceCtorEq, and_true, true_and] using h9
  · have h9 := r_mr30 R
    unfold Cmr30
    simpa (disch := omega) only [gI_uI, nM_u, tk_ne9, tk_inj, if_false, if_true, false_and, and_false, Nat.reduceEqDiff, reduceIte, reduceCtorEq, and_true, true_and] using h9
  · have h9 := r_mr31 R
    unfold Cmr31
    simpa (disch := omega) only [gI_uI, nM_u, tk_ne9, tk_inj, if_false, if_true, false_and, and_false, Nat.reduceEqDiff, reduceIte, reduceCtorEq, and_true, true_and] using h9
  · have h9 := r_mr32 R
    unfold Cmr32
    simpa (disch := omega) only [gI_uI, nM_u, tk_ne9, tk_inj, if_false, if_true, false_and, and_false, Nat.reduceEqDiff, reduceIte, reduceCtorEq, and_true, true_and] using h9
  · have h9 := r_mr35 R
    unfold Cmr35
    simpa (disch := omega) only [gI_uI, nM_u, tk_ne9, tk_inj, if_false, if_true, false_and, and_false, Nat.reduceEqDiff, reduceIte, reduceCtorEq, and_true, true_and] using h9
  · have h9 := r_mr39 R
    unfold Cmr39
    simpa (disch := omega) only [gI_uI, nM_u, tk_ne9, tk_inj, if_false, if_true, false_and, and_false, Nat.reduceEqDiff, reduceIte, reduceCtorEq, and_true, true_and] using h9
  · have h9 := r_mr40 R
    unfold Cmr40
    simpa (disch := omega) only [gI_uI, nM_u, tk_ne9, tk_inj, if_false, if_true, false_and, and_false, Nat.reduceEqDiff, reduceIte, reduceCtorEq, and_true, true_and] using h9
  · have h9 := r_md R
    unfold Cmd
    simpa (disch := omega) only [gI_uI, nM_u, tk_ne9, tk_inj, if_false, if_true, false_and, and_false, Nat.reduceEqDiff, reduceIte, reduceCtorEq, and_true, true_and] using h9
  · have h9 := r_mw R
    unfold Cmw
    simpa (disch := omega) only [gI_uI, nM_u, tk_ne9, tk_inj, if_false, if_true, false_and, and_false, Nat.reduceEqDiff, reduceIte, reduceCtorEq, and_true, true_and] using h9
  · have h9 := r_q0 R
    unfold Cq0
    simpa (disch := omega) only [sP_wI, nP_u, tk_ne9, tk_inj, if_false, if_true, false_and, and_false, Nat.reduceEqDiff, reduceIte, reduceCtorEq, and_true, true_and] using h9
  · have h9 := r_qn R
    unfold Cqn
    simpa (disch := omega) only [sI_wI, nP_u, tk_ne9, tk_inj, if_false, if_true, false_and, and_false, Nat.reduceEqDiff, reduceIte, reduceCtorEq, and_true, true_and] using h9
  · have h9 := r_q1 R
    unfold Cq1
    simpa (disch := omega) only [sI_wI, gI_uI, nP_u, tk_ne9, tk_inj, if_false, if_true, false_and, and_false, Nat.reduceEqDiff, reduceIte, reduceCtorEq, and_true, true_and] using h9
  · have h9 := r_q2 R
    unfold Cq2
    simpa (disch := omega) only [sI_wI, gI_uI, nP_u, tk_ne9, tk_inj, if_false, if_true, false_and, and_false, Nat.reduceEqDiff, reduceIte, reduceCtorEq, and_true, true_and] using h9
  · have h9 := r_q3 R
    unfold Cq3
    simpa (disch := omega) only [sI_wI, gI_uI, nP_u, tk_ne9, tk_inj, if_false, if_true, false_and, and_false, Nat.reduceEqDiff, reduceIte, reduceCtorEq, and_true, true_and] using h9
  · have h9 := r_q4 R
    unfold Cq4
    simpa (disch := omega) only [sP_wI, nP_u, tk_ne9, tk_inj, if_false, if_true, false_and, and_false, Nat.reduceEqDiff, reduceIte, reduceCtorEq, and_true, true_and] using h9
  · have h9 := r_q5 R
    unfold Cq5
    simpa (disch := omega) only [sP_wI, nP_u, tk_ne9, tk_inj, if_false, if_true, false_and, and_false, Nat.reduceEqDiff, reduceIte, reduceCtorEq, and_true, true_and] using h9
  · have h9 := r_q6 R
    unfold Cq6
    simpa (disch := omega) only [sI_wI, gI_uI, nM_u, nP_u, tk_ne9, tk_inj, if_false, if_true, false_and, and_false, Nat.reduceEqDiff, reduceIte, reduceCtorEq, and_true, true_and] using h9
  · have h9 := r_ql R
    unfold Cql
    simpa (disch := omega) only [sI_wI, gI_uI, nP_u, tk_ne9, tk_inj, if_false, if_true, false_and, and_false, Nat.reduceEqDiff, reduceIte, reduceCtorEq, and_true, true_and] using h9
  · have h9 := r_qw R
    unfold Cqw
    simpa (disch := omega) only [sI_wI, gI_uI, nP_u, tk_ne9, tk_inj, if_false, if_true, false_and, and_false, Nat.reduceEqDiff, reduceIte, reduceCtorEq, and_true, true_and] using h9
  · have h9 := r_qm R
    unfold Cqm
    simpa (disch := omega) only [gI_uI, nP_u, tk_ne9, tk_inj, if_false, if_true, false_and, and_false, Nat.reduceEqDiff, reduceIte, reduceCtorEq, and_true, true_and] using h9
  · have h9 := r_qr R
    unfold Cqr
    simpa (disch := omega) only [gI_uI, nP_u, tk_ne9, tk_inj, if_false, if_true, false_and, and_false, Nat.reduceEqDiff, reduceIte, reduceCtorEq, and_true, true_and] using h9
  · have h9 := r_r0 R
    unfold Cr0
    simpa (disch := omega) only [sP_wI, nO_u, tk_ne9, tk_inj, if_false, if_true, false_and, and_false, Nat.reduceEqDiff, reduceIte, reduceCtorEq, and_true, true_and] using h9
  · have h9 := r_r1 R
    unfold Cr1
    simpa (disch := omega) only [sP_wI, gI_uI, nO_u, tk_ne9, tk_inj, if_false, if_true, false_and, and_false, Nat.reduceEqDiff, reduceIte, reduceCtorEq, and_true, true_and] using h9
  · have h9 := r_r2 R
    unfold Cr2
    simpa (disch := omega) only [sI_wI, gI_uI, nO_u, tk_ne9, tk_inj, if_false, if_true, false_and, and_false, Nat.reduceEqDiff, reduceIte, reduceCtorEq, and_true, true_and] using h9
  · have h9 := r_r3 R
    unfold Cr3
    simpa (disch := omega) only [sI_wI, gI_uI, nO_u, tk_ne9, tk_inj, if_false, if_true, false_and, and_false, Nat.reduceEqDiff, reduceIte, reduceCtorEq, and_true, true_and] using h9
  · have h9 := r_r4 R
    unfold Cr4
    simpa (disch := omega) only [sI_wI, gI_uI, nO_u, tk_ne9, tk_inj, if_false, if_true, false_and, and_false, Nat.reduceEqDiff, reduceIte, reduceCtorEq, and_true, true_and] using h9
  · have h9 := r_r5 R
    unfold Cr5
    simpa (disch := omega) only [sP_wI, gI_uI, nO_u, tk_ne9, tk_inj, if_false, if_true, false_and, and_false, Nat.reduceEqDiff, reduceIte, reduceCtorEq, and_true, true_and] using h9
  · have h9 := r_r6 R
    unfold Cr6
    simpa (disch := omega) only [sI_wI, gI_uI, nO_u, tk_ne9, tk_inj, if_false, if_true, false_and, and_false, Nat.reduceEqDiff, reduceIte, reduceCtorEq, and_true, true_and] using h9
  · have h9 := r_rk R
    unfold Crk
    simpa (disch := omega) only [gI_uI, nO_u, tk_ne9, tk_inj, if_false, if_true, false_and, and_false, Nat.reduceEqDiff, reduceIte, reduceCtorEq, and_true, true_and] using h9
  · have h9 := r_rp R
    unfold Crp
    simpa (disch := omega) only [gI_uI, nO_u, tk_ne9, tk_inj, if_false, if_true, false_and, and_false, Nat.reduceEqDiff, reduceIte, reduceCtorEq, and_true, true_and] using h9
  · have h9 := r_rq R
    unfold Crq
    simpa (disch := omega) only [gI_uI, nO_u, pr_u, tk_ne9, tk_inj, if_false, if_true, false_and, and_false, Nat.reduceEqDiff, reduceIte, reduceCtorEq, and_true, true_and] using h9
  · have h9 := r_rr R
    unfold Crr
    simpa (disch := omega) only [gI_uI, nO_u, pr_u, tk_ne9, tk_inj, if_false, if_true, false_and, and_false, Nat.reduceEqDiff, reduceIte, reduceCtorEq, and_true, true_and] using h9
  · have h9 := r_rs R
    unfold Crs
    simpa (disch := omega) only [gI_uI, nB_u, nO_u, tk_ne9, tk_inj, if_false, if_true, false_and, and_false, Nat.reduceEqDiff, reduceIte, reduceCtorEq, and_true, true_and] using h9
set_option maxHeartbeats 8000000 in
theorem rel_cost {e : Nat} {a : Sg} {M : MS} (R : Rel e a M) (j : Nat) (hj : j < nB M) (v : Int32) (h0 : 0 ≤ v.toInt) (hc : tot M (nB M) + (v.toInt - (gI M 17 j).toInt) ≤ 1980 * (nB M : Int) + 108 * (hN M : Int) + 18 * ((e % 7 : Nat) : Int)) : Rel e (wI a (tk 0 j) 3 v) (uI M 17 j v) := by
  unfold Rel
  refine ⟨?_, ?_, ?_, ?_, ?_, ?_, ?_, ?_, ?_, ?_, ?_, ?_, ?_, ?_, ?_, ?_, ?_, ?_, ?_, ?_, ?_, ?_, ?_, ?_, ?_, ?_, ?_, ?_, ?_, ?_, ?_, ?_, ?_, ?_, ?_, ?_, ?_, ?_, ?_, ?_, ?_, ?_, ?_, ?_, ?_, ?_, ?_, ?_, ?_, ?_, ?_, ?_, ?_, ?_, ?_, ?_, ?_, ?_, ?_, ?_, ?_, ?_, ?_, ?_, ?_, ?_, ?_, ?_, ?_, ?_, ?_, ?_, ?_, ?_, ?_, ?_, ?_, ?_, ?_, ?_, ?_, ?_, ?_, ?_, ?_, ?_, ?_, ?_, ?_, ?_, ?_, ?_, ?_, ?_, ?_, ?_, ?_, ?_, ?_, ?_, ?_, ?_, ?_, ?_, ?_, ?_, ?_, ?_, ?_, ?_, ?_, ?_, ?_, ?_, ?_, ?_, ?_, ?_, ?_, ?_, ?_, ?_, ?_, ?_, ?_, ?_, ?_, ?_, ?_, ?_, ?_, ?_, ?_, ?_, ?_, ?_, ?_, ?_, ?_, ?_, ?_, ?_, ?_, ?_, ?_, ?_, ?_, ?_, ?_⟩
  · have h9 := r_shm R
    exact h9
  · have h9 := r_px0 R
    exact h9
  · have h9 := r_px1 R
    exact h9
  · have h9 := r_px2 R
    exact h9
  · have h9 := r_pf0 R
    exact h9
  · have h9 := r_pf1 R
    exact h9
  · have h9 := r_pf3 R
    exact h9
  · have h9 := r_ps0 R
    exact h9
  · have h9 := r_ps2 R
    exact h9
  · have h9 := r_ps4 R
    exact h9
  · have h9 := r_pk R
    exact h9
  · have h9 := r_pkl R
    exact h9
  · have h9 := r_pko R
    exact h9
  · have h9 := r_ghour R
    unfold Cghour
    simpa (disch := omega) only [sI_wI, gI_uI, tk_ne9, tk_inj, if_false, if_true, false_and, and_false, Nat.reduceEqDiff, reduceIte, reduceCtorEq, and_true, true_and] using h9
  · have h9 := r_gstand R
    unfold Cgstand
    simpa (disch := omega) only [sI_wI, gI_uI, tk_ne9, tk_inj, if_false, if_true, false_and, and_false, Nat.reduceEqDiff, reduceIte, reduceCtorEq, and_true, true_and] using h9
  · have h9 := r_gbought R
    unfold Cgbought
    simpa (disch := omega) only [sI_wI, gI_uI, tk_ne9, tk_inj, if_false, if_true, false_and, and_false, Nat.reduceEqDiff, reduceIte, reduceCtorEq, and_true, true_and] using h9
  · have h9 := r_gmach R
    unfold Cgmach
    simpa (disch := omega) only [sI_wI, gI_uI, tk_ne9, tk_inj, if_false, if_true, false_and, and_false, Nat.reduceEqDiff, reduceIte, reduceCtorEq, and_true, true_and] using h9
  · have h9 := r_gpers R
    unfold Cgpers
    simpa (disch := omega) only [sI_wI, gI_uI, tk_ne9, tk_inj, if_false, if_true, false_and, and_false, Nat.reduceEqDiff, reduceIte, reduceCtorEq, and_true, true_and] using h9
  · have h9 := r_gworked R
    unfold Cgworked
    simpa (disch := omega) only [sI_wI, gI_uI, tk_ne9, tk_inj, if_false, if_true, false_and, and_false, Nat.reduceEqDiff, reduceIte, reduceCtorEq, and_true, true_and] using h9
  · have h9 := r_grep R
    unfold Cgrep
    simpa (disch := omega) only [sI_wI, gI_uI, tk_ne9, tk_inj, if_false, if_true, false_and, and_false, Nat.reduceEqDiff, reduceIte, reduceCtorEq, and_true, true_and] using h9
  · have h9 := r_gbat R
    unfold Cgbat
    simpa (disch := omega) only [sI_wI, gI_uI, tk_ne9, tk_inj, if_false, if_true, false_and, and_false, Nat.reduceEqDiff, reduceIte, reduceCtorEq, and_true, true_and] using h9
  · have h9 := r_gord R
    unfold Cgord
    simpa (disch := omega) only [sI_wI, gI_uI, tk_ne9, tk_inj, if_false, if_true, false_and, and_false, Nat.reduceEqDiff, reduceIte, reduceCtorEq, and_true, true_and] using h9
  · have h9 := r_gq R
    unfold Cgq
    simpa (disch := omega) only [sI_wI, gI_uI, tk_ne9, tk_inj, if_false, if_true, false_and, and_false, Nat.reduceEqDiff, reduceIte, reduceCtorEq, and_true, true_and] using h9
  · have h9 := r_nB R
    unfold CnB
    simpa (disch := omega) only [gI_uI, nB_u, tk_ne9, tk_inj, if_false, if_true, false_and, and_false, Nat.reduceEqDiff, reduceIte, reduceCtorEq, and_true, true_and] using h9
  · have h9 := r_nBx R
    unfold CnBx
    simpa (disch := omega) only [nB_u, tk_ne9, tk_inj, if_false, if_true, false_and, and_false, Nat.reduceEqDiff, reduceIte, reduceCtorEq, and_true, true_and] using h9
  · have h9 := r_nM R
    unfold CnM
    simpa (disch := omega) only [gI_uI, nM_u, tk_ne9, tk_inj, if_false, if_true, false_and, and_false, Nat.reduceEqDiff, reduceIte, reduceCtorEq, and_true, true_and] using h9
  · have h9 := r_nMx R
    unfold CnMx
    simpa (disch := omega) only [nM_u, tk_ne9, tk_inj, if_false, if_true, false_and, and_false, Nat.reduceEqDiff, reduceIte, reduceCtorEq, and_true, true_and] using h9
  · have h9 := r_nP R
    unfold CnP
    simpa (disch := omega) only [gI_uI, nP_u, tk_ne9, tk_inj, if_false, if_true, false_and, and_false, Nat.reduceEqDiff, reduceIte, reduceCtorEq, and_true, true_and] using h9
  · have h9 := r_nPx R
    unfold CnPx
    simpa (disch := omega) only [nP_u, tk_ne9, tk_inj, if_false, if_true, false_and, and_false, Nat.reduceEqDiff, reduceIte, reduceCtorEq, and_true, true_and] using h9
  · have h9 := r_nO R
    unfold CnO
    simpa (disch := omega) only [gI_uI, nO_u, tk_ne9, tk_inj, if_false, if_true, false_and, and_false, Nat.reduceEqDiff, reduceIte, reduceCtorEq, and_true, true_and] using h9
  · have h9 := r_nOx R
    unfold CnOx
    simpa (disch := omega) only [nO_u, tk_ne9, tk_inj, if_false, if_true, false_and, and_false, Nat.reduceEqDiff, reduceIte, reduceCtorEq, and_true, true_and] using h9
  · have h9 := r_hr R
    unfold Chr
    simpa (disch := omega) only [gI_uI, hN_u, tk_ne9, tk_inj, if_false, if_true, false_and, and_false, Nat.reduceEqDiff, reduceIte, reduceCtorEq, and_true, true_and] using h9
  · have h9 := r_hrx R
    unfold Chrx
    simpa (disch := omega) only [hN_u, tk_ne9, tk_inj, if_false, if_true, false_and, and_false, Nat.reduceEqDiff, reduceIte, reduceCtorEq, and_true, true_and] using h9
  · have h9 := r_stb R
    unfold Cstb
    simpa (disch := omega) only [gI_uI, tk_ne9, tk_inj, if_false, if_true, false_and, and_false, Nat.reduceEqDiff, reduceIte, reduceCtorEq, and_true, true_and] using h9
  · have h9 := r_ex R
    exact h9
  · have h9 := r_k0 R
    unfold Ck0
    simpa (disch := omega) only [sI_wI, tk_ne9, tk_inj, if_false, if_true, false_and, and_false, Nat.reduceEqDiff, reduceIte, reduceCtorEq, and_true, true_and] using h9
  · have h9 := r_k1 R
    unfold Ck1
    simpa (disch := omega) only [sI_wI, gI_uI, tk_ne9, tk_inj, if_false, if_true, false_and, and_false, Nat.reduceEqDiff, reduceIte, reduceCtorEq, and_true, true_and] using h9
  · have h9 := r_k2 R
    unfold Ck2
    simpa (disch := omega) only [sI_wI, gI_uI, tk_ne9, tk_inj, if_false, if_true, false_and, and_false, Nat.reduceEqDiff, reduceIte, reduceCtorEq, and_true, true_and] using h9
  · have h9 := r_k3 R
    unfold Ck3
    simpa (disch := omega) only [sI_wI, gI_uI, tk_ne9, tk_inj, if_false, if_true, false_and, and_false, Nat.reduceEqDiff, reduceIte, reduceCtorEq, and_true, true_and] using h9
  · have h9 := r_k5 R
    unfold Ck5
    simpa (disch := omega) only [sI_wI, gI_uI, tk_ne9, tk_inj, if_false, if_true, false_and, and_false, Nat.reduceEqDiff, reduceIte, reduceCtorEq, and_true, true_and] using h9
  · have h9 := r_k7 R
    unfold Ck7
    simpa (disch := omega) only [sI_wI, gI_uI, tk_ne9, tk_inj, if_false, if_true, false_and, and_false, Nat.reduceEqDiff, reduceIte, reduceCtorEq, and_true, true_and] using h9
  · have h9 := r_k8 R
    unfold Ck8
    simpa (disch := omega) only [sI_wI, gI_uI, tk_ne9, tk_inj, if_false, if_true, false_and, and_false, Nat.reduceEqDiff, reduceIte, reduceCtorEq, and_true, true_and] using h9
  · have h9 := r_k9 R
    unfold Ck9
    simpa (disch := omega) only [sI_wI, gI_uI, tk_ne9, tk_inj, if_false, if_true, false_and, and_false, Nat.reduceEqDiff, reduceIte, reduceCtorEq, and_true, true_and] using h9
  · have h9 := r_k10 R
    unfold Ck10
    simpa (disch := omega) only [sI_wI, nB_u, mInSt_u, tk_ne9, tk_inj, if_false, if_true, false_and, and_false, Nat.reduceEqDiff, reduceIte, reduceCtorEq, and_true, true_and] using h9
  · have h9 := r_k11 R
    unfold Ck11
    simpa (disch := omega) only [sI_wI, nO_u, mProm_u, tk_ne9, tk_inj, if_false, if_true, false_and, and_false, Nat.reduceEqDiff, reduceIte, reduceCtorEq, and_true, true_and] using h9
  · have h9 := r_k12 R
    unfold Ck12
    simpa (disch := omega) only [sI_wI, tk_ne9, tk_inj, if_false, if_true, false_and, and_false, Nat.reduceEqDiff, reduceIte, reduceCtorEq, and_true, true_and] using h9
  · have h9 := r_ksa R
    unfold Cksa
    simpa (disch := omega) only [gI_uI, tk_ne9, tk_inj, if_false, if_true, false_and, and_false, Nat.reduceEqDiff, reduceIte, reduceCtorEq, and_true, true_and] using h9
  · have h9 := r_ksb R
    unfold Cksb
    simpa (disch := omega) only [gI_uI, nOp_u, tk_ne9, tk_inj, if_false, if_true, false_and, and_false, Nat.reduceEqDiff, reduceIte, reduceCtorEq, and_true, true_and] using h9
  · have h9 := r_ksc R
    unfold Cksc
    simpa (disch := omega) only [gI_uI, nLn_u, nOp_u, tk_ne9, tk_inj, if_false, if_true, false_and, and_false, Nat.reduceEqDiff, reduceIte, reduceCtorEq, and_true, true_and] using h9
  · have h9 := r_kw R
    unfold Ckw
    simpa (disch := omega) only [gI_uI, tk_ne9, tk_inj, if_false, if_true, false_and, and_false, Nat.reduceEqDiff, reduceIte, reduceCtorEq, and_true, true_and] using h9
  · have h9 := r_kl R
    unfold Ckl
    simpa (disch := omega) only [gI_uI, nLn_u, tk_ne9, tk_inj, if_false, if_true, false_and, and_false, Nat.reduceEqDiff, reduceIte, reduceCtorEq, and_true, true_and] using h9
  · have h9 := r_ko R
    unfold Cko
    simpa (disch := omega) only [gI_uI, nOp_u, tk_ne9, tk_inj, if_false, if_true, false_and, and_false, Nat.reduceEqDiff, reduceIte, reduceCtorEq, and_true, true_and] using h9
  · have h9 := r_kp R
    unfold Ckp
    simpa (disch := omega) only [gI_uI, tk_ne9, tk_inj, if_false, if_true, false_and, and_false, Nat.reduceEqDiff, reduceIte, reduceCtorEq, and_true, true_and] using h9
  · have h9 := r_l0 R
    unfold Cl0
    simpa (disch := omega) only [sP_wI, nLn_u, tk_ne9, tk_inj, if_false, if_true, false_and, and_false, Nat.reduceEqDiff, reduceIte, reduceCtorEq, and_true, true_and] using h9
  · have h9 := r_l1 R
    unfold Cl1
    simpa (disch := omega) only [sP_wI, nLn_u, lnP_u, tk_ne9, tk_inj, if_false, if_true, false_and, and_false, Nat.reduceEqDiff, reduceIte, reduceCtorEq, and_true, true_and] using h9
  · have h9 := r_l2 R
    unfold Cl2
    simpa (disch := omega) only [sI_wI, gI_uI, nLn_u, tk_ne9, tk_inj, if_false, if_true, false_and, and_false, Nat.reduceEqDiff, reduceIte, reduceCtorEq, and_true, true_and] using h9
  · have h9 := r_l3 R
    unfold Cl3
    simpa (disch := omega) only [sP_wI, gI_uI, nLn_u, tk_ne9, tk_inj, if_false, if_true, false_and, and_false, Nat.reduceEqDiff, reduceIte, reduceCtorEq, and_true, true_and] using h9
  · have h9 := r_lm R
    unfold Clm
    simpa (disch := omega) only [gI_uI, nLn_u, lnP_u, tk_ne9, tk_inj, if_false, if_true, false_and, and_false, Nat.reduceEqDiff, reduceIte, reduceCtorEq, and_true, true_and] using h9
  · have h9 := r_o0 R
    unfold Co0
    simpa (disch := omega) only [sP_wI, nOp_u, tk_ne9, tk_inj, if_false, if_true, false_and, and_false, Nat.reduceEqDiff, reduceIte, reduceCtorEq, and_true, true_and] using h9
  · have h9 := r_o1 R
    unfold Co1
    simpa (disch := omega) only [sI_wI, gI_uI, nOp_u, tk_ne9, tk_inj, if_false, if_true, false_and, and_false, Nat.reduceEqDiff, reduceIte, reduceCtorEq, and_true, true_and] using h9
  · have h9 := r_o2 R
    unfold Co2
    simpa (disch := omega) only [sI_wI, gI_uI, nOp_u, tk_ne9, tk_inj, if_false, if_true, false_and, and_false, Nat.reduceEqDiff, reduceIte, reduceCtorEq, and_true, true_and] using h9
  · have h9 := r_o3 R
    unfold Co3
    simpa (disch := omega) only [sI_wI, gI_uI, nOp_u, tk_ne9, tk_inj, if_false, if_true, false_and, and_false, Nat.reduceEqDiff, reduceIte, reduceCtorEq, and_true, true_and] using h9
  · have h9 := r_om R
    unfold Com
    simpa (disch := omega) only [gI_uI, nOp_u, tk_ne9, tk_inj, if_false, if_true, false_and, and_false, Nat.reduceEqDiff, reduceIte, reduceCtorEq, and_true, true_and] using h9
  · have h9 := r_b0 R
    unfold Cb0
    simpa (disch := omega) only [sP_wI, nB_u, tk_ne9, tk_inj, if_false, if_true, false_and, and_false, Nat.reduceEqDiff, reduceIte, reduceCtorEq, and_true, true_and] using h9
  · have h9 := r_bn R
    unfold Cbn
    simpa (disch := omega) only [sI_wI, nB_u, tk_ne9, tk_inj, if_false, if_true, false_and, and_false, Nat.reduceEqDiff, reduceIte, reduceCtorEq, and_true, true_and] using h9
  · have h9 := r_bk R
    unfold Cbk
    simpa (disch := omega) only [sP_wI, nB_u, kd_u, tk_ne9, tk_inj, if_false, if_true, false_and, and_false, Nat.reduceEqDiff, reduceIte, reduceCtorEq, and_true, true_and] using h9
  · have h9 := r_b2 R
    unfold Cb2
    simpa (disch := omega) only [sI_wI, gI_uI, nB_u, tk_ne9, tk_inj, if_false, if_true, false_and, and_false, Nat.reduceEqDiff, reduceIte, reduceCtorEq, and_true, true_and] using h9
  · unfold Cb3
    intro x0_ h0
    have h9 := r_b3 R x0_ h0
    by_cases e1 : x0_ = j
    · subst e1
      (try simp (disch := omega) [sI_wI, sI_wP, sI_wL, sI_wN, sP_wI, sP_wP, sP_wL, sP_wN, sL_wI, sL_wP, sL_wL, sL_wN, sX_wI, sX_wP, sX_wL, sX_wN, gI_uI, gI_uL, gL_uI, gL_uL, tk_ne9, tk_inj, nB_u, nM_u, nP_u, nO_u, hN_u, nLn_u, nOp_u, lnP_u, pc_u, kd_u, op_u, pr_u, mInSt_u, mProm_u, nInSt_u, nProm_u, totp_u, tot_u, nB_l, nM_l, nP_l, nO_l, hN_l, nLn_l, nOp_l, lnP_l, pc_l, kd_l, op_l, pr_l, mInSt_l, mProm_l, nInSt_l, nProm_l, totp_l, tot_l, if_false, if_true, false_and, and_false, Nat.reduceEqDiff, reduceIte, reduceCtorEq, and_true, true_and]) <;> first | exact h9 | assumption | grind
    · (try simp (disch := omega) [sI_wI, sI_wP, sI_wL, sI_wN, sP_wI, sP_wP, sP_wL, sP_wN, sL_wI, sL_wP, sL_wL, sL_wN, sX_wI, sX_wP, sX_wL, sX_wN, gI_uI, gI_uL, gL_uI, gL_uL, tk_ne9, tk_inj, nB_u, nM_u, nP_u, nO_u, hN_u, nLn_u, nOp_u, lnP_u, pc_u, kd_u, op_u, pr_u, mInSt_u, mProm_u, nInSt_u, nProm_u, totp_u, tot_u, nB_l, nM_l, nP_l, nO_l, hN_l, nLn_l, nOp_l, lnP_l, pc_l, kd_l, op_l, pr_l, mInSt_l, mProm_l, nInSt_l, nProm_l, totp_l, tot_l, if_false, if_true, false_and, and_false, Nat.reduceEqDiff, reduceIte, reduceCtorEq, and_true, true_and, e1]) <;> first | exact h9 | assumption | grind
  · have h9 := r_b4 R
    unfold Cb4
    simpa (disch := omega) only [sI_wI, gI_uI, nB_u, tk_ne9, tk_inj, if_false, if_true, false_and, and_false, Nat.reduceEqDiff, reduceIte, reduceCtorEq, and_true, true_and] using h9
  · have h9 := r_b5 R
    unfold Cb5
    simpa (disch := omega) only [sI_wI, gI_uI, nB_u, tk_ne9, tk_inj, if_false, if_true, false_and, and_false, Nat.reduceEqDiff, reduceIte, reduceCtorEq, and_true, true_and] using h9
  · have h9 := r_b6 R
    unfold Cb6
    simpa (disch := omega) only [sI_wI, gI_uI, nB_u, tk_ne9, tk_inj, if_false, if_true, false_and, and_false, Nat.reduceEqDiff, reduceIte, reduceCtorEq, and_true, true_and] using h9
  · have h9 := r_b7 R
    unfold Cb7
    simpa (disch := omega) only [sI_wI, gI_uI, nB_u, tk_ne9, tk_inj, if_false, if_true, false_and, and_false, Nat.reduceEqDiff, reduceIte, reduceCtorEq, and_true, true_and] using h9
  · have h9 := r_b8 R
    unfold Cb8
    simpa (disch := omega) only [sI_wI, gI_uI, nB_u, tk_ne9, tk_inj, if_false, if_true, false_and, and_false, Nat.reduceEqDiff, reduceIte, reduceCtorEq, and_true, true_and] using h9
  · have h9 := r_b9 R
    unfold Cb9
    simpa (disch := omega) only [sI_wI, gI_uI, nB_u, tk_ne9, tk_inj, if_false, if_true, false_and, and_false, Nat.reduceEqDiff, reduceIte, reduceCtorEq, and_true, true_and] using h9
  · have h9 := r_b10 R
    unfold Cb10
    simpa (disch := omega) only [sI_wI, gI_uI, nB_u, tk_ne9, tk_inj, if_false, if_true, false_and, and_false, Nat.reduceEqDiff, reduceIte, reduceCtorEq, and_true, true_and] using h9
  · have h9 := r_b11 R
    unfold Cb11
    simpa (disch := omega) only [sL_wI, gL_uI, nB_u, tk_ne9, tk_inj, if_false, if_true, false_and, and_false, Nat.reduceEqDiff, reduceIte, reduceCtorEq, and_true, true_and] using h9
  · have h9 := r_bK R
    unfold CbK
    simpa (disch := omega) only [gI_uI, nB_u, kd_u, tk_ne9, tk_inj, if_false, if_true, false_and, and_false, Nat.reduceEqDiff, reduceIte, reduceCtorEq, and_true, true_and] using h9
  · have h9 := r_bP R
    unfold CbP
    simpa (disch := omega) only [gI_uI, nB_u, pc_u, tk_ne9, tk_inj, if_false, if_true, false_and, and_false, Nat.reduceEqDiff, reduceIte, reduceCtorEq, and_true, true_and] using h9
  · have h9 := r_bO R
    unfold CbO
    simpa (disch := omega) only [gI_uI, nB_u, op_u, tk_ne9, tk_inj, if_false, if_true, false_and, and_false, Nat.reduceEqDiff, reduceIte, reduceCtorEq, and_true, true_and] using h9
  · have h9 := r_bW R
    unfold CbW
    simpa (disch := omega) only [gI_uI, nB_u, nOp_u, kd_u, op_u, tk_ne9, tk_inj, if_false, if_true, false_and, and_false, Nat.reduceEqDiff, reduceIte, reduceCtorEq, and_true, true_and] using h9
  · have h9 := r_bZ R
    unfold CbZ
    simpa (disch := omega) only [gI_uI, nB_u, pc_u, tk_ne9, tk_inj, if_false, if_true, false_and, and_false, Nat.reduceEqDiff, reduceIte, reduceCtorEq, and_true, true_and] using h9
  · have h9 := r_bF R
    unfold CbF
    simpa (disch := omega) only [gI_uI, nB_u, tk_ne9, tk_inj, if_false, if_true, false_and, and_false, Nat.reduceEqDiff, reduceIte, reduceCtorEq, and_true, true_and] using h9
  · have h9 := r_bS R
    unfold CbS
    simpa (disch := omega) only [gI_uI, nB_u, tk_ne9, tk_inj, if_false, if_true, false_and, and_false, Nat.reduceEqDiff, reduceIte, reduceCtorEq, and_true, true_and] using h9
  · unfold CbC
    intro x h1
    have h9 := r_bC R x h1
    by_cases e1 : x = j
    · subst e1; simpa [gI_uI] using h0
    · simpa [gI_uI, e1] using h9
  · have h9 := r_bT R
    unfold CbT
    simpa (disch := omega) only [gI_uI, nB_u, tk_ne9, tk_inj, if_false, if_true, false_and, and_false, Nat.reduceEqDiff, reduceIte, reduceCtorEq, and_true, true_and] using h9
  · have h9 := r_bU R
    unfold CbU
    simpa (disch := omega) only [gI_uI, nB_u, kd_u, tk_ne9, tk_inj, if_false, if_true, false_and, and_false, Nat.reduceEqDiff, reduceIte, reduceCtorEq, and_true, true_and] using h9
  · have h9 := r_bq R
    unfold Cbq
    simpa (disch := omega) only [nB_u, totp_u, tk_ne9, tk_inj, if_false, if_true, false_and, and_false, Nat.reduceEqDiff, reduceIte, reduceCtorEq, and_true, true_and] using h9
  · have h9 := r_ps R
    unfold Cps
    simpa (disch := omega) only [nB_u, nO_u, nInSt_u, nProm_u, tk_ne9, tk_inj, if_false, if_true, false_and, and_false, Nat.reduceEqDiff, reduceIte, reduceCtorEq, and_true, true_and] using h9
  · have h9 := r_bp R
    unfold Cbp
    simpa (disch := omega) only [gL_uI, nB_u, tk_ne9, tk_inj, if_false, if_true, false_and, and_false, Nat.reduceEqDiff, reduceIte, reduceCtorEq, and_true, true_and] using h9
  · unfold Cbc
    rw [nB_u _ _ _ _ (by decide), hN_u _ _ _ _ (by decide), tot_c v hj]
    exact hc
  · have h9 := r_fB R
    unfold CfB
    simpa (disch := omega) only [sX_wI, nB_u, tk_ne9, tk_inj, if_false, if_true, false_and, and_false, Nat.reduceEqDiff, reduceIte, reduceCtorEq, and_true, true_and] using h9
  · have h9 := r_fL R
    unfold CfL
    simpa (disch := omega) only [sX_wI, nLn_u, tk_ne9, tk_inj, if_false, if_true, false_and, and_false, Nat.reduceEqDiff, reduceIte, reduceCtorEq, and_true, true_and] using h9
  · have h9 := r_fO R
    unfold CfO
    simpa (disch := omega) only [sX_wI, nOp_u, tk_ne9, tk_inj, if_false, if_true, false_and, and_false, Nat.reduceEqDiff, reduceIte, reduceCtorEq, and_true, true_and] using h9
  · have h9 := r_fM R
    unfold CfM
    simpa (disch := omega) only [sX_wI, nM_u, tk_ne9, tk_inj, if_false, if_true, false_and, and_false, Nat.reduceEqDiff, reduceIte, reduceCtorEq, and_true, true_and] using h9
  · have h9 := r_fP R
    unfold CfP
    simpa (disch := omega) only [sX_wI, nP_u, tk_ne9, tk_inj, if_false, if_true, false_and, and_false, Nat.reduceEqDiff, reduceIte, reduceCtorEq, and_true, true_and] using h9
  · have h9 := r_fR R
    unfold CfR
    simpa (disch := omega) only [sX_wI, nO_u, tk_ne9, tk_inj, if_false, if_true, false_and, and_false, Nat.reduceEqDiff, reduceIte, reduceCtorEq, and_true, true_and] using h9
  · have h9 := r_fG R
    exact h9
  · have h9 := r_m0 R
    unfold Cm0
    simpa (disch := omega) only [sP_wI, nM_u, tk_ne9, tk_inj, if_false, if_true, false_and, and_false, Nat.reduceEqDiff, reduceIte, reduceCtorEq, and_true, true_and] using h9
  · have h9 := r_mn R
    unfold Cmn
    simpa (disch := omega) only [sI_wI, nM_u, tk_ne9, tk_inj, if_false, if_true, false_and, and_false, Nat.reduceEqDiff, reduceIte, reduceCtorEq, and_true, true_and] using h9
  · have h9 := r_m1 R
    unfold Cm1
    simpa (disch := omega) only [sI_wI, gI_uI, nM_u, tk_ne9, tk_inj, if_false, if_true, false_and, and_false, Nat.reduceEqDiff, reduceIte, reduceCtorEq, and_true, true_and] using h9
  · have h9 := r_m2 R
    unfold Cm2
    simpa (disch := omega) only [sI_wI, gI_uI, nM_u, tk_ne9, tk_inj, if_false, if_true, false_and, and_false, Nat.reduceEqDiff, reduceIte, reduceCtorEq, and_true, true_and] using h9
  · have h9 := r_m3 R
    unfold Cm3
    simpa (disch := omega) only [sI_wI, gI_uI, nM_u, tk_ne9, tk_inj, if_false, if_true, false_and, and_false, Nat.reduceEqDiff, reduceIte, reduceCtorEq, and_true, true_and] using h9
  · have h9 := r_m4 R
    unfold Cm4
    simpa (disch := omega) only [sI_wI, gI_uI, nM_u, tk_ne9, tk_inj, if_false, if_true, false_and, and_false, Nat.reduceEqDiff, reduceIte, reduceCtorEq, and_true, true_and] using h9
  · have h9 := r_m5 R
    unfold Cm5
    simpa (disch := omega) only [sI_wI, gI_uI, nM_u, tk_ne9, tk_inj, if_false, if_true, false_and, and_false, Nat.reduceEqDiff, reduceIte, reduceCtorEq, and_true, true_and] using h9
  · have h9 := r_m9 R
    unfold Cm9
    simpa (disch := omega) only [sI_wI, gI_uI, nM_u, tk_ne9, tk_inj, if_false, if_true, false_and, and_false, Nat.reduceEqDiff, reduceIte, reduceCtorEq, and_true, true_and] using h9
  · have h9 := r_m11 R
    unfold Cm11
    simpa (disch := omega) only [sI_wI, gI_uI, nM_u, tk_ne9, tk_inj, if_false, if_true, false_and, and_false, Nat.reduceEqDiff, reduceIte, reduceCtorEq, and_true, true_and] using h9
  · have h9 := r_m13 R
    unfold Cm13
    simpa (disch := omega) only [sI_wI, gI_uI, nM_u, tk_ne9, tk_inj, if_false, if_true, false_and, and_false, Nat.reduceEqDiff, reduceIte, reduceCtorEq, and_true, true_and] using h9
  · have h9 := r_m14 R
    unfold Cm14
    simpa (disch := omega) only [sI_wI, gI_uI, nM_u, tk_ne9, tk_inj, if_false, if_true, false_and, and_false, Nat.reduceEqDiff, reduceIte, reduceCtorEq, and_true, true_and] using h9
  · have h9 := r_m6 R
    unfold Cm6
    simpa (disch := omega) only [sP_wI, gI_uI, nM_u, tk_ne9, tk_inj, if_false, if_true, false_and, and_false, Nat.reduceEqDiff, reduceIte, reduceCtorEq, and_true, true_and] using h9
  · have h9 := r_m7 R
    unfold Cm7
    simpa (disch := omega) only [sP_wI, gI_uI, nM_u, tk_ne9, tk_inj, if_false, if_true, false_and, and_false, Nat.reduceEqDiff, reduceIte, reduceCtorEq, and_true, true_and] using h9
  · have h9 := r_m8 R
    unfold Cm8
    simpa (disch := omega) only [sP_wI, gI_uI, nM_u, tk_ne9, tk_inj, if_false, if_true, false_and, and_false, Nat.reduceEqDiff, reduceIte, reduceCtorEq, and_true, true_and] using h9
  · have h9 := r_m12 R
    unfold Cm12
    simpa (disch := omega) only [sP_wI, gI_uI, nM_u, tk_ne9, tk_inj, if_false, if_true, false_and, and_false, Nat.reduceEqDiff, reduceIte, reduceCtorEq, and_true, true_and] using h9
  · have h9 := r_m10 R
    unfold Cm10
    simpa (disch := omega) only [sI_wI, gI_uI, nB_u, nM_u, tk_ne9, tk_inj, if_false, if_true, false_and, and_false, Nat.reduceEqDiff, reduceIte, reduceCtorEq, and_true, true_and] using h9
  · have h9 := r_mma R
    unfold Cmma
    simpa (disch := omega) only [gI_uI, nM_u, tk_ne9, tk_inj, if_false, if_true, false_and, and_false, Nat.reduceEqDiff, reduceIte, reduceCtorEq, and_true, true_and] using h9
  · have h9 := r_mmb R
    unfold Cmmb
    simpa (disch := omega) only [gI_uI, nB_u, nM_u, nP_u, tk_ne9, tk_inj, if_false, if_true, false_and, and_false, Nat.reduceEqDiff, reduceIte, reduceCtorEq, and_true, true_and] using h9
  · have h9 := r_mmc R
    unfold Cmmc
    simpa (disch := omega) only [gI_uI, nM_u, tk_ne9, tk_inj, if_false, if_true, false_and, and_false, Nat.reduceEqDiff, reduceIte, reduceCtorEq, and_true, true_and] using h9
  · have h9 := r_mr29 R
    unfold Cmr29
    simpa (disch := omega) only [gI_uI, nM_u, tk_ne9, tk_inj, if_false, if_true, false_and, and_false, Nat.reduceEqDiff, reduceIte, reduceCtorEq, and_true, true_and] using h9
  · have h9 := r_mr30 R
    unfold Cmr30
    simpa (disch := omega) only [gI_uI, nM_u, tk_ne9, tk_inj, if_false, if_true, false_and, and_false, Nat.reduceEqDiff, reduceIte, reduceCtorEq, and_true, true_and] using h9
  · have h9 := r_mr31 R
    unfold Cmr31
    simpa (disch := omega) only [gI_uI, nM_u, tk_ne9, tk_inj, if_false, if_true, false_and, and_false, Nat.reduceEqDiff, reduceIte, reduceCtorEq, and_true, true_and] using h9
  · have h9 := r_mr32 R
    unfold Cmr32
    simpa (disch := omega) only [gI_uI, nM_u, tk_ne9, tk_inj, if_false, if_true, false_and, and_false, Nat.reduceEqDiff, reduceIte, reduceCtorEq, and_true, true_and] using h9
  · have h9 := r_mr35 R
    unfold Cmr35
    simpa (disch := omega) only [gI_uI, nM_u, tk_ne9, tk_inj, if_false, if_true, false_and, and_false, Nat.reduceEqDiff, reduceIte, reduceCtorEq, and_true, true_and] using h9
  · have h9 := r_mr39 R
    unfold Cmr39
    simpa (disch := omega) only [gI_uI, nM_u, tk_ne9, tk_inj, if_false, if_true, false_and, and_false, Nat.reduceEqDiff, reduceIte, reduceCtorEq, and_true, true_and] using h9
  · have h9 := r_mr40 R
    unfold Cmr40
    simpa (disch := omega) only [gI_uI, nM_u, tk_ne9, tk_inj, if_false, if_true, false_and, and_false, Nat.reduceEqDiff, reduceIte, reduceCtorEq, and_true, true_and] using h9
  · have h9 := r_md R
    unfold Cmd
    simpa (disch := omega) only [gI_uI, nM_u, tk_ne9, tk_inj, if_false, if_true, false_and, and_false, Nat.reduceEqDiff, reduceIte, reduceCtorEq, and_true, true_and] using h9
  · have h9 := r_mw R
    unfold Cmw
    simpa (disch := omega) only [gI_uI, nM_u, tk_ne9, tk_inj, if_false, if_true, false_and, and_false, Nat.reduceEqDiff, reduceIte, reduceCtorEq, and_true, true_and] using h9
  · have h9 := r_q0 R
    unfold Cq0
    simpa (disch := omega) only [sP_wI, nP_u, tk_ne9, tk_inj, if_false, if_true, false_and, and_false, Nat.reduceEqDiff, reduceIte, reduceCtorEq, and_true, true_and] using h9
  · have h9 := r_qn R
    unfold Cqn
    simpa (disch := omega) only [sI_wI, nP_u, tk_ne9, tk_inj, if_false, if_true, false_and, and_false, Nat.reduceEqDiff, reduceIte, reduceCtorEq, and_true, true_and] using h9
  · have h9 := r_q1 R
    unfold Cq1
    simpa (disch := omega) only [sI_wI, gI_uI, nP_u, tk_ne9, tk_inj, if_false, if_true, false_and, and_false, Nat.reduceEqDiff, reduceIte, reduceCtorEq, and_true, true_and] using h9
  · have h9 := r_q2 R
    unfold Cq2
    simpa (disch := omega) only [sI_wI, gI_uI, nP_u, tk_ne9, tk_inj, if_false, if_true, false_and, and_false, Nat.reduceEqDiff, reduceIte, reduceCtorEq, and_true, true_and] using h9
  · have h9 := r_q3 R
    unfold Cq3
    simpa (disch := omega) only [sI_wI, gI_uI, nP_u, tk_ne9, tk_inj, if_false, if_true, false_and, and_false, Nat.reduceEqDiff, reduceIte, reduceCtorEq, and_true, true_and] using h9
  · have h9 := r_q4 R
    unfold Cq4
    simpa (disch := omega) only [sP_wI, nP_u, tk_ne9, tk_inj, if_false, if_true, false_and, and_false, Nat.reduceEqDiff, reduceIte, reduceCtorEq, and_true, true_and] using h9
  · have h9 := r_q5 R
    unfold Cq5
    simpa (disch := omega) only [sP_wI, nP_u, tk_ne9, tk_inj, if_false, if_true, false_and, and_false, Nat.reduceEqDiff, reduceIte, reduceCtorEq, and_true, true_and] using h9
  · have h9 := r_q6 R
    unfold Cq6
    simpa (disch := omega) only [sI_wI, gI_uI, nM_u, nP_u, tk_ne9, tk_inj, if_false, if_true, false_and, and_false, Nat.reduceEqDiff, reduceIte, reduceCtorEq, and_true, true_and] using h9
  · have h9 := r_ql R
    unfold Cql
    simpa (disch := omega) only [sI_wI, gI_uI, nP_u, tk_ne9, tk_inj, if_false, if_true, false_and, and_false, Nat.reduceEqDiff, reduceIte, reduceCtorEq, and_true, true_and] using h9
  · have h9 := r_qw R
    unfold Cqw
    simpa (disch := omega) only [sI_wI, gI_uI, nP_u, tk_ne9, tk_inj, if_false, if_true, false_and, and_false, Nat.reduceEqDiff, reduceIte, reduceCtorEq, and_true, true_and] using h9
  · have h9 := r_qm R
    unfold Cqm
    simpa (disch := omega) only [gI_uI, nP_u, tk_ne9, tk_inj, if_false, if_true, false_and, and_false, Nat.reduceEqDiff, reduceIte, reduceCtorEq, and_true, true_and] using h9
  · have h9 := r_qr R
    unfold Cqr
    simpa (disch := omega) only [gI_uI, nP_u, tk_ne9, tk_inj, if_false, if_true, false_and, and_false, Nat.reduceEqDiff, reduceIte, reduceCtorEq, and_true, true_and] using h9
  · have h9 := r_r0 R
    unfold Cr0
    simpa (disch := omega) only [sP_wI, nO_u, tk_ne9, tk_inj, if_false, if_true, false_and, and_false, Nat.reduceEqDiff, reduceIte, reduceCtorEq, and_true, true_and] using h9
  · have h9 := r_r1 R
    unfold Cr1
    simpa (disch := omega) only [sP_wI, gI_uI, nO_u, tk_ne9, tk_inj, if_false, if_true, false_and, and_false, Nat.reduceEqDiff, reduceIte, reduceCtorEq, and_true, true_and] using h9
  · have h9 := r_r2 R
    unfold Cr2
    simpa (disch := omega) only [sI_wI, gI_uI, nO_u, tk_ne9, tk_inj, if_false, if_true, false_and, and_false, Nat.reduceEqDiff, reduceIte, reduceCtorEq, and_true, true_and] using h9
  · have h9 := r_r3 R
    unfold Cr3
    simpa (disch := omega) only [sI_wI, gI_uI, nO_u, tk_ne9, tk_inj, if_false, if_true, false_and, and_false, Nat.reduceEqDiff, reduceIte, reduceCtorEq, and_true, true_and] using h9
  · have h9 := r_r4 R
    unfold Cr4
    simpa (disch := omega) only [sI_wI, gI_uI, nO_u, tk_ne9, tk_inj, if_false, if_true, false_and, and_false, Nat.reduceEqDiff, reduceIte, reduceCtorEq, and_true, true_and] using h9
  · have h9 := r_r5 R
    unfold Cr5
    simpa (disch := omega) only [sP_wI, gI_uI, nO_u, tk_ne9, tk_inj, if_false, if_true, false_and, and_false, Nat.reduceEqDiff, reduceIte, reduceCtorEq, and_true, true_and] using h9
  · have h9 := r_r6 R
    unfold Cr6
    simpa (disch := omega) only [sI_wI, gI_uI, nO_u, tk_ne9, tk_inj, if_false, if_true, false_and, and_false, Nat.reduceEqDiff, reduceIte, reduceCtorEq, and_true, true_and] using h9
  · have h9 := r_rk R
    unfold Crk
    simpa (disch := omega) only [gI_uI, nO_u, tk_ne9, tk_inj, if_false, if_true, false_and, and_false, Nat.reduceEqDiff, reduceIte, reduceCtorEq, and_true, true_and] using h9
  · have h9 := r_rp R
    unfold Crp
    simpa (disch := omega) only [gI_uI, nO_u, tk_ne9, tk_inj, if_false, if_true, false_and, and_false, Nat.reduceEqDiff, reduceIte, reduceCtorEq, and_true, true_and] using h9
  · have h9 := r_rq R
    unfold Crq
    simpa (disch := omega) only [gI_uI, nO_u, pr_u, tk_ne9, tk_inj, if_false, if_true, false_and, and_false, Nat.reduceEqDiff, reduceIte, reduceCtorEq, and_true, true_and] using h9
  · have h9 := r_rr R
    unfold Crr
    simpa (disch := omega) only [gI_uI, nO_u, pr_u, tk_ne9, tk_inj, if_false, if_true, false_and, and_false, Nat.reduceEqDiff, reduceIte, reduceCtorEq, and_true, true_and] using h9
  · have h9 := r_rs R
    unfold Crs
    simpa (disch := omega) only [gI_uI, nB_u, nO_u, tk_ne9, tk_inj, if_false, if_true, false_and, and_false, Nat.reduceEqDiff, reduceIte, reduceCtorEq, and_true, true_and] using h9
set_option maxHeartbeats 8000000 in
theorem rel_faults {e : Nat} {a : Sg} {M : MS} (R : Rel e a M) (j : Nat) (hj : j < nB M) (v : Int32) : Rel e (wI a (tk 0 j) 10 v) (uI M 23 j v) := by
  unfold Rel
  refine ⟨?_, ?_, ?_, ?_, ?_, ?_, ?_, ?_, ?_, ?_, ?_, ?_, ?_, ?_, ?_, ?_, ?_, ?_, ?_, ?_, ?_, ?_, ?_, ?_, ?_, ?_, ?_, ?_, ?_, ?_, ?_, ?_, ?_, ?_, ?_, ?_, ?_, ?_, ?_, ?_, ?_, ?_, ?_, ?_, ?_, ?_, ?_, ?_, ?_, ?_, ?_, ?_, ?_, ?_, ?_, ?_, ?_, ?_, ?_, ?_, ?_, ?_, ?_, ?_, ?_, ?_, ?_, ?_, ?_, ?_, ?_, ?_, ?_, ?_, ?_, ?_, ?_, ?_, ?_, ?_, ?_, ?_, ?_, ?_, ?_, ?_, ?_, ?_, ?_, ?_, ?_, ?_, ?_, ?_, ?_, ?_, ?_, ?_, ?_, ?_, ?_, ?_, ?_, ?_, ?_, ?_, ?_, ?_, ?_, ?_, ?_, ?_, ?_, ?_, ?_, ?_, ?_, ?_, ?_, ?_, ?_, ?_, ?_, ?_, ?_, ?_, ?_, ?_, ?_, ?_, ?_, ?_, ?_, ?_, ?_, ?_, ?_, ?_, ?_, ?_, ?_, ?_, ?_, ?_, ?_, ?_, ?_, ?_, ?_⟩
  · have h9 := r_shm R
    exact h9
  · have h9 := r_px0 R
    exact h9
  · have h9 := r_px1 R
    exact h9
  · have h9 := r_px2 R
    exact h9
  · have h9 := r_pf0 R
    exact h9
  · have h9 := r_pf1 R
    exact h9
  · have h9 := r_pf3 R
    exact h9
  · have h9 := r_ps0 R
    exact h9
  · have h9 := r_ps2 R
    exact h9
  · have h9 := r_ps4 R
    exact h9
  · have h9 := r_pk R
    exact h9
  · have h9 := r_pkl R
    exact h9
  · have h9 := r_pko R
    exact h9
  · have h9 := r_ghour R
    unfold Cghour
    simpa (disch := omega) only [sI_wI, gI_uI, tk_ne9, tk_inj, if_false, if_true, false_and, and_false, Nat.reduceEqDiff, reduceIte, reduceCtorEq, and_true, true_and] using h9
  · have h9 := r_gstand R
    unfold Cgstand
    simpa (disch := omega) only [sI_wI, gI_uI, tk_ne9, tk_inj, if_false, if_true, false_and, and_false, Nat.reduceEqDiff, reduceIte, reduceCtorEq, and_true, true_and] using h9
  · have h9 := r_gbought R
    unfold Cgbought
    simpa (disch := omega) only [sI_wI, gI_uI, tk_ne9, tk_inj, if_false, if_true, false_and, and_false, Nat.reduceEqDiff, reduceIte, reduceCtorEq, and_true, true_and] using h9
  · have h9 := r_gmach R
    unfold Cgmach
    simpa (disch := omega) only [sI_wI, gI_uI, tk_ne9, tk_inj, if_false, if_true, false_and, and_false, Nat.reduceEqDiff, reduceIte, reduceCtorEq, and_true, true_and] using h9
  · have h9 := r_gpers R
    unfold Cgpers
    simpa (disch := omega) only [sI_wI, gI_uI, tk_ne9, tk_inj, if_false, if_true, false_and, and_false, Nat.reduceEqDiff, reduceIte, reduceCtorEq, and_true, true_and] using h9
  · have h9 := r_gworked R
    unfold Cgworked
    simpa (disch := omega) only [sI_wI, gI_uI, tk_ne9, tk_inj, if_false, if_true, false_and, and_false, Nat.reduceEqDiff, reduceIte, reduceCtorEq, and_true, true_and] using h9
  · have h9 := r_grep R
    unfold Cgrep
    simpa (disch := omega) only [sI_wI, gI_uI, tk_ne9, tk_inj, if_false, if_true, false_and, and_false, Nat.reduceEqDiff, reduceIte, reduceCtorEq, and_true, true_and] using h9
  · have h9 := r_gbat R
    unfold Cgbat
    simpa (disch := omega) only [sI_wI, gI_uI, tk_ne9, tk_inj, if_false, if_true, false_and, and_false, Nat.reduceEqDiff, reduceIte, reduceCtorEq, and_true, true_and] using h9
  · have h9 := r_gord R
    unfold Cgord
    simpa (disch := omega) only [sI_wI, gI_uI, tk_ne9, tk_inj, if_false, if_true, false_and, and_false, Nat.reduceEqDiff, reduceIte, reduceCtorEq, and_true, true_and] using h9
  · have h9 := r_gq R
    unfold Cgq
    simpa (disch := omega) only [sI_wI, gI_uI, tk_ne9, tk_inj, if_false, if_true, false_and, and_false, Nat.reduceEqDiff, reduceIte, reduceCtorEq, and_true, true_and] using h9
  · have h9 := r_nB R
    unfold CnB
    simpa (disch := omega) only [gI_uI, nB_u, tk_ne9, tk_inj, if_false, if_true, false_and, and_false, Nat.reduceEqDiff, reduceIte, reduceCtorEq, and_true, true_and] using h9
  · have h9 := r_nBx R
    unfold CnBx
    simpa (disch := omega) only [nB_u, tk_ne9, tk_inj, if_false, if_true, false_and, and_false, Nat.reduceEqDiff, reduceIte, reduceCtorEq, and_true, true_and] using h9
  · have h9 := r_nM R
    unfold CnM
    simpa (disch := omega) only [gI_uI, nM_u, tk_ne9, tk_inj, if_false, if_true, false_and, and_false, Nat.reduceEqDiff, reduceIte, reduceCtorEq, and_true, true_and] using h9
  · have h9 := r_nMx R
    unfold CnMx
    simpa (disch := omega) only [nM_u, tk_ne9, tk_inj, if_false, if_true, false_and, and_false, Nat.reduceEqDiff, reduceIte, reduceCtorEq, and_true, true_and] using h9
  · have h9 := r_nP R
    unfold CnP
    simpa (disch := omega) only [gI_uI, nP_u, tk_ne9, tk_inj, if_false, if_true, false_and, and_false, Nat.reduceEqDiff, reduceIte, reduceCtorEq, and_true, true_and] using h9
  · have h9 := r_nPx R
    unfold CnPx
    simpa (disch := omega) only [nP_u, tk_ne9, tk_inj, if_false, if_true, false_and, and_false, Nat.reduceEqDiff, reduceIte, reduceCtorEq, and_true, true_and] using h9
  · have h9 := r_nO R
    unfold CnO
    simpa (disch := omega) only [gI_uI, nO_u, tk_ne9, tk_inj, if_false, if_true, false_and, and_false, Nat.reduceEqDiff, reduceIte, reduceCtorEq, and_true, true_and] using h9
  · have h9 := r_nOx R
    unfold CnOx
    simpa (disch := omega) only [nO_u, tk_ne9, tk_inj, if_false, if_true, false_and, and_false, Nat.reduceEqDiff, reduceIte, reduceCtorEq, and_true, true_and] using h9
  · have h9 := r_hr R
    unfold Chr
    simpa (disch := omega) only [gI_uI, hN_u, tk_ne9, tk_inj, if_false, if_true, false_and, and_false, Nat.reduceEqDiff, reduceIte, reduceCtorEq, and_true, true_and] using h9
  · have h9 := r_hrx R
    unfold Chrx
    simpa (disch := omega) only [hN_u, tk_ne9, tk_inj, if_false, if_true, false_and, and_false, Nat.reduceEqDiff, reduceIte, reduceCtorEq, and_true, true_and] using h9
  · have h9 := r_stb R
    unfold Cstb
    simpa (disch := omega) only [gI_uI, tk_ne9, tk_inj, if_false, if_true, false_and, and_false, Nat.reduceEqDiff, reduceIte, reduceCtorEq, and_true, true_and] using h9
  · have h9 := r_ex R
    exact h9
  · have h9 := r_k0 R
    unfold Ck0
    simpa (disch := omega) only [sI_wI, tk_ne9, tk_inj, if_false, if_true, false_and, and_false, Nat.reduceEqDiff, reduceIte, reduceCtorEq, and_true, true_and] using h9
  · have h9 := r_k1 R
    unfold Ck1
    simpa (disch := omega) only [sI_wI, gI_uI, tk_ne9, tk_inj, if_false, if_true, false_and, and_false, Nat.reduceEqDiff, reduceIte, reduceCtorEq, and_true, true_and] using h9
  · have h9 := r_k2 R
    unfold Ck2
    simpa (disch := omega) only [sI_wI, gI_uI, tk_ne9, tk_inj, if_false, if_true, false_and, and_false, Nat.reduceEqDiff, reduceIte, reduceCtorEq, and_true, true_and] using h9
  · have h9 := r_k3 R
    unfold Ck3
    simpa (disch := omega) only [sI_wI, gI_uI, tk_ne9, tk_inj, if_false, if_true, false_and, and_false, Nat.reduceEqDiff, reduceIte, reduceCtorEq, and_true, true_and] using h9
  · have h9 := r_k5 R
    unfold Ck5
    simpa (disch := omega) only [sI_wI, gI_uI, tk_ne9, tk_inj, if_false, if_true, false_and, and_false, Nat.reduceEqDiff, reduceIte, reduceCtorEq, and_true, true_and] using h9
  · have h9 := r_k7 R
    unfold Ck7
    simpa (disch := omega) only [sI_wI, gI_uI, tk_ne9, tk_inj, if_false, if_true, false_and, and_false, Nat.reduceEqDiff, reduceIte, reduceCtorEq, and_true, true_and] using h9
  · have h9 := r_k8 R
    unfold Ck8
    simpa (disch := omega) only [sI_wI, gI_uI, tk_ne9, tk_inj, if_false, if_true, false_and, and_false, Nat.reduceEqDiff, reduceIte, reduceCtorEq, and_true, true_and] using h9
  · have h9 := r_k9 R
    unfold Ck9
    simpa (disch := omega) only [sI_wI, gI_uI, tk_ne9, tk_inj, if_false, if_true, false_and, and_false, Nat.reduceEqDiff, reduceIte, reduceCtorEq, and_true, true_and] using h9
  · have h9 := r_k10 R
    unfold Ck10
    simpa (disch := omega) only [sI_wI, nB_u, mInSt_u, tk_ne9, tk_inj, if_false, if_true, false_and, and_false, Nat.reduceEqDiff, reduceIte, reduceCtorEq, and_true, true_and] using h9
  · have h9 := r_k11 R
    unfold Ck11
    simpa (disch := omega) only [sI_wI, nO_u, mProm_u, tk_ne9, tk_inj, if_false, if_true, false_and, and_false, Nat.reduceEqDiff, reduceIte, reduceCtorEq, and_true, true_and] using h9
  · have h9 := r_k12 R
    unfold Ck12
    simpa (disch := omega) only [sI_wI, tk_ne9, tk_inj, if_false, if_true, false_and, and_false, Nat.reduceEqDiff, reduceIte, reduceCtorEq, and_true, true_and] using h9
  · have h9 := r_ksa R
    unfold Cksa
    simpa (disch := omega) only [gI_uI, tk_ne9, tk_inj, if_false, if_true, false_and, and_false, Nat.reduceEqDiff, reduceIte, reduceCtorEq, and_true, true_and] using h9
  · have h9 := r_ksb R
    unfold Cksb
    simpa (disch := omega) only [gI_uI, nOp_u, tk_ne9, tk_inj, if_false, if_true, false_and, and_false, Nat.reduceEqDiff, reduceIte, reduceCtorEq, and_true, true_and] using h9
  · have h9 := r_ksc R
    unfold Cksc
    simpa (disch := omega) only [gI_uI, nLn_u, nOp_u, tk_ne9, tk_inj, if_false, if_true, false_and, and_false, Nat.reduceEqDiff, reduceIte, reduceCtorEq, and_true, true_and] using h9
  · have h9 := r_kw R
    unfold Ckw
    simpa (disch := omega) only [gI_uI, tk_ne9, tk_inj, if_false, if_true, false_and, and_false, Nat.reduceEqDiff, reduceIte, reduceCtorEq, and_true, true_and] using h9
  · have h9 := r_kl R
    unfold Ckl
    simpa (disch := omega) only [gI_uI, nLn_u, tk_ne9, tk_inj, if_false, if_true, false_and, and_false, Nat.reduceEqDiff, reduceIte, reduceCtorEq, and_true, true_and] using h9
  · have h9 := r_ko R
    unfold Cko
    simpa (disch := omega) only [gI_uI, nOp_u, tk_ne9, tk_inj, if_false, if_true, false_and, and_false, Nat.reduceEqDiff, reduceIte, reduceCtorEq, and_true, true_and] using h9
  · have h9 := r_kp R
    unfold Ckp
    simpa (disch := omega) only [gI_uI, tk_ne9, tk_inj, if_false, if_true, false_and, and_false, Nat.reduceEqDiff, reduceIte, reduceCtorEq, and_true, true_and] using h9
  · have h9 := r_l0 R
    unfold Cl0
    simpa (disch := omega) only [sP_wI, nLn_u, tk_ne9, tk_inj, if_false, if_true, false_and, and_false, Nat.reduceEqDiff, reduceIte, reduceCtorEq, and_true, true_and] using h9
  · have h9 := r_l1 R
    unfold Cl1
    simpa (disch := omega) only [sP_wI, nLn_u, lnP_u, tk_ne9, tk_inj, if_false, if_true, false_and, and_false, Nat.reduceEqDiff, reduceIte, reduceCtorEq, and_true, true_and] using h9
  · have h9 := r_l2 R
    unfold Cl2
    simpa (disch := omega) only [sI_wI, gI_uI, nLn_u, tk_ne9, tk_inj, if_false, if_true, false_and, and_false, Nat.reduceEqDiff, reduceIte, reduceCtorEq, and_true, true_and] using h9
  · have h9 := r_l3 R
    unfold Cl3
    simpa (disch := omega) only [sP_wI, gI_uI, nLn_u, tk_ne9, tk_inj, if_false, if_true, false_and, and_false, Nat.reduceEqDiff, reduceIte, reduceCtorEq, and_true, true_and] using h9
  · have h9 := r_lm R
    unfold Clm
    simpa (disch := omega) only [gI_uI, nLn_u, lnP_u, tk_ne9, tk_inj, if_false, if_true, false_and, and_false, Nat.reduceEqDiff, reduceIte, reduceCtorEq, and_true, true_and] using h9
  · have h9 := r_o0 R
    unfold Co0
    simpa (disch := omega) only [sP_wI, nOp_u, tk_ne9, tk_inj, if_false, if_true, false_and, and_false, Nat.reduceEqDiff, reduceIte, reduceCtorEq, and_true, true_and] using h9
  · have h9 := r_o1 R
    unfold Co1
    simpa (disch := omega) only [sI_wI, gI_uI, nOp_u, tk_ne9, tk_inj, if_false, if_true, false_and, and_false, Nat.reduceEqDiff, reduceIte, reduceCtorEq, and_true, true_and] using h9
  · have h9 := r_o2 R
    unfold Co2
    simpa (disch := omega) only [sI_wI, gI_uI, nOp_u, tk_ne9, tk_inj, if_false, if_true, false_and, and_false, Nat.reduceEqDiff, reduceIte, reduceCtorEq, and_true, true_and] using h9
  · have h9 := r_o3 R
    unfold Co3
    simpa (disch := omega) only [sI_wI, gI_uI, nOp_u, tk_ne9, tk_inj, if_false, if_true, false_and, and_false, Nat.reduceEqDiff, reduceIte, reduceCtorEq, and_true, true_and] using h9
  · have h9 := r_om R
    unfold Com
    simpa (disch := omega) only [gI_uI, nOp_u, tk_ne9, tk_inj, if_false, if_true, false_and, and_false, Nat.reduceEqDiff, reduceIte, reduceCtorEq, and_true, true_and] using h9
  · have h9 := r_b0 R
    unfold Cb0
    simpa (disch := omega) only [sP_wI, nB_u, tk_ne9, tk_inj, if_false, if_true, false_and, and_false, Nat.reduceEqDiff, reduceIte, reduceCtorEq, and_true, true_and] using h9
  · have h9 := r_bn R
    unfold Cbn
    simpa (disch := omega) only [sI_wI, nB_u, tk_ne9, tk_inj, if_false, if_true, false_and, and_false, Nat.reduceEqDiff, reduceIte, reduceCtorEq, and_true, true_and] using h9
  · have h9 := r_bk R
    unfold Cbk
    simpa (disch := omega) only [sP_wI, nB_u, kd_u, tk_ne9, tk_inj, if_false, if_true, false_and, and_false, Nat.reduceEqDiff, reduceIte, reduceCtorEq, and_true, true_and] using h9
  · have h9 := r_b2 R
    unfold Cb2
    simpa (disch := omega) only [sI_wI, gI_uI, nB_u, tk_ne9, tk_inj, if_false, if_true, false_and, and_false, Nat.reduceEqDiff, reduceIte, reduceCtorEq, and_true, true_and] using h9
  · have h9 := r_b3 R
    unfold Cb3
    simpa (disch := omega) only [sI_wI, gI_uI, nB_u, tk_ne9, tk_inj, if_false, if_true, false_and, and_false, Nat.reduceEqDiff, reduceIte, reduceCtorEq, and_true, true_and] using h9
  · have h9 := r_b4 R
    unfold Cb4
    simpa (disch := omega) only [sI_wI, gI_uI, nB_u, tk_ne9, tk_inj, if_false, if_true, false_and, and_false, Nat.reduceEqDiff, reduceIte, reduceCtorEq, and_true, true_and] using h9
  · have h9 := r_b5 R
    unfold Cb5
    simpa (disch := omega) only [sI_wI, gI_uI, nB_u, tk_ne9, tk_inj, if_false, if_true, false_and, and_false, Nat.reduceEqDiff, reduceIte, reduceCtorEq, and_true, true_and] using h9
  · have h9 := r_b6 R
    unfold Cb6
    simpa (disch := omega) only [sI_wI, gI_uI, nB_u, tk_ne9, tk_inj, if_false, if_true, false_and, and_false, Nat.reduceEqDiff, reduceIte, reduceCtorEq, and_true, true_and] using h9
  · have h9 := r_b7 R
    unfold Cb7
    simpa (disch := omega) only [sI_wI, gI_uI, nB_u, tk_ne9, tk_inj, if_false, if_true, false_and, and_false, Nat.reduceEqDiff, reduceIte, reduceCtorEq, and_true, true_and] using h9
  · have h9 := r_b8 R
    unfold Cb8
    simpa (disch := omega) only [sI_wI, gI_uI, nB_u, tk_ne9, tk_inj, if_false, if_true, false_and, and_false, Nat.reduceEqDiff, reduceIte, reduceCtorEq, and_true, true_and] using h9
  · have h9 := r_b9 R
    unfold Cb9
    simpa (disch := omega) only [sI_wI, gI_uI, nB_u, tk_ne9, tk_inj, if_false, if_true, false_and, and_false, Nat.reduceEqDiff, reduceIte, reduceCtorEq, and_true, true_and] using h9
  · unfold Cb10
    intro x0_ h0
    have h9 := r_b10 R x0_ h0
    by_cases e1 : x0_ = j
    · subst e1
      (try simp (disch := omega) [sI_wI, sI_wP, sI_wL, sI_wN, sP_wI, sP_wP, sP_wL, sP_wN, sL_wI, sL_wP, sL_wL, sL_wN, sX_wI, sX_wP, sX_wL, sX_wN, gI_uI, gI_uL, gL_uI, gL_uL, tk_ne9, tk_inj, nB_u, nM_u, nP_u, nO_u, hN_u, nLn_u, nOp_u, lnP_u, pc_u, kd_u, op_u, pr_u, mInSt_u, mProm_u, nInSt_u, nProm_u, totp_u, tot_u, nB_l, nM_l, nP_l, nO_l, hN_l, nLn_l, nOp_l, lnP_l, pc_l, kd_l, op_l, pr_l, mInSt_l, mProm_l, nInSt_l, nProm_l, totp_l, tot_l, if_false, if_true, false_and, and_false, Nat.reduceEqDiff, reduceIte, reduceCtorEq, and_true, true_and]) <;> first | exact h9 | assumption | grind
    · (try simp (disch := omega) [sI_wI, sI_wP, sI_wL, sI_wN, sP_wI, sP_wP, sP_wL, sP_wN, sL_wI, sL_wP, sL_wL, sL_wN, sX_wI, sX_wP, sX_wL, sX_wN, gI_uI, gI_uL, gL_uI, gL_uL, tk_ne9, tk_inj, nB_u, nM_u, nP_u, nO_u, hN_u, nLn_u, nOp_u, lnP_u, pc_u, kd_u, op_u, pr_u, mInSt_u, mProm_u, nInSt_u, nProm_u, totp_u, tot_u, nB_l, nM_l, nP_l, nO_l, hN_l, nLn_l, nOp_l, lnP_l, pc_l, kd_l, op_l, pr_l, mInSt_l, mProm_l, nInSt_l, nProm_l, totp_l, tot_l, if_false, if_true, false_and, and_false, Nat.reduceEqDiff, reduceIte, reduceCtorEq, and_true, true_and, e1]) <;> first | exact h9 | assumption | grind
  · have h9 := r_b11 R
    unfold Cb11
    simpa (disch := omega) only [sL_wI, gL_uI, nB_u, tk_ne9, tk_inj, if_false, if_true, false_and, and_false, Nat.reduceEqDiff, reduceIte, reduceCtorEq, and_true, true_and] using h9
  · have h9 := r_bK R
    unfold CbK
    simpa (disch := omega) only [gI_uI, nB_u, kd_u, tk_ne9, tk_inj, if_false, if_true, false_and, and_false, Nat.reduceEqDiff, reduceIte, reduceCtorEq, and_true, true_and] using h9
  · have h9 := r_bP R
    unfold CbP
    simpa (disch := omega) only [gI_uI, nB_u, pc_u, tk_ne9, tk_inj, if_false, if_true, false_and, and_false, Nat.reduceEqDiff, reduceIte, reduceCtorEq, and_true, true_and] using h9
  · have h9 := r_bO R
    unfold CbO
    simpa (disch := omega) only [gI_uI, nB_u, op_u, tk_ne9, tk_inj, if_false, if_true, false_and, and_false, Nat.reduceEqDiff, reduceIte, reduceCtorEq, and_true, true_and] using h9
  · have h9 := r_bW R
    unfold CbW
    simpa (disch := omega) only [gI_uI, nB_u, nOp_u, kd_u, op_u, tk_ne9, tk_inj, if_false, if_true, false_and, and_false, Nat.reduceEqDiff, reduceIte, reduceCtorEq, and_true, true_and] using h9
  · have h9 := r_bZ R
    unfold CbZ
    simpa (disch := omega) only [gI_uI, nB_u, pc_u, tk_ne9, tk_inj, if_false, if_true, false_and, and_false, Nat.reduceEqDiff, reduceIte, reduceCtorEq, and_true, true_and] using h9
  · have h9 := r_bF R
    unfold CbF
    simpa (disch := omega) only [gI_uI, nB_u, tk_ne9, tk_inj, if_false, if_true, false_and, and_false, Nat.reduceEqDiff, reduceIte, reduceCtorEq, and_true, true_and] using h9
  · have h9 := r_bS R
    unfold CbS
    simpa (disch := omega) only [gI_uI, nB_u, tk_ne9, tk_inj, if_false, if_true, false_and, and_false, Nat.reduceEqDiff, reduceIte, reduceCtorEq, and_true, true_and] using h9
  · have h9 := r_bC R
    unfold CbC
    simpa (disch := omega) only [gI_uI, nB_u, tk_ne9, tk_inj, if_false, if_true, false_and, and_false, Nat.reduceEqDiff, reduceIte, reduceCtorEq, and_true, true_and] using h9
  · have h9 := r_bT R
    unfold CbT
    simpa (disch := omega) only [gI_uI, nB_u, tk_ne9, tk_inj, if_false, if_true, false_and, and_false, Nat.reduceEqDiff, reduceIte, reduceCtorEq, and_true, true_and] using h9
  · have h9 := r_bU R
    unfold CbU
    simpa (disch := omega) only [gI_uI, nB_u, kd_u, tk_ne9, tk_inj, if_false, if_true, false_and, and_false, Nat.reduceEqDiff, reduceIte, reduceCtorEq, and_true, true_and] using h9
  · have h9 := r_bq R
    unfold Cbq
    simpa (disch := omega) only [nB_u, totp_u, tk_ne9, tk_inj, if_false, if_true, false_and, and_false, Nat.reduceEqDiff, reduceIte, reduceCtorEq, and_true, true_and] using h9
  · have h9 := r_ps R
    unfold Cps
    simpa (disch := omega) only [nB_u, nO_u, nInSt_u, nProm_u, tk_ne9, tk_inj, if_false, if_true, false_and, and_false, Nat.reduceEqDiff, reduceIte, reduceCtorEq, and_true, true_and] using h9
  · have h9 := r_bp R
    unfold Cbp
    simpa (disch := omega) only [gL_uI, nB_u, tk_ne9, tk_inj, if_false, if_true, false_and, and_false, Nat.reduceEqDiff, reduceIte, reduceCtorEq, and_true, true_and] using h9
  · have h9 := r_bc R
    unfold Cbc
    simpa (disch := omega) only [nB_u, hN_u, tot_u, tk_ne9, tk_inj, if_false, if_true, false_and, and_false, Nat.reduceEqDiff, reduceIte, reduceCtorEq, and_true, true_and] using h9
  · have h9 := r_fB R
    unfold CfB
    simpa (disch := omega) only [sX_wI, nB_u, tk_ne9, tk_inj, if_false, if_true, false_and, and_false, Nat.reduceEqDiff, reduceIte, reduceCtorEq, and_true, true_and] using h9
  · have h9 := r_fL R
    unfold CfL
    simpa (disch := omega) only [sX_wI, nLn_u, tk_ne9, tk_inj, if_false, if_true, false_and, and_false, Nat.reduceEqDiff, reduceIte, reduceCtorEq, and_true, true_and] using h9
  · have h9 := r_fO R
    unfold CfO
    simpa (disch := omega) only [sX_wI, nOp_u, tk_ne9, tk_inj, if_false, if_true, false_and, and_false, Nat.reduceEqDiff, reduceIte, reduceCtorEq, and_true, true_and] using h9
  · have h9 := r_fM R
    unfold CfM
    simpa (disch := omega) only [sX_wI, nM_u, tk_ne9, tk_inj, if_false, if_true, false_and, and_false, Nat.reduceEqDiff, reduceIte, reduceCtorEq, and_true, true_and] using h9
  · have h9 := r_fP R
    unfold CfP
    simpa (disch := omega) only [sX_wI, nP_u, tk_ne9, tk_inj, if_false, if_true, false_and, and_false, Nat.reduceEqDiff, reduceIte, reduceCtorEq, and_true, true_and] using h9
  · have h9 := r_fR R
    unfold CfR
    simpa (disch := omega) only [sX_wI, nO_u, tk_ne9, tk_inj, if_false, if_true, false_and, and_false, Nat.reduceEqDiff, reduceIte, reduceCtorEq, and_true, true_and] using h9
  · have h9 := r_fG R
    exact h9
  · have h9 := r_m0 R
    unfold Cm0
    simpa (disch := omega) only [sP_wI, nM_u, tk_ne9, tk_inj, if_false, if_true, false_and, and_false, Nat.reduceEqDiff, reduceIte, reduceCtorEq, and_true, true_and] using h9
  · have h9 := r_mn R
    unfold Cmn
    simpa (disch := omega) only [sI_wI, nM_u, tk_ne9, tk_inj, if_false, if_true, false_and, and_false, Nat.reduceEqDiff, reduceIte, reduceCtorEq, and_true, true_and] using h9
  · have h9 := r_m1 R
    unfold Cm1
    simpa (disch := omega) only [sI_wI, gI_uI, nM_u, tk_ne9, tk_inj, if_false, if_true, false_and, and_false, Nat.reduceEqDiff, reduceIte, reduceCtorEq, and_true, true_and] using h9
  · have h9 := r_m2 R
    unfold Cm2
    simpa (disch := omega) only [sI_wI, gI_uI, nM_u, tk_ne9, tk_inj, if_false, if_true, false_and, and_false, Nat.reduceEqDiff, reduceIte, reduceCtorEq, and_true, true_and] using h9
  · have h9 := r_m3 R
    unfold Cm3
    simpa (disch := omega) only [sI_wI, gI_uI, nM_u, tk_ne9, tk_inj, if_false, if_true, false_and, and_false, Nat.reduceEqDiff, reduceIte, reduceCtorEq, and_true, true_and] using h9
  · have h9 := r_m4 R
    unfold Cm4
    simpa (disch := omega) only [sI_wI, gI_uI, nM_u, tk_ne9, tk_inj, if_false, if_true, false_and, and_false, Nat.reduceEqDiff, reduceIte, reduceCtorEq, and_true, true_and] using h9
  · have h9 := r_m5 R
    unfold Cm5
    simpa (disch := omega) only [sI_wI, gI_uI, nM_u, tk_ne9, tk_inj, if_false, if_true, false_and, and_false, Nat.reduceEqDiff, reduceIte, reduceCtorEq, and_true, true_and] using h9
  · have h9 := r_m9 R
    unfold Cm9
    simpa (disch := omega) only [sI_wI, gI_uI, nM_u, tk_ne9, tk_inj, if_false, if_true, false_and, and_false, Nat.reduceEqDiff, reduceIte, reduceCtorEq, and_true, true_and] using h9
  · have h9 := r_m11 R
    unfold Cm11
    simpa (disch := omega) only [sI_wI, gI_uI, nM_u, tk_ne9, tk_inj, if_false, if_true, false_and, and_false, Nat.reduceEqDiff, reduceIte, reduceCtorEq, and_true, true_and] using h9
  · have h9 := r_m13 R
    unfold Cm13
    simpa (disch := omega) only [sI_wI, gI_uI, nM_u, tk_ne9, tk_inj, if_false, if_true, false_and, and_false, Nat.reduceEqDiff, reduceIte, reduceCtorEq, and_true, true_and] using h9
  · have h9 := r_m14 R
    unfold Cm14
    simpa (disch := omega) only [sI_wI, gI_uI, nM_u, tk_ne9, tk_inj, if_false, if_true, false_and, and_false, Nat.reduceEqDiff, reduceIte, reduceCtorEq, and_true, true_and] using h9
  · have h9 := r_m6 R
    unfold Cm6
    simpa (disch := omega) only [sP_wI, gI_uI, nM_u, tk_ne9, tk_inj, if_false, if_true, false_and, and_false, Nat.reduceEqDiff, reduceIte, reduceCtorEq, and_true, true_and] using h9
  · have h9 := r_m7 R
    unfold Cm7
    simpa (disch := omega) only [sP_wI, gI_uI, nM_u, tk_ne9, tk_inj, if_false, if_true, false_and, and_false, Nat.reduceEqDiff, reduceIte, reduceCtorEq, and_true, true_and] using h9
  · have h9 := r_m8 R
    unfold Cm8
    simpa (disch := omega) only [sP_wI, gI_uI, nM_u, tk_ne9, tk_inj, if_false, if_true, false_and, and_false, Nat.reduceEqDiff, reduceIte, reduceCtorEq, and_true, true_and] using h9
  · have h9 := r_m12 R
    unfold Cm12
    simpa (disch := omega) only [sP_wI, gI_uI, nM_u, tk_ne9, tk_inj, if_false, if_true, false_and, and_false, Nat.reduceEqDiff, reduceIte, reduceCtorEq, and_true, true_and] using h9
  · have h9 := r_m10 R
    unfold Cm10
    simpa (disch := omega) only [sI_wI, gI_uI, nB_u, nM_u, tk_ne9, tk_inj, if_false, if_true, false_and, and_false, Nat.reduceEqDiff, reduceIte, reduceCtorEq, and_true, true_and] using h9
  · have h9 := r_mma R
    unfold Cmma
    simpa (disch := omega) only [gI_uI, nM_u, tk_ne9, tk_inj, if_false, if_true, false_and, and_false, Nat.reduceEqDiff, reduceIte, reduceCtorEq, and_true, true_and] using h9
  · have h9 := r_mmb R
    unfold Cmmb
    simpa (disch := omega) only [gI_uI, nB_u, nM_u, nP_u, tk_ne9, tk_inj, if_false, if_true, false_and, and_false, Nat.reduceEqDiff, reduceIte, reduceCtorEq, and_true, true_and] using h9
  · have h9 := r_mmc R
    unfold Cmmc
    simpa (disch := omega) only [gI_uI, nM_u, tk_ne9, tk_inj, if_false, if_true, false_and, and_false, Nat.reduceEqDiff, reduceIte, reduceCtorEq, and_true, true_and] using h9
  · have h9 := r_mr29 R
    unfold Cmr29
    simpa (disch := omega) only [gI_uI, nM_u, tk_ne9, tk_inj, if_false, if_true, false_and, and_false, Nat.reduceEqDiff, reduceIte, reduceCtorEq, and_true, true_and] using h9
  · have h9 := r_mr30 R
    unfold Cmr30
    simpa (disch := omega) only [gI_uI, nM_u, tk_ne9, tk_inj, if_false, if_true, false_and, and_false, Nat.reduceEqDiff, reduceIte, reduceCtorEq, and_true, true_and] using h9
  · have h9 := r_mr31 R
    unfold Cmr31
    simpa (disch := omega) only [gI_uI, nM_u, tk_ne9, tk_inj, if_false, if_true, false_and, and_false, Nat.reduceEqDiff, reduceIte, reduceCtorEq, and_true, true_and] using h9
  · have h9 := r_mr32 R
    unfold Cmr32
    simpa (disch := omega) only [gI_uI, nM_u, tk_ne9, tk_inj, if_false, if_true, false_and, and_false, Nat.reduceEqDiff, reduceIte, reduceCtorEq, and_true, true_and] using h9
  · have h9 := r_mr35 R
    unfold Cmr35
    simpa (disch := omega) only [gI_uI, nM_u, tk_ne9, tk_inj, if_false, if_true, false_and, and_false, Nat.reduceEqDiff, reduceIte, reduceCtorEq, and_true, true_and] using h9
  · have h9 := r_mr39 R
    unfold Cmr39
    simpa (disch := omega) only [gI_uI, nM_u, tk_ne9, tk_inj, if_false, if_true, false_and, and_false, Nat.reduceEqDiff, reduceIte, reduceCtorEq, and_true, true_and] using h9
  · have h9 := r_mr40 R
    unfold Cmr40
    simpa (disch := omega) only [gI_uI, nM_u, tk_ne9, tk_inj, if_false, if_true, false_and, and_false, Nat.reduceEqDiff, reduceIte, reduceCtorEq, and_true, true_and] using h9
  · have h9 := r_md R
    unfold Cmd
    simpa (disch := omega) only [gI_uI, nM_u, tk_ne9, tk_inj, if_false, if_true, false_and, and_false, Nat.reduceEqDiff, reduceIte, reduceCtorEq, and_true, true_and] using h9
  · have h9 := r_mw R
    unfold Cmw
    simpa (disch := omega) only [gI_uI, nM_u, tk_ne9, tk_inj, if_false, if_true, false_and, and_false, Nat.reduceEqDiff, reduceIte, reduceCtorEq, and_true, true_and] using h9
  · have h9 := r_q0 R
    unfold Cq0
    simpa (disch := omega) only [sP_wI, nP_u, tk_ne9, tk_inj, if_false, if_true, false_and, and_false, Nat.reduceEqDiff, reduceIte, reduceCtorEq, and_true, true_and] using h9
  · have h9 := r_qn R
    unfold Cqn
    simpa (disch := omega) only [sI_wI, nP_u, tk_ne9, tk_inj, if_false, if_true, false_and, and_false, Nat.reduceEqDiff, reduceIte, reduceCtorEq, and_true, true_and] using h9
  · have h9 := r_q1 R
    unfold Cq1
    simpa (disch := omega) only [sI_wI, gI_uI, nP_u, tk_ne9, tk_inj, if_false, if_true, false_and, and_false, Nat.reduceEqDiff, reduceIte, reduceCtorEq, and_true, true_and] using h9
  · have h9 := r_q2 R
    unfold Cq2
    simpa (disch := omega) only [sI_wI, gI_uI, nP_u, tk_ne9, tk_inj, if_false, if_true, false_and, and_false, Nat.reduceEqDiff, reduceIte, reduceCtorEq, and_true, true_and] using h9
  · have h9 := r_q3 R
    unfold Cq3
    simpa (disch := omega) only [sI_wI, gI_uI, nP_u, tk_ne9, tk_inj, if_false, if_true, false_and, and_false, Nat.reduceEqDiff, reduceIte, reduceCtorEq, and_true, true_and] using h9
  · have h9 := r_q4 R
    unfold Cq4
    simpa (disch := omega) only [sP_wI, nP_u, tk_ne9, tk_inj, if_false, if_true, false_and, and_false, Nat.reduceEqDiff, reduceIte, reduceCtorEq, and_true, true_and] using h9
  · have h9 := r_q5 R
    unfold Cq5
    simpa (disch := omega) only [sP_wI, nP_u, tk_ne9, tk_inj, if_false, if_true, false_and, and_false, Nat.reduceEqDiff, reduceIte, reduceCtorEq, and_true, true_and] using h9
  · have h9 := r_q6 R
    unfold Cq6
    simpa (disch := omega) only [sI_wI, gI_uI, nM_u, nP_u, tk_ne9, tk_inj, if_false, if_true, false_and, and_false, Nat.reduceEqDiff, reduceIte, reduceCtorEq, and_true, true_and] using h9
  · have h9 := r_ql R
    unfold Cql
    simpa (disch := omega) only [sI_wI, gI_uI, nP_u, tk_ne9, tk_inj, if_false, if_true, false_and, and_false, Nat.reduceEqDiff, reduceIte, reduceCtorEq, and_true, true_and] using h9
  · have h9 := r_qw R
    unfold Cqw
    simpa (disch := omega) only [sI_wI, gI_uI, nP_u, tk_ne9, tk_inj, if_false, if_true, false_and, and_false, Nat.reduceEqDiff, reduceIte, reduceCtorEq, and_true, true_and] using h9
  · have h9 := r_qm R
    unfold Cqm
    simpa (disch := omega) only [gI_uI, nP_u, tk_ne9, tk_inj, if_false, if_true, false_and, and_false, Nat.reduceEqDiff, reduceIte, reduceCtorEq, and_true, true_and] using h9
  · have h9 := r_qr R
    unfold Cqr
    simpa (disch := omega) only [gI_uI, nP_u, tk_ne9, tk_inj, if_false, if_true, false_and, and_false, Nat.reduceEqDiff, reduceIte, reduceCtorEq, and_true, true_and] using h9
  · have h9 := r_r0 R
    unfold Cr0
    simpa (disch := omega) only [sP_wI, nO_u, tk_ne9, tk_inj, if_false, if_true, false_and, and_false, Nat.reduceEqDiff, reduceIte, reduceCtorEq, and_true, true_and] using h9
  · have h9 := r_r1 R
    unfold Cr1
    simpa (disch := omega) only [sP_wI, gI_uI, nO_u, tk_ne9, tk_inj, if_false, if_true, false_and, and_false, Nat.reduceEqDiff, reduceIte, reduceCtorEq, and_true, true_and] using h9
  · have h9 := r_r2 R
    unfold Cr2
    simpa (disch := omega) only [sI_wI, gI_uI, nO_u, tk_ne9, tk_inj, if_false, if_true, false_and, and_false, Nat.reduceEqDiff, reduceIte, reduceCtorEq, and_true, true_and] using h9
  · have h9 := r_r3 R
    unfold Cr3
    simpa (disch := omega) only [sI_wI, gI_uI, nO_u, tk_ne9, tk_inj, if_false, if_true, false_and, and_false, Nat.reduceEqDiff, reduceIte, reduceCtorEq, and_true, true_and] using h9
  · have h9 := r_r4 R
    unfold Cr4
    simpa (disch := omega) only [sI_wI, gI_uI, nO_u, tk_ne9, tk_inj, if_false, if_true, false_and, and_false, Nat.reduceEqDiff, reduceIte, reduceCtorEq, and_true, true_and] using h9
  · have h9 := r_r5 R
    unfold Cr5
    simpa (disch := omega) only [sP_wI, gI_uI, nO_u, tk_ne9, tk_inj, if_false, if_true, false_and, and_false, Nat.reduceEqDiff, reduceIte, reduceCtorEq, and_true, true_and] using h9
  · have h9 := r_r6 R
    unfold Cr6
    simpa (disch := omega) only [sI_wI, gI_uI, nO_u, tk_ne9, tk_inj, if_false, if_true, false_and, and_false, Nat.reduceEqDiff, reduceIte, reduceCtorEq, and_true, true_and] using h9
  · have h9 := r_rk R
    unfold Crk
    simpa (disch := omega) only [gI_uI, nO_u, tk_ne9, tk_inj, if_false, if_true, false_and, and_false, Nat.reduceEqDiff, reduceIte, reduceCtorEq, and_true, true_and] using h9
  · have h9 := r_rp R
    unfold Crp
    simpa (disch := omega) only [gI_uI, nO_u, tk_ne9, tk_inj, if_false, if_true, false_and, and_false, Nat.reduceEqDiff, reduceIte, reduceCtorEq, and_true, true_and] using h9
  · have h9 := r_rq R
    unfold Crq
    simpa (disch := omega) only [gI_uI, nO_u, pr_u, tk_ne9, tk_inj, if_false, if_true, false_and, and_false, Nat.reduceEqDiff, reduceIte, reduceCtorEq, and_true, true_and] using h9
  · have h9 := r_rr R
    unfold Crr
    simpa (disch := omega) only [gI_uI, nO_u, pr_u, tk_ne9, tk_inj, if_false, if_true, false_and, and_false, Nat.reduceEqDiff, reduceIte, reduceCtorEq, and_true, true_and] using h9
  · have h9 := r_rs R
    unfold Crs
    simpa (disch := omega) only [gI_uI, nB_u, nO_u, tk_ne9, tk_inj, if_false, if_true, false_and, and_false, Nat.reduceEqDiff, reduceIte, reduceCtorEq, and_true, true_and] using h9
set_option maxHeartbeats 8000000 in
theorem rel_sent {e : Nat} {a : Sg} {M : MS} (R : Rel e a M) (j : Nat) (hj : j < nB M) (v : Int32) (hv : b01 v) : Rel e (wI a (tk 0 j) 8 v) (uI M 122 j v) := by
  unfold Rel
  refine ⟨?_, ?_, ?_, ?_, ?_, ?_, ?_, ?_, ?_, ?_, ?_, ?_, ?_, ?_, ?_, ?_, ?_, ?_, ?_, ?_, ?_, ?_, ?_, ?_, ?_, ?_, ?_, ?_, ?_, ?_, ?_, ?_, ?_, ?_, ?_, ?_, ?_, ?_, ?_, ?_, ?_, ?_, ?_, ?_, ?_, ?_, ?_, ?_, ?_, ?_, ?_, ?_, ?_, ?_, ?_, ?_, ?_, ?_, ?_, ?_, ?_, ?_, ?_, ?_, ?_, ?_, ?_, ?_, ?_, ?_, ?_, ?_, ?_, ?_, ?_, ?_, ?_, ?_, ?_, ?_, ?_, ?_, ?_, ?_, ?_, ?_, ?_, ?_, ?_, ?_, ?_, ?_, ?_, ?_, ?_, ?_, ?_, ?_, ?_, ?_, ?_, ?_, ?_, ?_, ?_, ?_, ?_, ?_, ?_, ?_, ?_, ?_, ?_, ?_, ?_, ?_, ?_, ?_, ?_, ?_, ?_, ?_, ?_, ?_, ?_, ?_, ?_, ?_, ?_, ?_, ?_, ?_, ?_, ?_, ?_, ?_, ?_, ?_, ?_, ?_, ?_, ?_, ?_, ?_, ?_, ?_, ?_, ?_, ?_⟩
  · have h9 := r_shm R
    exact h9
  · have h9 := r_px0 R
    exact h9
  · have h9 := r_px1 R
    exact h9
  · have h9 := r_px2 R
    exact h9
  · have h9 := r_pf0 R
    exact h9
  · have h9 := r_pf1 R
    exact h9
  · have h9 := r_pf3 R
    exact h9
  · have h9 := r_ps0 R
    exact h9
  · have h9 := r_ps2 R
    exact h9
  · have h9 := r_ps4 R
    exact h9
  · have h9 := r_pk R
    exact h9
  · have h9 := r_pkl R
    exact h9
  · have h9 := r_pko R
    exact h9
  · have h9 := r_ghour R
    unfold Cghour
    simpa (disch := omega) only [sI_wI, gI_uI, tk_ne9, tk_inj, if_false, if_true, false_and, and_false, Nat.reduceEqDiff, reduceIte, reduceCtorEq, and_true, true_and] using h9
  · have h9 := r_gstand R
    unfold Cgstand
    simpa (disch := omega) only [sI_wI, gI_uI, tk_ne9, tk_inj, if_false, if_true, false_and, and_false, Nat.reduceEqDiff, reduceIte, reduceCtorEq, and_true, true_and] using h9
  · have h9 := r_gbought R
    unfold Cgbought
    simpa (disch := omega) only [sI_wI, gI_uI, tk_ne9, tk_inj, if_false, if_true, false_and, and_false, Nat.reduceEqDiff, reduceIte, reduceCtorEq, and_true, true_and] using h9
  · have h9 := r_gmach R
    unfold Cgmach
    simpa (disch := omega) only [sI_wI, gI_uI, tk_ne9, tk_inj, if_false, if_true, false_and, and_false, Nat.reduceEqDiff, reduceIte, reduceCtorEq, and_true, true_and] using h9
  · have h9 := r_gpers R
    unfold Cgpers
    simpa (disch := omega) only [sI_wI, gI_uI, tk_ne9, tk_inj, if_false, if_true, false_and, and_false, Nat.reduceEqDiff, reduceIte, reduceCtorEq, and_true, true_and] using h9
  · have h9 := r_gworked R
    unfold Cgworked
    simpa (disch := omega) only [sI_wI, gI_uI, tk_ne9, tk_inj, if_false, if_true, false_and, and_false, Nat.reduceEqDiff, reduceIte, reduceCtorEq, and_true, true_and] using h9
  · have h9 := r_grep R
    unfold Cgrep
    simpa (disch := omega) only [sI_wI, gI_uI, tk_ne9, tk_inj, if_false, if_true, false_and, and_false, Nat.reduceEqDiff, reduceIte, reduceCtorEq, and_true, true_and] using h9
  · have h9 := r_gbat R
    unfold Cgbat
    simpa (disch := omega) only [sI_wI, gI_uI, tk_ne9, tk_inj, if_false, if_true, false_and, and_false, Nat.reduceEqDiff, reduceIte, reduceCtorEq, and_true, true_and] using h9
  · have h9 := r_gord R
    unfold Cgord
    simpa (disch := omega) only [sI_wI, gI_uI, tk_ne9, tk_inj, if_false, if_true, false_and, and_false, Nat.reduceEqDiff, reduceIte, reduceCtorEq, and_true, true_and] using h9
  · have h9 := r_gq R
    unfold Cgq
    simpa (disch := omega) only [sI_wI, gI_uI, tk_ne9, tk_inj, if_false, if_true, false_and, and_false, Nat.reduceEqDiff, reduceIte, reduceCtorEq, and_true, true_and] using h9
  · have h9 := r_nB R
    unfold CnB
    simpa (disch := omega) only [gI_uI, nB_u, tk_ne9, tk_inj, if_false, if_true, false_and, and_false, Nat.reduceEqDiff, reduceIte, reduceCtorEq, and_true, true_and] using h9
  · have h9 := r_nBx R
    unfold CnBx
    simpa (disch := omega) only [nB_u, tk_ne9, tk_inj, if_false, if_true, false_and, and_false, Nat.reduceEqDiff, reduceIte, reduceCtorEq, and_true, true_and] using h9
  · have h9 := r_nM R
    unfold CnM
    simpa (disch := omega) only [gI_uI, nM_u, tk_ne9, tk_inj, if_false, if_true, false_and, and_false, Nat.reduceEqDiff, reduceIte, reduceCtorEq, and_true, true_and] using h9
  · have h9 := r_nMx R
    unfold CnMx
    simpa (disch := omega) only [nM_u, tk_ne9, tk_inj, if_false, if_true, false_and, and_false, Nat.reduceEqDiff, reduceIte, reduceCtorEq, and_true, true_and] using h9
  · have h9 := r_nP R
    unfold CnP
    simpa (disch := omega) only [gI_uI, nP_u, tk_ne9, tk_inj, if_false, if_true, false_and, and_false, Nat.reduceEqDiff, reduceIte, reduceCtorEq, and_true, true_and] using h9
  · have h9 := r_nPx R
    unfold CnPx
    simpa (disch := omega) only [nP_u, tk_ne9, tk_inj, if_false, if_true, false_and, and_false, Nat.reduceEqDiff, reduceIte, reduceCtorEq, and_true, true_and] using h9
  · have h9 := r_nO R
    unfold CnO
    simpa (disch := omega) only [gI_uI, nO_u, tk_ne9, tk_inj, if_false, if_true, false_and, and_false, Nat.reduceEqDiff, reduceIte, reduceCtorEq, and_true, true_and] using h9
  · have h9 := r_nOx R
    unfold CnOx
    simpa (disch := omega) only [nO_u, tk_ne9, tk_inj, if_false, if_true, false_and, and_false, Nat.reduceEqDiff, reduceIte, reduceCtorEq, and_true, true_and] using h9
  · have h9 := r_hr R
    unfold Chr
    simpa (disch := omega) only [gI_uI, hN_u, tk_ne9, tk_inj, if_false, if_true, false_and, and_false, Nat.reduceEqDiff, reduceIte, reduceCtorEq, and_true, true_and] using h9
  · have h9 := r_hrx R
    unfold Chrx
    simpa (disch := omega) only [hN_u, tk_ne9, tk_inj, if_false, if_true, false_and, and_false, Nat.reduceEqDiff, reduceIte, reduceCtorEq, and_true, true_and] using h9
  · have h9 := r_stb R
    unfold Cstb
    simpa (disch := omega) only [gI_uI, tk_ne9, tk_inj, if_false, if_true, false_and, and_false, Nat.reduceEqDiff, reduceIte, reduceCtorEq, and_true, true_and] using h9
  · have h9 := r_ex R
    exact h9
  · have h9 := r_k0 R
    unfold Ck0
    simpa (disch := omega) only [sI_wI, tk_ne9, tk_inj, if_false, if_true, false_and, and_false, Nat.reduceEqDiff, reduceIte, reduceCtorEq, and_true, true_and] using h9
  · have h9 := r_k1 R
    unfold Ck1
    simpa (disch := omega) only [sI_wI, gI_uI, tk_ne9, tk_inj, if_false, if_true, false_and, and_false, Nat.reduceEqDiff, reduceIte, reduceCtorEq, and_true, true_and] using h9
  · have h9 := r_k2 R
    unfold Ck2
    simpa (disch := omega) only [sI_wI, gI_uI, tk_ne9, tk_inj, if_false, if_true, false_and, and_false, Nat.reduceEqDiff, reduceIte, reduceCtorEq, and_true, true_and] using h9
  · have h9 := r_k3 R
    unfold Ck3
    simpa (disch := omega) only [sI_wI, gI_uI, tk_ne9, tk_inj, if_false, if_true, false_and, and_false, Nat.reduceEqDiff, reduceIte, reduceCtorEq, and_true, true_and] using h9
  · have h9 := r_k5 R
    unfold Ck5
    simpa (disch := omega) only [sI_wI, gI_uI, tk_ne9, tk_inj, if_false, if_true, false_and, and_false, Nat.reduceEqDiff, reduceIte, reduceCtorEq, and_true, true_and] using h9
  · have h9 := r_k7 R
    unfold Ck7
    simpa (disch := omega) only [sI_wI, gI_uI, tk_ne9, tk_inj, if_false, if_true, false_and, and_false, Nat.reduceEqDiff, reduceIte, reduceCtorEq, and_true, true_and] using h9
  · have h9 := r_k8 R
    unfold Ck8
    simpa (disch := omega) only [sI_wI, gI_uI, tk_ne9, tk_inj, if_false, if_true, false_and, and_false, Nat.reduceEqDiff, reduceIte, reduceCtorEq, and_true, true_and] using h9
  · have h9 := r_k9 R
    unfold Ck9
    simpa (disch := omega) only [sI_wI, gI_uI, tk_ne9, tk_inj, if_false, if_true, false_and, and_false, Nat.reduceEqDiff, reduceIte, reduceCtorEq, and_true, true_and] using h9
  · have h9 := r_k10 R
    unfold Ck10
    simpa (disch := omega) only [sI_wI, nB_u, mInSt_u, tk_ne9, tk_inj, if_false, if_true, false_and, and_false, Nat.reduceEqDiff, reduceIte, reduceCtorEq, and_true, true_and] using h9
  · have h9 := r_k11 R
    unfold Ck11
    simpa (disch := omega) only [sI_wI, nO_u, mProm_u, tk_ne9, tk_inj, if_false, if_true, false_and, and_false, Nat.reduceEqDiff, reduceIte, reduceCtorEq, and_true, true_and] using h9
  · have h9 := r_k12 R
    unfold Ck12
    simpa (disch := omega) only [sI_wI, tk_ne9, tk_inj, if_false, if_true, false_and, and_false, Nat.reduceEqDiff, reduceIte, reduceCtorEq, and_true, true_and] using h9
  · have h9 := r_ksa R
    unfold Cksa
    simpa (disch := omega) only [gI_uI, tk_ne9, tk_inj, if_false, if_true, false_and, and_false, Nat.reduceEqDiff, reduceIte, reduceCtorEq, and_true, true_and] using h9
  · have h9 := r_ksb R
    unfold Cksb
    simpa (disch := omega) only [gI_uI, nOp_u, tk_ne9, tk_inj, if_false, if_true, false_and, and_false, Nat.reduceEqDiff, reduceIte, reduceCtorEq, and_true, true_and] using h9
  · have h9 := r_ksc R
    unfold Cksc
    simpa (disch := omega) only [gI_uI, nLn_u, nOp_u, tk_ne9, tk_inj, if_false, if_true, false_and, and_false, Nat.reduceEqDiff, reduceIte, reduceCtorEq, and_true, true_and] using h9
  · have h9 := r_kw R
    unfold Ckw
    simpa (disch := omega) only [gI_uI, tk_ne9, tk_inj, if_false, if_true, false_and, and_false, Nat.reduceEqDiff, reduceIte, reduceCtorEq, and_true, true_and] using h9
  · have h9 := r_kl R
    unfold Ckl
    simpa (disch := omega) only [gI_uI, nLn_u, tk_ne9, tk_inj, if_false, if_true, false_and, and_false, Nat.reduceEqDiff, reduceIte, reduceCtorEq, and_true, true_and] using h9
  · have h9 := r_ko R
    unfold Cko
    simpa (disch := omega) only [gI_uI, nOp_u, tk_ne9, tk_inj, if_false, if_true, false_and, and_false, Nat.reduceEqDiff, reduceIte, reduceCtorEq, and_true, true_and] using h9
  · have h9 := r_kp R
    unfold Ckp
    simpa (disch := omega) only [gI_uI, tk_ne9, tk_inj, if_false, if_true, false_and, and_false, Nat.reduceEqDiff, reduceIte, reduceCtorEq, and_true, true_and] using h9
  · have h9 := r_l0 R
    unfold Cl0
    simpa (disch := omega) only [sP_wI, nLn_u, tk_ne9, tk_inj, if_false, if_true, false_and, and_false, Nat.reduceEqDiff, reduceIte, reduceCtorEq, and_true, true_and] using h9
  · have h9 := r_l1 R
    unfold Cl1
    simpa (disch := omega) only [sP_wI, nLn_u, lnP_u, tk_ne9, tk_inj, if_false, if_true, false_and, and_false, Nat.reduceEqDiff, reduceIte, reduceCtorEq, and_true, true_and] using h9
  · have h9 := r_l2 R
    unfold Cl2
    simpa (disch := omega) only [sI_wI, gI_uI, nLn_u, tk_ne9, tk_inj, if_false, if_true, false_and, and_false, Nat.reduceEqDiff, reduceIte, reduceCtorEq, and_true, true_and] using h9
  · have h9 := r_l3 R
    unfold Cl3
    simpa (disch := omega) only [sP_wI, gI_uI, nLn_u, tk_ne9, tk_inj, if_false, if_true, false_and, and_false, Nat.reduceEqDiff, reduceIte, reduceCtorEq, and_true, true_and] using h9
  · have h9 := r_lm R
    unfold Clm
    simpa (disch := omega) only [gI_uI, nLn_u, lnP_u, tk_ne9, tk_inj, if_false, if_true, false_and, and_false, Nat.reduceEqDiff, reduceIte, reduceCtorEq, and_true, true_and] using h9
  · have h9 := r_o0 R
    unfold Co0
    simpa (disch := omega) only [sP_wI, nOp_u, tk_ne9, tk_inj, if_false, if_true, false_and, and_false, Nat.reduceEqDiff, reduceIte, reduceCtorEq, and_true, true_and] using h9
  · have h9 := r_o1 R
    unfold Co1
    simpa (disch := omega) only [sI_wI, gI_uI, nOp_u, tk_ne9, tk_inj, if_false, if_true, false_and, and_false, Nat.reduceEqDiff, reduceIte, reduceCtorEq, and_true, true_and] using h9
  · have h9 := r_o2 R
    unfold Co2
    simpa (disch := omega) only [sI_wI, gI_uI, nOp_u, tk_ne9, tk_inj, if_false, if_true, false_and, and_false, Nat.reduceEqDiff, reduceIte, reduceCtorEq, and_true, true_and] using h9
  · have h9 := r_o3 R
    unfold Co3
    simpa (disch := omega) only [sI_wI, gI_uI, nOp_u, tk_ne9, tk_inj, if_false, if_true, false_and, and_false, Nat.reduceEqDiff, reduceIte, reduceCtorEq, and_true, true_and] using h9
  · have h9 := r_om R
    unfold Com
    simpa (disch := omega) only [gI_uI, nOp_u, tk_ne9, tk_inj, if_false, if_true, false_and, and_false, Nat.reduceEqDiff, reduceIte, reduceCtorEq, and_true, true_and] using h9
  · have h9 := r_b0 R
    unfold Cb0
    simpa (disch := omega) only [sP_wI, nB_u, tk_ne9, tk_inj, if_false, if_true, false_and, and_false, Nat.reduceEqDiff, reduceIte, reduceCtorEq, and_true, true_and] using h9
  · have h9 := r_bn R
    unfold Cbn
    simpa (disch := omega) only [sI_wI, nB_u, tk_ne9, tk_inj, if_false, if_true, false_and, and_false, Nat.reduceEqDiff, reduceIte, reduceCtorEq, and_true, true_and] using h9
  · have h9 := r_bk R
    unfold Cbk
    simpa (disch := omega) only [sP_wI, nB_u, kd_u, tk_ne9, tk_inj, if_false, if_true, false_and, and_false, Nat.reduceEqDiff, reduceIte, reduceCtorEq, and_true, true_and] using h9
  · have h9 := r_b2 R
    unfold Cb2
    simpa (disch := omega) only [sI_wI, gI_uI, nB_u, tk_ne9, tk_inj, if_false, if_true, false_and, and_false, Nat.reduceEqDiff, reduceIte, reduceCtorEq, and_true, true_and] using h9
  · have h9 := r_b3 R
    unfold Cb3
    simpa (disch := omega) only [sI_wI, gI_uI, nB_u, tk_ne9, tk_inj, if_false, if_true, false_and, and_false, Nat.reduceEqDiff, reduceIte, reduceCtorEq, and_true, true_and] using h9
  · have h9 := r_b4 R
    unfold Cb4
    simpa (disch := omega) only [sI_wI, gI_uI, nB_u, tk_ne9, tk_inj, if_false, if_true, false_and, and_false, Nat.reduceEqDiff, reduceIte, reduceCtorEq, and_true, true_and] using h9
  · have h9 := r_b5 R
    unfold Cb5
    simpa (disch := omega) only [sI_wI, gI_uI, nB_u, tk_ne9, tk_inj, if_false, if_true, false_and, and_false, Nat.reduceEqDiff, reduceIte, reduceCtorEq, and_true, true_and] using h9
  · have h9 := r_b6 R
    unfold Cb6
    simpa (disch := omega) only [sI_wI, gI_uI, nB_u, tk_ne9, tk_inj, if_false, if_true, false_and, and_false, Nat.reduceEqDiff, reduceIte, reduceCtorEq, and_true, true_and] using h9
  · have h9 := r_b7 R
    unfold Cb7
    simpa (disch := omega) only [sI_wI, gI_uI, nB_u, tk_ne9, tk_inj, if_false, if_true, false_and, and_false, Nat.reduceEqDiff, reduceIte, reduceCtorEq, and_true, true_and] using h9
  · unfold Cb8
    intro x0_ h0
    have h9 := r_b8 R x0_ h0
    by_cases e1 : x0_ = j
    · subst e1
      (try simp (disch := omega) [sI_wI, sI_wP, sI_wL, sI_wN, sP_wI, sP_wP, sP_wL, sP_wN, sL_wI, sL_wP, sL_wL, sL_wN, sX_wI, sX_wP, sX_wL, sX_wN, gI_uI, gI_uL, gL_uI, gL_uL, tk_ne9, tk_inj, nB_u, nM_u, nP_u, nO_u, hN_u, nLn_u, nOp_u, lnP_u, pc_u, kd_u, op_u, pr_u, mInSt_u, mProm_u, nInSt_u, nProm_u, totp_u, tot_u, nB_l, nM_l, nP_l, nO_l, hN_l, nLn_l, nOp_l, lnP_l, pc_l, kd_l, op_l, pr_l, mInSt_l, mProm_l, nInSt_l, nProm_l, totp_l, tot_l, if_false, if_true, false_and, and_false, Nat.reduceEqDiff, reduceIte, reduceCtorEq, and_true, true_and]) <;> first | exact h9 | assumption | grind
    · (try simp (disch := omega) [sI_wI, sI_wP, sI_wL, sI_wN, sP_wI, sP_wP, sP_wL, sP_wN, sL_wI, sL_wP, sL_wL, sL_wN, sX_wI, sX_wP, sX_wL, sX_wN, gI_uI, gI_uL, gL_uI, gL_uL, tk_ne9, tk_inj, nB_u, nM_u, nP_u, nO_u, hN_u, nLn_u, nOp_u, lnP_u, pc_u, kd_u, op_u, pr_u, mInSt_u, mProm_u, nInSt_u, nProm_u, totp_u, tot_u, nB_l, nM_l, nP_l, nO_l, hN_l, nLn_l, nOp_l, lnP_l, pc_l, kd_l, op_l, pr_l, mInSt_l, mProm_l, nInSt_l, nProm_l, totp_l, tot_l, if_false, if_true, false_and, and_false, Nat.reduceEqDiff, reduceIte, reduceCtorEq, and_true, true_and, e1]) <;> first | exact h9 | assumption | grind
  · have h9 := r_b9 R
    unfold Cb9
    simpa (disch := omega) only [sI_wI, gI_uI, nB_u, tk_ne9, tk_inj, if_false, if_true, false_and, and_false, Nat.reduceEqDiff, reduceIte, reduceCtorEq, and_true, true_and] using h9
  · have h9 := r_b10 R
    unfold Cb10
    simpa (disch := omega) only [sI_wI, gI_uI, nB_u, tk_ne9, tk_inj, if_false, if_true, false_and, and_false, Nat.reduceEqDiff, reduceIte, reduceCtorEq, and_true, true_and] using h9
  · have h9 := r_b11 R
    unfold Cb11
    simpa (disch := omega) only [sL_wI, gL_uI, nB_u, tk_ne9, tk_inj, if_false, if_true, false_and, and_false, Nat.reduceEqDiff, reduceIte, reduceCtorEq, and_true, true_and] using h9
  · have h9 := r_bK R
    unfold CbK
    simpa (disch := omega) only [gI_uI, nB_u, kd_u, tk_ne9, tk_inj, if_false, if_true, false_and, and_false, Nat.reduceEqDiff, reduceIte, reduceCtorEq, and_true, true_and] using h9
  · have h9 := r_bP R
    unfold CbP
    simpa (disch := omega) only [gI_uI, nB_u, pc_u, tk_ne9, tk_inj, if_false, if_true, false_and, and_false, Nat.reduceEqDiff, reduceIte, reduceCtorEq, and_true, true_and] using h9
  · have h9 := r_bO R
    unfold CbO
    simpa (disch := omega) only [gI_uI, nB_u, op_u, tk_ne9, tk_inj, if_false, if_true, false_and, and_false, Nat.reduceEqDiff, reduceIte, reduceCtorEq, and_true, true_and] using h9
  · have h9 := r_bW R
    unfold CbW
    simpa (disch := omega) only [gI_uI, nB_u, nOp_u, kd_u, op_u, tk_ne9, tk_inj, if_false, if_true, false_and, and_false, Nat.reduceEqDiff, reduceIte, reduceCtorEq, and_true, true_and] using h9
  · have h9 := r_bZ R
    unfold CbZ
    simpa (disch := omega) only [gI_uI, nB_u, pc_u, tk_ne9, tk_inj, if_false, if_true, false_and, and_false, Nat.reduceEqDiff, reduceIte, reduceCtorEq, and_true, true_and] using h9
  · have h9 := r_bF R
    unfold CbF
    simpa (disch := omega) only [gI_uI, nB_u, tk_ne9, tk_inj, if_false, if_true, false_and, and_false, Nat.reduceEqDiff, reduceIte, reduceCtorEq, and_true, true_and] using h9
  · unfold CbS
    intro x h1
    have h9 := r_bS R x h1
    by_cases e1 : x = j
    · subst e1; simpa [gI_uI] using hv
    · simpa [gI_uI, e1] using h9
  · have h9 := r_bC R
    unfold CbC
    simpa (disch := omega) only [gI_uI, nB_u, tk_ne9, tk_inj, if_false, if_true, false_and, and_false, Nat.reduceEqDiff, reduceIte, reduceCtorEq, and_true, true_and] using h9
  · have h9 := r_bT R
    unfold CbT
    simpa (disch := omega) only [gI_uI, nB_u, tk_ne9, tk_inj, if_false, if_true, false_and, and_false, Nat.reduceEqDiff, reduceIte, reduceCtorEq, and_true, true_and] using h9
  · have h9 := r_bU R
    unfold CbU
    simpa (disch := omega) only [gI_uI, nB_u, kd_u, tk_ne9, tk_inj, if_false, if_true, false_and, and_false, Nat.reduceEqDiff, reduceIte, reduceCtorEq, and_true, true_and] using h9
  · have h9 := r_bq R
    unfold Cbq
    simpa (disch := omega) only [nB_u, totp_u, tk_ne9, tk_inj, if_false, if_true, false_and, and_false, Nat.reduceEqDiff, reduceIte, reduceCtorEq, and_true, true_and] using h9
  · have h9 := r_ps R
    unfold Cps
    simpa (disch := omega) only [nB_u, nO_u, nInSt_u, nProm_u, tk_ne9, tk_inj, if_false, if_true, false_and, and_false, Nat.reduceEqDiff, reduceIte, reduceCtorEq, and_true, true_and] using h9
  · have h9 := r_bp R
    unfold Cbp
    simpa (disch := omega) only [gL_uI, nB_u, tk_ne9, tk_inj, if_false, if_true, false_and, and_false, Nat.reduceEqDiff, reduceIte, reduceCtorEq, and_true, true_and] using h9
  · have h9 := r_bc R
    unfold Cbc
    simpa (disch := omega) only [nB_u, hN_u, tot_u, tk_ne9, tk_inj, if_false, if_true, false_and, and_false, Nat.reduceEqDiff, reduceIte, reduceCtorEq, and_true, true_and] using h9
  · have h9 := r_fB R
    unfold CfB
    simpa (disch := omega) only [sX_wI, nB_u, tk_ne9, tk_inj, if_false, if_true, false_and, and_false, Nat.reduceEqDiff, reduceIte, reduceCtorEq, and_true, true_and] using h9
  · have h9 := r_fL R
    unfold CfL
    simpa (disch := omega) only [sX_wI, nLn_u, tk_ne9, tk_inj, if_false, if_true, false_and, and_false, Nat.reduceEqDiff, reduceIte, reduceCtorEq, and_true, true_and] using h9
  · have h9 := r_fO R
    unfold CfO
    simpa (disch := omega) only [sX_wI, nOp_u, tk_ne9, tk_inj, if_false, if_true, false_and, and_false, Nat.reduceEqDiff, reduceIte, reduceCtorEq, and_true, true_and] using h9
  · have h9 := r_fM R
    unfold CfM
    simpa (disch := omega) only [sX_wI, nM_u, tk_ne9, tk_inj, if_false, if_true, false_and, and_false, Nat.reduceEqDiff, reduceIte, reduceCtorEq, and_true, true_and] using h9
  · have h9 := r_fP R
    unfold CfP
    simpa (disch := omega) only [sX_wI, nP_u, tk_ne9, tk_inj, if_false, if_true, false_and, and_false, Nat.reduceEqDiff, reduceIte, reduceCtorEq, and_true, true_and] using h9
  · have h9 := r_fR R
    unfold CfR
    simpa (disch := omega) only [sX_wI, nO_u, tk_ne9, tk_inj, if_false, if_true, false_and, and_false, Nat.reduceEqDiff, reduceIte, reduceCtorEq, and_true, true_and] using h9
  · have h9 := r_fG R
    exact h9
  · have h9 := r_m0 R
    unfold Cm0
    simpa (disch := omega) only [sP_wI, nM_u, tk_ne9, tk_inj, if_false, if_true, false_and, and_false, Nat.reduceEqDiff, reduceIte, reduceCtorEq, and_true, true_and] using h9
  · have h9 := r_mn R
    unfold Cmn
    simpa (disch := omega) only [sI_wI, nM_u, tk_ne9, tk_inj, if_false, if_true, false_and, and_false, Nat.reduceEqDiff, reduceIte, reduceCtorEq, and_true, true_and] using h9
  · have h9 := r_m1 R
    unfold Cm1
    simpa (disch := omega) only [sI_wI, gI_uI, nM_u, tk_ne9, tk_inj, if_false, if_true, false_and, and_false, Nat.reduceEqDiff, reduceIte, reduceCtorEq, and_true, true_and] using h9
  · have h9 := r_m2 R
    unfold Cm2
    simpa (disch := omega) only [sI_wI, gI_uI, nM_u, tk_ne9, tk_inj, if_false, if_true, false_and, and_false, Nat.reduceEqDiff, reduceIte, reduceCtorEq, and_true, true_and] using h9
  · have h9 := r_m3 R
    unfold Cm3
    simpa (disch := omega) only [sI_wI, gI_uI, nM_u, tk_ne9, tk_inj, if_false, if_true, false_and, and_false, Nat.reduceEqDiff, reduceIte, reduceCtorEq, and_true, true_and] using h9
  · have h9 := r_m4 R
    unfold Cm4
    simpa (disch := omega) only [sI_wI, gI_uI, nM_u, tk_ne9, tk_inj, if_false, if_true, false_and, and_false, Nat.reduceEqDiff, reduceIte, reduceCtorEq, and_true, true_and] using h9
  · have h9 := r_m5 R
    unfold Cm5
    simpa (disch := omega) only [sI_wI, gI_uI, nM_u, tk_ne9, tk_inj, if_false, if_true, false_and, and_false, Nat.reduceEqDiff, reduceIte, reduceCtorEq, and_true, true_and] using h9
  · have h9 := r_m9 R
    unfold Cm9
    simpa (disch := omega) only [sI_wI, gI_uI, nM_u, tk_ne9, tk_inj, if_false, if_true, false_and, and_false, Nat.reduceEqDiff, reduceIte, reduceCtorEq, and_true, true_and] using h9
  · have h9 := r_m11 R
    unfold Cm11
    simpa (disch := omega) only [sI_wI, gI_uI, nM_u, tk_ne9, tk_inj, if_false, if_true, false_and, and_false, Nat.reduceEqDiff, reduceIte, reduceCtorEq, and_true, true_and] using h9
  · have h9 := r_m13 R
    unfold Cm13
    simpa (disch := omega) only [sI_wI, gI_uI, nM_u, tk_ne9, tk_inj, if_false, if_true, false_and, and_false, Nat.reduceEqDiff, reduceIte, reduceCtorEq, and_true, true_and] using h9
  · have h9 := r_m14 R
    unfold Cm14
    simpa (disch := omega) only [sI_wI, gI_uI, nM_u, tk_ne9, tk_inj, if_false, if_true, false_and, and_false, Nat.reduceEqDiff, reduceIte, reduceCtorEq, and_true, true_and] using h9
  · have h9 := r_m6 R
    unfold Cm6
    simpa (disch := omega) only [sP_wI, gI_uI, nM_u, tk_ne9, tk_inj, if_false, if_true, false_and, and_false, Nat.reduceEqDiff, reduceIte, reduceCtorEq, and_true, true_and] using h9
  · have h9 := r_m7 R
    unfold Cm7
    simpa (disch := omega) only [sP_wI, gI_uI, nM_u, tk_ne9, tk_inj, if_false, if_true, false_and, and_false, Nat.reduceEqDiff, reduceIte, reduceCtorEq, and_true, true_and] using h9
  · have h9 := r_m8 R
    unfold Cm8
    simpa (disch := omega) only [sP_wI, gI_uI, nM_u, tk_ne9, tk_inj, if_false, if_true, false_and, and_false, Nat.reduceEqDiff, reduceIte, reduceCtorEq, and_true, true_and] using h9
  · have h9 := r_m12 R
    unfold Cm12
    simpa (disch := omega) only [sP_wI, gI_uI, nM_u, tk_ne9, tk_inj, if_false, if_true, false_and, and_false, Nat.reduceEqDiff, reduceIte, reduceCtorEq, and_true, true_and] using h9
  · have h9 := r_m10 R
    unfold Cm10
    simpa (disch := omega) only [sI_wI, gI_uI, nB_u, nM_u, tk_ne9, tk_inj, if_false, if_true, false_and, and_false, Nat.reduceEqDiff, reduceIte, reduceCtorEq, and_true, true_and] using h9
  · have h9 := r_mma R
    unfold Cmma
    simpa (disch := omega) only [gI_uI, nM_u, tk_ne9, tk_inj, if_false, if_true, false_and, and_false, Nat.reduceEqDiff, reduceIte, reduceCtorEq, and_true, true_and] using h9
  · have h9 := r_mmb R
    unfold Cmmb
    simpa (disch := omega) only [gI_uI, nB_u, nM_u, nP_u, tk_ne9, tk_inj, if_false, if_true, false_and, and_false, Nat.reduceEqDiff, reduceIte, reduceCtorEq, and_true, true_and] using h9
  · have h9 := r_mmc R
    unfold Cmmc
    simpa (disch := omega) only [gI_uI, nM_u, tk_ne9, tk_inj, if_false, if_true, false_and, and_false, Nat.reduceEqDiff, reduceIte, reduceCtorEq, and_true, true_and] using h9
  · have h9 := r_mr29 R
    unfold Cmr29
    simpa (disch := omega) only [gI_uI, nM_u, tk_ne9, tk_inj, if_false, if_true, false_and, and_false, Nat.reduceEqDiff, reduceIte, reduceCtorEq, and_true, true_and] using h9
  · have h9 := r_mr30 R
    unfold Cmr30
    simpa (disch := omega) only [gI_uI, nM_u, tk_ne9, tk_inj, if_false, if_true, false_and, and_false, Nat.reduceEqDiff, reduceIte, reduceCtorEq, and_true, true_and] using h9
  · have h9 := r_mr31 R
    unfold Cmr31
    simpa (disch := omega) only [gI_uI, nM_u, tk_ne9, tk_inj, if_false, if_true, false_and, and_false, Nat.reduceEqDiff, reduceIte, reduceCtorEq, and_true, true_and] using h9
  · have h9 := r_mr32 R
    unfold Cmr32
    simpa (disch := omega) only [gI_uI, nM_u, tk_ne9, tk_inj, if_false, if_true, false_and, and_false, Nat.reduceEqDiff, reduceIte, reduceCtorEq, and_true, true_and] using h9
  · have h9 := r_mr35 R
    unfold Cmr35
    simpa (disch := omega) only [gI_uI, nM_u, tk_ne9, tk_inj, if_false, if_true, false_and, and_false, Nat.reduceEqDiff, reduceIte, reduceCtorEq, and_true, true_and] using h9
  · have h9 := r_mr39 R
    unfold Cmr39
    simpa (disch := omega) only [gI_uI, nM_u, tk_ne9, tk_inj, if_false, if_true, false_and, and_false, Nat.reduceEqDiff, reduceIte, reduceCtorEq, and_true, true_and] using h9
  · have h9 := r_mr40 R
    unfold Cmr40
    simpa (disch := omega) only [gI_uI, nM_u, tk_ne9, tk_inj, if_false, if_true, false_and, and_false, Nat.reduceEqDiff, reduceIte, reduceCtorEq, and_true, true_and] using h9
  · have h9 := r_md R
    unfold Cmd
    simpa (disch := omega) only [gI_uI, nM_u, tk_ne9, tk_inj, if_false, if_true, false_and, and_false, Nat.reduceEqDiff, reduceIte, reduceCtorEq, and_true, true_and] using h9
  · have h9 := r_mw R
    unfold Cmw
    simpa (disch := omega) only [gI_uI, nM_u, tk_ne9, tk_inj, if_false, if_true, false_and, and_false, Nat.reduceEqDiff, reduceIte, reduceCtorEq, and_true, true_and] using h9
  · have h9 := r_q0 R
    unfold Cq0
    simpa (disch := omega) only [sP_wI, nP_u, tk_ne9, tk_inj, if_false, if_true, false_and, and_false, Nat.reduceEqDiff, reduceIte, reduceCtorEq, and_true, true_and] using h9
  · have h9 := r_qn R
    unfold Cqn
    simpa (disch := omega) only [sI_wI, nP_u, tk_ne9, tk_inj, if_false, if_true, false_and, and_false, Nat.reduceEqDiff, reduceIte, reduceCtorEq, and_true, true_and] using h9
  · have h9 := r_q1 R
    unfold Cq1
    simpa (disch := omega) only [sI_wI, gI_uI, nP_u, tk_ne9, tk_inj, if_false, if_true, false_and, and_false, Nat.reduceEqDiff, reduceIte, reduceCtorEq, and_true, true_and] using h9
  · have h9 := r_q2 R
    unfold Cq2
    simpa (disch := omega) only [sI_wI, gI_uI, nP_u, tk_ne9, tk_inj, if_false, if_true, false_and, and_false, Nat.reduceEqDiff, reduceIte, reduceCtorEq, and_true, true_and] using h9
  · have h9 := r_q3 R
    unfold Cq3
    simpa (disch := omega) only [sI_wI, gI_uI, nP_u, tk_ne9, tk_inj, if_false, if_true, false_and, and_false, Nat.reduceEqDiff, reduceIte, reduceCtorEq, and_true, true_and] using h9
  · have h9 := r_q4 R
    unfold Cq4
    simpa (disch := omega) only [sP_wI, nP_u, tk_ne9, tk_inj, if_false, if_true, false_and, and_false, Nat.reduceEqDiff, reduceIte, reduceCtorEq, and_true, true_and] using h9
  · have h9 := r_q5 R
    unfold Cq5
    simpa (disch := omega) only [sP_wI, nP_u, tk_ne9, tk_inj, if_false, if_true, false_and, and_false, Nat.reduceEqDiff, reduceIte, reduceCtorEq, and_true, true_and] using h9
  · have h9 := r_q6 R
    unfold Cq6
    simpa (disch := omega) only [sI_wI, gI_uI, nM_u, nP_u, tk_ne9, tk_inj, if_false, if_true, false_and, and_false, Nat.reduceEqDiff, reduceIte, reduceCtorEq, and_true, true_and] using h9
  · have h9 := r_ql R
    unfold Cql
    simpa (disch := omega) only [sI_wI, gI_uI, nP_u, tk_ne9, tk_inj, if_false, if_true, false_and, and_false, Nat.reduceEqDiff, reduceIte, reduceCtorEq, and_true, true_and] using h9
  · have h9 := r_qw R
    unfold Cqw
    simpa (disch := omega) only [sI_wI, gI_uI, nP_u, tk_ne9, tk_inj, if_false, if_true, false_and, and_false, Nat.reduceEqDiff, reduceIte, reduceCtorEq, and_true, true_and] using h9
  · have h9 := r_qm R
    unfold Cqm
    simpa (disch := omega) only [gI_uI, nP_u, tk_ne9, tk_inj, if_false, if_true, false_and, and_false, Nat.reduceEqDiff, reduceIte, reduceCtorEq, and_true, true_and] using h9
  · have h9 := r_qr R
    unfold Cqr
    simpa (disch := omega) only [gI_uI, nP_u, tk_ne9, tk_inj, if_false, if_true, false_and, and_false, Nat.reduceEqDiff, reduceIte, reduceCtorEq, and_true, true_and] using h9
  · have h9 := r_r0 R
    unfold Cr0
    simpa (disch := omega) only [sP_wI, nO_u, tk_ne9, tk_inj, if_false, if_true, false_and, and_false, Nat.reduceEqDiff, reduceIte, reduceCtorEq, and_true, true_and] using h9
  · have h9 := r_r1 R
    unfold Cr1
    simpa (disch := omega) only [sP_wI, gI_uI, nO_u, tk_ne9, tk_inj, if_false, if_true, false_and, and_false, Nat.reduceEqDiff, reduceIte, reduceCtorEq, and_true, true_and] using h9
  · have h9 := r_r2 R
    unfold Cr2
    simpa (disch := omega) only [sI_wI, gI_uI, nO_u, tk_ne9, tk_inj, if_false, if_true, false_and, and_false, Nat.reduceEqDiff, reduceIte, reduceCtorEq, and_true, true_and] using h9
  · have h9 := r_r3 R
    unfold Cr3
    simpa (disch := omega) only [sI_wI, gI_uI, nO_u, tk_ne9, tk_inj, if_false, if_true, false_and, and_false, Nat.reduceEqDiff, reduceIte, reduceCtorEq, and_true, true_and] using h9
  · have h9 := r_r4 R
    unfold Cr4
    simpa (disch := omega) only [sI_wI, gI_uI, nO_u, tk_ne9, tk_inj, if_false, if_true, false_and, and_false, Nat.reduceEqDiff, reduceIte, reduceCtorEq, and_true, true_and] using h9
  · have h9 := r_r5 R
    unfold Cr5
    simpa (disch := omega) only [sP_wI, gI_uI, nO_u, tk_ne9, tk_inj, if_false, if_true, false_and, and_false, Nat.reduceEqDiff, reduceIte, reduceCtorEq, and_true, true_and] using h9
  · have h9 := r_r6 R
    unfold Cr6
    simpa (disch := omega) only [sI_wI, gI_uI, nO_u, tk_ne9, tk_inj, if_false, if_true, false_and, and_false, Nat.reduceEqDiff, reduceIte, reduceCtorEq, and_true, true_and] using h9
  · have h9 := r_rk R
    unfold Crk
    simpa (disch := omega) only [gI_uI, nO_u, tk_ne9, tk_inj, if_false, if_true, false_and, and_false, Nat.reduceEqDiff, reduceIte, reduceCtorEq, and_true, true_and] using h9
  · have h9 := r_rp R
    unfold Crp
    simpa (disch := omega) only [gI_uI, nO_u, tk_ne9, tk_inj, if_false, if_true, false_and, and_false, Nat.reduceEqDiff, reduceIte, reduceCtorEq, and_true, true_and] using h9
  · have h9 := r_rq R
    unfold Crq
    simpa (disch := omega) only [gI_uI, nO_u, pr_u, tk_ne9, tk_inj, if_false, if_true, false_and, and_false, Nat.reduceEqDiff, reduceIte, reduceCtorEq, and_true, true_and] using h9
  · have h9 := r_rr R
    unfold Crr
    simpa (disch := omega) only [gI_uI, nO_u, pr_u, tk_ne9, tk_inj, if_false, if_true, false_and, and_false, Nat.reduceEqDiff, reduceIte, reduceCtorEq, and_true, true_and] using h9
  · have h9 := r_rs R
    unfold Crs
    simpa (disch := omega) only [gI_uI, nB_u, nO_u, tk_ne9, tk_inj, if_false, if_true, false_and, and_false, Nat.reduceEqDiff, reduceIte, reduceCtorEq, and_true, true_and] using h9
set_option maxHeartbeats 8000000 in
theorem rel_opn {e : Nat} {a : Sg} {M : MS} (R : Rel e a M) (j : Nat) (hj : j < nB M) (q : Nat) (hq : q ≤ 4) (hw : gI M 18 j = 1 ∨ gI M 18 j = 2 → q < nOp M (kd M j)) : Rel e (wI a (tk 0 j) 5 (nI q)) (uI M 19 j (nI q)) := by
  unfold Rel
  refine ⟨?_, ?_, ?_, ?_, ?_, ?_, ?_, ?_, ?_, ?_, ?_, ?_, ?_, ?_, ?_, ?_, ?_, ?_, ?_, ?_, ?_, ?_, ?_, ?_, ?_, ?_, ?_, ?_, ?_, ?_, ?_, ?_, ?_, ?_, ?_, ?_, ?_, ?_, ?_, ?_, ?_, ?_, ?_, ?_, ?_, ?_, ?_, ?_, ?_, ?_, ?_, ?_, ?_, ?_, ?_, ?_, ?_, ?_, ?_, ?_, ?_, ?_, ?_, ?_, ?_, ?_, ?_, ?_, ?_, ?_, ?_, ?_, ?_, ?_, ?_, ?_, ?_, ?_, ?_, ?_, ?_, ?_, ?_, ?_, ?_, ?_, ?_, ?_, ?_, ?_, ?_, ?_, ?_, ?_, ?_, ?_, ?_, ?_, ?_, ?_, ?_, ?_, ?_, ?_, ?_, ?_, ?_, ?_, ?_, ?_, ?_, ?_, ?_, ?_, ?_, ?_, ?_, ?_, ?_, ?_, ?_, ?_, ?_, ?_, ?_, ?_, ?_, ?_, ?_, ?_, ?_, ?_, ?_, ?_, ?_, ?_, ?_, ?_, ?_, ?_, ?_, ?_, ?_, ?_, ?_, ?_, ?_, ?_, ?_⟩
  · have h9 := r_shm R
    exact h9
  · have h9 := r_px0 R
    exact h9
  · have h9 := r_px1 R
    exact h9
  · have h9 := r_px2 R
    exact h9
  · have h9 := r_pf0 R
    exact h9
  · have h9 := r_pf1 R
    exact h9
  · have h9 := r_pf3 R
    exact h9
  · have h9 := r_ps0 R
    exact h9
  · have h9 := r_ps2 R
    exact h9
  · have h9 := r_ps4 R
    exact h9
  · have h9 := r_pk R
    exact h9
  · have h9 := r_pkl R
    exact h9
  · have h9 := r_pko R
    exact h9
  · have h9 := r_ghour R
    unfold Cghour
    simpa (disch := omega) only [sI_wI, gI_uI, tk_ne9, tk_inj, if_false, if_true, false_and, and_false, Nat.reduceEqDiff, reduceIte, reduceCtorEq, and_true, true_and] using h9
  · have h9 := r_gstand R
    unfold Cgstand
    simpa (disch := omega) only [sI_wI, gI_uI, tk_ne9, tk_inj, if_false, if_true, false_and, and_false, Nat.reduceEqDiff, reduceIte, reduceCtorEq, and_true, true_and] using h9
  · have h9 := r_gbought R
    unfold Cgbought
    simpa (disch := omega) only [sI_wI, gI_uI, tk_ne9, tk_inj, if_false, if_true, false_and, and_false, Nat.reduceEqDiff, reduceIte, reduceCtorEq, and_true, true_and] using h9
  · have h9 := r_gmach R
    unfold Cgmach
    simpa (disch := omega) only [sI_wI, gI_uI, tk_ne9, tk_inj, if_false, if_true, false_and, and_false, Nat.reduceEqDiff, reduceIte, reduceCtorEq, and_true, true_and] using h9
  · have h9 := r_gpers R
    unfold Cgpers
    simpa (disch := omega) only [sI_wI, gI_uI, tk_ne9, tk_inj, if_false, if_true, false_and, and_false, Nat.reduceEqDiff, reduceIte, reduceCtorEq, and_true, true_and] using h9
  · have h9 := r_gworked R
    unfold Cgworked
    simpa (disch := omega) only [sI_wI, gI_uI, tk_ne9, tk_inj, if_false, if_true, false_and, and_false, Nat.reduceEqDiff, reduceIte, reduceCtorEq, and_true, true_and] using h9
  · have h9 := r_grep R
    unfold Cgrep
    simpa (disch := omega) only [sI_wI, gI_uI, tk_ne9, tk_inj, if_false, if_true, false_and, and_false, Nat.reduceEqDiff, reduceIte, reduceCtorEq, and_true, true_and] using h9
  · have h9 := r_gbat R
    unfold Cgbat
    simpa (disch := omega) only [sI_wI, gI_uI, tk_ne9, tk_inj, if_false, if_true, false_and, and_false, Nat.reduceEqDiff, reduceIte, reduceCtorEq, and_true, true_and] using h9
  · have h9 := r_gord R
    unfold Cgord
    simpa (disch := omega) only [sI_wI, gI_uI, tk_ne9, tk_inj, if_false, if_true, false_and, and_false, Nat.reduceEqDiff, reduceIte, reduceCtorEq, and_true, true_and] using h9
  · have h9 := r_gq R
    unfold Cgq
    simpa (disch := omega) only [sI_wI, gI_uI, tk_ne9, tk_inj, if_false, if_true, false_and, and_false, Nat.reduceEqDiff, reduceIte, reduceCtorEq, and_true, true_and] using h9
  · have h9 := r_nB R
    unfold CnB
    simpa (disch := omega) only [gI_uI, nB_u, tk_ne9, tk_inj, if_false, if_true, false_and, and_false, Nat.reduceEqDiff, reduceIte, reduceCtorEq, and_true, true_and] using h9
  · have h9 := r_nBx R
    unfold CnBx
    simpa (disch := omega) only [nB_u, tk_ne9, tk_inj, if_false, if_true, false_and, and_false, Nat.reduceEqDiff, reduceIte, reduceCtorEq, and_true, true_and] using h9
  · have h9 := r_nM R
    unfold CnM
    simpa (disch := omega) only [gI_uI, nM_u, tk_ne9, tk_inj, if_false, if_true, false_and, and_false, Nat.reduceEqDiff, reduceIte, reduceCtorEq, and_true, true_and] using h9
  · have h9 := r_nMx R
    unfold CnMx
    simpa (disch := omega) only [nM_u, tk_ne9, tk_inj, if_false, if_true, false_and, and_false, Nat.reduceEqDiff, reduceIte, reduceCtorEq, and_true, true_and] using h9
  · have h9 := r_nP R
    unfold CnP
    simpa (disch := omega) only [gI_uI, nP_u, tk_ne9, tk_inj, if_false, if_true, false_and, and_false, Nat.reduceEqDiff, reduceIte, reduceCtorEq, and_true, true_and] using h9
  · have h9 := r_nPx R
    unfold CnPx
    simpa (disch := omega) only [nP_u, tk_ne9, tk_inj, if_false, if_true, false_and, and_false, Nat.reduceEqDiff, reduceIte, reduceCtorEq, and_true, true_and] using h9
  · have h9 := r_nO R
    unfold CnO
    simpa (disch := omega) only [gI_uI, nO_u, tk_ne9, tk_inj, if_false, if_true, false_and, and_false, Nat.reduceEqDiff, reduceIte, reduceCtorEq, and_true, true_and] using h9
  · have h9 := r_nOx R
    unfold CnOx
    simpa (disch := omega) only [nO_u, tk_ne9, tk_inj, if_false, if_true, false_and, and_false, Nat.reduceEqDiff, reduceIte, reduceCtorEq, and_true, true_and] using h9
  · have h9 := r_hr R
    unfold Chr
    simpa (disch := omega) only [gI_uI, hN_u, tk_ne9, tk_inj, if_false, if_true, false_and, and_false, Nat.reduceEqDiff, reduceIte, reduceCtorEq, and_true, true_and] using h9
  · have h9 := r_hrx R
    unfold Chrx
    simpa (disch := omega) only [hN_u, tk_ne9, tk_inj, if_false, if_true, false_and, and_false, Nat.reduceEqDiff, reduceIte, reduceCtorEq, and_true, true_and] using h9
  · have h9 := r_stb R
    unfold Cstb
    simpa (disch := omega) only [gI_uI, tk_ne9, tk_inj, if_false, if_true, false_and, and_false, Nat.reduceEqDiff, reduceIte, reduceCtorEq, and_true, true_and] using h9
  · have h9 := r_ex R
    exact h9
  · have h9 := r_k0 R
    unfold Ck0
    simpa (disch := omega) only [sI_wI, tk_ne9, tk_inj, if_false, if_true, false_and, and_false, Nat.reduceEqDiff, reduceIte, reduceCtorEq, and_true, true_and] using h9
  · have h9 := r_k1 R
    unfold Ck1
    simpa (disch := omega) only [sI_wI, gI_uI, tk_ne9, tk_inj, if_false, if_true, false_and, and_false, Nat.reduceEqDiff, reduceIte, reduceCtorEq, and_true, true_and] using h9
  · have h9 := r_k2 R
    unfold Ck2
    simpa (disch := omega) only [sI_wI, gI_uI, tk_ne9, tk_inj, if_false, if_true, false_and, and_false, Nat.reduceEqDiff, reduceIte, reduceCtorEq, and_true, true_and] using h9
  · have h9 := r_k3 R
    unfold Ck3
    simpa (disch := omega) only [sI_wI, gI_uI, tk_ne9, tk_inj, if_false, if_true, false_and, and_false, Nat.reduceEqDiff, reduceIte, reduceCtorEq, and_true, true_and] using h9
  · have h9 := r_k5 R
    unfold Ck5
    simpa (disch := omega) only [sI_wI, gI_uI, tk_ne9, tk_inj, if_false, if_true, false_and, and_false, Nat.reduceEqDiff, reduceIte, reduceCtorEq, and_true, true_and] using h9
  · have h9 := r_k7 R
    unfold Ck7
    simpa (disch := omega) only [sI_wI, gI_uI, tk_ne9, tk_inj, if_false, if_true, false_and, and_false, Nat.reduceEqDiff, reduceIte, reduceCtorEq, and_true, true_and] using h9
  · have h9 := r_k8 R
    unfold Ck8
    simpa (disch := omega) only [sI_wI, gI_uI, tk_ne9, tk_inj, if_false, if_true, false_and, and_false, Nat.reduceEqDiff, reduceIte, reduceCtorEq, and_true, true_and] using h9
  · have h9 := r_k9 R
    unfold Ck9
    simpa (disch := omega) only [sI_wI, gI_uI, tk_ne9, tk_inj, if_false, if_true, false_and, and_false, Nat.reduceEqDiff, reduceIte, reduceCtorEq, and_true, true_and] using h9
  · have h9 := r_k10 R
    unfold Ck10
    simpa (disch := omega) only [sI_wI, nB_u, mInSt_u, tk_ne9, tk_inj, if_false, if_true, false_and, and_false, Nat.reduceEqDiff, reduceIte, reduceCtorEq, and_true, true_and] using h9
  · have h9 := r_k11 R
    unfold Ck11
    simpa (disch := omega) only [sI_wI, nO_u, mProm_u, tk_ne9, tk_inj, if_false, if_true, false_and, and_false, Nat.reduceEqDiff, reduceIte, reduceCtorEq, and_true, true_and] using h9
  · have h9 := r_k12 R
    unfold Ck12
    simpa (disch := omega) only [sI_wI, tk_ne9, tk_inj, if_false, if_true, false_and, and_false, Nat.reduceEqDiff, reduceIte, reduceCtorEq, and_true, true_and] using h9
  · have h9 := r_ksa R
    unfold Cksa
    simpa (disch := omega) only [gI_uI, tk_ne9, tk_inj, if_false, if_true, false_and, and_false, Nat.reduceEqDiff, reduceIte, reduceCtorEq, and_true, true_and] using h9
  · have h9 := r_ksb R
    unfold Cksb
    simpa (disch := omega) only [gI_uI, nOp_u, tk_ne9, tk_inj, if_false, if_true, false_and, and_false, Nat.reduceEqDiff, reduceIte, reduceCtorEq, and_true, true_and] using h9
  · have h9 := r_ksc R
    unfold Cksc
    simpa (disch := omega) only [gI_uI, nLn_u, nOp_u, tk_ne9, tk_inj, if_false, if_true, false_and, and_false, Nat.reduceEqDiff, reduceIte, reduceCtorEq, and_true, true_and] using h9
  · have h9 := r_kw R
    unfold Ckw
    simpa (disch := omega) only [gI_uI, tk_ne9, tk_inj, if_false, if_true, false_and, and_false, Nat.reduceEqDiff, reduceIte, reduceCtorEq, and_true, true_and] using h9
  · have h9 := r_kl R
    unfold Ckl
    simpa (disch := omega) only [gI_uI, nLn_u, tk_ne9, tk_inj, if_false, if_true, false_and, and_false, Nat.reduceEqDiff, reduceIte, reduceCtorEq, and_true, true_and] using h9
  · have h9 := r_ko R
    unfold Cko
    simpa (disch := omega) only [gI_uI, nOp_u, tk_ne9, tk_inj, if_false, if_true, false_and, and_false, Nat.reduceEqDiff, reduceIte, reduceCtorEq, and_true, true_and] using h9
  · have h9 := r_kp R
    unfold Ckp
    simpa (disch := omega) only [gI_uI, tk_ne9, tk_inj, if_false, if_true, false_and, and_false, Nat.reduceEqDiff, reduceIte, reduceCtorEq, and_true, true_and] using h9
  · have h9 := r_l0 R
    unfold Cl0
    simpa (disch := omega) only [sP_wI, nLn_u, tk_ne9, tk_inj, if_false, if_true, false_and, and_false, Nat.reduceEqDiff, reduceIte, reduceCtorEq, and_true, true_and] using h9
  · have h9 := r_l1 R
    unfold Cl1
    simpa (disch := omega) only [sP_wI, nLn_u, lnP_u, tk_ne9, tk_inj, if_false, if_true, false_and, and_false, Nat.reduceEqDiff, reduceIte, reduceCtorEq, and_true, true_and] using h9
  · have h9 := r_l2 R
    unfold Cl2
    simpa (disch := omega) only [sI_wI, gI_uI, nLn_u, tk_ne9, tk_inj, if_false, if_true, false_and, and_false, Nat.reduceEqDiff, reduceIte, reduceCtorEq, and_true, true_and] using h9
  · have h9 := r_l3 R
    unfold Cl3
    simpa (disch := omega) only [sP_wI, gI_uI, nLn_u, tk_ne9, tk_inj, if_false, if_true, false_and, and_false, Nat.reduceEqDiff, reduceIte, reduceCtorEq, and_true, true_and] using h9
  · have h9 := r_lm R
    unfold Clm
    simpa (disch := omega) only [gI_uI, nLn_u, lnP_u, tk_ne9, tk_inj, if_false, if_true, false_and, and_false, Nat.reduceEqDiff, reduceIte, reduceCtorEq, and_true, true_and] using h9
  · have h9 := r_o0 R
    unfold Co0
    simpa (disch := omega) only [sP_wI, nOp_u, tk_ne9, tk_inj, if_false, if_true, false_and, and_false, Nat.reduceEqDiff, reduceIte, reduceCtorEq, and_true, true_and] using h9
  · have h9 := r_o1 R
    unfold Co1
    simpa (disch := omega) only [sI_wI, gI_uI, nOp_u, tk_ne9, tk_inj, if_false, if_true, false_and, and_false, Nat.reduceEqDiff, reduceIte, reduceCtorEq, and_true, true_and] using h9
  · have h9 := r_o2 R
    unfold Co2
    simpa (disch := omega) only [sI_wI, gI_uI, nOp_u, tk_ne9, tk_inj, if_false, if_true, false_and, and_false, Nat.reduceEqDiff, reduceIte, reduceCtorEq, and_true, true_and] using h9
  · have h9 := r_o3 R
    unfold Co3
    simpa (disch := omega) only [sI_wI, gI_uI, nOp_u, tk_ne9, tk_inj, if_false, if_true, false_and, and_false, Nat.reduceEqDiff, reduceIte, reduceCtorEq, and_true, true_and] using h9
  · have h9 := r_om R
    unfold Com
    simpa (disch := omega) only [gI_uI, nOp_u, tk_ne9, tk_inj, if_false, if_true, false_and, and_false, Nat.reduceEqDiff, reduceIte, reduceCtorEq, and_true, true_and] using h9
  · have h9 := r_b0 R
    unfold Cb0
    simpa (disch := omega) only [sP_wI, nB_u, tk_ne9, tk_inj, if_false, if_true, false_and, and_false, Nat.reduceEqDiff, reduceIte, reduceCtorEq, and_true, true_and] using h9
  · have h9 := r_bn R
    unfold Cbn
    simpa (disch := omega) only [sI_wI, nB_u, tk_ne9, tk_inj, if_false, if_true, false_and, and_false, Nat.reduceEqDiff, reduceIte, reduceCtorEq, and_true, true_and] using h9
  · have h9 := r_bk R
    unfold Cbk
    simpa (disch := omega) only [sP_wI, nB_u, kd_u, tk_ne9, tk_inj, if_false, if_true, false_and, and_false, Nat.reduceEqDiff, reduceIte, reduceCtorEq, and_true, true_and] using h9
  · have h9 := r_b2 R
    unfold Cb2
    simpa (disch := omega) only [sI_wI, gI_uI, nB_u, tk_ne9, tk_inj, if_false, if_true, false_and, and_false, Nat.reduceEqDiff, reduceIte, reduceCtorEq, and_true, true_and] using h9
  · have h9 := r_b3 R
    unfold Cb3
    simpa (disch := omega) only [sI_wI, gI_uI, nB_u, tk_ne9, tk_inj, if_false, if_true, false_and, and_false, Nat.reduceEqDiff, reduceIte, reduceCtorEq, and_true, true_and] using h9
  · have h9 := r_b4 R
    unfold Cb4
    simpa (disch := omega) only [sI_wI, gI_uI, nB_u, tk_ne9, tk_inj, if_false, if_true, false_and, and_false, Nat.reduceEqDiff, reduceIte, reduceCtorEq, and_true, true_and] using h9
  · unfold Cb5
    intro x0_ h0
    have h9 := r_b5 R x0_ h0
    by_cases e1 : x0_ = j
    · subst e1
      (try simp (disch := omega) [sI_wI, sI_wP, sI_wL, sI_wN, sP_wI, sP_wP, sP_wL, sP_wN, sL_wI, sL_wP, sL_wL, sL_wN, sX_wI, sX_wP, sX_wL, sX_wN, gI_uI, gI_uL, gL_uI, gL_uL, tk_ne9, tk_inj, nB_u, nM_u, nP_u, nO_u, hN_u, nLn_u, nOp_u, lnP_u, pc_u, kd_u, op_u, pr_u, mInSt_u, mProm_u, nInSt_u, nProm_u, totp_u, tot_u, nB_l, nM_l, nP_l, nO_l, hN_l, nLn_l, nOp_l, lnP_l, pc_l, kd_l, op_l, pr_l, mInSt_l, mProm_l, nInSt_l, nProm_l, totp_l, tot_l, if_false, if_true, false_and, and_false, Nat.reduceEqDiff, reduceIte, reduceCtorEq, and_true, true_and]) <;> first | exact h9 | assumption | grind
    · (try simp (disch := omega) [sI_wI, sI_wP, sI_wL, sI_wN, sP_wI, sP_wP, sP_wL, sP_wN, sL_wI, sL_wP, sL_wL, sL_wN, sX_wI, sX_wP, sX_wL, sX_wN, gI_uI, gI_uL, gL_uI, gL_uL, tk_ne9, tk_inj, nB_u, nM_u, nP_u, nO_u, hN_u, nLn_u, nOp_u, lnP_u, pc_u, kd_u, op_u, pr_u, mInSt_u, mProm_u, nInSt_u, nProm_u, totp_u, tot_u, nB_l, nM_l, nP_l, nO_l, hN_l, nLn_l, nOp_l, lnP_l, pc_l, kd_l, op_l, pr_l, mInSt_l, mProm_l, nInSt_l, nProm_l, totp_l, tot_l, if_false, if_true, false_and, and_false, Nat.reduceEqDiff, reduceIte, reduceCtorEq, and_true, true_and, e1]) <;> first | exact h9 | assumption | grind
  · have h9 := r_b6 R
    unfold Cb6
    simpa (disch := omega) only [sI_wI, gI_uI, nB_u, tk_ne9, tk_inj, if_false, if_true, false_and, and_false, Nat.reduceEqDiff, reduceIte, reduceCtorEq, and_true, true_and] using h9
  · have h9 := r_b7 R
    unfold Cb7
    simpa (disch := omega) only [sI_wI, gI_uI, nB_u, tk_ne9, tk_inj, if_false, if_true, false_and, and_false, Nat.reduceEqDiff, reduceIte, reduceCtorEq, and_true, true_and] using h9
  · have h9 := r_b8 R
    unfold Cb8
    simpa (disch := omega) only [sI_wI, gI_uI, nB_u, tk_ne9, tk_inj, if_false, if_true, false_and, and_false, Nat.reduceEqDiff, reduceIte, reduceCtorEq, and_true, true_and] using h9
  · have h9 := r_b9 R
    unfold Cb9
    simpa (disch := omega) only [sI_wI, gI_uI, nB_u, tk_ne9, tk_inj, if_false, if_true, false_and, and_false, Nat.reduceEqDiff, reduceIte, reduceCtorEq, and_true, true_and] using h9
  · have h9 := r_b10 R
    unfold Cb10
    simpa (disch := omega) only [sI_wI, gI_uI, nB_u, tk_ne9, tk_inj, if_false, if_true, false_and, and_false, Nat.reduceEqDiff, reduceIte, reduceCtorEq, and_true, true_and] using h9
  · have h9 := r_b11 R
    unfold Cb11
    simpa (disch := omega) only [sL_wI, gL_uI, nB_u, tk_ne9, tk_inj, if_false, if_true, false_and, and_false, Nat.reduceEqDiff, reduceIte, reduceCtorEq, and_true, true_and] using h9
  · have h9 := r_bK R
    unfold CbK
    simpa (disch := omega) only [gI_uI, nB_u, kd_u, tk_ne9, tk_inj, if_false, if_true, false_and, and_false, Nat.reduceEqDiff, reduceIte, reduceCtorEq, and_true, true_and] using h9
  · have h9 := r_bP R
    unfold CbP
    simpa (disch := omega) only [gI_uI, nB_u, pc_u, tk_ne9, tk_inj, if_false, if_true, false_and, and_false, Nat.reduceEqDiff, reduceIte, reduceCtorEq, and_true, true_and] using h9
  · unfold CbO
    intro x h1
    have h9 := r_bO R x h1
    by_cases e1 : x = j
    · subst e1; simp [gI_uI, op, nI_clamp (show q < 2 ^ 31 by omega)]; exact hq
    · simpa [gI_uI, e1, op] using h9
  · unfold CbW
    intro x h1
    have h9 := r_bW R x h1
    by_cases e1 : x = j
    · subst e1; simpa (disch := omega) [gI_uI, op, nOp_u, kd_u, nI_clamp (show q < 2 ^ 31 by omega)] using hw
    · simpa (disch := omega) [gI_uI, e1, op, nOp_u, kd_u] using h9
  · have h9 := r_bZ R
    unfold CbZ
    simpa (disch := omega) only [gI_uI, nB_u, pc_u, tk_ne9, tk_inj, if_false, if_true, false_and, and_false, Nat.reduceEqDiff, reduceIte, reduceCtorEq, and_true, true_and] using h9
  · have h9 := r_bF R
    unfold CbF
    simpa (disch := omega) only [gI_uI, nB_u, tk_ne9, tk_inj, if_false, if_true, false_and, and_false, Nat.reduceEqDiff, reduceIte, reduceCtorEq, and_true, true_and] using h9
  · have h9 := r_bS R
    unfold CbS
    simpa (disch := omega) only [gI_uI, nB_u, tk_ne9, tk_inj, if_false, if_true, false_and, and_false, Nat.reduceEqDiff, reduceIte, reduceCtorEq, and_true, true_and] using h9
  · have h9 := r_bC R
    unfold CbC
    simpa (disch := omega) only [gI_uI, nB_u, tk_ne9, tk_inj, if_false, if_true, false_and, and_false, Nat.reduceEqDiff, reduceIte, reduceCtorEq, and_true, true_and] using h9
  · have h9 := r_bT R
    unfold CbT
    simpa (disch := omega) only [gI_uI, nB_u, tk_ne9, tk_inj, if_false, if_true, false_and, and_false, Nat.reduceEqDiff, reduceIte, reduceCtorEq, and_true, true_and] using h9
  · have h9 := r_bU R
    unfold CbU
    simpa (disch := omega) only [gI_uI, nB_u, kd_u, tk_ne9, tk_inj, if_false, if_true, false_and, and_false, Nat.reduceEqDiff, reduceIte, reduceCtorEq, and_true, true_and] using h9
  · have h9 := r_bq R
    unfold Cbq
    simpa (disch := omega) only [nB_u, totp_u, tk_ne9, tk_inj, if_false, if_true, false_and, and_false, Nat.reduceEqDiff, reduceIte, reduceCtorEq, and_true, true_and] using h9
  · have h9 := r_ps R
    unfold Cps
    simpa (disch := omega) only [nB_u, nO_u, nInSt_u, nProm_u, tk_ne9, tk_inj, if_false, if_true, false_and, and_false, Nat.reduceEqDiff, reduceIte, reduceCtorEq, and_true, true_and] using h9
  · have h9 := r_bp R
    unfold Cbp
    simpa (disch := omega) only [gL_uI, nB_u, tk_ne9, tk_inj, if_false, if_true, false_and, and_false, Nat.reduceEqDiff, reduceIte, reduceCtorEq, and_true, true_and] using h9
  · have h9 := r_bc R
    unfold Cbc
    simpa (disch := omega) only [nB_u, hN_u, tot_u, tk_ne9, tk_inj, if_false, if_true, false_and, and_false, Nat.reduceEqDiff, reduceIte, reduceCtorEq, and_true, true_and] using h9
  · have h9 := r_fB R
    unfold CfB
    simpa (disch := omega) only [sX_wI, nB_u, tk_ne9, tk_inj, if_false, if_true, false_and, and_false, Nat.reduceEqDiff, reduceIte, reduceCtorEq, and_true, true_and] using h9
  · have h9 := r_fL R
    unfold CfL
    simpa (disch := omega) only [sX_wI, nLn_u, tk_ne9, tk_inj, if_false, if_true, false_and, and_false, Nat.reduceEqDiff, reduceIte, reduceCtorEq, and_true, true_and] using h9
  · have h9 := r_fO R
    unfold CfO
    simpa (disch := omega) only [sX_wI, nOp_u, tk_ne9, tk_inj, if_false, if_true, false_and, and_false, Nat.reduceEqDiff, reduceIte, reduceCtorEq, and_true, true_and] using h9
  · have h9 := r_fM R
    unfold CfM
    simpa (disch := omega) only [sX_wI, nM_u, tk_ne9, tk_inj, if_false, if_true, false_and, and_false, Nat.reduceEqDiff, reduceIte, reduceCtorEq, and_true, true_and] using h9
  · have h9 := r_fP R
    unfold CfP
    simpa (disch := omega) only [sX_wI, nP_u, tk_ne9, tk_inj, if_false, if_true, false_and, and_false, Nat.reduceEqDiff, reduceIte, reduceCtorEq, and_true, true_and] using h9
  · have h9 := r_fR R
    unfold CfR
    simpa (disch := omega) only [sX_wI, nO_u, tk_ne9, tk_inj, if_false, if_true, false_and, and_false, Nat.reduceEqDiff, reduceIte, reduceCtorEq, and_true, true_and] using h9
  · have h9 := r_fG R
    exact h9
  · have h9 := r_m0 R
    unfold Cm0
    simpa (disch := omega) only [sP_wI, nM_u, tk_ne9, tk_inj, if_false, if_true, false_and, and_false, Nat.reduceEqDiff, reduceIte, reduceCtorEq, and_true, true_and] using h9
  · have h9 := r_mn R
    unfold Cmn
    simpa (disch := omega) only [sI_wI, nM_u, tk_ne9, tk_inj, if_false, if_true, false_and, and_false, Nat.reduceEqDiff, reduceIte, reduceCtorEq, and_true, true_and] using h9
  · have h9 := r_m1 R
    unfold Cm1
    simpa (disch := omega) only [sI_wI, gI_uI, nM_u, tk_ne9, tk_inj, if_false, if_true, false_and, and_false, Nat.reduceEqDiff, reduceIte, reduceCtorEq, and_true, true_and] using h9
  · have h9 := r_m2 R
    unfold Cm2
    simpa (disch := omega) only [sI_wI, gI_uI, nM_u, tk_ne9, tk_inj, if_false, if_true, false_and, and_false, Nat.reduceEqDiff, reduceIte, reduceCtorEq, and_true, true_and] using h9
  · have h9 := r_m3 R
    unfold Cm3
    simpa (disch := omega) only [sI_wI, gI_uI, nM_u, tk_ne9, tk_inj, if_false, if_true, false_and, and_false, Nat.reduceEqDiff, reduceIte, reduceCtorEq, and_true, true_and] using h9
  · have h9 := r_m4 R
    unfold Cm4
    simpa (disch := omega) only [sI_wI, gI_uI, nM_u, tk_ne9, tk_inj, if_false, if_true, false_and, and_false, Nat.reduceEqDiff, reduceIte, reduceCtorEq, and_true, true_and] using h9
  · have h9 := r_m5 R
    unfold Cm5
    simpa (disch := omega) only [sI_wI, gI_uI, nM_u, tk_ne9, tk_inj, if_false, if_true, false_and, and_false, Nat.reduceEqDiff, reduceIte, reduceCtorEq, and_true, true_and] using h9
  · have h9 := r_m9 R
    unfold Cm9
    simpa (disch := omega) only [sI_wI, gI_uI, nM_u, tk_ne9, tk_inj, if_false, if_true, false_and, and_false, Nat.reduceEqDiff, reduceIte, reduceCtorEq, and_true, true_and] using h9
  · have h9 := r_m11 R
    unfold Cm11
    simpa (disch := omega) only [sI_wI, gI_uI, nM_u, tk_ne9, tk_inj, if_false, if_true, false_and, and_false, Nat.reduceEqDiff, reduceIte, reduceCtorEq, and_true, true_and] using h9
  · have h9 := r_m13 R
    unfold Cm13
    simpa (disch := omega) only [sI_wI, gI_uI, nM_u, tk_ne9, tk_inj, if_false, if_true, false_and, and_false, Nat.reduceEqDiff, reduceIte, reduceCtorEq, and_true, true_and] using h9
  · have h9 := r_m14 R
    unfold Cm14
    simpa (disch := omega) only [sI_wI, gI_uI, nM_u, tk_ne9, tk_inj, if_false, if_true, false_and, and_false, Nat.reduceEqDiff, reduceIte, reduceCtorEq, and_true, true_and] using h9
  · have h9 := r_m6 R
    unfold Cm6
    simpa (disch := omega) only [sP_wI, gI_uI, nM_u, tk_ne9, tk_inj, if_false, if_true, false_and, and_false, Nat.reduceEqDiff, reduceIte, reduceCtorEq, and_true, true_and] using h9
  · have h9 := r_m7 R
    unfold Cm7
    simpa (disch := omega) only [sP_wI, gI_uI, nM_u, tk_ne9, tk_inj, if_false, if_true, false_and, and_false, Nat.reduceEqDiff, reduceIte, reduceCtorEq, and_true, true_and] using h9
  · have h9 := r_m8 R
    unfold Cm8
    simpa (disch := omega) only [sP_wI, gI_uI, nM_u, tk_ne9, tk_inj, if_false, if_true, false_and, and_false, Nat.reduceEqDiff, reduceIte, reduceCtorEq, and_true, true_and] using h9
  · have h9 := r_m12 R
    unfold Cm12
    simpa (disch := omega) only [sP_wI, gI_uI, nM_u, tk_ne9, tk_inj, if_false, if_true, false_and, and_false, Nat.reduceEqDiff, reduceIte, reduceCtorEq, and_true, true_and] using h9
  · have h9 := r_m10 R
    unfold Cm10
    simpa (disch := omega) only [sI_wI, gI_uI, nB_u, nM_u, tk_ne9, tk_inj, if_false, if_true, false_and, and_false, Nat.reduceEqDiff, reduceIte, reduceCtorEq, and_true, true_and] using h9
  · have h9 := r_mma R
    unfold Cmma
    simpa (disch := omega) only [gI_uI, nM_u, tk_ne9, tk_inj, if_false, if_true, false_and, and_false, Nat.reduceEqDiff, reduceIte, reduceCtorEq, and_true, true_and] using h9
  · have h9 := r_mmb R
    unfold Cmmb
    simpa (disch := omega) only [gI_uI, nB_u, nM_u, nP_u, tk_ne9, tk_inj, if_false, if_true, false_and, and_false, Nat.reduceEqDiff, reduceIte, reduceCtorEq, and_true, true_and] using h9
  · have h9 := r_mmc R
    unfold Cmmc
    simpa (disch := omega) only [gI_uI, nM_u, tk_ne9, tk_inj, if_false, if_true, false_and, and_false, Nat.reduceEqDiff, reduceIte, reduceCtorEq, and_true, true_and] using h9
  · have h9 := r_mr29 R
    unfold Cmr29
    simpa (disch := omega) only [gI_uI, nM_u, tk_ne9, tk_inj, if_false, if_true, false_and, and_false, Nat.reduceEqDiff, reduceIte, reduceCtorEq, and_true, true_and] using h9
  · have h9 := r_mr30 R
    unfold Cmr30
    simpa (disch := omega) only [gI_uI, nM_u, tk_ne9, tk_inj, if_false, if_true, false_and, and_false, Nat.reduceEqDiff, reduceIte, reduceCtorEq, and_true, true_and] using h9
  · have h9 := r_mr31 R
    unfold Cmr31
    simpa (disch := omega) only [gI_uI, nM_u, tk_ne9, tk_inj, if_false, if_true, false_and, and_false, Nat.reduceEqDiff, reduceIte, reduceCtorEq, and_true, true_and] using h9
  · have h9 := r_mr32 R
    unfold Cmr32
    simpa (disch := omega) only [gI_uI, nM_u, tk_ne9, tk_inj, if_false, if_true, false_and, and_false, Nat.reduceEqDiff, reduceIte, reduceCtorEq, and_true, true_and] using h9
  · have h9 := r_mr35 R
    unfold Cmr35
    simpa (disch := omega) only [gI_uI, nM_u, tk_ne9, tk_inj, if_false, if_true, false_and, and_false, Nat.reduceEqDiff, reduceIte, reduceCtorEq, and_true, true_and] using h9
  · have h9 := r_mr39 R
    unfold Cmr39
    simpa (disch := omega) only [gI_uI, nM_u, tk_ne9, tk_inj, if_false, if_true, false_and, and_false, Nat.reduceEqDiff, reduceIte, reduceCtorEq, and_true, true_and] using h9
  · have h9 := r_mr40 R
    unfold Cmr40
    simpa (disch := omega) only [gI_uI, nM_u, tk_ne9, tk_inj, if_false, if_true, false_and, and_false, Nat.reduceEqDiff, reduceIte, reduceCtorEq, and_true, true_and] using h9
  · have h9 := r_md R
    unfold Cmd
    simpa (disch := omega) only [gI_uI, nM_u, tk_ne9, tk_inj, if_false, if_true, false_and, and_false, Nat.reduceEqDiff, reduceIte, reduceCtorEq, and_true, true_and] using h9
  · have h9 := r_mw R
    unfold Cmw
    simpa (disch := omega) only [gI_uI, nM_u, tk_ne9, tk_inj, if_false, if_true, false_and, and_false, Nat.reduceEqDiff, reduceIte, reduceCtorEq, and_true, true_and] using h9
  · have h9 := r_q0 R
    unfold Cq0
    simpa (disch := omega) only [sP_wI, nP_u, tk_ne9, tk_inj, if_false, if_true, false_and, and_false, Nat.reduceEqDiff, reduceIte, reduceCtorEq, and_true, true_and] using h9
  · have h9 := r_qn R
    unfold Cqn
    simpa (disch := omega) only [sI_wI, nP_u, tk_ne9, tk_inj, if_false, if_true, false_and, and_false, Nat.reduceEqDiff, reduceIte, reduceCtorEq, and_true, true_and] using h9
  · have h9 := r_q1 R
    unfold Cq1
    simpa (disch := omega) only [sI_wI, gI_uI, nP_u, tk_ne9, tk_inj, if_false, if_true, false_and, and_false, Nat.reduceEqDiff, reduceIte, reduceCtorEq, and_true, true_and] using h9
  · have h9 := r_q2 R
    unfold Cq2
    simpa (disch := omega) only [sI_wI, gI_uI, nP_u, tk_ne9, tk_inj, if_false, if_true, false_and, and_false, Nat.reduceEqDiff, reduceIte, reduceCtorEq, and_true, true_and] using h9
  · have h9 := r_q3 R
    unfold Cq3
    simpa (disch := omega) only [sI_wI, gI_uI, nP_u, tk_ne9, tk_inj, if_false, if_true, false_and, and_false, Nat.reduceEqDiff, reduceIte, reduceCtorEq, and_true, true_and] using h9
  · have h9 := r_q4 R
    unfold Cq4
    simpa (disch := omega) only [sP_wI, nP_u, tk_ne9, tk_inj, if_false, if_true, false_and, and_false, Nat.reduceEqDiff, reduceIte, reduceCtorEq, and_true, true_and] using h9
  · have h9 := r_q5 R
    unfold Cq5
    simpa (disch := omega) only [sP_wI, nP_u, tk_ne9, tk_inj, if_false, if_true, false_and, and_false, Nat.reduceEqDiff, reduceIte, reduceCtorEq, and_true, true_and] using h9
  · have h9 := r_q6 R
    unfold Cq6
    simpa (disch := omega) only [sI_wI, gI_uI, nM_u, nP_u, tk_ne9, tk_inj, if_false, if_true, false_and, and_false, Nat.reduceEqDiff, reduceIte, reduceCtorEq, and_true, true_and] using h9
  · have h9 := r_ql R
    unfold Cql
    simpa (disch := omega) only [sI_wI, gI_uI, nP_u, tk_ne9, tk_inj, if_false, if_true, false_and, and_false, Nat.reduceEqDiff, reduceIte, reduceCtorEq, and_true, true_and] using h9
  · have h9 := r_qw R
    unfold Cqw
    simpa (disch := omega) only [sI_wI, gI_uI, nP_u, tk_ne9, tk_inj, if_false, if_true, false_and, and_false, Nat.reduceEqDiff, reduceIte, reduceCtorEq, and_true, true_and] using h9
  · have h9 := r_qm R
    unfold Cqm
    simpa (disch := omega) only [gI_uI, nP_u, tk_ne9, tk_inj, if_false, if_true, false_and, and_false, Nat.reduceEqDiff, reduceIte, reduceCtorEq, and_true, true_and] using h9
  · have h9 := r_qr R
    unfold Cqr
    simpa (disch := omega) only [gI_uI, nP_u, tk_ne9, tk_inj, if_false, if_true, false_and, and_false, Nat.reduceEqDiff, reduceIte, reduceCtorEq, and_true, true_and] using h9
  · have h9 := r_r0 R
    unfold Cr0
    simpa (disch := omega) only [sP_wI, nO_u, tk_ne9, tk_inj, if_false, if_true, false_and, and_false, Nat.reduceEqDiff, reduceIte, reduceCtorEq, and_true, true_and] using h9
  · have h9 := r_r1 R
    unfold Cr1
    simpa (disch := omega) only [sP_wI, gI_uI, nO_u, tk_ne9, tk_inj, if_false, if_true, false_and, and_false, Nat.reduceEqDiff, reduceIte, reduceCtorEq, and_true, true_and] using h9
  · have h9 := r_r2 R
    unfold Cr2
    simpa (disch := omega) only [sI_wI, gI_uI, nO_u, tk_ne9, tk_inj, if_false, if_true, false_and, and_false, Nat.reduceEqDiff, reduceIte, reduceCtorEq, and_true, true_and] using h9
  · have h9 := r_r3 R
    unfold Cr3
    simpa (disch := omega) only [sI_wI, gI_uI, nO_u, tk_ne9, tk_inj, if_false, if_true, false_and, and_false, Nat.reduceEqDiff, reduceIte, reduceCtorEq, and_true, true_and] using h9
  · have h9 := r_r4 R
    unfold Cr4
    simpa (disch := omega) only [sI_wI, gI_uI, nO_u, tk_ne9, tk_inj, if_false, if_true, false_and, and_false, Nat.reduceEqDiff, reduceIte, reduceCtorEq, and_true, true_and] using h9
  · have h9 := r_r5 R
    unfold Cr5
    simpa (disch := omega) only [sP_wI, gI_uI, nO_u, tk_ne9, tk_inj, if_false, if_true, false_and, and_false, Nat.reduceEqDiff, reduceIte, reduceCtorEq, and_true, true_and] using h9
  · have h9 := r_r6 R
    unfold Cr6
    simpa (disch := omega) only [sI_wI, gI_uI, nO_u, tk_ne9, tk_inj, if_false, if_true, false_and, and_false, Nat.reduceEqDiff, reduceIte, reduceCtorEq, and_true, true_and] using h9
  · have h9 := r_rk R
    unfold Crk
    simpa (disch := omega) only [gI_uI, nO_u, tk_ne9, tk_inj, if_false, if_true, false_and, and_false, Nat.reduceEqDiff, reduceIte, reduceCtorEq, and_true, true_and] using h9
  · have h9 := r_rp R
    unfold Crp
    simpa (disch := omega) only [gI_uI, nO_u, tk_ne9, tk_inj, if_false, if_true, false_and, and_false, Nat.reduceEqDiff, reduceIte, reduceCtorEq, and_true, true_and] using h9
  · have h9 := r_rq R
    unfold Crq
    simpa (disch := omega) only [gI_uI, nO_u, pr_u, tk_ne9, tk_inj, if_false, if_true, false_and, and_false, Nat.reduceEqDiff, reduceIte, reduceCtorEq, and_true, true_and] using h9
  · have h9 := r_rr R
    unfold Crr
    simpa (disch := omega) only [gI_uI, nO_u, pr_u, tk_ne9, tk_inj, if_false, if_true, false_and, and_false, Nat.reduceEqDiff, reduceIte, reduceCtorEq, and_true, true_and] using h9
  · have h9 := r_rs R
    unfold Crs
    simpa (disch := omega) only [gI_uI, nB_u, nO_u, tk_ne9, tk_inj, if_false, if_true, false_and, and_false, Nat.reduceEqDiff, reduceIte, reduceCtorEq, and_true, true_and] using h9
set_option maxHeartbeats 8000000 in
theorem rel_par {e : Nat} {a : Sg} {M : MS} (R : Rel e a M) (j : Nat) (hj : j < nB M) (v : Int64) (hv : ∀ b, nB M ≤ b → b < 64 → v.toBitVec.getLsbD b = false) : Rel e (wL a (tk 0 j) 11 v) (uL M j v) := by
  unfold Rel
  refine ⟨?_, ?_, ?_, ?_, ?_, ?_, ?_, ?_, ?_, ?_, ?_, ?_, ?_, ?_, ?_, ?_, ?_, ?_, ?_, ?_, ?_, ?_, ?_, ?_, ?_, ?_, ?_, ?_, ?_, ?_, ?_, ?_, ?_, ?_, ?_, ?_, ?_, ?_, ?_, ?_, ?_, ?_, ?_, ?_, ?_, ?_, ?_, ?_, ?_, ?_, ?_, ?_, ?_, ?_, ?_, ?_, ?_, ?_, ?_, ?_, ?_, ?_, ?_, ?_, ?_, ?_, ?_, ?_, ?_, ?_, ?_, ?_, ?_, ?_, ?_, ?_, ?_, ?_, ?_, ?_, ?_, ?_, ?_, ?_, ?_, ?_, ?_, ?_, ?_, ?_, ?_, ?_, ?_, ?_, ?_, ?_, ?_, ?_, ?_, ?_, ?_, ?_, ?_, ?_, ?_, ?_, ?_, ?_, ?_, ?_, ?_, ?_, ?_, ?_, ?_, ?_, ?_, ?_, ?_, ?_, ?_, ?_, ?_, ?_, ?_, ?_, ?_, ?_, ?_, ?_, ?_, ?_, ?_, ?_, ?_, ?_, ?_, ?_, ?_, ?_, ?_, ?_, ?_, ?_, ?_, ?_, ?_, ?_, ?_⟩
  · have h9 := r_shm R
    exact h9
  · have h9 := r_px0 R
    exact h9
  · have h9 := r_px1 R
    exact h9
  · have h9 := r_px2 R
    exact h9
  · have h9 := r_pf0 R
    exact h9
  · have h9 := r_pf1 R
    exact h9
  · have h9 := r_pf3 R
    exact h9
  · have h9 := r_ps0 R
    exact h9
  · have h9 := r_ps2 R
    exact h9
  · have h9 := r_ps4 R
    exact h9
  · have h9 := r_pk R
    exact h9
  · have h9 := r_pkl R
    exact h9
  · have h9 := r_pko R
    exact h9
  · have h9 := r_ghour R
    exact h9
  · have h9 := r_gstand R
    exact h9
  · have h9 := r_gbought R
    exact h9
  · have h9 := r_gmach R
    exact h9
  · have h9 := r_gpers R
    exact h9
  · have h9 := r_gworked R
    exact h9
  · have h9 := r_grep R
    exact h9
  · have h9 := r_gbat R
    exact h9
  · have h9 := r_gord R
    exact h9
  · have h9 := r_gq R
    exact h9
  · have h9 := r_nB R
    exact h9
  · have h9 := r_nBx R
    exact h9
  · have h9 := r_nM R
    exact h9
  · have h9 := r_nMx R
    exact h9
  · have h9 := r_nP R
    exact h9
  · have h9 := r_nPx R
    exact h9
  · have h9 := r_nO R
    exact h9
  · have h9 := r_nOx R
    exact h9
  · have h9 := r_hr R
    exact h9
  · have h9 := r_hrx R
    exact h9
  · have h9 := r_stb R
    exact h9
  · have h9 := r_ex R
    exact h9
  · have h9 := r_k0 R
    exact h9
  · have h9 := r_k1 R
    exact h9
  · have h9 := r_k2 R
    exact h9
  · have h9 := r_k3 R
    exact h9
  · have h9 := r_k5 R
    exact h9
  · have h9 := r_k7 R
    exact h9
  · have h9 := r_k8 R
    exact h9
  · have h9 := r_k9 R
    exact h9
  · have h9 := r_k10 R
    exact h9
  · have h9 := r_k11 R
    exact h9
  · have h9 := r_k12 R
    exact h9
  · have h9 := r_ksa R
    exact h9
  · have h9 := r_ksb R
    exact h9
  · have h9 := r_ksc R
    exact h9
  · have h9 := r_kw R
    exact h9
  · have h9 := r_kl R
    exact h9
  · have h9 := r_ko R
    exact h9
  · have h9 := r_kp R
    exact h9
  · have h9 := r_l0 R
    exact h9
  · have h9 := r_l1 R
    exact h9
  · have h9 := r_l2 R
    exact h9
  · have h9 := r_l3 R
    exact h9
  · have h9 := r_lm R
    exact h9
  · have h9 := r_o0 R
    exact h9
  · have h9 := r_o1 R
    exact h9
  · have h9 := r_o2 R
    exact h9
  · have h9 := r_o3 R
    exact h9
  · have h9 := r_om R
    exact h9
  · have h9 := r_b0 R
    exact h9
  · have h9 := r_bn R
    exact h9
  · have h9 := r_bk R
    exact h9
  · have h9 := r_b2 R
    exact h9
  · have h9 := r_b3 R
    exact h9
  · have h9 := r_b4 R
    exact h9
  · have h9 := r_b5 R
    exact h9
  · have h9 := r_b6 R
    exact h9
  · have h9 := r_b7 R
    exact h9
  · have h9 := r_b8 R
    exact h9
  · have h9 := r_b9 R
    exact h9
  · have h9 := r_b10 R
    exact h9
  · unfold Cb11
    intro x0_ h0
    have h9 := r_b11 R x0_ h0
    by_cases e1 : x0_ = j
    · subst e1
      (try simp (disch := omega) [sI_wI, sI_wP, sI_wL, sI_wN, sP_wI, sP_wP, sP_wL, sP_wN, sL_wI, sL_wP, sL_wL, sL_wN, sX_wI, sX_wP, sX_wL, sX_wN, gI_uI, gI_uL, gL_uI, gL_uL, tk_ne9, tk_inj, nB_u, nM_u, nP_u, nO_u, hN_u, nLn_u, nOp_u, lnP_u, pc_u, kd_u, op_u, pr_u, mInSt_u, mProm_u, nInSt_u, nProm_u, totp_u, tot_u, nB_l, nM_l, nP_l, nO_l, hN_l, nLn_l, nOp_l, lnP_l, pc_l, kd_l, op_l, pr_l, mInSt_l, mProm_l, nInSt_l, nProm_l, totp_l, tot_l, if_false, if_true, false_and, and_false, Nat.reduceEqDiff, reduceIte, reduceCtorEq, and_true, true_and]) <;> first | exact h9 | assumption | grind
    · (try simp (disch := omega) [sI_wI, sI_wP, sI_wL, sI_wN, sP_wI, sP_wP, sP_wL, sP_wN, sL_wI, sL_wP, sL_wL, sL_wN, sX_wI, sX_wP, sX_wL, sX_wN, gI_uI, gI_uL, gL_uI, gL_uL, tk_ne9, tk_inj, nB_u, nM_u, nP_u, nO_u, hN_u, nLn_u, nOp_u, lnP_u, pc_u, kd_u, op_u, pr_u, mInSt_u, mProm_u, nInSt_u, nProm_u, totp_u, tot_u, nB_l, nM_l, nP_l, nO_l, hN_l, nLn_l, nOp_l, lnP_l, pc_l, kd_l, op_l, pr_l, mInSt_l, mProm_l, nInSt_l, nProm_l, totp_l, tot_l, if_false, if_true, false_and, and_false, Nat.reduceEqDiff, reduceIte, reduceCtorEq, and_true, true_and, e1]) <;> first | exact h9 | assumption | grind
  · have h9 := r_bK R
    exact h9
  · have h9 := r_bP R
    exact h9
  · have h9 := r_bO R
    exact h9
  · have h9 := r_bW R
    exact h9
  · have h9 := r_bZ R
    exact h9
  · have h9 := r_bF R
    exact h9
  · have h9 := r_bS R
    exact h9
  · have h9 := r_bC R
    exact h9
  · have h9 := r_bT R
    exact h9
  · have h9 := r_bU R
    exact h9
  · have h9 := r_bq R
    exact h9
  · have h9 := r_ps R
    exact h9
  · unfold Cbp
    intro x b h1 h2 h3
    have h9 := r_bp R x b h1 h2 h3
    by_cases e1 : x = j
    · subst e1; simpa [gL_uL] using hv b h2 h3
    · simpa [gL_uL, e1] using h9
  · have h9 := r_bc R
    unfold Cbc
    simpa (disch := omega) only [nB_l, hN_l, tot_l, tk_ne9, tk_inj, if_false, if_true, false_and, and_false, Nat.reduceEqDiff, reduceIte, reduceCtorEq, and_true, true_and] using h9
  · have h9 := r_fB R
    exact h9
  · have h9 := r_fL R
    exact h9
  · have h9 := r_fO R
    exact h9
  · have h9 := r_fM R
    exact h9
  · have h9 := r_fP R
    exact h9
  · have h9 := r_fR R
    exact h9
  · have h9 := r_fG R
    exact h9
  · have h9 := r_m0 R
    exact h9
  · have h9 := r_mn R
    exact h9
  · have h9 := r_m1 R
    exact h9
  · have h9 := r_m2 R
    exact h9
  · have h9 := r_m3 R
    exact h9
  · have h9 := r_m4 R
    exact h9
  · have h9 := r_m5 R
    exact h9
  · have h9 := r_m9 R
    exact h9
  · have h9 := r_m11 R
    exact h9
  · have h9 := r_m13 R
    exact h9
  · have h9 := r_m14 R
    exact h9
  · have h9 := r_m6 R
    exact h9
  · have h9 := r_m7 R
    exact h9
  · have h9 := r_m8 R
    exact h9
  · have h9 := r_m12 R
    exact h9
  · have h9 := r_m10 R
    exact h9
  · have h9 := r_mma R
    exact h9
  · have h9 := r_mmb R
    exact h9
  · have h9 := r_mmc R
    exact h9
  · have h9 := r_mr29 R
    exact h9
  · have h9 := r_mr30 R
    exact h9
  · have h9 := r_mr31 R
    exact h9
  · have h9 := r_mr32 R
    exact h9
  · have h9 := r_mr35 R
    exact h9
  · have h9 := r_mr39 R
    exact h9
  · have h9 := r_mr40 R
    exact h9
  · have h9 := r_md R
    exact h9
  · have h9 := r_mw R
    exact h9
  · have h9 := r_q0 R
    exact h9
  · have h9 := r_qn R
    exact h9
  · have h9 := r_q1 R
    exact h9
  · have h9 := r_q2 R
    exact h9
  · have h9 := r_q3 R
    exact h9
  · have h9 := r_q4 R
    exact h9
  · have h9 := r_q5 R
    exact h9
  · have h9 := r_q6 R
    exact h9
  · have h9 := r_ql R
    exact h9
  · have h9 := r_qw R
    exact h9
  · have h9 := r_qm R
    exact h9
  · have h9 := r_qr R
    exact h9
  · have h9 := r_r0 R
    exact h9
  · have h9 := r_r1 R
    exact h9
  · have h9 := r_r2 R
    exact h9
  · have h9 := r_r3 R
    exact h9
  · have h9 := r_r4 R
    exact h9
  · have h9 := r_r5 R
    exact h9
  · have h9 := r_r6 R
    exact h9
  · have h9 := r_rk R
    exact h9
  · have h9 := r_rp R
    exact h9
  · have h9 := r_rq R
    exact h9
  · have h9 := r_rr R
    exact h9
  · have h9 := r_rs R
    exact h9
set_option maxHeartbeats 8000000 in
theorem rel_st {e : Nat} {a : Sg} {M : MS} (R : Rel e a M) (j : Nat) (hj : j < nB M) (v : Int32) (hv3 : v ≠ 3) (ho3 : gI M 18 j ≠ 3) (hw : v = 1 ∨ v = 2 → op M j < nOp M (kd M j)) (hz : v = 4 ↔ pc M j = 0) (ht : ∃ s : Nat, v = nI s ∧ s ≤ 6) (hnl : ∀ m, m < nM M → gI M 34 m ≠ nI j) : Rel e (wI a (tk 0 j) 4 v) (uI M 18 j v) := by
  unfold Rel
  refine ⟨?_, ?_, ?_, ?_, ?_, ?_, ?_, ?_, ?_, ?_, ?_, ?_, ?_, ?_, ?_, ?_, ?_, ?_, ?_, ?_, ?_, ?_, ?_, ?_, ?_, ?_, ?_, ?_, ?_, ?_, ?_, ?_, ?_, ?_, ?_, ?_, ?_, ?_, ?_, ?_, ?_, ?_, ?_, ?_, ?_, ?_, ?_, ?_, ?_, ?_, ?_, ?_, ?_, ?_, ?_, ?_, ?_, ?_, ?_, ?_, ?_, ?_, ?_, ?_, ?_, ?_, ?_, ?_, ?_, ?_, ?_, ?_, ?_, ?_, ?_, ?_, ?_, ?_, ?_, ?_, ?_, ?_, ?_, ?_, ?_, ?_, ?_, ?_, ?_, ?_, ?_, ?_, ?_, ?_, ?_, ?_, ?_, ?_, ?_, ?_, ?_, ?_, ?_, ?_, ?_, ?_, ?_, ?_, ?_, ?_, ?_, ?_, ?_, ?_, ?_, ?_, ?_, ?_, ?_, ?_, ?_, ?_, ?_, ?_, ?_, ?_, ?_, ?_, ?_, ?_, ?_, ?_, ?_, ?_, ?_, ?_, ?_, ?_, ?_, ?_, ?_, ?_, ?_, ?_, ?_, ?_, ?_, ?_, ?_⟩
  · have h9 := r_shm R
    exact h9
  · have h9 := r_px0 R
    exact h9
  · have h9 := r_px1 R
    exact h9
  · have h9 := r_px2 R
    exact h9
  · have h9 := r_pf0 R
    exact h9
  · have h9 := r_pf1 R
    exact h9
  · have h9 := r_pf3 R
    exact h9
  · have h9 := r_ps0 R
    exact h9
  · have h9 := r_ps2 R
    exact h9
  · have h9 := r_ps4 R
    exact h9
  · have h9 := r_pk R
    exact h9
  · have h9 := r_pkl R
    exact h9
  · have h9 := r_pko R
    exact h9
  · have h9 := r_ghour R
    unfold Cghour
    simpa (disch := omega) only [sI_wI, gI_uI, tk_ne9, tk_inj, if_false, if_true, false_and, and_false, Nat.reduceEqDiff, reduceIte, reduceCtorEq, and_true, true_and] using h9
  · have h9 := r_gstand R
    unfold Cgstand
    simpa (disch := omega) only [sI_wI, gI_uI, tk_ne9, tk_inj, if_false, if_true, false_and, and_false, Nat.reduceEqDiff, reduceIte, reduceCtorEq, and_true, true_and] using h9
  · have h9 := r_gbought R
    unfold Cgbought
    simpa (disch := omega) only [sI_wI, gI_uI, tk_ne9, tk_inj, if_false, if_true, false_and, and_false, Nat.reduceEqDiff, reduceIte, reduceCtorEq, and_true, true_and] using h9
  · have h9 := r_gmach R
    unfold Cgmach
    simpa (disch := omega) only [sI_wI, gI_uI, tk_ne9, tk_inj, if_false, if_true, false_and, and_false, Nat.reduceEqDiff, reduceIte, reduceCtorEq, and_true, true_and] using h9
  · have h9 := r_gpers R
    unfold Cgpers
    simpa (disch := omega) only [sI_wI, gI_uI, tk_ne9, tk_inj, if_false, if_true, false_and, and_false, Nat.reduceEqDiff, reduceIte, reduceCtorEq, and_true, true_and] using h9
  · have h9 := r_gworked R
    unfold Cgworked
    simpa (disch := omega) only [sI_wI, gI_uI, tk_ne9, tk_inj, if_false, if_true, false_and, and_false, Nat.reduceEqDiff, reduceIte, reduceCtorEq, and_true, true_and] using h9
  · have h9 := r_grep R
    unfold Cgrep
    simpa (disch := omega) only [sI_wI, gI_uI, tk_ne9, tk_inj, if_false, if_true, false_and, and_false, Nat.reduceEqDiff, reduceIte, reduceCtorEq, and_true, true_and] using h9
  · have h9 := r_gbat R
    unfold Cgbat
    simpa (disch := omega) only [sI_wI, gI_uI, tk_ne9, tk_inj, if_false, if_true, false_and, and_false, Nat.reduceEqDiff, reduceIte, reduceCtorEq, and_true, true_and] using h9
  · have h9 := r_gord R
    unfold Cgord
    simpa (disch := omega) only [sI_wI, gI_uI, tk_ne9, tk_inj, if_false, if_true, false_and, and_false, Nat.reduceEqDiff, reduceIte, reduceCtorEq, and_true, true_and] using h9
  · have h9 := r_gq R
    unfold Cgq
    simpa (disch := omega) only [sI_wI, gI_uI, tk_ne9, tk_inj, if_false, if_true, false_and, and_false, Nat.reduceEqDiff, reduceIte, reduceCtorEq, and_true, true_and] using h9
  · have h9 := r_nB R
    unfold CnB
    simpa (disch := omega) only [gI_uI, nB_u, tk_ne9, tk_inj, if_false, if_true, false_and, and_false, Nat.reduceEqDiff, reduceIte, reduceCtorEq, and_true, true_and] using h9
  · have h9 := r_nBx R
    unfold CnBx
    simpa (disch := omega) only [nB_u, tk_ne9, tk_inj, if_false, if_true, false_and, and_false, Nat.reduceEqDiff, reduceIte, reduceCtorEq, and_true, true_and] using h9
  · have h9 := r_nM R
    unfold CnM
    simpa (disch := omega) only [gI_uI, nM_u, tk_ne9, tk_inj, if_false, if_true, false_and, and_false, Nat.reduceEqDiff, reduceIte, reduceCtorEq, and_true, true_and] using h9
  · have h9 := r_nMx R
    unfold CnMx
    simpa (disch := omega) only [nM_u, tk_ne9, tk_inj, if_false, if_true, false_and, and_false, Nat.reduceEqDiff, reduceIte, reduceCtorEq, and_true, true_and] using h9
  · have h9 := r_nP R
    unfold CnP
    simpa (disch := omega) only [gI_uI, nP_u, tk_ne9, tk_inj, if_false, if_true, false_and, and_false, Nat.reduceEqDiff, reduceIte, reduceCtorEq, and_true, true_and] using h9
  · have h9 := r_nPx R
    unfold CnPx
    simpa (disch := omega) only [nP_u, tk_ne9, tk_inj, if_false, if_true, false_and, and_false, Nat.reduceEqDiff, reduceIte, reduceCtorEq, and_true, true_and] using h9
  · have h9 := r_nO R
    unfold CnO
    simpa (disch := omega) only [gI_uI, nO_u, tk_ne9, tk_inj, if_false, if_true, false_and, and_false, Nat.reduceEqDiff, reduceIte, reduceCtorEq, and_true, true_and] using h9
  · have h9 := r_nOx R
    unfold CnOx
    simpa (disch := omega) only [nO_u, tk_ne9, tk_inj, if_false, if_true, false_and, and_false, Nat.reduceEqDiff, reduceIte, reduceCtorEq, and_true, true_and] using h9
  · have h9 := r_hr R
    unfold Chr
    simpa (disch := omega) only [gI_uI, hN_u, tk_ne9, tk_inj, if_false, if_true, false_and, and_false, Nat.reduceEqDiff, reduceIte, reduceCtorEq, and_true, true_and] using h9
  · have h9 := r_hrx R
    unfold Chrx
    simpa (disch := omega) only [hN_u, tk_ne9, tk_inj, if_false, if_true, false_and, and_false, Nat.reduceEqDiff, reduceIte, reduceCtorEq, and_true, true_and] using h9
  · have h9 := r_stb R
    unfold Cstb
    simpa (disch := omega) only [gI_uI, tk_ne9, tk_inj, if_false, if_true, false_and, and_false, Nat.reduceEqDiff, reduceIte, reduceCtorEq, and_true, true_and] using h9
  · have h9 := r_ex R
    exact h9
  · have h9 := r_k0 R
    unfold Ck0
    simpa (disch := omega) only [sI_wI, tk_ne9, tk_inj, if_false, if_true, false_and, and_false, Nat.reduceEqDiff, reduceIte, reduceCtorEq, and_true, true_and] using h9
  · have h9 := r_k1 R
    unfold Ck1
    simpa (disch := omega) only [sI_wI, gI_uI, tk_ne9, tk_inj, if_false, if_true, false_and, and_false, Nat.reduceEqDiff, reduceIte, reduceCtorEq, and_true, true_and] using h9
  · have h9 := r_k2 R
    unfold Ck2
    simpa (disch := omega) only [sI_wI, gI_uI, tk_ne9, tk_inj, if_false, if_true, false_and, and_false, Nat.reduceEqDiff, reduceIte, reduceCtorEq, and_true, true_and] using h9
  · have h9 := r_k3 R
    unfold Ck3
    simpa (disch := omega) only [sI_wI, gI_uI, tk_ne9, tk_inj, if_false, if_true, false_and, and_false, Nat.reduceEqDiff, reduceIte, reduceCtorEq, and_true, true_and] using h9
  · have h9 := r_k5 R
    unfold Ck5
    simpa (disch := omega) only [sI_wI, gI_uI, tk_ne9, tk_inj, if_false, if_true, false_and, and_false, Nat.reduceEqDiff, reduceIte, reduceCtorEq, and_true, true_and] using h9
  · have h9 := r_k7 R
    unfold Ck7
    simpa (disch := omega) only [sI_wI, gI_uI, tk_ne9, tk_inj, if_false, if_true, false_and, and_false, Nat.reduceEqDiff, reduceIte, reduceCtorEq, and_true, true_and] using h9
  · have h9 := r_k8 R
    unfold Ck8
    simpa (disch := omega) only [sI_wI, gI_uI, tk_ne9, tk_inj, if_false, if_true, false_and, and_false, Nat.reduceEqDiff, reduceIte, reduceCtorEq, and_true, true_and] using h9
  · have h9 := r_k9 R
    unfold Ck9
    simpa (disch := omega) only [sI_wI, gI_uI, tk_ne9, tk_inj, if_false, if_true, false_and, and_false, Nat.reduceEqDiff, reduceIte, reduceCtorEq, and_true, true_and] using h9
  · unfold Ck10
    intro i hi
    rw [nB_u _ _ _ _ (by decide), mInSt_no _ _ ho3 hv3]
    simpa [sI_wI, tk_ne9] using r_k10 R i hi
  · have h9 := r_k11 R
    unfold Ck11
    simpa (disch := omega) only [sI_wI, nO_u, mProm_u, tk_ne9, tk_inj, if_false, if_true, false_and, and_false, Nat.reduceEqDiff, reduceIte, reduceCtorEq, and_true, true_and] using h9
  · have h9 := r_k12 R
    unfold Ck12
    simpa (disch := omega) only [sI_wI, tk_ne9, tk_inj, if_false, if_true, false_and, and_false, Nat.reduceEqDiff, reduceIte, reduceCtorEq, and_true, true_and] using h9
  · have h9 := r_ksa R
    unfold Cksa
    simpa (disch := omega) only [gI_uI, tk_ne9, tk_inj, if_false, if_true, false_and, and_false, Nat.reduceEqDiff, reduceIte, reduceCtorEq, and_true, true_and] using h9
  · have h9 := r_ksb R
    unfold Cksb
    simpa (disch := omega) only [gI_uI, nOp_u, tk_ne9, tk_inj, if_false, if_true, false_and, and_false, Nat.reduceEqDiff, reduceIte, reduceCtorEq, and_true, true_and] using h9
  · have h9 := r_ksc R
    unfold Cksc
    simpa (disch := omega) only [gI_uI, nLn_u, nOp_u, tk_ne9, tk_inj, if_false, if_true, false_and, and_false, Nat.reduceEqDiff, reduceIte, reduceCtorEq, and_true, true_and] using h9
  · have h9 := r_kw R
    unfold Ckw
    simpa (disch := omega) only [gI_uI, tk_ne9, tk_inj, if_false, if_true, false_and, and_false, Nat.reduceEqDiff, reduceIte, reduceCtorEq, and_true, true_and] using h9
  · have h9 := r_kl R
    unfold Ckl
    simpa (disch := omega) only [gI_uI, nLn_u, tk_ne9, tk_inj, if_false, if_true, false_and, and_false, Nat.reduceEqDiff, reduceIte, reduceCtorEq, and_true, true_and] using h9
  · have h9 := r_ko R
    unfold Cko
    simpa (disch := omega) only [gI_uI, nOp_u, tk_ne9, tk_inj, if_false, if_true, false_and, and_false, Nat.reduceEqDiff, reduceIte, reduceCtorEq, and_true, true_and] using h9
  · have h9 := r_kp R
    unfold Ckp
    simpa (disch := omega) only [gI_uI, tk_ne9, tk_inj, if_false, if_true, false_and, and_false, Nat.reduceEqDiff, reduceIte, reduceCtorEq, and_true, true_and] using h9
  · have h9 := r_l0 R
    unfold Cl0
    simpa (disch := omega) only [sP_wI, nLn_u, tk_ne9, tk_inj, if_false, if_true, false_and, and_false, Nat.reduceEqDiff, reduceIte, reduceCtorEq, and_true, true_and] using h9
  · have h9 := r_l1 R
    unfold Cl1
    simpa (disch := omega) only [sP_wI, nLn_u, lnP_u, tk_ne9, tk_inj, if_false, if_true, false_and, and_false, Nat.reduceEqDiff, reduceIte, reduceCtorEq, and_true, true_and] using h9
  · have h9 := r_l2 R
    unfold Cl2
    simpa (disch := omega) only [sI_wI, gI_uI, nLn_u, tk_ne9, tk_inj, if_false, if_true, false_and, and_false, Nat.reduceEqDiff, reduceIte, reduceCtorEq, and_true, true_and] using h9
  · have h9 := r_l3 R
    unfold Cl3
    simpa (disch := omega) only [sP_wI, gI_uI, nLn_u, tk_ne9, tk_inj, if_false, if_true, false_and, and_false, Nat.reduceEqDiff, reduceIte, reduceCtorEq, and_true, true_and] using h9
  · have h9 := r_lm R
    unfold Clm
    simpa (disch := omega) only [gI_uI, nLn_u, lnP_u, tk_ne9, tk_inj, if_false, if_true, false_and, and_false, Nat.reduceEqDiff, reduceIte, reduceCtorEq, and_true, true_and] using h9
  · have h9 := r_o0 R
    unfold Co0
    simpa (disch := omega) only [sP_wI, nOp_u, tk_ne9, tk_inj, if_false, if_true, false_and, and_false, Nat.reduceEqDiff, reduceIte, reduceCtorEq, and_true, true_and] using h9
  · have h9 := r_o1 R
    unfold Co1
    simpa (disch := omega) only [sI_wI, gI_uI, nOp_u, tk_ne9, tk_inj, if_false, if_true, false_and, and_false, Nat.reduceEqDiff, reduceIte, reduceCtorEq, and_true, true_and] using h9
  · have h9 := r_o2 R
    unfold Co2
    simpa (disch := omega) only [sI_wI, gI_uI, nOp_u, tk_ne9, tk_inj, if_false, if_true, false_and, and_false, Nat.reduceEqDiff, reduceIte, reduceCtorEq, and_true, true_and] using h9
  · have h9 := r_o3 R
    unfold Co3
    simpa (disch := omega) only [sI_wI, gI_uI, nOp_u, tk_ne9, tk_inj, if_false, if_true, false_and, and_false, Nat.reduceEqDiff, reduceIte, reduceCtorEq, and_true, true_and] using h9
  · have h9 := r_om R
    unfold Com
    simpa (disch := omega) only [gI_uI, nOp_u, tk_ne9, tk_inj, if_false, if_true, false_and, and_false, Nat.reduceEqDiff, reduceIte, reduceCtorEq, and_true, true_and] using h9
  · have h9 := r_b0 R
    unfold Cb0
    simpa (disch := omega) only [sP_wI, nB_u, tk_ne9, tk_inj, if_false, if_true, false_and, and_false, Nat.reduceEqDiff, reduceIte, reduceCtorEq, and_true, true_and] using h9
  · have h9 := r_bn R
    unfold Cbn
    simpa (disch := omega) only [sI_wI, nB_u, tk_ne9, tk_inj, if_false, if_true, false_and, and_false, Nat.reduceEqDiff, reduceIte, reduceCtorEq, and_true, true_and] using h9
  · have h9 := r_bk R
    unfold Cbk
    simpa (disch := omega) only [sP_wI, nB_u, kd_u, tk_ne9, tk_inj, if_false, if_true, false_and, and_false, Nat.reduceEqDiff, reduceIte, reduceCtorEq, and_true, true_and] using h9
  · have h9 := r_b2 R
    unfold Cb2
    simpa (disch := omega) only [sI_wI, gI_uI, nB_u, tk_ne9, tk_inj, if_false, if_true, false_and, and_false, Nat.reduceEqDiff, reduceIte, reduceCtorEq, and_true, true_and] using h9
  · have h9 := r_b3 R
    unfold Cb3
    simpa (disch := omega) only [sI_wI, gI_uI, nB_u, tk_ne9, tk_inj, if_false, if_true, false_and, and_false, Nat.reduceEqDiff, reduceIte, reduceCtorEq, and_true, true_and] using h9
  · unfold Cb4
    intro x0_ h0
    have h9 := r_b4 R x0_ h0
    by_cases e1 : x0_ = j
    · subst e1
      (try simp (disch := omega) [sI_wI, sI_wP, sI_wL, sI_wN, sP_wI, sP_wP, sP_wL, sP_wN, sL_wI, sL_wP, sL_wL, sL_wN, sX_wI, sX_wP, sX_wL, sX_wN, gI_uI, gI_uL, gL_uI, gL_uL, tk_ne9, tk_inj, nB_u, nM_u, nP_u, nO_u, hN_u, nLn_u, nOp_u, lnP_u, pc_u, kd_u, op_u, pr_u, mInSt_u, mProm_u, nInSt_u, nProm_u, totp_u, tot_u, nB_l, nM_l, nP_l, nO_l, hN_l, nLn_l, nOp_l, lnP_l, pc_l, kd_l, op_l, pr_l, mInSt_l, mProm_l, nInSt_l, nProm_l, totp_l, tot_l, if_false, if_true, false_and, and_false, Nat.reduceEqDiff, reduceIte, reduceCtorEq, and_true, true_and]) <;> first | exact h9 | assumption | grind
    · (try simp (disch := omega) [sI_wI, sI_wP, sI_wL, sI_wN, sP_wI, sP_wP, sP_wL, sP_wN, sL_wI, sL_wP, sL_wL, sL_wN, sX_wI, sX_wP, sX_wL, sX_wN, gI_uI, gI_uL, gL_uI, gL_uL, tk_ne9, tk_inj, nB_u, nM_u, nP_u, nO_u, hN_u, nLn_u, nOp_u, lnP_u, pc_u, kd_u, op_u, pr_u, mInSt_u, mProm_u, nInSt_u, nProm_u, totp_u, tot_u, nB_l, nM_l, nP_l, nO_l, hN_l, nLn_l, nOp_l, lnP_l, pc_l, kd_l, op_l, pr_l, mInSt_l, mProm_l, nInSt_l, nProm_l, totp_l, tot_l, if_false, if_true, false_and, and_false, Nat.reduceEqDiff, reduceIte, reduceCtorEq, and_true, true_and, e1]) <;> first | exact h9 | assumption | grind
  · have h9 := r_b5 R
    unfold Cb5
    simpa (disch := omega) only [sI_wI, gI_uI, nB_u, tk_ne9, tk_inj, if_false, if_true, false_and, and_false, Nat.reduceEqDiff, reduceIte, reduceCtorEq, and_true, true_and] using h9
  · have h9 := r_b6 R
    unfold Cb6
    simpa (disch := omega) only [sI_wI, gI_uI, nB_u, tk_ne9, tk_inj, if_false, if_true, false_and, and_false, Nat.reduceEqDiff, reduceIte, reduceCtorEq, and_true, true_and] using h9
  · have h9 := r_b7 R
    unfold Cb7
    simpa (disch := omega) only [sI_wI, gI_uI, nB_u, tk_ne9, tk_inj, if_false, if_true, false_and, and_false, Nat.reduceEqDiff, reduceIte, reduceCtorEq, and_true, true_and] using h9
  · have h9 := r_b8 R
    unfold Cb8
    simpa (disch := omega) only [sI_wI, gI_uI, nB_u, tk_ne9, tk_inj, if_false, if_true, false_and, and_false, Nat.reduceEqDiff, reduceIte, reduceCtorEq, and_true, true_and] using h9
  · have h9 := r_b9 R
    unfold Cb9
    simpa (disch := omega) only [sI_wI, gI_uI, nB_u, tk_ne9, tk_inj, if_false, if_true, false_and, and_false, Nat.reduceEqDiff, reduceIte, reduceCtorEq, and_true, true_and] using h9
  · have h9 := r_b10 R
    unfold Cb10
    simpa (disch := omega) only [sI_wI, gI_uI, nB_u, tk_ne9, tk_inj, if_false, if_true, false_and, and_false, Nat.reduceEqDiff, reduceIte, reduceCtorEq, and_true, true_and] using h9
  · have h9 := r_b11 R
    unfold Cb11
    simpa (disch := omega) only [sL_wI, gL_uI, nB_u, tk_ne9, tk_inj, if_false, if_true, false_and, and_false, Nat.reduceEqDiff, reduceIte, reduceCtorEq, and_true, true_and] using h9
  · have h9 := r_bK R
    unfold CbK
    simpa (disch := omega) only [gI_uI, nB_u, kd_u, tk_ne9, tk_inj, if_false, if_true, false_and, and_false, Nat.reduceEqDiff, reduceIte, reduceCtorEq, and_true, true_and] using h9
  · have h9 := r_bP R
    unfold CbP
    simpa (disch := omega) only [gI_uI, nB_u, pc_u, tk_ne9, tk_inj, if_false, if_true, false_and, and_false, Nat.reduceEqDiff, reduceIte, reduceCtorEq, and_true, true_and] using h9
  · have h9 := r_bO R
    unfold CbO
    simpa (disch := omega) only [gI_uI, nB_u, op_u, tk_ne9, tk_inj, if_false, if_true, false_and, and_false, Nat.reduceEqDiff, reduceIte, reduceCtorEq, and_true, true_and] using h9
  · unfold CbW
    intro x h1
    have h9 := r_bW R x h1
    by_cases e1 : x = j
    · subst e1; simpa (disch := omega) [gI_uI, nOp_u, kd_u, op_u] using hw
    · simpa (disch := omega) [gI_uI, e1, op_u, nOp_u, kd_u] using h9
  · unfold CbZ
    intro x h1
    have h9 := r_bZ R x h1
    by_cases e1 : x = j
    · subst e1; simpa (disch := omega) [gI_uI, pc_u] using hz
    · simpa (disch := omega) [gI_uI, e1, pc_u] using h9
  · have h9 := r_bF R
    unfold CbF
    simpa (disch := omega) only [gI_uI, nB_u, tk_ne9, tk_inj, if_false, if_true, false_and, and_false, Nat.reduceEqDiff, reduceIte, reduceCtorEq, and_true, true_and] using h9
  · have h9 := r_bS R
    unfold CbS
    simpa (disch := omega) only [gI_uI, nB_u, tk_ne9, tk_inj, if_false, if_true, false_and, and_false, Nat.reduceEqDiff, reduceIte, reduceCtorEq, and_true, true_and] using h9
  · have h9 := r_bC R
    unfold CbC
    simpa (disch := omega) only [gI_uI, nB_u, tk_ne9, tk_inj, if_false, if_true, false_and, and_false, Nat.reduceEqDiff, reduceIte, reduceCtorEq, and_true, true_and] using h9
  · unfold CbT
    intro x h1
    have h9 := r_bT R x h1
    by_cases e1 : x = j
    · subst e1; simpa [gI_uI] using ht
    · simpa [gI_uI, e1] using h9
  · have h9 := r_bU R
    unfold CbU
    simpa (disch := omega) only [gI_uI, nB_u, kd_u, tk_ne9, tk_inj, if_false, if_true, false_and, and_false, Nat.reduceEqDiff, reduceIte, reduceCtorEq, and_true, true_and] using h9
  · have h9 := r_bq R
    unfold Cbq
    simpa (disch := omega) only [nB_u, totp_u, tk_ne9, tk_inj, if_false, if_true, false_and, and_false, Nat.reduceEqDiff, reduceIte, reduceCtorEq, and_true, true_and] using h9
  · unfold Cps
    intro he i hi
    rw [nB_u _ _ _ _ (by decide), nO_u _ _ _ _ (by decide), nInSt_no _ _ ho3 hv3, nProm_u _ _ _ _ _ _ (by decide) (by decide) (by decide)]
    exact r_ps R he i hi
  · have h9 := r_bp R
    unfold Cbp
    simpa (disch := omega) only [gL_uI, nB_u, tk_ne9, tk_inj, if_false, if_true, false_and, and_false, Nat.reduceEqDiff, reduceIte, reduceCtorEq, and_true, true_and] using h9
  · have h9 := r_bc R
    unfold Cbc
    simpa (disch := omega) only [nB_u, hN_u, tot_u, tk_ne9, tk_inj, if_false, if_true, false_and, and_false, Nat.reduceEqDiff, reduceIte, reduceCtorEq, and_true, true_and] using h9
  · have h9 := r_fB R
    unfold CfB
    simpa (disch := omega) only [sX_wI, nB_u, tk_ne9, tk_inj, if_false, if_true, false_and, and_false, Nat.reduceEqDiff, reduceIte, reduceCtorEq, and_true, true_and] using h9
  · have h9 := r_fL R
    unfold CfL
    simpa (disch := omega) only [sX_wI, nLn_u, tk_ne9, tk_inj, if_false, if_true, false_and, and_false, Nat.reduceEqDiff, reduceIte, reduceCtorEq, and_true, true_and] using h9
  · have h9 := r_fO R
    unfold CfO
    simpa (disch := omega) only [sX_wI, nOp_u, tk_ne9, tk_inj, if_false, if_true, false_and, and_false, Nat.reduceEqDiff, reduceIte, reduceCtorEq, and_true, true_and] using h9
  · have h9 := r_fM R
    unfold CfM
    simpa (disch := omega) only [sX_wI, nM_u, tk_ne9, tk_inj, if_false, if_true, false_and, and_false, Nat.reduceEqDiff, reduceIte, reduceCtorEq, and_true, true_and] using h9
  · have h9 := r_fP R
    unfold CfP
    simpa (disch := omega) only [sX_wI, nP_u, tk_ne9, tk_inj, if_false, if_true, false_and, and_false, Nat.reduceEqDiff, reduceIte, reduceCtorEq, and_true, true_and] using h9
  · have h9 := r_fR R
    unfold CfR
    simpa (disch := omega) only [sX_wI, nO_u, tk_ne9, tk_inj, if_false, if_true, false_and, and_false, Nat.reduceEqDiff, reduceIte, reduceCtorEq, and_true, true_and] using h9
  · have h9 := r_fG R
    exact h9
  · have h9 := r_m0 R
    unfold Cm0
    simpa (disch := omega) only [sP_wI, nM_u, tk_ne9, tk_inj, if_false, if_true, false_and, and_false, Nat.reduceEqDiff, reduceIte, reduceCtorEq, and_true, true_and] using h9
  · have h9 := r_mn R
    unfold Cmn
    simpa (disch := omega) only [sI_wI, nM_u, tk_ne9, tk_inj, if_false, if_true, false_and, and_false, Nat.reduceEqDiff, reduceIte, reduceCtorEq, and_true, true_and] using h9
  · have h9 := r_m1 R
    unfold Cm1
    simpa (disch := omega) only [sI_wI, gI_uI, nM_u, tk_ne9, tk_inj, if_false, if_true, false_and, and_false, Nat.reduceEqDiff, reduceIte, reduceCtorEq, and_true, true_and] using h9
  · have h9 := r_m2 R
    unfold Cm2
    simpa (disch := omega) only [sI_wI, gI_uI, nM_u, tk_ne9, tk_inj, if_false, if_true, false_and, and_false, Nat.reduceEqDiff, reduceIte, reduceCtorEq, and_true, true_and] using h9
  · have h9 := r_m3 R
    unfold Cm3
    simpa (disch := omega) only [sI_wI, gI_uI, nM_u, tk_ne9, tk_inj, if_false, if_true, false_and, and_false, Nat.reduceEqDiff, reduceIte, reduceCtorEq, and_true, true_and] using h9
  · have h9 := r_m4 R
    unfold Cm4
    simpa (disch := omega) only [sI_wI, gI_uI, nM_u, tk_ne9, tk_inj, if_false, if_true, false_and, and_false, Nat.reduceEqDiff, reduceIte, reduceCtorEq, and_true, true_and] using h9
  · have h9 := r_m5 R
    unfold Cm5
    simpa (disch := omega) only [sI_wI, gI_uI, nM_u, tk_ne9, tk_inj, if_false, if_true, false_and, and_false, Nat.reduceEqDiff, reduceIte, reduceCtorEq, and_true, true_and] using h9
  · have h9 := r_m9 R
    unfold Cm9
    simpa (disch := omega) only [sI_wI, gI_uI, nM_u, tk_ne9, tk_inj, if_false, if_true, false_and, and_false, Nat.reduceEqDiff, reduceIte, reduceCtorEq, and_true, true_and] using h9
  · have h9 := r_m11 R
    unfold Cm11
    simpa (disch := omega) only [sI_wI, gI_uI, nM_u, tk_ne9, tk_inj, if_false, if_true, false_and, and_false, Nat.reduceEqDiff, reduceIte, reduceCtorEq, and_true, true_and] using h9
  · have h9 := r_m13 R
    unfold Cm13
    simpa (disch := omega) only [sI_wI, gI_uI, nM_u, tk_ne9, tk_inj, if_false, if_true, false_and, and_false, Nat.reduceEqDiff, reduceIte, reduceCtorEq, and_true, true_and] using h9
  · have h9 := r_m14 R
    unfold Cm14
    simpa (disch := omega) only [sI_wI, gI_uI, nM_u, tk_ne9, tk_inj, if_false, if_true, false_and, and_false, Nat.reduceEqDiff, reduceIte, reduceCtorEq, and_true, true_and] using h9
  · have h9 := r_m6 R
    unfold Cm6
    simpa (disch := omega) only [sP_wI, gI_uI, nM_u, tk_ne9, tk_inj, if_false, if_true, false_and, and_false, Nat.reduceEqDiff, reduceIte, reduceCtorEq, and_true, true_and] using h9
  · have h9 := r_m7 R
    unfold Cm7
    simpa (disch := omega) only [sP_wI, gI_uI, nM_u, tk_ne9, tk_inj, if_false, if_true, false_and, and_false, Nat.reduceEqDiff, reduceIte, reduceCtorEq, and_true, true_and] using h9
  · have h9 := r_m8 R
    unfold Cm8
    simpa (disch := omega) only [sP_wI, gI_uI, nM_u, tk_ne9, tk_inj, if_false, if_true, false_and, and_false, Nat.reduceEqDiff, reduceIte, reduceCtorEq, and_true, true_and] using h9
  · have h9 := r_m12 R
    unfold Cm12
    simpa (disch := omega) only [sP_wI, gI_uI, nM_u, tk_ne9, tk_inj, if_false, if_true, false_and, and_false, Nat.reduceEqDiff, reduceIte, reduceCtorEq, and_true, true_and] using h9
  · have h9 := r_m10 R
    unfold Cm10
    simpa (disch := omega) only [sI_wI, gI_uI, nB_u, nM_u, tk_ne9, tk_inj, if_false, if_true, false_and, and_false, Nat.reduceEqDiff, reduceIte, reduceCtorEq, and_true, true_and] using h9
  · have h9 := r_mma R
    unfold Cmma
    simpa (disch := omega) only [gI_uI, nM_u, tk_ne9, tk_inj, if_false, if_true, false_and, and_false, Nat.reduceEqDiff, reduceIte, reduceCtorEq, and_true, true_and] using h9
  · unfold Cmmb
    intro x h1
    rcases r_mmb R x h1 with h9 | ⟨j1, p1, g1, g2, g3, g4, g5⟩
    · left; simpa [gI_uI] using h9
    · right
      have e1 : ¬ j1 = j := fun q => hnl x h1 (q ▸ g1)
      exact ⟨j1, p1, by simpa [gI_uI] using g1, by simpa (disch := omega) [nB_u] using g2, by simpa [gI_uI, e1] using g3, by simpa [gI_uI] using g4, by simpa (disch := omega) [nP_u] using g5⟩
  · have h9 := r_mmc R
    unfold Cmmc
    simpa (disch := omega) only [gI_uI, nM_u, tk_ne9, tk_inj, if_false, if_true, false_and, and_false, Nat.reduceEqDiff, reduceIte, reduceCtorEq, and_true, true_and] using h9
  · have h9 := r_mr29 R
    unfold Cmr29
    simpa (disch := omega) only [gI_uI, nM_u, tk_ne9, tk_inj, if_false, if_true, false_and, and_false, Nat.reduceEqDiff, reduceIte, reduceCtorEq, and_true, true_and] using h9
  · have h9 := r_mr30 R
    unfold Cmr30
    simpa (disch := omega) only [gI_uI, nM_u, tk_ne9, tk_inj, if_false, if_true, false_and, and_false, Nat.reduceEqDiff, reduceIte, reduceCtorEq, and_true, true_and] using h9
  · have h9 := r_mr31 R
    unfold Cmr31
    simpa (disch := omega) only [gI_uI, nM_u, tk_ne9, tk_inj, if_false, if_true, false_and, and_false, Nat.reduceEqDiff, reduceIte, reduceCtorEq, and_true, true_and] using h9
  · have h9 := r_mr32 R
    unfold Cmr32
    simpa (disch := omega) only [gI_uI, nM_u, tk_ne9, tk_inj, if_false, if_true, false_and, and_false, Nat.reduceEqDiff, reduceIte, reduceCtorEq, and_true, true_and] using h9
  · have h9 := r_mr35 R
    unfold Cmr35
    simpa (disch := omega) only [gI_uI, nM_u, tk_ne9, tk_inj, if_false, if_true, false_and, and_false, Nat.reduceEqDiff, reduceIte, reduceCtorEq, and_true, true_and] using h9
  · have h9 := r_mr39 R
    unfold Cmr39
    simpa (disch := omega) only [gI_uI, nM_u, tk_ne9, tk_inj, if_false, if_true, false_and, and_false, Nat.reduceEqDiff, reduceIte, reduceCtorEq, and_true, true_and] using h9
  · have h9 := r_mr40 R
    unfold Cmr40
    simpa (disch := omega) only [gI_uI, nM_u, tk_ne9, tk_inj, if_false, if_true, false_and, and_false, Nat.reduceEqDiff, reduceIte, reduceCtorEq, and_true, true_and] using h9
  · have h9 := r_md R
    unfold Cmd
    simpa (disch := omega) only [gI_uI, nM_u, tk_ne9, tk_inj, if_false, if_true, false_and, and_false, Nat.reduceEqDiff, reduceIte, reduceCtorEq, and_true, true_and] using h9
  · have h9 := r_mw R
    unfold Cmw
    simpa (disch := omega) only [gI_uI, nM_u, tk_ne9, tk_inj, if_false, if_true, false_and, and_false, Nat.reduceEqDiff, reduceIte, reduceCtorEq, and_true, true_and] using h9
  · have h9 := r_q0 R
    unfold Cq0
    simpa (disch := omega) only [sP_wI, nP_u, tk_ne9, tk_inj, if_false, if_true, false_and, and_false, Nat.reduceEqDiff, reduceIte, reduceCtorEq, and_true, true_and] using h9
  · have h9 := r_qn R
    unfold Cqn
    simpa (disch := omega) only [sI_wI, nP_u, tk_ne9, tk_inj, if_false, if_true, false_and, and_false, Nat.reduceEqDiff, reduceIte, reduceCtorEq, and_true, true_and] using h9
  · have h9 := r_q1 R
    unfold Cq1
    simpa (disch := omega) only [sI_wI, gI_uI, nP_u, tk_ne9, tk_inj, if_false, if_true, false_and, and_false, Nat.reduceEqDiff, reduceIte, reduceCtorEq, and_true, true_and] using h9
  · have h9 := r_q2 R
    unfold Cq2
    simpa (disch := omega) only [sI_wI, gI_uI, nP_u, tk_ne9, tk_inj, if_false, if_true, false_and, and_false, Nat.reduceEqDiff, reduceIte, reduceCtorEq, and_true, true_and] using h9
  · have h9 := r_q3 R
    unfold Cq3
    simpa (disch := omega) only [sI_wI, gI_uI, nP_u, tk_ne9, tk_inj, if_false, if_true, false_and, and_false, Nat.reduceEqDiff, reduceIte, reduceCtorEq, and_true, true_and] using h9
  · have h9 := r_q4 R
    unfold Cq4
    simpa (disch := omega) only [sP_wI, nP_u, tk_ne9, tk_inj, if_false, if_true, false_and, and_false, Nat.reduceEqDiff, reduceIte, reduceCtorEq, and_true, true_and] using h9
  · have h9 := r_q5 R
    unfold Cq5
    simpa (disch := omega) only [sP_wI, nP_u, tk_ne9, tk_inj, if_false, if_true, false_and, and_false, Nat.reduceEqDiff, reduceIte, reduceCtorEq, and_true, true_and] using h9
  · have h9 := r_q6 R
    unfold Cq6
    simpa (disch := omega) only [sI_wI, gI_uI, nM_u, nP_u, tk_ne9, tk_inj, if_false, if_true, false_and, and_false, Nat.reduceEqDiff, reduceIte, reduceCtorEq, and_true, true_and] using h9
  · have h9 := r_ql R
    unfold Cql
    simpa (disch := omega) only [sI_wI, gI_uI, nP_u, tk_ne9, tk_inj, if_false, if_true, false_and, and_false, Nat.reduceEqDiff, reduceIte, reduceCtorEq, and_true, true_and] using h9
  · have h9 := r_qw R
    unfold Cqw
    simpa (disch := omega) only [sI_wI, gI_uI, nP_u, tk_ne9, tk_inj, if_false, if_true, false_and, and_false, Nat.reduceEqDiff, reduceIte, reduceCtorEq, and_true, true_and] using h9
  · have h9 := r_qm R
    unfold Cqm
    simpa (disch := omega) only [gI_uI, nP_u, tk_ne9, tk_inj, if_false, if_true, false_and, and_false, Nat.reduceEqDiff, reduceIte, reduceCtorEq, and_true, true_and] using h9
  · have h9 := r_qr R
    unfold Cqr
    simpa (disch := omega) only [gI_uI, nP_u, tk_ne9, tk_inj, if_false, if_true, false_and, and_false, Nat.reduceEqDiff, reduceIte, reduceCtorEq, and_true, true_and] using h9
  · have h9 := r_r0 R
    unfold Cr0
    simpa (disch := omega) only [sP_wI, nO_u, tk_ne9, tk_inj, if_false, if_true, false_and, and_false, Nat.reduceEqDiff, reduceIte, reduceCtorEq, and_true, true_and] using h9
  · have h9 := r_r1 R
    unfold Cr1
    simpa (disch := omega) only [sP_wI, gI_uI, nO_u, tk_ne9, tk_inj, if_false, if_true, false_and, and_false, Nat.reduceEqDiff, reduceIte, reduceCtorEq, and_true, true_and] using h9
  · have h9 := r_r2 R
    unfold Cr2
    simpa (disch := omega) only [sI_wI, gI_uI, nO_u, tk_ne9, tk_inj, if_false, if_true, false_and, and_false, Nat.reduceEqDiff, reduceIte, reduceCtorEq, and_true, true_and] using h9
  · have h9 := r_r3 R
    unfold Cr3
    simpa (disch := omega) only [sI_wI, gI_uI, nO_u, tk_ne9, tk_inj, if_false, if_true, false_and, and_false, Nat.reduceEqDiff, reduceIte, reduceCtorEq, and_true, true_and] using h9
  · have h9 := r_r4 R
    unfold Cr4
    simpa (disch := omega) only [sI_wI, gI_uI, nO_u, tk_ne9, tk_inj, if_false, if_true, false_and, and_false, Nat.reduceEqDiff, reduceIte, reduceCtorEq, and_true, true_and] using h9
  · have h9 := r_r5 R
    unfold Cr5
    simpa (disch := omega) only [sP_wI, gI_uI, nO_u, tk_ne9, tk_inj, if_false, if_true, false_and, and_false, Nat.reduceEqDiff, reduceIte, reduceCtorEq, and_true, true_and] using h9
  · have h9 := r_r6 R
    unfold Cr6
    simpa (disch := omega) only [sI_wI, gI_uI, nO_u, tk_ne9, tk_inj, if_false, if_true, false_and, and_false, Nat.reduceEqDiff, reduceIte, reduceCtorEq, and_true, true_and] using h9
  · have h9 := r_rk R
    unfold Crk
    simpa (disch := omega) only [gI_uI, nO_u, tk_ne9, tk_inj, if_false, if_true, false_and, and_false, Nat.reduceEqDiff, reduceIte, reduceCtorEq, and_true, true_and] using h9
  · have h9 := r_rp R
    unfold Crp
    simpa (disch := omega) only [gI_uI, nO_u, tk_ne9, tk_inj, if_false, if_true, false_and, and_false, Nat.reduceEqDiff, reduceIte, reduceCtorEq, and_true, true_and] using h9
  · have h9 := r_rq R
    unfold Crq
    simpa (disch := omega) only [gI_uI, nO_u, pr_u, tk_ne9, tk_inj, if_false, if_true, false_and, and_false, Nat.reduceEqDiff, reduceIte, reduceCtorEq, and_true, true_and] using h9
  · have h9 := r_rr R
    unfold Crr
    simpa (disch := omega) only [gI_uI, nO_u, pr_u, tk_ne9, tk_inj, if_false, if_true, false_and, and_false, Nat.reduceEqDiff, reduceIte, reduceCtorEq, and_true, true_and] using h9
  · have h9 := r_rs R
    unfold Crs
    simpa (disch := omega) only [gI_uI, nB_u, nO_u, tk_ne9, tk_inj, if_false, if_true, false_and, and_false, Nat.reduceEqDiff, reduceIte, reduceCtorEq, and_true, true_and] using h9
set_option maxHeartbeats 8000000 in
theorem rel_sti {e : Nat} {a : Sg} {M : MS} (R : Rel e a M) (j : Nat) (hj : j < nB M) (ho3 : gI M 18 j ≠ 3) (hp : pc M j ≠ 0) (hnl : ∀ m, m < nM M → gI M 34 m ≠ nI j) : Rel e (wI (wI a (tk 0 j) 4 3) (tk 2 (kd M j)) 10 (sI a (tk 2 (kd M j)) 10 + sI a (tk 0 j) 2)) (uI M 18 j 3) := by
  have hw : (3 : Int32) = 1 ∨ (3 : Int32) = 2 → op M j < nOp M (kd M j) := fun q => absurd q (by decide)
  have hz : (3 : Int32) = 4 ↔ pc M j = 0 := ⟨fun q => absurd q (by decide), fun q => absurd q hp⟩
  have ht : ∃ s : Nat, (3 : Int32) = nI s ∧ s ≤ 6 := ⟨3, rfl, by omega⟩
  unfold Rel
  refine ⟨?_, ?_, ?_, ?_, ?_, ?_, ?_, ?_, ?_, ?_, ?_, ?_, ?_, ?_, ?_, ?_, ?_, ?_, ?_, ?_, ?_, ?_, ?_, ?_, ?_, ?_, ?_, ?_, ?_, ?_, ?_, ?_, ?_, ?_, ?_, ?_, ?_, ?_, ?_, ?_, ?_, ?_, ?_, ?_, ?_, ?_, ?_, ?_, ?_, ?_, ?_, ?_, ?_, ?_, ?_, ?_, ?_, ?_, ?_, ?_, ?_, ?_, ?_, ?_, ?_, ?_, ?_, ?_, ?_, ?_, ?_, ?_, ?_, ?_, ?_, ?_, ?_, ?_, ?_, ?_, ?_, ?_, ?_, ?_, ?_, ?_, ?_, ?_, ?_, ?_, ?_, ?_, ?_, ?_, ?_, ?_, ?_, ?_, ?_, ?_, ?_, ?_, ?_, ?_, ?_, ?_, ?_, ?_, ?_, ?_, ?_, ?_, ?_, ?_, ?_, ?_, ?_, ?_, ?_, ?_, ?_, ?_, ?_, ?_, ?_, ?_, ?_, ?_, ?_, ?_, ?_, ?_, ?_, ?_, ?_, ?_, ?_, ?_, ?_, ?_, ?_, ?_, ?_, ?_, ?_, ?_, ?_, ?_, ?_⟩
  · have h9 := r_shm R
    exact h9
  · have h9 := r_px0 R
    exact h9
  · have h9 := r_px1 R
    exact h9
  · have h9 := r_px2 R
    exact h9
  · have h9 := r_pf0 R
    exact h9
  · have h9 := r_pf1 R
    exact h9
  · have h9 := r_pf3 R
    exact h9
  · have h9 := r_ps0 R
    exact h9
  · have h9 := r_ps2 R
    exact h9
  · have h9 := r_ps4 R
    exact h9
  · have h9 := r_pk R
    exact h9
  · have h9 := r_pkl R
    exact h9
  · have h9 := r_pko R
    exact h9
  · have h9 := r_ghour R
    unfold Cghour
    simpa (disch := omega) only [sI_wI, gI_uI, tk_ne9, tk_inj, if_false, if_true, false_and, and_false, Nat.reduceEqDiff, reduceIte, reduceCtorEq, and_true, true_and] using h9
  · have h9 := r_gstand R
    unfold Cgstand
    simpa (disch := omega) only [sI_wI, gI_uI, tk_ne9, tk_inj, if_false, if_true, false_and, and_false, Nat.reduceEqDiff, reduceIte, reduceCtorEq, and_true, true_and] using h9
  · have h9 := r_gbought R
    unfold Cgbought
    simpa (disch := omega) only [sI_wI, gI_uI, tk_ne9, tk_inj, if_false, if_true, false_and, and_false, Nat.reduceEqDiff, reduceIte, reduceCtorEq, and_true, true_and] using h9
  · have h9 := r_gmach R
    unfold Cgmach
    simpa (disch := omega) only [sI_wI, gI_uI, tk_ne9, tk_inj, if_false, if_true, false_and, and_false, Nat.reduceEqDiff, reduceIte, reduceCtorEq, and_true, true_and] using h9
  · have h9 := r_gpers R
    unfold Cgpers
    simpa (disch := omega) only [sI_wI, gI_uI, tk_ne9, tk_inj, if_false, if_true, false_and, and_false, Nat.reduceEqDiff, reduceIte, reduceCtorEq, and_true, true_and] using h9
  · have h9 := r_gworked R
    unfold Cgworked
    simpa (disch := omega) only [sI_wI, gI_uI, tk_ne9, tk_inj, if_false, if_true, false_and, and_false, Nat.reduceEqDiff, reduceIte, reduceCtorEq, and_true, true_and] using h9
  · have h9 := r_grep R
    unfold Cgrep
    simpa (disch := omega) only [sI_wI, gI_uI, tk_ne9, tk_inj, if_false, if_true, false_and, and_false, Nat.reduceEqDiff, reduceIte, reduceCtorEq, and_true, true_and] using h9
  · have h9 := r_gbat R
    unfold Cgbat
    simpa (disch := omega) only [sI_wI, gI_uI, tk_ne9, tk_inj, if_false, if_true, false_and, and_false, Nat.reduceEqDiff, reduceIte, reduceCtorEq, and_true, true_and] using h9
  · have h9 := r_gord R
    unfold Cgord
    simpa (disch := omega) only [sI_wI, gI_uI, tk_ne9, tk_inj, if_false, if_true, false_and, and_false, Nat.reduceEqDiff, reduceIte, reduceCtorEq, and_true, true_and] using h9
  · have h9 := r_gq R
    unfold Cgq
    simpa (disch := omega) only [sI_wI, gI_uI, tk_ne9, tk_inj, if_false, if_true, false_and, and_false, Nat.reduceEqDiff, reduceIte, reduceCtorEq, and_true, true_and] using h9
  · have h9 := r_nB R
    unfold CnB
    simpa (disch := omega) only [gI_uI, nB_u, tk_ne9, tk_inj, if_false, if_true, false_and, and_false, Nat.reduceEqDiff, reduceIte, reduceCtorEq, and_true, true_and] using h9
  · have h9 := r_nBx R
    unfold CnBx
    simpa (disch := omega) only [nB_u, tk_ne9, tk_inj, if_false, if_true, false_and, and_false, Nat.reduceEqDiff, reduceIte, reduceCtorEq, and_true, true_and] using h9
  · have h9 := r_nM R
    unfold CnM
    simpa (disch := omega) only [gI_uI, nM_u, tk_ne9, tk_inj, if_false, if_true, false_and, and_false, Nat.reduceEqDiff, reduceIte, reduceCtorEq, and_true, true_and] using h9
  · have h9 := r_nMx R
    unfold CnMx
    simpa (disch := omega) only [nM_u, tk_ne9, tk_inj, if_false, if_true, false_and, and_false, Nat.reduceEqDiff, reduceIte, reduceCtorEq, and_true, true_and] using h9
  · have h9 := r_nP R
    unfold CnP
    simpa (disch := omega) only [gI_uI, nP_u, tk_ne9, tk_inj, if_false, if_true, false_and, and_false, Nat.reduceEqDiff, reduceIte, reduceCtorEq, and_true, true_and] using h9
  · have h9 := r_nPx R
    unfold CnPx
    simpa (disch := omega) only [nP_u, tk_ne9, tk_inj, if_false, if_true, false_and, and_false, Nat.reduceEqDiff, reduceIte, reduceCtorEq, and_true, true_and] using h9
  · have h9 := r_nO R
    unfold CnO
    simpa (disch := omega) only [gI_uI, nO_u, tk_ne9, tk_inj, if_false, if_true, false_and, and_false, Nat.reduceEqDiff, reduceIte, reduceCtorEq, and_true, true_and] using h9
  · have h9 := r_nOx R
    unfold CnOx
    simpa (disch := omega) only [nO_u, tk_ne9, tk_inj, if_false, if_true, false_and, and_false, Nat.reduceEqDiff, reduceIte, reduceCtorEq, and_true, true_and] using h9
  · have h9 := r_hr R
    unfold Chr
    simpa (disch := omega) only [gI_uI, hN_u, tk_ne9, tk_inj, if_false, if_true, false_and, and_false, Nat.reduceEqDiff, reduceIte, reduceCtorEq, and_true, true_and] using h9
  · have h9 := r_hrx R
    unfold Chrx
    simpa (disch := omega) only [hN_u, tk_ne9, tk_inj, if_false, if_true, false_and, and_false, Nat.reduceEqDiff, reduceIte, reduceCtorEq, and_true, true_and] using h9
  · have h9 := r_stb R
    unfold Cstb
    simpa (disch := omega) only [gI_uI, tk_ne9, tk_inj, if_false, if_true, false_and, and_false, Nat.reduceEqDiff, reduceIte, reduceCtorEq, and_true, true_and] using h9
  · have h9 := r_ex R
    exact h9
  · have h9 := r_k0 R
    unfold Ck0
    simpa (disch := omega) only [sI_wI, tk_ne9, tk_inj, if_false, if_true, false_and, and_false, Nat.reduceEqDiff, reduceIte, reduceCtorEq, and_true, true_and] using h9
  · have h9 := r_k1 R
    unfold Ck1
    simpa (disch := omega) only [sI_wI, gI_uI, tk_ne9, tk_inj, if_false, if_true, false_and, and_false, Nat.reduceEqDiff, reduceIte, reduceCtorEq, and_true, true_and] using h9
  · have h9 := r_k2 R
    unfold Ck2
    simpa (disch := omega) only [sI_wI, gI_uI, tk_ne9, tk_inj, if_false, if_true, false_and, and_false, Nat.reduceEqDiff, reduceIte, reduceCtorEq, and_true, true_and] using h9
  · have h9 := r_k3 R
    unfold Ck3
    simpa (disch := omega) only [sI_wI, gI_uI, tk_ne9, tk_inj, if_false, if_true, false_and, and_false, Nat.reduceEqDiff, reduceIte, reduceCtorEq, and_true, true_and] using h9
  · have h9 := r_k5 R
    unfold Ck5
    simpa (disch := omega) only [sI_wI, gI_uI, tk_ne9, tk_inj, if_false, if_true, false_and, and_false, Nat.reduceEqDiff, reduceIte, reduceCtorEq, and_true, true_and] using h9
  · have h9 := r_k7 R
    unfold Ck7
    simpa (disch := omega) only [sI_wI, gI_uI, tk_ne9, tk_inj, if_false, if_true, false_and, and_false, Nat.reduceEqDiff, reduceIte, reduceCtorEq, and_true, true_and] using h9
  · have h9 := r_k8 R
    unfold Ck8
    simpa (disch := omega) only [sI_wI, gI_uI, tk_ne9, tk_inj, if_false, if_true, false_and, and_false, Nat.reduceEqDiff, reduceIte, reduceCtorEq, and_true, true_and] using h9
  · have h9 := r_k9 R
    unfold Ck9
    simpa (disch := omega) only [sI_wI, gI_uI, tk_ne9, tk_inj, if_false, if_true, false_and, and_false, Nat.reduceEqDiff, reduceIte, reduceCtorEq, and_true, true_and] using h9
  · unfold Ck10
    intro i hi
    rw [nB_u _ _ _ _ (by decide), mInSt_in _ hj ho3]
    have h9 := r_k10 R i hi
    by_cases e1 : i = kd M j
    · subst e1
      rw [if_pos ((kd_iff R hj hi).mpr rfl), sI_wI, if_pos ⟨rfl, rfl⟩, h9, r_b2 R j hj]
    · rw [if_neg (fun q => e1 ((kd_iff R hj hi).mp q))]
      simp [sI_wI, tk_ne9, tk_inj, e1, h9]
  · have h9 := r_k11 R
    unfold Ck11
    simpa (disch := omega) only [sI_wI, nO_u, mProm_u, tk_ne9, tk_inj, if_false, if_true, false_and, and_false, Nat.reduceEqDiff, reduceIte, reduceCtorEq, and_true, true_and] using h9
  · have h9 := r_k12 R
    unfold Ck12
    simpa (disch := omega) only [sI_wI, tk_ne9, tk_inj, if_false, if_true, false_and, and_false, Nat.reduceEqDiff, reduceIte, reduceCtorEq, and_true, true_and] using h9
  · have h9 := r_ksa R
    unfold Cksa
    simpa (disch := omega) only [gI_uI, tk_ne9, tk_inj, if_false, if_true, false_and, and_false, Nat.reduceEqDiff, reduceIte, reduceCtorEq, and_true, true_and] using h9
  · have h9 := r_ksb R
    unfold Cksb
    simpa (disch := omega) only [gI_uI, nOp_u, tk_ne9, tk_inj, if_false, if_true, false_and, and_false, Nat.reduceEqDiff, reduceIte, reduceCtorEq, and_true, true_and] using h9
  · have h9 := r_ksc R
    unfold Cksc
    simpa (disch := omega) only [gI_uI, nLn_u, nOp_u, tk_ne9, tk_inj, if_false, if_true, false_and, and_false, Nat.reduceEqDiff, reduceIte, reduceCtorEq, and_true, true_and] using h9
  · have h9 := r_kw R
    unfold Ckw
    simpa (disch := omega) only [gI_uI, tk_ne9, tk_inj, if_false, if_true, false_and, and_false, Nat.reduceEqDiff, reduceIte, reduceCtorEq, and_true, true_and] using h9
  · have h9 := r_kl R
    unfold Ckl
    simpa (disch := omega) only [gI_uI, nLn_u, tk_ne9, tk_inj, if_false, if_true, false_and, and_false, Nat.reduceEqDiff, reduceIte, reduceCtorEq, and_true, true_and] using h9
  · have h9 := r_ko R
    unfold Cko
    simpa (disch := omega) only [gI_uI, nOp_u, tk_ne9, tk_inj, if_false, if_true, false_and, and_false, Nat.reduceEqDiff, reduceIte, reduceCtorEq, and_true, true_and] using h9
  · have h9 := r_kp R
    unfold Ckp
    simpa (disch := omega) only [gI_uI, tk_ne9, tk_inj, if_false, if_true, false_and, and_false, Nat.reduceEqDiff, reduceIte, reduceCtorEq, and_true, true_and] using h9
  · have h9 := r_l0 R
    unfold Cl0
    simpa (disch := omega) only [sP_wI, nLn_u, tk_ne9, tk_inj, if_false, if_true, false_and, and_false, Nat.reduceEqDiff, reduceIte, reduceCtorEq, and_true, true_and] using h9
  · have h9 := r_l1 R
    unfold Cl1
    simpa (disch := omega) only [sP_wI, nLn_u, lnP_u, tk_ne9, tk_inj, if_false, if_true, false_and, and_false, Nat.reduceEqDiff, reduceIte, reduceCtorEq, and_true, true_and] using h9
  · have h9 := r_l2 R
    unfold Cl2
    simpa (disch := omega) only [sI_wI, gI_uI, nLn_u, tk_ne9, tk_inj, if_false, if_true, false_and, and_false, Nat.reduceEqDiff, reduceIte, reduceCtorEq, and_true, true_and] using h9
  · have h9 := r_l3 R
    unfold Cl3
    simpa (disch := omega) only [sP_wI, gI_uI, nLn_u, tk_ne9, tk_inj, if_false, if_true, false_and, and_false, Nat.reduceEqDiff, reduceIte, reduceCtorEq, and_true, true_and] using h9
  · have h9 := r_lm R
    unfold Clm
    simpa (disch := omega) only [gI_uI, nLn_u, lnP_u, tk_ne9, tk_inj, if_false, if_true, false_and, and_false, Nat.reduceEqDiff, reduceIte, reduceCtorEq, and_true, true_and] using h9
  · have h9 := r_o0 R
    unfold Co0
    simpa (disch := omega) only [sP_wI, nOp_u, tk_ne9, tk_inj, if_false, if_true, false_and, and_false, Nat.reduceEqDiff, reduceIte, reduceCtorEq, and_true, true_and] using h9
  · have h9 := r_o1 R
    unfold Co1
    simpa (disch := omega) only [sI_wI, gI_uI, nOp_u, tk_ne9, tk_inj, if_false, if_true, false_and, and_false, Nat.reduceEqDiff, reduceIte, reduceCtorEq, and_true, true_and] using h9
  · have h9 := r_o2 R
    unfold Co2
    simpa (disch := omega) only [sI_wI, gI_uI, nOp_u, tk_ne9, tk_inj, if_false, if_true, false_and, and_false, Nat.reduceEqDiff, reduceIte, reduceCtorEq, and_true, true_and] using h9
  · have h9 := r_o3 R
    unfold Co3
    simpa (disch := omega) only [sI_wI, gI_uI, nOp_u, tk_ne9, tk_inj, if_false, if_true, false_and, and_false, Nat.reduceEqDiff, reduceIte, reduceCtorEq, and_true, true_and] using h9
  · have h9 := r_om R
    unfold Com
    simpa (disch := omega) only [gI_uI, nOp_u, tk_ne9, tk_inj, if_false, if_true, false_and, and_false, Nat.reduceEqDiff, reduceIte, reduceCtorEq, and_true, true_and] using h9
  · have h9 := r_b0 R
    unfold Cb0
    simpa (disch := omega) only [sP_wI, nB_u, tk_ne9, tk_inj, if_false, if_true, false_and, and_false, Nat.reduceEqDiff, reduceIte, reduceCtorEq, and_true, true_and] using h9
  · have h9 := r_bn R
    unfold Cbn
    simpa (disch := omega) only [sI_wI, nB_u, tk_ne9, tk_inj, if_false, if_true, false_and, and_false, Nat.reduceEqDiff, reduceIte, reduceCtorEq, and_true, true_and] using h9
  · have h9 := r_bk R
    unfold Cbk
    simpa (disch := omega) only [sP_wI, nB_u, kd_u, tk_ne9, tk_inj, if_false, if_true, false_and, and_false, Nat.reduceEqDiff, reduceIte, reduceCtorEq, and_true, true_and] using h9
  · have h9 := r_b2 R
    unfold Cb2
    simpa (disch := omega) only [sI_wI, gI_uI, nB_u, tk_ne9, tk_inj, if_false, if_true, false_and, and_false, Nat.reduceEqDiff, reduceIte, reduceCtorEq, and_true, true_and] using h9
  · have h9 := r_b3 R
    unfold Cb3
    simpa (disch := omega) only [sI_wI, gI_uI, nB_u, tk_ne9, tk_inj, if_false, if_true, false_and, and_false, Nat.reduceEqDiff, reduceIte, reduceCtorEq, and_true, true_and] using h9
  · unfold Cb4
    intro x0_ h0
    have h9 := r_b4 R x0_ h0
    by_cases e1 : x0_ = j
    · subst e1
      (try simp (disch := omega) [sI_wI, sI_wP, sI_wL, sI_wN, sP_wI, sP_wP, sP_wL, sP_wN, sL_wI, sL_wP, sL_wL, sL_wN, sX_wI, sX_wP, sX_wL, sX_wN, gI_uI, gI_uL, gL_uI, gL_uL, tk_ne9, tk_inj, nB_u, nM_u, nP_u, nO_u, hN_u, nLn_u, nOp_u, lnP_u, pc_u, kd_u, op_u, pr_u, mInSt_u, mProm_u, nInSt_u, nProm_u, totp_u, tot_u, nB_l, nM_l, nP_l, nO_l, hN_l, nLn_l, nOp_l, lnP_l, pc_l, kd_l, op_l, pr_l, mInSt_l, mProm_l, nInSt_l, nProm_l, totp_l, tot_l, if_false, if_true, false_and, and_false, Nat.reduceEqDiff, reduceIte, reduceCtorEq, and_true, true_and]) <;> first | exact h9 | assumption | grind
    · (try simp (disch := omega) [sI_wI, sI_wP, sI_wL, sI_wN, sP_wI, sP_wP, sP_wL, sP_wN, sL_wI, sL_wP, sL_wL, sL_wN, sX_wI, sX_wP, sX_wL, sX_wN, gI_uI, gI_uL, gL_uI, gL_uL, tk_ne9, tk_inj, nB_u, nM_u, nP_u, nO_u, hN_u, nLn_u, nOp_u, lnP_u, pc_u, kd_u, op_u, pr_u, mInSt_u, mProm_u, nInSt_u, nProm_u, totp_u, tot_u, nB_l, nM_l, nP_l, nO_l, hN_l, nLn_l, nOp_l, lnP_l, pc_l, kd_l, op_l, pr_l, mInSt_l, mProm_l, nInSt_l, nProm_l, totp_l, tot_l, if_false, if_true, false_and, and_false, Nat.reduceEqDiff, reduceIte, reduceCtorEq, and_true, true_and, e1]) <;> first | exact h9 | assumption | grind
  · have h9 := r_b5 R
    unfold Cb5
    simpa (disch := omega) only [sI_wI, gI_uI, nB_u, tk_ne9, tk_inj, if_false, if_true, false_and, and_false, Nat.reduceEqDiff, reduceIte, reduceCtorEq, and_true, true_and] using h9
  · have h9 := r_b6 R
    unfold Cb6
    simpa (disch := omega) only [sI_wI, gI_uI, nB_u, tk_ne9, tk_inj, if_false, if_true, false_and, and_false, Nat.reduceEqDiff, reduceIte, reduceCtorEq, and_true, true_and] using h9
  · have h9 := r_b7 R
    unfold Cb7
    simpa (disch := omega) only [sI_wI, gI_uI, nB_u, tk_ne9, tk_inj, if_false, if_true, false_and, and_false, Nat.reduceEqDiff, reduceIte, reduceCtorEq, and_true, true_and] using h9
  · have h9 := r_b8 R
    unfold Cb8
    simpa (disch := omega) only [sI_wI, gI_uI, nB_u, tk_ne9, tk_inj, if_false, if_true, false_and, and_false, Nat.reduceEqDiff, reduceIte, reduceCtorEq, and_true, true_and] using h9
  · have h9 := r_b9 R
    unfold Cb9
    simpa (disch := omega) only [sI_wI, gI_uI, nB_u, tk_ne9, tk_inj, if_false, if_true, false_and, and_false, Nat.reduceEqDiff, reduceIte, reduceCtorEq, and_true, true_and] using h9
  · have h9 := r_b10 R
    unfold Cb10
    simpa (disch := omega) only [sI_wI, gI_uI, nB_u, tk_ne9, tk_inj, if_false, if_true, false_and, and_false, Nat.reduceEqDiff, reduceIte, reduceCtorEq, and_true, true_and] using h9
  · have h9 := r_b11 R
    unfold Cb11
    simpa (disch := omega) only [sL_wI, gL_uI, nB_u, tk_ne9, tk_inj, if_false, if_true, false_and, and_false, Nat.reduceEqDiff, reduceIte, reduceCtorEq, and_true, true_and] using h9
  · have h9 := r_bK R
    unfold CbK
    simpa (disch := omega) only [gI_uI, nB_u, kd_u, tk_ne9, tk_inj, if_false, if_true, false_and, and_false, Nat.reduceEqDiff, reduceIte, reduceCtorEq, and_true, true_and] using h9
  · have h9 := r_bP R
    unfold CbP
    simpa (disch := omega) only [gI_uI, nB_u, pc_u, tk_ne9, tk_inj, if_false, if_true, false_and, and_false, Nat.reduceEqDiff, reduceIte, reduceCtorEq, and_true, true_and] using h9
  · have h9 := r_bO R
    unfold CbO
    simpa (disch := omega) only [gI_uI, nB_u, op_u, tk_ne9, tk_inj, if_false, if_true, false_and, and_false, Nat.reduceEqDiff, reduceIte, reduceCtorEq, and_true, true_and] using h9
  · unfold CbW
    intro x h1
    have h9 := r_bW R x h1
    by_cases e1 : x = j
    · subst e1; simpa (disch := omega) [gI_uI, nOp_u, kd_u, op_u] using hw
    · simpa (disch := omega) [gI_uI, e1, op_u, nOp_u, kd_u] using h9
  · unfold CbZ
    intro x h1
    have h9 := r_bZ R x h1
    by_cases e1 : x = j
    · subst e1; simpa (disch := omega) [gI_uI, pc_u] using hz
    · simpa (disch := omega) [gI_uI, e1, pc_u] using h9
  · have h9 := r_bF R
    unfold CbF
    simpa (disch := omega) only [gI_uI, nB_u, tk_ne9, tk_inj, if_false, if_true, false_and, and_false, Nat.reduceEqDiff, reduceIte, reduceCtorEq, and_true, true_and] using h9
  · have h9 := r_bS R
    unfold CbS
    simpa (disch := omega) only [gI_uI, nB_u, tk_ne9, tk_inj, if_false, if_true, false_and, and_false, Nat.reduceEqDiff, reduceIte, reduceCtorEq, and_true, true_and] using h9
  · have h9 := r_bC R
    unfold CbC
    simpa (disch := omega) only [gI_uI, nB_u, tk_ne9, tk_inj, if_false, if_true, false_and, and_false, Nat.reduceEqDiff, reduceIte, reduceCtorEq, and_true, true_and] using h9
  · unfold CbT
    intro x h1
    have h9 := r_bT R x h1
    by_cases e1 : x = j
    · subst e1; simpa [gI_uI] using ht
    · simpa [gI_uI, e1] using h9
  · have h9 := r_bU R
    unfold CbU
    simpa (disch := omega) only [gI_uI, nB_u, kd_u, tk_ne9, tk_inj, if_false, if_true, false_and, and_false, Nat.reduceEqDiff, reduceIte, reduceCtorEq, and_true, true_and] using h9
  · have h9 := r_bq R
    unfold Cbq
    simpa (disch := omega) only [nB_u, totp_u, tk_ne9, tk_inj, if_false, if_true, false_and, and_false, Nat.reduceEqDiff, reduceIte, reduceCtorEq, and_true, true_and] using h9
  · unfold Cps
    intro he i hi
    rw [nB_u _ _ _ _ (by decide), nO_u _ _ _ _ (by decide), nInSt_in _ hj ho3, nProm_u _ _ _ _ _ _ (by decide) (by decide) (by decide)]
    exact Nat.le_trans (r_ps R he i hi) (Nat.le_add_right _ _)
  · have h9 := r_bp R
    unfold Cbp
    simpa (disch := omega) only [gL_uI, nB_u, tk_ne9, tk_inj, if_false, if_true, false_and, and_false, Nat.reduceEqDiff, reduceIte, reduceCtorEq, and_true, true_and] using h9
  · have h9 := r_bc R
    unfold Cbc
    simpa (disch := omega) only [nB_u, hN_u, tot_u, tk_ne9, tk_inj, if_false, if_true, false_and, and_false, Nat.reduceEqDiff, reduceIte, reduceCtorEq, and_true, true_and] using h9
  · have h9 := r_fB R
    unfold CfB
    simpa (disch := omega) only [sX_wI, nB_u, tk_ne9, tk_inj, if_false, if_true, false_and, and_false, Nat.reduceEqDiff, reduceIte, reduceCtorEq, and_true, true_and] using h9
  · have h9 := r_fL R
    unfold CfL
    simpa (disch := omega) only [sX_wI, nLn_u, tk_ne9, tk_inj, if_false, if_true, false_and, and_false, Nat.reduceEqDiff, reduceIte, reduceCtorEq, and_true, true_and] using h9
  · have h9 := r_fO R
    unfold CfO
    simpa (disch := omega) only [sX_wI, nOp_u, tk_ne9, tk_inj, if_false, if_true, false_and, and_false, Nat.reduceEqDiff, reduceIte, reduceCtorEq, and_true, true_and] using h9
  · have h9 := r_fM R
    unfold CfM
    simpa (disch := omega) only [sX_wI, nM_u, tk_ne9, tk_inj, if_false, if_true, false_and, and_false, Nat.reduceEqDiff, reduceIte, reduceCtorEq, and_true, true_and] using h9
  · have h9 := r_fP R
    unfold CfP
    simpa (disch := omega) only [sX_wI, nP_u, tk_ne9, tk_inj, if_false, if_true, false_and, and_false, Nat.reduceEqDiff, reduceIte, reduceCtorEq, and_true, true_and] using h9
  · have h9 := r_fR R
    unfold CfR
    simpa (disch := omega) only [sX_wI, nO_u, tk_ne9, tk_inj, if_false, if_true, false_and, and_false, Nat.reduceEqDiff, reduceIte, reduceCtorEq, and_true, true_and] using h9
  · have h9 := r_fG R
    exact h9
  · have h9 := r_m0 R
    unfold Cm0
    simpa (disch := omega) only [sP_wI, nM_u, tk_ne9, tk_inj, if_false, if_true, false_and, and_false, Nat.reduceEqDiff, reduceIte, reduceCtorEq, and_true, true_and] using h9
  · have h9 := r_mn R
    unfold Cmn
    simpa (disch := omega) only [sI_wI, nM_u, tk_ne9, tk_inj, if_false, if_true, false_and, and_false, Nat.reduceEqDiff, reduceIte, reduceCtorEq, and_true, true_and] using h9
  · have h9 := r_m1 R
    unfold Cm1
    simpa (disch := omega) only [sI_wI, gI_uI, nM_u, tk_ne9, tk_inj, if_false, if_true, false_and, and_false, Nat.reduceEqDiff, reduceIte, reduceCtorEq, and_true, true_and] using h9
  · have h9 := r_m2 R
    unfold Cm2
    simpa (disch := omega) only [sI_wI, gI_uI, nM_u, tk_ne9, tk_inj, if_false, if_true, false_and, and_false, Nat.reduceEqDiff, reduceIte, reduceCtorEq, and_true, true_and] using h9
  · have h9 := r_m3 R
    unfold Cm3
    simpa (disch := omega) only [sI_wI, gI_uI, nM_u, tk_ne9, tk_inj, if_false, if_true, false_and, and_false, Nat.reduceEqDiff, reduceIte, reduceCtorEq, and_true, true_and] using h9
  · have h9 := r_m4 R
    unfold Cm4
    simpa (disch := omega) only [sI_wI, gI_uI, nM_u, tk_ne9, tk_inj, if_false, if_true, false_and, and_false, Nat.reduceEqDiff, reduceIte, reduceCtorEq, and_true, true_and] using h9
  · have h9 := r_m5 R
    unfold Cm5
    simpa (disch := omega) only [sI_wI, gI_uI, nM_u, tk_ne9, tk_inj, if_false, if_true, false_and, and_false, Nat.reduceEqDiff, reduceIte, reduceCtorEq, and_true, true_and] using h9
  · have h9 := r_m9 R
    unfold Cm9
    simpa (disch := omega) only [sI_wI, gI_uI, nM_u, tk_ne9, tk_inj, if_false, if_true, false_and, and_false, Nat.reduceEqDiff, reduceIte, reduceCtorEq, and_true, true_and] using h9
  · have h9 := r_m11 R
    unfold Cm11
    simpa (disch := omega) only [sI_wI, gI_uI, nM_u, tk_ne9, tk_inj, if_false, if_true, false_and, and_false, Nat.reduceEqDiff, reduceIte, reduceCtorEq, and_true, true_and] using h9
  · have h9 := r_m13 R
    unfold Cm13
    simpa (disch := omega) only [sI_wI, gI_uI, nM_u, tk_ne9, tk_inj, if_false, if_true, false_and, and_false, Nat.reduceEqDiff, reduceIte, reduceCtorEq, and_true, true_and] using h9
  · have h9 := r_m14 R
    unfold Cm14
    simpa (disch := omega) only [sI_wI, gI_uI, nM_u, tk_ne9, tk_inj, if_false, if_true, false_and, and_false, Nat.reduceEqDiff, reduceIte, reduceCtorEq, and_true, true_and] using h9
  · have h9 := r_m6 R
    unfold Cm6
    simpa (disch := omega) only [sP_wI, gI_uI, nM_u, tk_ne9, tk_inj, if_false, if_true, false_and, and_false, Nat.reduceEqDiff, reduceIte, reduceCtorEq, and_true, true_and] using h9
  · have h9 := r_m7 R
    unfold Cm7
    simpa (disch := omega) only [sP_wI, gI_uI, nM_u, tk_ne9, tk_inj, if_false, if_true, false_and, and_false, Nat.reduceEqDiff, reduceIte, reduceCtorEq, and_true, true_and] using h9
  · have h9 := r_m8 R
    unfold Cm8
    simpa (disch := omega) only [sP_wI, gI_uI, nM_u, tk_ne9, tk_inj, if_false, if_true, false_and, and_false, Nat.reduceEqDiff, reduceIte, reduceCtorEq, and_true, true_and] using h9
  · have h9 := r_m12 R
    unfold Cm12
    simpa (disch := omega) only [sP_wI, gI_uI, nM_u, tk_ne9, tk_inj, if_false, if_true, false_and, and_false, Nat.reduceEqDiff, reduceIte, reduceCtorEq, and_true, true_and] using h9
  · have h9 := r_m10 R
    unfold Cm10
    simpa (disch := omega) only [sI_wI, gI_uI, nB_u, nM_u, tk_ne9, tk_inj, if_false, if_true, false_and, and_false, Nat.reduceEqDiff, reduceIte, reduceCtorEq, and_true, true_and] using h9
  · have h9 := r_mma R
    unfold Cmma
    simpa (disch := omega) only [gI_uI, nM_u, tk_ne9, tk_inj, if_false, if_true, false_and, and_false, Nat.reduceEqDiff, reduceIte, reduceCtorEq, and_true, true_and] using h9
  · unfold Cmmb
    intro x h1
    rcases r_mmb R x h1 with h9 | ⟨j1, p1, g1, g2, g3, g4, g5⟩
    · left; simpa [gI_uI] using h9
    · right
      have e1 : ¬ j1 = j := fun q => hnl x h1 (q ▸ g1)
      exact ⟨j1, p1, by simpa [gI_uI] using g1, by simpa (disch := omega) [nB_u] using g2, by simpa [gI_uI, e1] using g3, by simpa [gI_uI] using g4, by simpa (disch := omega) [nP_u] using g5⟩
  · have h9 := r_mmc R
    unfold Cmmc
    simpa (disch := omega) only [gI_uI, nM_u, tk_ne9, tk_inj, if_false, if_true, false_and, and_false, Nat.reduceEqDiff, reduceIte, reduceCtorEq, and_true, true_and] using h9
  · have h9 := r_mr29 R
    unfold Cmr29
    simpa (disch := omega) only [gI_uI, nM_u, tk_ne9, tk_inj, if_false, if_true, false_and, and_false, Nat.reduceEqDiff, reduceIte, reduceCtorEq, and_true, true_and] using h9
  · have h9 := r_mr30 R
    unfold Cmr30
    simpa (disch := omega) only [gI_uI, nM_u, tk_ne9, tk_inj, if_false, if_true, false_and, and_false, Nat.reduceEqDiff, reduceIte, reduceCtorEq, and_true, true_and] using h9
  · have h9 := r_mr31 R
    unfold Cmr31
    simpa (disch := omega) only [gI_uI, nM_u, tk_ne9, tk_inj, if_false, if_true, false_and, and_false, Nat.reduceEqDiff, reduceIte, reduceCtorEq, and_true, true_and] using h9
  · have h9 := r_mr32 R
    unfold Cmr32
    simpa (disch := omega) only [gI_uI, nM_u, tk_ne9, tk_inj, if_false, if_true, false_and, and_false, Nat.reduceEqDiff, reduceIte, reduceCtorEq, and_true, true_and] using h9
  · have h9 := r_mr35 R
    unfold Cmr35
    simpa (disch := omega) only [gI_uI, nM_u, tk_ne9, tk_inj, if_false, if_true, false_and, and_false, Nat.reduceEqDiff, reduceIte, reduceCtorEq, and_true, true_and] using h9
  · have h9 := r_mr39 R
    unfold Cmr39
    simpa (disch := omega) only [gI_uI, nM_u, tk_ne9, tk_inj, if_false, if_true, false_and, and_false, Nat.reduceEqDiff, reduceIte, reduceCtorEq, and_true, true_and] using h9
  · have h9 := r_mr40 R
    unfold Cmr40
    simpa (disch := omega) only [gI_uI, nM_u, tk_ne9, tk_inj, if_false, if_true, false_and, and_false, Nat.reduceEqDiff, reduceIte, reduceCtorEq, and_true, true_and] using h9
  · have h9 := r_md R
    unfold Cmd
    simpa (disch := omega) only [gI_uI, nM_u, tk_ne9, tk_inj, if_false, if_true, false_and, and_false, Nat.reduceEqDiff, reduceIte, reduceCtorEq, and_true, true_and] using h9
  · have h9 := r_mw R
    unfold Cmw
    simpa (disch := omega) only [gI_uI, nM_u, tk_ne9, tk_inj, if_false, if_true, false_and, and_false, Nat.reduceEqDiff, reduceIte, reduceCtorEq, and_true, true_and] using h9
  · have h9 := r_q0 R
    unfold Cq0
    simpa (disch := omega) only [sP_wI, nP_u, tk_ne9, tk_inj, if_false, if_true, false_and, and_false, Nat.reduceEqDiff, reduceIte, reduceCtorEq, and_true, true_and] using h9
  · have h9 := r_qn R
    unfold Cqn
    simpa (disch := omega) only [sI_wI, nP_u, tk_ne9, tk_inj, if_false, if_true, false_and, and_false, Nat.reduceEqDiff, reduceIte, reduceCtorEq, and_true, true_and] using h9
  · have h9 := r_q1 R
    unfold Cq1
    simpa (disch := omega) only [sI_wI, gI_uI, nP_u, tk_ne9, tk_inj, if_false, if_true, false_and, and_false, Nat.reduceEqDiff, reduceIte, reduceCtorEq, and_true, true_and] using h9
  · have h9 := r_q2 R
    unfold Cq2
    simpa (disch := omega) only [sI_wI, gI_uI, nP_u, tk_ne9, tk_inj, if_false, if_true, false_and, and_false, Nat.reduceEqDiff, reduceIte, reduceCtorEq, and_true, true_and] using h9
  · have h9 := r_q3 R
    unfold Cq3
    simpa (disch := omega) only [sI_wI, gI_uI, nP_u, tk_ne9, tk_inj, if_false, if_true, false_and, and_false, Nat.reduceEqDiff, reduceIte, reduceCtorEq, and_true, true_and] using h9
  · have h9 := r_q4 R
    unfold Cq4
    simpa (disch := omega) only [sP_wI, nP_u, tk_ne9, tk_inj, if_false, if_true, false_and, and_false, Nat.reduceEqDiff, reduceIte, reduceCtorEq, and_true, true_and] using h9
  · have h9 := r_q5 R
    unfold Cq5
    simpa (disch := omega) only [sP_wI, nP_u, tk_ne9, tk_inj, if_false, if_true, false_and, and_false, Nat.reduceEqDiff, reduceIte, reduceCtorEq, and_true, true_and] using h9
  · have h9 := r_q6 R
    unfold Cq6
    simpa (disch := omega) only [sI_wI, gI_uI, nM_u, nP_u, tk_ne9, tk_inj, if_false, if_true, false_and, and_false, Nat.reduceEqDiff, reduceIte, reduceCtorEq, and_true, true_and] using h9
  · have h9 := r_ql R
    unfold Cql
    simpa (disch := omega) only [sI_wI, gI_uI, nP_u, tk_ne9, tk_inj, if_false, if_true, false_and, and_false, Nat.reduceEqDiff, reduceIte, reduceCtorEq, and_true, true_and] using h9
  · have h9 := r_qw R
    unfold Cqw
    simpa (disch := omega) only [sI_wI, gI_uI, nP_u, tk_ne9, tk_inj, if_false, if_true, false_and, and_false, Nat.reduceEqDiff, reduceIte, reduceCtorEq, and_true, true_and] using h9
  · have h9 := r_qm R
    unfold Cqm
    simpa (disch := omega) only [gI_uI, nP_u, tk_ne9, tk_inj, if_false, if_true, false_and, and_false, Nat.reduceEqDiff, reduceIte, reduceCtorEq, and_true, true_and] using h9
  · have h9 := r_qr R
    unfold Cqr
    simpa (disch := omega) only [gI_uI, nP_u, tk_ne9, tk_inj, if_false, if_true, false_and, and_false, Nat.reduceEqDiff, reduceIte, reduceCtorEq, and_true, true_and] using h9
  · have h9 := r_r0 R
    unfold Cr0
    simpa (disch := omega) only [sP_wI, nO_u, tk_ne9, tk_inj, if_false, if_true, false_and, and_false, Nat.reduceEqDiff, reduceIte, reduceCtorEq, and_true, true_and] using h9
  · have h9 := r_r1 R
    unfold Cr1
    simpa (disch := omega) only [sP_wI, gI_uI, nO_u, tk_ne9, tk_inj, if_false, if_true, false_and, and_false, Nat.reduceEqDiff, reduceIte, reduceCtorEq, and_true, true_and] using h9
  · have h9 := r_r2 R
    unfold Cr2
    simpa (disch := omega) only [sI_wI, gI_uI, nO_u, tk_ne9, tk_inj, if_false, if_true, false_and, and_false, Nat.reduceEqDiff, reduceIte, reduceCtorEq, and_true, true_and] using h9
  · have h9 := r_r3 R
    unfold Cr3
    simpa (disch := omega) only [sI_wI, gI_uI, nO_u, tk_ne9, tk_inj, if_false, if_true, false_and, and_false, Nat.reduceEqDiff, reduceIte, reduceCtorEq, and_true, true_and] using h9
  · have h9 := r_r4 R
    unfold Cr4
    simpa (disch := omega) only [sI_wI, gI_uI, nO_u, tk_ne9, tk_inj, if_false, if_true, false_and, and_false, Nat.reduceEqDiff, reduceIte, reduceCtorEq, and_true, true_and] using h9
  · have h9 := r_r5 R
    unfold Cr5
    simpa (disch := omega) only [sP_wI, gI_uI, nO_u, tk_ne9, tk_inj, if_false, if_true, false_and, and_false, Nat.reduceEqDiff, reduceIte, reduceCtorEq, and_true, true_and] using h9
  · have h9 := r_r6 R
    unfold Cr6
    simpa (disch := omega) only [sI_wI, gI_uI, nO_u, tk_ne9, tk_inj, if_false, if_true, false_and, and_false, Nat.reduceEqDiff, reduceIte, reduceCtorEq, and_true, true_and] using h9
  · have h9 := r_rk R
    unfold Crk
    simpa (disch := omega) only [gI_uI, nO_u, tk_ne9, tk_inj, if_false, if_true, false_and, and_false, Nat.reduceEqDiff, reduceIte, reduceCtorEq, and_true, true_and] using h9
  · have h9 := r_rp R
    unfold Crp
    simpa (disch := omega) only [gI_uI, nO_u, tk_ne9, tk_inj, if_false, if_true, false_and, and_false, Nat.reduceEqDiff, reduceIte, reduceCtorEq, and_true, true_and] using h9
  · have h9 := r_rq R
    unfold Crq
    simpa (disch := omega) only [gI_uI, nO_u, pr_u, tk_ne9, tk_inj, if_false, if_true, false_and, and_false, Nat.reduceEqDiff, reduceIte, reduceCtorEq, and_true, true_and] using h9
  · have h9 := r_rr R
    unfold Crr
    simpa (disch := omega) only [gI_uI, nO_u, pr_u, tk_ne9, tk_inj, if_false, if_true, false_and, and_false, Nat.reduceEqDiff, reduceIte, reduceCtorEq, and_true, true_and] using h9
  · have h9 := r_rs R
    unfold Crs
    simpa (disch := omega) only [gI_uI, nB_u, nO_u, tk_ne9, tk_inj, if_false, if_true, false_and, and_false, Nat.reduceEqDiff, reduceIte, reduceCtorEq, and_true, true_and] using h9
set_option maxHeartbeats 8000000 in
theorem rel_sto {e : Nat} {a : Sg} {M : MS} (R : Rel e a M) (j : Nat) (hj : j < nB M) (v : Int32) (hv3 : v ≠ 3) (ho3 : gI M 18 j = 3) (hw : v = 1 ∨ v = 2 → op M j < nOp M (kd M j)) (hz : v = 4 ↔ pc M j = 0) (ht : ∃ s : Nat, v = nI s ∧ s ≤ 6) (he7 : e = 7) (hnl : ∀ m, m < nM M → gI M 34 m ≠ nI j) : Rel e (wI (wI a (tk 2 (kd M j)) 10 (sI a (tk 2 (kd M j)) 10 - sI a (tk 0 j) 2)) (tk 0 j) 4 v) (uI M 18 j v) := by
  unfold Rel
  refine ⟨?_, ?_, ?_, ?_, ?_, ?_, ?_, ?_, ?_, ?_, ?_, ?_, ?_, ?_, ?_, ?_, ?_, ?_, ?_, ?_, ?_, ?_, ?_, ?_, ?_, ?_, ?_, ?_, ?_, ?_, ?_, ?_, ?_, ?_, ?_, ?_, ?_, ?_, ?_, ?_, ?_, ?_, ?_, ?_, ?_, ?_, ?_, ?_, ?_, ?_, ?_, ?_, ?_, ?_, ?_, ?_, ?_, ?_, ?_, ?_, ?_, ?_, ?_, ?_, ?_, ?_, ?_, ?_, ?_, ?_, ?_, ?_, ?_, ?_, ?_, ?_, ?_, ?_, ?_, ?_, ?_, ?_, ?_, ?_, ?_, ?_, ?_, ?_, ?_, ?_, ?_, ?_, ?_, ?_, ?_, ?_, ?_, ?_, ?_, ?_, ?_, ?_, ?_, ?_, ?_, ?_, ?_, ?_, ?_, ?_, ?_, ?_, ?_, ?_, ?_, ?_, ?_, ?_, ?_, ?_, ?_, ?_, ?_, ?_, ?_, ?_, ?_, ?_, ?_, ?_, ?_, ?_, ?_, ?_, ?_, ?_, ?_, ?_, ?_, ?_, ?_, ?_, ?_, ?_, ?_, ?_, ?_, ?_, ?_⟩
  · have h9 := r_shm R
    exact h9
  · have h9 := r_px0 R
    exact h9
  · have h9 := r_px1 R
    exact h9
  · have h9 := r_px2 R
    exact h9
  · have h9 := r_pf0 R
    exact h9
  · have h9 := r_pf1 R
    exact h9
  · have h9 := r_pf3 R
    exact h9
  · have h9 := r_ps0 R
    exact h9
  · have h9 := r_ps2 R
    exact h9
  · have h9 := r_ps4 R
    exact h9
  · have h9 := r_pk R
    exact h9
  · have h9 := r_pkl R
    exact h9
  · have h9 := r_pko R
    exact h9
  · have h9 := r_ghour R
    unfold Cghour
    simpa (disch := omega) only [sI_wI, gI_uI, tk_ne9, tk_inj, if_false, if_true, false_and, and_false, Nat.reduceEqDiff, reduceIte, reduceCtorEq, and_true, true_and] using h9
  · have h9 := r_gstand R
    unfold Cgstand
    simpa (disch := omega) only [sI_wI, gI_uI, tk_ne9, tk_inj, if_false, if_true, false_and, and_false, Nat.reduceEqDiff, reduceIte, reduceCtorEq, and_true, true_and] using h9
  · have h9 := r_gbought R
    unfold Cgbought
    simpa (disch := omega) only [sI_wI, gI_uI, tk_ne9, tk_inj, if_false, if_true, false_and, and_false, Nat.reduceEqDiff, reduceIte, reduceCtorEq, and_true, true_and] using h9
  · have h9 := r_gmach R
    unfold Cgmach
    simpa (disch := omega) only [sI_wI, gI_uI, tk_ne9, tk_inj, if_false, if_true, false_and, and_false, Nat.reduceEqDiff, reduceIte, reduceCtorEq, and_true, true_and] using h9
  · have h9 := r_gpers R
    unfold Cgpers
    simpa (disch := omega) only [sI_wI, gI_uI, tk_ne9, tk_inj, if_false, if_true, false_and, and_false, Nat.reduceEqDiff, reduceIte, reduceCtorEq, and_true, true_and] using h9
  · have h9 := r_gworked R
    unfold Cgworked
    simpa (disch := omega) only [sI_wI, gI_uI, tk_ne9, tk_inj, if_false, if_true, false_and, and_false, Nat.reduceEqDiff, reduceIte, reduceCtorEq, and_true, true_and] using h9
  · have h9 := r_grep R
    unfold Cgrep
    simpa (disch := omega) only [sI_wI, gI_uI, tk_ne9, tk_inj, if_false, if_true, false_and, and_false, Nat.reduceEqDiff, reduceIte, reduceCtorEq, and_true, true_and] using h9
  · have h9 := r_gbat R
    unfold Cgbat
    simpa (disch := omega) only [sI_wI, gI_uI, tk_ne9, tk_inj, if_false, if_true, false_and, and_false, Nat.reduceEqDiff, reduceIte, reduceCtorEq, and_true, true_and] using h9
  · have h9 := r_gord R
    unfold Cgord
    simpa (disch := omega) only [sI_wI, gI_uI, tk_ne9, tk_inj, if_false, if_true, false_and, and_false, Nat.reduceEqDiff, reduceIte, reduceCtorEq, and_true, true_and] using h9
  · have h9 := r_gq R
    unfold Cgq
    simpa (disch := omega) only [sI_wI, gI_uI, tk_ne9, tk_inj, if_false, if_true, false_and, and_false, Nat.reduceEqDiff, reduceIte, reduceCtorEq, and_true, true_and] using h9
  · have h9 := r_nB R
    unfold CnB
    simpa (disch := omega) only [gI_uI, nB_u, tk_ne9, tk_inj, if_false, if_true, false_and, and_false, Nat.reduceEqDiff, reduceIte, reduceCtorEq, and_true, true_and] using h9
  · have h9 := r_nBx R
    unfold CnBx
    simpa (disch := omega) only [nB_u, tk_ne9, tk_inj, if_false, if_true, false_and, and_false, Nat.reduceEqDiff, reduceIte, reduceCtorEq, and_true, true_and] using h9
  · have h9 := r_nM R
    unfold CnM
    simpa (disch := omega) only [gI_uI, nM_u, tk_ne9, tk_inj, if_false, if_true, false_and, and_false, Nat.reduceEqDiff, reduceIte, reduceCtorEq, and_true, true_and] using h9
  · have h9 := r_nMx R
    unfold CnMx
    simpa (disch := omega) only [nM_u, tk_ne9, tk_inj, if_false, if_true, false_and, and_false, Nat.reduceEqDiff, reduceIte, reduceCtorEq, and_true, true_and] using h9
  · have h9 := r_nP R
    unfold CnP
    simpa (disch := omega) only [gI_uI, nP_u, tk_ne9, tk_inj, if_false, if_true, false_and, and_false, Nat.reduceEqDiff, reduceIte, reduceCtorEq, and_true, true_and] using h9
  · have h9 := r_nPx R
    unfold CnPx
    simpa (disch := omega) only [nP_u, tk_ne9, tk_inj, if_false, if_true, false_and, and_false, Nat.reduceEqDiff, reduceIte, reduceCtorEq, and_true, true_and] using h9
  · have h9 := r_nO R
    unfold CnO
    simpa (disch := omega) only [gI_uI, nO_u, tk_ne9, tk_inj, if_false, if_true, false_and, and_false, Nat.reduceEqDiff, reduceIte, reduceCtorEq, and_true, true_and] using h9
  · have h9 := r_nOx R
    unfold CnOx
    simpa (disch := omega) only [nO_u, tk_ne9, tk_inj, if_false, if_true, false_and, and_false, Nat.reduceEqDiff, reduceIte, reduceCtorEq, and_true, true_and] using h9
  · have h9 := r_hr R
    unfold Chr
    simpa (disch := omega) only [gI_uI, hN_u, tk_ne9, tk_inj, if_false, if_true, false_and, and_false, Nat.reduceEqDiff, reduceIte, reduceCtorEq, and_true, true_and] using h9
  · have h9 := r_hrx R
    unfold Chrx
    simpa (disch := omega) only [hN_u, tk_ne9, tk_inj, if_false, if_true, false_and, and_false, Nat.reduceEqDiff, reduceIte, reduceCtorEq, and_true, true_and] using h9
  · have h9 := r_stb R
    unfold Cstb
    simpa (disch := omega) only [gI_uI, tk_ne9, tk_inj, if_false, if_true, false_and, and_false, Nat.reduceEqDiff, reduceIte, reduceCtorEq, and_true, true_and] using h9
  · have h9 := r_ex R
    exact h9
  · have h9 := r_k0 R
    unfold Ck0
    simpa (disch := omega) only [sI_wI, tk_ne9, tk_inj, if_false, if_true, false_and, and_false, Nat.reduceEqDiff, reduceIte, reduceCtorEq, and_true, true_and] using h9
  · have h9 := r_k1 R
    unfold Ck1
    simpa (disch := omega) only [sI_wI, gI_uI, tk_ne9, tk_inj, if_false, if_true, false_and, and_false, Nat.reduceEqDiff, reduceIte, reduceCtorEq, and_true, true_and] using h9
  · have h9 := r_k2 R
    unfold Ck2
    simpa (disch := omega) only [sI_wI, gI_uI, tk_ne9, tk_inj, if_false, if_true, false_and, and_false, Nat.reduceEqDiff, reduceIte, reduceCtorEq, and_true, true_and] using h9
  · have h9 := r_k3 R
    unfold Ck3
    simpa (disch := omega) only [sI_wI, gI_uI, tk_ne9, tk_inj, if_false, if_true, false_and, and_false, Nat.reduceEqDiff, reduceIte, reduceCtorEq, and_true, true_and] using h9
  · have h9 := r_k5 R
    unfold Ck5
    simpa (disch := omega) only [sI_wI, gI_uI, tk_ne9, tk_inj, if_false, if_true, false_and, and_false, Nat.reduceEqDiff, reduceIte, reduceCtorEq, and_true, true_and] using h9
  · have h9 := r_k7 R
    unfold Ck7
    simpa (disch := omega) only [sI_wI, gI_uI, tk_ne9, tk_inj, if_false, if_true, false_and, and_false, Nat.reduceEqDiff, reduceIte, reduceCtorEq, and_true, true_and] using h9
  · have h9 := r_k8 R
    unfold Ck8
    simpa (disch := omega) only [sI_wI, gI_uI, tk_ne9, tk_inj, if_false, if_true, false_and, and_false, Nat.reduceEqDiff, reduceIte, reduceCtorEq, and_true, true_and] using h9
  · have h9 := r_k9 R
    unfold Ck9
    simpa (disch := omega) only [sI_wI, gI_uI, tk_ne9, tk_inj, if_false, if_true, false_and, and_false, Nat.reduceEqDiff, reduceIte, reduceCtorEq, and_true, true_and] using h9
  · unfold Ck10
    intro i hi
    rw [nB_u _ _ _ _ (by decide), mInSt_ou _ _ hj ho3 hv3]
    have h9 := r_k10 R i hi
    by_cases e1 : i = kd M j
    · subst e1
      rw [if_pos ((kd_iff R hj hi).mpr rfl)]
      simp [sI_wI, tk_ne9, h9, r_b2 R j hj]
    · rw [if_neg (fun q => e1 ((kd_iff R hj hi).mp q))]
      simp [sI_wI, tk_ne9, tk_inj, e1, h9]
  · have h9 := r_k11 R
    unfold Ck11
    simpa (disch := omega) only [sI_wI, nO_u, mProm_u, tk_ne9, tk_inj, if_false, if_true, false_and, and_false, Nat.reduceEqDiff, reduceIte, reduceCtorEq, and_true, true_and] using h9
  · have h9 := r_k12 R
    unfold Ck12
    simpa (disch := omega) only [sI_wI, tk_ne9, tk_inj, if_false, if_true, false_and, and_false, Nat.reduceEqDiff, reduceIte, reduceCtorEq, and_true, true_and] using h9
  · have h9 := r_ksa R
    unfold Cksa
    simpa (disch := omega) only [gI_uI, tk_ne9, tk_inj, if_false, if_true, false_and, and_false, Nat.reduceEqDiff, reduceIte, reduceCtorEq, and_true, true_and] using h9
  · have h9 := r_ksb R
    unfold Cksb
    simpa (disch := omega) only [gI_uI, nOp_u, tk_ne9, tk_inj, if_false, if_true, false_and, and_false, Nat.reduceEqDiff, reduceIte, reduceCtorEq, and_true, true_and] using h9
  · have h9 := r_ksc R
    unfold Cksc
    simpa (disch := omega) only [gI_uI, nLn_u, nOp_u, tk_ne9, tk_inj, if_false, if_true, false_and, and_false, Nat.reduceEqDiff, reduceIte, reduceCtorEq, and_true, true_and] using h9
  · have h9 := r_kw R
    unfold Ckw
    simpa (disch := omega) only [gI_uI, tk_ne9, tk_inj, if_false, if_true, false_and, and_false, Nat.reduceEqDiff, reduceIte, reduceCtorEq, and_true, true_and] using h9
  · have h9 := r_kl R
    unfold Ckl
    simpa (disch := omega) only [gI_uI, nLn_u, tk_ne9, tk_inj, if_false, if_true, false_and, and_false, Nat.reduceEqDiff, reduceIte, reduceCtorEq, and_true, true_and] using h9
  · have h9 := r_ko R
    unfold Cko
    simpa (disch := omega) only [gI_uI, nOp_u, tk_ne9, tk_inj, if_false, if_true, false_and, and_false, Nat.reduceEqDiff, reduceIte, reduceCtorEq, and_true, true_and] using h9
  · have h9 := r_kp R
    unfold Ckp
    simpa (disch := omega) only [gI_uI, tk_ne9, tk_inj, if_false, if_true, false_and, and_false, Nat.reduceEqDiff, reduceIte, reduceCtorEq, and_true, true_and] using h9
  · have h9 := r_l0 R
    unfold Cl0
    simpa (disch := omega) only [sP_wI, nLn_u, tk_ne9, tk_inj, if_false, if_true, false_and, and_false, Nat.reduceEqDiff, reduceIte, reduceCtorEq, and_true, true_and] using h9
  · have h9 := r_l1 R
    unfold Cl1
    simpa (disch := omega) only [sP_wI, nLn_u, lnP_u, tk_ne9, tk_inj, if_false, if_true, false_and, and_false, Nat.reduceEqDiff, reduceIte, reduceCtorEq, and_true, true_and] using h9
  · have h9 := r_l2 R
    unfold Cl2
    simpa (disch := omega) only [sI_wI, gI_uI, nLn_u, tk_ne9, tk_inj, if_false, if_true, false_and, and_false, Nat.reduceEqDiff, reduceIte, reduceCtorEq, and_true, true_and] using h9
  · have h9 := r_l3 R
    unfold Cl3
    simpa (disch := omega) only [sP_wI, gI_uI, nLn_u, tk_ne9, tk_inj, if_false, if_true, false_and, and_false, Nat.reduceEqDiff, reduceIte, reduceCtorEq, and_true, true_and] using h9
  · have h9 := r_lm R
    unfold Clm
    simpa (disch := omega) only [gI_uI, nLn_u, lnP_u, tk_ne9, tk_inj, if_false, if_true, false_and, and_false, Nat.reduceEqDiff, reduceIte, reduceCtorEq, and_true, true_and] using h9
  · have h9 := r_o0 R
    unfold Co0
    simpa (disch := omega) only [sP_wI, nOp_u, tk_ne9, tk_inj, if_false, if_true, false_and, and_false, Nat.reduceEqDiff, reduceIte, reduceCtorEq, and_true, true_and] using h9
  · have h9 := r_o1 R
    unfold Co1
    simpa (disch := omega) only [sI_wI, gI_uI, nOp_u, tk_ne9, tk_inj, if_false, if_true, false_and, and_false, Nat.reduceEqDiff, reduceIte, reduceCtorEq, and_true, true_and] using h9
  · have h9 := r_o2 R
    unfold Co2
    simpa (disch := omega) only [sI_wI, gI_uI, nOp_u, tk_ne9, tk_inj, if_false, if_true, false_and, and_false, Nat.reduceEqDiff, reduceIte, reduceCtorEq, and_true, true_and] using h9
  · have h9 := r_o3 R
    unfold Co3
    simpa (disch := omega) only [sI_wI, gI_uI, nOp_u, tk_ne9, tk_inj, if_false, if_true, false_and, and_false, Nat.reduceEqDiff, reduceIte, reduceCtorEq, and_true, true_and] using h9
  · have h9 := r_om R
    unfold Com
    simpa (disch := omega) only [gI_uI, nOp_u, tk_ne9, tk_inj, if_false, if_true, false_and, and_false, Nat.reduceEqDiff, reduceIte, reduceCtorEq, and_true, true_and] using h9
  · have h9 := r_b0 R
    unfold Cb0
    simpa (disch := omega) only [sP_wI, nB_u, tk_ne9, tk_inj, if_false, if_true, false_and, and_false, Nat.reduceEqDiff, reduceIte, reduceCtorEq, and_true, true_and] using h9
  · have h9 := r_bn R
    unfold Cbn
    simpa (disch := omega) only [sI_wI, nB_u, tk_ne9, tk_inj, if_false, if_true, false_and, and_false, Nat.reduceEqDiff, reduceIte, reduceCtorEq, and_true, true_and] using h9
  · have h9 := r_bk R
    unfold Cbk
    simpa (disch := omega) only [sP_wI, nB_u, kd_u, tk_ne9, tk_inj, if_false, if_true, false_and, and_false, Nat.reduceEqDiff, reduceIte, reduceCtorEq, and_true, true_and] using h9
  · have h9 := r_b2 R
    unfold Cb2
    simpa (disch := omega) only [sI_wI, gI_uI, nB_u, tk_ne9, tk_inj, if_false, if_true, false_and, and_false, Nat.reduceEqDiff, reduceIte, reduceCtorEq, and_true, true_and] using h9
  · have h9 := r_b3 R
    unfold Cb3
    simpa (disch := omega) only [sI_wI, gI_uI, nB_u, tk_ne9, tk_inj, if_false, if_true, false_and, and_false, Nat.reduceEqDiff, reduceIte, reduceCtorEq, and_true, true_and] using h9
  · unfold Cb4
    intro x0_ h0
    have h9 := r_b4 R x0_ h0
    by_cases e1 : x0_ = j
    · subst e1
      (try simp (disch := omega) [sI_wI, sI_wP, sI_wL, sI_wN, sP_wI, sP_wP, sP_wL, sP_wN, sL_wI, sL_wP, sL_wL, sL_wN, sX_wI, sX_wP, sX_wL, sX_wN, gI_uI, gI_uL, gL_uI, gL_uL, tk_ne9, tk_inj, nB_u, nM_u, nP_u, nO_u, hN_u, nLn_u, nOp_u, lnP_u, pc_u, kd_u, op_u, pr_u, mInSt_u, mProm_u, nInSt_u, nProm_u, totp_u, tot_u, nB_l, nM_l, nP_l, nO_l, hN_l, nLn_l, nOp_l, lnP_l, pc_l, kd_l, op_l, pr_l, mInSt_l, mProm_l, nInSt_l, nProm_l, totp_l, tot_l, if_false, if_true, false_and, and_false, Nat.reduceEqDiff, reduceIte, reduceCtorEq, and_true, true_and]) <;> first | exact h9 | assumption | grind
    · (try simp (disch := omega) [sI_wI, sI_wP, sI_wL, sI_wN, sP_wI, sP_wP, sP_wL, sP_wN, sL_wI, sL_wP, sL_wL, sL_wN, sX_wI, sX_wP, sX_wL, sX_wN, gI_uI, gI_uL, gL_uI, gL_uL, tk_ne9, tk_inj, nB_u, nM_u, nP_u, nO_u, hN_u, nLn_u, nOp_u, lnP_u, pc_u, kd_u, op_u, pr_u, mInSt_u, mProm_u, nInSt_u, nProm_u, totp_u, tot_u, nB_l, nM_l, nP_l, nO_l, hN_l, nLn_l, nOp_l, lnP_l, pc_l, kd_l, op_l, pr_l, mInSt_l, mProm_l, nInSt_l, nProm_l, totp_l, tot_l, if_false, if_true, false_and, and_false, Nat.reduceEqDiff, reduceIte, reduceCtorEq, and_true, true_and, e1]) <;> first | exact h9 | assumption | grind
  · have h9 := r_b5 R
    unfold Cb5
    simpa (disch := omega) only [sI_wI, gI_uI, nB_u, tk_ne9, tk_inj, if_false, if_true, false_and, and_false, Nat.reduceEqDiff, reduceIte, reduceCtorEq, and_true, true_and] using h9
  · have h9 := r_b6 R
    unfold Cb6
    simpa (disch := omega) only [sI_wI, gI_uI, nB_u, tk_ne9, tk_inj, if_false, if_true, false_and, and_false, Nat.reduceEqDiff, reduceIte, reduceCtorEq, and_true, true_and] using h9
  · have h9 := r_b7 R
    unfold Cb7
    simpa (disch := omega) only [sI_wI, gI_uI, nB_u, tk_ne9, tk_inj, if_false, if_true, false_and, and_false, Nat.reduceEqDiff, reduceIte, reduceCtorEq, and_true, true_and] using h9
  · have h9 := r_b8 R
    unfold Cb8
    simpa (disch := omega) only [sI_wI, gI_uI, nB_u, tk_ne9, tk_inj, if_false, if_true, false_and, and_false, Nat.reduceEqDiff, reduceIte, reduceCtorEq, and_true, true_and] using h9
  · have h9 := r_b9 R
    unfold Cb9
    simpa (disch := omega) only [sI_wI, gI_uI, nB_u, tk_ne9, tk_inj, if_false, if_true, false_and, and_false, Nat.reduceEqDiff, reduceIte, reduceCtorEq, and_true, true_and] using h9
  · have h9 := r_b10 R
    unfold Cb10
    simpa (disch := omega) only [sI_wI, gI_uI, nB_u, tk_ne9, tk_inj, if_false, if_true, false_and, and_false, Nat.reduceEqDiff, reduceIte, reduceCtorEq, and_true, true_and] using h9
  · have h9 := r_b11 R
    unfold Cb11
    simpa (disch := omega) only [sL_wI, gL_uI, nB_u, tk_ne9, tk_inj, if_false, if_true, false_and, and_false, Nat.reduceEqDiff, reduceIte, reduceCtorEq, and_true, true_and] using h9
  · have h9 := r_bK R
    unfold CbK
    simpa (disch := omega) only [gI_uI, nB_u, kd_u, tk_ne9, tk_inj, if_false, if_true, false_and, and_false, Nat.reduceEqDiff, reduceIte, reduceCtorEq, and_true, true_and] using h9
  · have h9 := r_bP R
    unfold CbP
    simpa (disch := omega) only [gI_uI, nB_u, pc_u, tk_ne9, tk_inj, if_false, if_true, false_and, and_false, Nat.reduceEqDiff, reduceIte, reduceCtorEq, and_true, true_and] using h9
  · have h9 := r_bO R
    unfold CbO
    simpa (disch := omega) only [gI_uI, nB_u, op_u, tk_ne9, tk_inj, if_false, if_true, false_and, and_false, Nat.reduceEqDiff, reduceIte, reduceCtorEq, and_true, true_and] using h9
  · unfold CbW
    intro x h1
    have h9 := r_bW R x h1
    by_cases e1 : x = j
    · subst e1; simpa (disch := omega) [gI_uI, nOp_u, kd_u, op_u] using hw
    · simpa (disch := omega) [gI_uI, e1, op_u, nOp_u, kd_u] using h9
  · unfold CbZ
    intro x h1
    have h9 := r_bZ R x h1
    by_cases e1 : x = j
    · subst e1; simpa (disch := omega) [gI_uI, pc_u] using hz
    · simpa (disch := omega) [gI_uI, e1, pc_u] using h9
  · have h9 := r_bF R
    unfold CbF
    simpa (disch := omega) only [gI_uI, nB_u, tk_ne9, tk_inj, if_false, if_true, false_and, and_false, Nat.reduceEqDiff, reduceIte, reduceCtorEq, and_true, true_and] using h9
  · have h9 := r_bS R
    unfold CbS
    simpa (disch := omega) only [gI_uI, nB_u, tk_ne9, tk_inj, if_false, if_true, false_and, and_false, Nat.reduceEqDiff, reduceIte, reduceCtorEq, and_true, true_and] using h9
  · have h9 := r_bC R
    unfold CbC
    simpa (disch := omega) only [gI_uI, nB_u, tk_ne9, tk_inj, if_false, if_true, false_and, and_false, Nat.reduceEqDiff, reduceIte, reduceCtorEq, and_true, true_and] using h9
  · unfold CbT
    intro x h1
    have h9 := r_bT R x h1
    by_cases e1 : x = j
    · subst e1; simpa [gI_uI] using ht
    · simpa [gI_uI, e1] using h9
  · have h9 := r_bU R
    unfold CbU
    simpa (disch := omega) only [gI_uI, nB_u, kd_u, tk_ne9, tk_inj, if_false, if_true, false_and, and_false, Nat.reduceEqDiff, reduceIte, reduceCtorEq, and_true, true_and] using h9
  · have h9 := r_bq R
    unfold Cbq
    simpa (disch := omega) only [nB_u, totp_u, tk_ne9, tk_inj, if_false, if_true, false_and, and_false, Nat.reduceEqDiff, reduceIte, reduceCtorEq, and_true, true_and] using h9
  · unfold Cps
    intro he i hi
    omega
  · have h9 := r_bp R
    unfold Cbp
    simpa (disch := omega) only [gL_uI, nB_u, tk_ne9, tk_inj, if_false, if_true, false_and, and_false, Nat.reduceEqDiff, reduceIte, reduceCtorEq, and_true, true_and] using h9
  · have h9 := r_bc R
    unfold Cbc
    simpa (disch := omega) only [nB_u, hN_u, tot_u, tk_ne9, tk_inj, if_false, if_true, false_and, and_false, Nat.reduceEqDiff, reduceIte, reduceCtorEq, and_true, true_and] using h9
  · have h9 := r_fB R
    unfold CfB
    simpa (disch := omega) only [sX_wI, nB_u, tk_ne9, tk_inj, if_false, if_true, false_and, and_false, Nat.reduceEqDiff, reduceIte, reduceCtorEq, and_true, true_and] using h9
  · have h9 := r_fL R
    unfold CfL
    simpa (disch := omega) only [sX_wI, nLn_u, tk_ne9, tk_inj, if_false, if_true, false_and, and_false, Nat.reduceEqDiff, reduceIte, reduceCtorEq, and_true, true_and] using h9
  · have h9 := r_fO R
    unfold CfO
    simpa (disch := omega) only [sX_wI, nOp_u, tk_ne9, tk_inj, if_false, if_true, false_and, and_false, Nat.reduceEqDiff, reduceIte, reduceCtorEq, and_true, true_and] using h9
  · have h9 := r_fM R
    unfold CfM
    simpa (disch := omega) only [sX_wI, nM_u, tk_ne9, tk_inj, if_false, if_true, false_and, and_false, Nat.reduceEqDiff, reduceIte, reduceCtorEq, and_true, true_and] using h9
  · have h9 := r_fP R
    unfold CfP
    simpa (disch := omega) only [sX_wI, nP_u, tk_ne9, tk_inj, if_false, if_true, false_and, and_false, Nat.reduceEqDiff, reduceIte, reduceCtorEq, and_true, true_and] using h9
  · have h9 := r_fR R
    unfold CfR
    simpa (disch := omega) only [sX_wI, nO_u, tk_ne9, tk_inj, if_false, if_true, false_and, and_false, Nat.reduceEqDiff, reduceIte, reduceCtorEq, and_true, true_and] using h9
  · have h9 := r_fG R
    exact h9
  · have h9 := r_m0 R
    unfold Cm0
    simpa (disch := omega) only [sP_wI, nM_u, tk_ne9, tk_inj, if_false, if_true, false_and, and_false, Nat.reduceEqDiff, reduceIte, reduceCtorEq, and_true, true_and] using h9
  · have h9 := r_mn R
    unfold Cmn
    simpa (disch := omega) only [sI_wI, nM_u, tk_ne9, tk_inj, if_false, if_true, false_and, and_false, Nat.reduceEqDiff, reduceIte, reduceCtorEq, and_true, true_and] using h9
  · have h9 := r_m1 R
    unfold Cm1
    simpa (disch := omega) only [sI_wI, gI_uI, nM_u, tk_ne9, tk_inj, if_false, if_true, false_and, and_false, Nat.reduceEqDiff, reduceIte, reduceCtorEq, and_true, true_and] using h9
  · have h9 := r_m2 R
    unfold Cm2
    simpa (disch := omega) only [sI_wI, gI_uI, nM_u, tk_ne9, tk_inj, if_false, if_true, false_and, and_false, Nat.reduceEqDiff, reduceIte, reduceCtorEq, and_true, true_and] using h9
  · have h9 := r_m3 R
    unfold Cm3
    simpa (disch := omega) only [sI_wI, gI_uI, nM_u, tk_ne9, tk_inj, if_false, if_true, false_and, and_false, Nat.reduceEqDiff, reduceIte, reduceCtorEq, and_true, true_and] using h9
  · have h9 := r_m4 R
    unfold Cm4
    simpa (disch := omega) only [sI_wI, gI_uI, nM_u, tk_ne9, tk_inj, if_false, if_true, false_and, and_false, Nat.reduceEqDiff, reduceIte, reduceCtorEq, and_true, true_and] using h9
  · have h9 := r_m5 R
    unfold Cm5
    simpa (disch := omega) only [sI_wI, gI_uI, nM_u, tk_ne9, tk_inj, if_false, if_true, false_and, and_false, Nat.reduceEqDiff, reduceIte, reduceCtorEq, and_true, true_and] using h9
  · have h9 := r_m9 R
    unfold Cm9
    simpa (disch := omega) only [sI_wI, gI_uI, nM_u, tk_ne9, tk_inj, if_false, if_true, false_and, and_false, Nat.reduceEqDiff, reduceIte, reduceCtorEq, and_true, true_and] using h9
  · have h9 := r_m11 R
    unfold Cm11
    simpa (disch := omega) only [sI_wI, gI_uI, nM_u, tk_ne9, tk_inj, if_false, if_true, false_and, and_false, Nat.reduceEqDiff, reduceIte, reduceCtorEq, and_true, true_and] using h9
  · have h9 := r_m13 R
    unfold Cm13
    simpa (disch := omega) only [sI_wI, gI_uI, nM_u, tk_ne9, tk_inj, if_false, if_true, false_and, and_false, Nat.reduceEqDiff, reduceIte, reduceCtorEq, and_true, true_and] using h9
  · have h9 := r_m14 R
    unfold Cm14
    simpa (disch := omega) only [sI_wI, gI_uI, nM_u, tk_ne9, tk_inj, if_false, if_true, false_and, and_false, Nat.reduceEqDiff, reduceIte, reduceCtorEq, and_true, true_and] using h9
  · have h9 := r_m6 R
    unfold Cm6
    simpa (disch := omega) only [sP_wI, gI_uI, nM_u, tk_ne9, tk_inj, if_false, if_true, false_and, and_false, Nat.reduceEqDiff, reduceIte, reduceCtorEq, and_true, true_and] using h9
  · have h9 := r_m7 R
    unfold Cm7
    simpa (disch := omega) only [sP_wI, gI_uI, nM_u, tk_ne9, tk_inj, if_false, if_true, false_and, and_false, Nat.reduceEqDiff, reduceIte, reduceCtorEq, and_true, true_and] using h9
  · have h9 := r_m8 R
    unfold Cm8
    simpa (disch := omega) only [sP_wI, gI_uI, nM_u, tk_ne9, tk_inj, if_false, if_true, false_and, and_false, Nat.reduceEqDiff, reduceIte, reduceCtorEq, and_true, true_and] using h9
  · have h9 := r_m12 R
    unfold Cm12
    simpa (disch := omega) only [sP_wI, gI_uI, nM_u, tk_ne9, tk_inj, if_false, if_true, false_and, and_false, Nat.reduceEqDiff, reduceIte, reduceCtorEq, and_true, true_and] using h9
  · have h9 := r_m10 R
    unfold Cm10
    simpa (disch := omega) only [sI_wI, gI_uI, nB_u, nM_u, tk_ne9, tk_inj, if_false, if_true, false_and, and_false, Nat.reduceEqDiff, reduceIte, reduceCtorEq, and_true, true_and] using h9
  · have h9 := r_mma R
    unfold Cmma
    simpa (disch := omega) only [gI_uI, nM_u, tk_ne9, tk_inj, if_false, if_true, false_and, and_false, Nat.reduceEqDiff, reduceIte, reduceCtorEq, and_true, true_and] using h9
  · unfold Cmmb
    intro x h1
    rcases r_mmb R x h1 with h9 | ⟨j1, p1, g1, g2, g3, g4, g5⟩
    · left; simpa [gI_uI] using h9
    · right
      have e1 : ¬ j1 = j := fun q => hnl x h1 (q ▸ g1)
      exact ⟨j1, p1, by simpa [gI_uI] using g1, by simpa (disch := omega) [nB_u] using g2, by simpa [gI_uI, e1] using g3, by simpa [gI_uI] using g4, by simpa (disch := omega) [nP_u] using g5⟩
  · have h9 := r_mmc R
    unfold Cmmc
    simpa (disch := omega) only [gI_uI, nM_u, tk_ne9, tk_inj, if_false, if_true, false_and, and_false, Nat.reduceEqDiff, reduceIte, reduceCtorEq, and_true, true_and] using h9
  · have h9 := r_mr29 R
    unfold Cmr29
    simpa (disch := omega) only [gI_uI, nM_u, tk_ne9, tk_inj, if_false, if_true, false_and, and_false, Nat.reduceEqDiff, reduceIte, reduceCtorEq, and_true, true_and] using h9
  · have h9 := r_mr30 R
    unfold Cmr30
    simpa (disch := omega) only [gI_uI, nM_u, tk_ne9, tk_inj, if_false, if_true, false_and, and_false, Nat.reduceEqDiff, reduceIte, reduceCtorEq, and_true, true_and] using h9
  · have h9 := r_mr31 R
    unfold Cmr31
    simpa (disch := omega) only [gI_uI, nM_u, tk_ne9, tk_inj, if_false, if_true, false_and, and_false, Nat.reduceEqDiff, reduceIte, reduceCtorEq, and_true, true_and] using h9
  · have h9 := r_mr32 R
    unfold Cmr32
    simpa (disch := omega) only [gI_uI, nM_u, tk_ne9, tk_inj, if_false, if_true, false_and, and_false, Nat.reduceEqDiff, reduceIte, reduceCtorEq, and_true, true_and] using h9
  · have h9 := r_mr35 R
    unfold Cmr35
    simpa (disch := omega) only [gI_uI, nM_u, tk_ne9, tk_inj, if_false, if_true, false_and, and_false, Nat.reduceEqDiff, reduceIte, reduceCtorEq, and_true, true_and] using h9
  · have h9 := r_mr39 R
    unfold Cmr39
    simpa (disch := omega) only [gI_uI, nM_u, tk_ne9, tk_inj, if_false, if_true, false_and, and_false, Nat.reduceEqDiff, reduceIte, reduceCtorEq, and_true, true_and] using h9
  · have h9 := r_mr40 R
    unfold Cmr40
    simpa (disch := omega) only [gI_uI, nM_u, tk_ne9, tk_inj, if_false, if_true, false_and, and_false, Nat.reduceEqDiff, reduceIte, reduceCtorEq, and_true, true_and] using h9
  · have h9 := r_md R
    unfold Cmd
    simpa (disch := omega) only [gI_uI, nM_u, tk_ne9, tk_inj, if_false, if_true, false_and, and_false, Nat.reduceEqDiff, reduceIte, reduceCtorEq, and_true, true_and] using h9
  · have h9 := r_mw R
    unfold Cmw
    simpa (disch := omega) only [gI_uI, nM_u, tk_ne9, tk_inj, if_false, if_true, false_and, and_false, Nat.reduceEqDiff, reduceIte, reduceCtorEq, and_true, true_and] using h9
  · have h9 := r_q0 R
    unfold Cq0
    simpa (disch := omega) only [sP_wI, nP_u, tk_ne9, tk_inj, if_false, if_true, false_and, and_false, Nat.reduceEqDiff, reduceIte, reduceCtorEq, and_true, true_and] using h9
  · have h9 := r_qn R
    unfold Cqn
    simpa (disch := omega) only [sI_wI, nP_u, tk_ne9, tk_inj, if_false, if_true, false_and, and_false, Nat.reduceEqDiff, reduceIte, reduceCtorEq, and_true, true_and] using h9
  · have h9 := r_q1 R
    unfold Cq1
    simpa (disch := omega) only [sI_wI, gI_uI, nP_u, tk_ne9, tk_inj, if_false, if_true, false_and, and_false, Nat.reduceEqDiff, reduceIte, reduceCtorEq, and_true, true_and] using h9
  · have h9 := r_q2 R
    unfold Cq2
    simpa (disch := omega) only [sI_wI, gI_uI, nP_u, tk_ne9, tk_inj, if_false, if_true, false_and, and_false, Nat.reduceEqDiff, reduceIte, reduceCtorEq, and_true, true_and] using h9
  · have h9 := r_q3 R
    unfold Cq3
    simpa (disch := omega) only [sI_wI, gI_uI, nP_u, tk_ne9, tk_inj, if_false, if_true, false_and, and_false, Nat.reduceEqDiff, reduceIte, reduceCtorEq, and_true, true_and] using h9
  · have h9 := r_q4 R
    unfold Cq4
    simpa (disch := omega) only [sP_wI, nP_u, tk_ne9, tk_inj, if_false, if_true, false_and, and_false, Nat.reduceEqDiff, reduceIte, reduceCtorEq, and_true, true_and] using h9
  · have h9 := r_q5 R
    unfold Cq5
    simpa (disch := omega) only [sP_wI, nP_u, tk_ne9, tk_inj, if_false, if_true, false_and, and_false, Nat.reduceEqDiff, reduceIte, reduceCtorEq, and_true, true_and] using h9
  · have h9 := r_q6 R
    unfold Cq6
    simpa (disch := omega) only [sI_wI, gI_uI, nM_u, nP_u, tk_ne9, tk_inj, if_false, if_true, false_and, and_false, Nat.reduceEqDiff, reduceIte, reduceCtorEq, and_true, true_and] using h9
  · have h9 := r_ql R
    unfold Cql
    simpa (disch := omega) only [sI_wI, gI_uI, nP_u, tk_ne9, tk_inj, if_false, if_true, false_and, and_false, Nat.reduceEqDiff, reduceIte, reduceCtorEq, and_true, true_and] using h9
  · have h9 := r_qw R
    unfold Cqw
    simpa (disch := omega) only [sI_wI, gI_uI, nP_u, tk_ne9, tk_inj, if_false, if_true, false_and, and_false, Nat.reduceEqDiff, reduceIte, reduceCtorEq, and_true, true_and] using h9
  · have h9 := r_qm R
    unfold Cqm
    simpa (disch := omega) only [gI_uI, nP_u, tk_ne9, tk_inj, if_false, if_true, false_and, and_false, Nat.reduceEqDiff, reduceIte, reduceCtorEq, and_true, true_and] using h9
  · have h9 := r_qr R
    unfold Cqr
    simpa (disch := omega) only [gI_uI, nP_u, tk_ne9, tk_inj, if_false, if_true, false_and, and_false, Nat.reduceEqDiff, reduceIte, reduceCtorEq, and_true, true_and] using h9
  · have h9 := r_r0 R
    unfold Cr0
    simpa (disch := omega) only [sP_wI, nO_u, tk_ne9, tk_inj, if_false, if_true, false_and, and_false, Nat.reduceEqDiff, reduceIte, reduceCtorEq, and_true, true_and] using h9
  · have h9 := r_r1 R
    unfold Cr1
    simpa (disch := omega) only [sP_wI, gI_uI, nO_u, tk_ne9, tk_inj, if_false, if_true, false_and, and_false, Nat.reduceEqDiff, reduceIte, reduceCtorEq, and_true, true_and] using h9
  · have h9 := r_r2 R
    unfold Cr2
    simpa (disch := omega) only [sI_wI, gI_uI, nO_u, tk_ne9, tk_inj, if_false, if_true, false_and, and_false, Nat.reduceEqDiff, reduceIte, reduceCtorEq, and_true, true_and] using h9
  · have h9 := r_r3 R
    unfold Cr3
    simpa (disch := omega) only [sI_wI, gI_uI, nO_u, tk_ne9, tk_inj, if_false, if_true, false_and, and_false, Nat.reduceEqDiff, reduceIte, reduceCtorEq, and_true, true_and] using h9
  · have h9 := r_r4 R
    unfold Cr4
    simpa (disch := omega) only [sI_wI, gI_uI, nO_u, tk_ne9, tk_inj, if_false, if_true, false_and, and_false, Nat.reduceEqDiff, reduceIte, reduceCtorEq, and_true, true_and] using h9
  · have h9 := r_r5 R
    unfold Cr5
    simpa (disch := omega) only [sP_wI, gI_uI, nO_u, tk_ne9, tk_inj, if_false, if_true, false_and, and_false, Nat.reduceEqDiff, reduceIte, reduceCtorEq, and_true, true_and] using h9
  · have h9 := r_r6 R
    unfold Cr6
    simpa (disch := omega) only [sI_wI, gI_uI, nO_u, tk_ne9, tk_inj, if_false, if_true, false_and, and_false, Nat.reduceEqDiff, reduceIte, reduceCtorEq, and_true, true_and] using h9
  · have h9 := r_rk R
    unfold Crk
    simpa (disch := omega) only [gI_uI, nO_u, tk_ne9, tk_inj, if_false, if_true, false_and, and_false, Nat.reduceEqDiff, reduceIte, reduceCtorEq, and_true, true_and] using h9
  · have h9 := r_rp R
    unfold Crp
    simpa (disch := omega) only [gI_uI, nO_u, tk_ne9, tk_inj, if_false, if_true, false_and, and_false, Nat.reduceEqDiff, reduceIte, reduceCtorEq, and_true, true_and] using h9
  · have h9 := r_rq R
    unfold Crq
    simpa (disch := omega) only [gI_uI, nO_u, pr_u, tk_ne9, tk_inj, if_false, if_true, false_and, and_false, Nat.reduceEqDiff, reduceIte, reduceCtorEq, and_true, true_and] using h9
  · have h9 := r_rr R
    unfold Crr
    simpa (disch := omega) only [gI_uI, nO_u, pr_u, tk_ne9, tk_inj, if_false, if_true, false_and, and_false, Nat.reduceEqDiff, reduceIte, reduceCtorEq, and_true, true_and] using h9
  · have h9 := r_rs R
    unfold Crs
    simpa (disch := omega) only [gI_uI, nB_u, nO_u, tk_ne9, tk_inj, if_false, if_true, false_and, and_false, Nat.reduceEqDiff, reduceIte, reduceCtorEq, and_true, true_and] using h9
set_option maxHeartbeats 8000000 in
theorem rel_leave {e : Nat} {a : Sg} {M : MS} (R : Rel e a M) (m j p : Nat) (hm : m < nM M) (hjm : gI M 34 m = nI j) (hj : j < nB M) (hpm : gI M 36 m = nI p) (hp : p < nP M) : Rel e (wI (wP (wP (wI a (tk 7 p) 6 (-1)) (tk 4 m) 7 none) (tk 4 m) 8 none) (tk 4 m) 9 0) (uI (uI (uI M 34 m (-1)) 36 m (-1)) 35 m 0) := by
  unfold Rel
  refine ⟨?_, ?_, ?_, ?_, ?_, ?_, ?_, ?_, ?_, ?_, ?_, ?_, ?_, ?_, ?_, ?_, ?_, ?_, ?_, ?_, ?_, ?_, ?_, ?_, ?_, ?_, ?_, ?_, ?_, ?_, ?_, ?_, ?_, ?_, ?_, ?_, ?_, ?_, ?_, ?_, ?_, ?_, ?_, ?_, ?_, ?_, ?_, ?_, ?_, ?_, ?_, ?_, ?_, ?_, ?_, ?_, ?_, ?_, ?_, ?_, ?_, ?_, ?_, ?_, ?_, ?_, ?_, ?_, ?_, ?_, ?_, ?_, ?_, ?_, ?_, ?_, ?_, ?_, ?_, ?_, ?_, ?_, ?_, ?_, ?_, ?_, ?_, ?_, ?_, ?_, ?_, ?_, ?_, ?_, ?_, ?_, ?_, ?_, ?_, ?_, ?_, ?_, ?_, ?_, ?_, ?_, ?_, ?_, ?_, ?_, ?_, ?_, ?_, ?_, ?_, ?_, ?_, ?_, ?_, ?_, ?_, ?_, ?_, ?_, ?_, ?_, ?_, ?_, ?_, ?_, ?_, ?_, ?_, ?_, ?_, ?_, ?_, ?_, ?_, ?_, ?_, ?_, ?_, ?_, ?_, ?_, ?_, ?_, ?_⟩
  · have h9 := r_shm R
    unfold Cshm
    simpa (disch := omega) only [sP_wI, sP_wP, tk_ne9, tk_inj, if_false, if_true, false_and, and_false, Nat.reduceEqDiff, reduceIte, reduceCtorEq, and_true, true_and] using h9
  · have h9 := r_px0 R
    unfold Cpx0
    simpa (disch := omega) only [sP_wI, sP_wP, tk_ne9, tk_inj, if_false, if_true, false_and, and_false, Nat.reduceEqDiff, reduceIte, reduceCtorEq, and_true, true_and] using h9
  · have h9 := r_px1 R
    unfold Cpx1
    simpa (disch := omega) only [sP_wI, sP_wP, tk_ne9, tk_inj, if_false, if_true, false_and, and_false, Nat.reduceEqDiff, reduceIte, reduceCtorEq, and_true, true_and] using h9
  · have h9 := r_px2 R
    unfold Cpx2
    simpa (disch := omega) only [sP_wI, sP_wP, tk_ne9, tk_inj, if_false, if_true, false_and, and_false, Nat.reduceEqDiff, reduceIte, reduceCtorEq, and_true, true_and] using h9
  · have h9 := r_pf0 R
    unfold Cpf0
    simpa (disch := omega) only [sP_wI, sP_wP, tk_ne9, tk_inj, if_false, if_true, false_and, and_false, Nat.reduceEqDiff, reduceIte, reduceCtorEq, and_true, true_and] using h9
  · have h9 := r_pf1 R
    unfold Cpf1
    simpa (disch := omega) only [sP_wI, sP_wP, tk_ne9, tk_inj, if_false, if_true, false_and, and_false, Nat.reduceEqDiff, reduceIte, reduceCtorEq, and_true, true_and] using h9
  · have h9 := r_pf3 R
    unfold Cpf3
    simpa (disch := omega) only [sP_wI, sP_wP, tk_ne9, tk_inj, if_false, if_true, false_and, and_false, Nat.reduceEqDiff, reduceIte, reduceCtorEq, and_true, true_and] using h9
  · have h9 := r_ps0 R
    unfold Cps0
    simpa (disch := omega) only [sP_wI, sP_wP, tk_ne9, tk_inj, if_false, if_true, false_and, and_false, Nat.reduceEqDiff, reduceIte, reduceCtorEq, and_true, true_and] using h9
  · have h9 := r_ps2 R
    unfold Cps2
    simpa (disch := omega) only [sP_wI, sP_wP, tk_ne9, tk_inj, if_false, if_true, false_and, and_false, Nat.reduceEqDiff, reduceIte, reduceCtorEq, and_true, true_and] using h9
  · have h9 := r_ps4 R
    unfold Cps4
    simpa (disch := omega) only [sP_wI, sP_wP, tk_ne9, tk_inj, if_false, if_true, false_and, and_false, Nat.reduceEqDiff, reduceIte, reduceCtorEq, and_true, true_and] using h9
  · have h9 := r_pk R
    unfold Cpk
    simpa (disch := omega) only [sP_wI, sP_wP, tk_ne9, tk_inj, if_false, if_true, false_and, and_false, Nat.reduceEqDiff, reduceIte, reduceCtorEq, and_true, true_and] using h9
  · have h9 := r_pkl R
    unfold Cpkl
    simpa (disch := omega) only [sP_wI, sP_wP, tk_ne9, tk_inj, if_false, if_true, false_and, and_false, Nat.reduceEqDiff, reduceIte, reduceCtorEq, and_true, true_and] using h9
  · have h9 := r_pko R
    unfold Cpko
    simpa (disch := omega) only [sP_wI, sP_wP, tk_ne9, tk_inj, if_false, if_true, false_and, and_false, Nat.reduceEqDiff, reduceIte, reduceCtorEq, and_true, true_and] using h9
  · have h9 := r_ghour R
    unfold Cghour
    simpa (disch := omega) only [sI_wI, sI_wP, gI_uI, tk_ne9, tk_inj, if_false, if_true, false_and, and_false, Nat.reduceEqDiff, reduceIte, reduceCtorEq, and_true, true_and] using h9
  · have h9 := r_gstand R
    unfold Cgstand
    simpa (disch := omega) only [sI_wI, sI_wP, gI_uI, tk_ne9, tk_inj, if_false, if_true, false_and, and_false, Nat.reduceEqDiff, reduceIte, reduceCtorEq, and_true, true_and] using h9
  · have h9 := r_gbought R
    unfold Cgbought
    simpa (disch := omega) only [sI_wI, sI_wP, gI_uI, tk_ne9, tk_inj, if_false, if_true, false_and, and_false, Nat.reduceEqDiff, reduceIte, reduceCtorEq, and_true, true_and] using h9
  · have h9 := r_gmach R
    unfold Cgmach
    simpa (disch := omega) only [sI_wI, sI_wP, gI_uI, tk_ne9, tk_inj, if_false, if_true, false_and, and_false, Nat.reduceEqDiff, reduceIte, reduceCtorEq, and_true, true_and] using h9
  · have h9 := r_gpers R
    unfold Cgpers
    simpa (disch := omega) only [sI_wI, sI_wP, gI_uI, tk_ne9, tk_inj, if_false, if_true, false_and, and_false, Nat.reduceEqDiff, reduceIte, reduceCtorEq, and_true, true_and] using h9
  · have h9 := r_gworked R
    unfold Cgworked
    simpa (disch := omega) only [sI_wI, sI_wP, gI_uI, tk_ne9, tk_inj, if_false, if_true, false_and, and_false, Nat.reduceEqDiff, reduceIte, reduceCtorEq, and_true, true_and] using h9
  · have h9 := r_grep R
    unfold Cgrep
    simpa (disch := omega) only [sI_wI, sI_wP, gI_uI, tk_ne9, tk_inj, if_false, if_true, false_and, and_false, Nat.reduceEqDiff, reduceIte, reduceCtorEq, and_true, true_and] using h9
  · have h9 := r_gbat R
    unfold Cgbat
    simpa (disch := omega) only [sI_wI, sI_wP, gI_uI, tk_ne9, tk_inj, if_false, if_true, false_and, and_false, Nat.reduceEqDiff, reduceIte, reduceCtorEq, and_true, true_and] using h9
  · have h9 := r_gord R
    unfold Cgord
    simpa (disch := omega) only [sI_wI, sI_wP, gI_uI, tk_ne9, tk_inj, if_false, if_true, false_and, and_false, Nat.reduceEqDiff, reduceIte, reduceCtorEq, and_true, true_and] using h9
  · have h9 := r_gq R
    unfold Cgq
    simpa (disch := omega) only [sI_wI, sI_wP, gI_uI, tk_ne9, tk_inj, if_false, if_true, false_and, and_false, Nat.reduceEqDiff, reduceIte, reduceCtorEq, and_true, true_and] using h9
  · have h9 := r_nB R
    unfold CnB
    simpa (disch := omega) only [gI_uI, nB_u, tk_ne9, tk_inj, if_false, if_true, false_and, and_false, Nat.reduceEqDiff, reduceIte, reduceCtorEq, and_true, true_and] using h9
  · have h9 := r_nBx R
    unfold CnBx
    simpa (disch := omega) only [nB_u, tk_ne9, tk_inj, if_false, if_true, false_and, and_false, Nat.reduceEqDiff, reduceIte, reduceCtorEq, and_true, true_and] using h9
  · have h9 := r_nM R
    unfold CnM
    simpa (disch := omega) only [gI_uI, nM_u, tk_ne9, tk_inj, if_false, if_true, false_and, and_false, Nat.reduceEqDiff, reduceIte, reduceCtorEq, and_true, true_and] using h9
  · have h9 := r_nMx R
    unfold CnMx
    simpa (disch := omega) only [nM_u, tk_ne9, tk_inj, if_false, if_true, false_and, and_false, Nat.reduceEqDiff, reduceIte, reduceCtorEq, and_true, true_and] using h9
  · have h9 := r_nP R
    unfold CnP
    simpa (disch := omega) only [gI_uI, nP_u, tk_ne9, tk_inj, if_false, if_true, false_and, and_false, Nat.reduceEqDiff, reduceIte, reduceCtorEq, and_true, true_and] using h9
  · have h9 := r_nPx R
    unfold CnPx
    simpa (disch := omega) only [nP_u, tk_ne9, tk_inj, if_false, if_true, false_and, and_false, Nat.reduceEqDiff, reduceIte, reduceCtorEq, and_true, true_and] using h9
  · have h9 := r_nO R
    unfold CnO
    simpa (disch := omega) only [gI_uI, nO_u, tk_ne9, tk_inj, if_false, if_true, false_and, and_false, Nat.reduceEqDiff, reduceIte, reduceCtorEq, and_true, true_and] using h9
  · have h9 := r_nOx R
    unfold CnOx
    simpa (disch := omega) only [nO_u, tk_ne9, tk_inj, if_false, if_true, false_and, and_false, Nat.reduceEqDiff, reduceIte, reduceCtorEq, and_true, true_and] using h9
  · have h9 := r_hr R
    unfold Chr
    simpa (disch := omega) only [gI_uI, hN_u, tk_ne9, tk_inj, if_false, if_true, false_and, and_false, Nat.reduceEqDiff, reduceIte, reduceCtorEq, and_true, true_and] using h9
  · have h9 := r_hrx R
    unfold Chrx
    simpa (disch := omega) only [hN_u, tk_ne9, tk_inj, if_false, if_true, false_and, and_false, Nat.reduceEqDiff, reduceIte, reduceCtorEq, and_true, true_and] using h9
  · have h9 := r_stb R
    unfold Cstb
    simpa (disch := omega) only [gI_uI, tk_ne9, tk_inj, if_false, if_true, false_and, and_false, Nat.reduceEqDiff, reduceIte, reduceCtorEq, and_true, true_and] using h9
  · have h9 := r_ex R
    exact h9
  · have h9 := r_k0 R
    unfold Ck0
    simpa (disch := omega) only [sI_wI, sI_wP, tk_ne9, tk_inj, if_false, if_true, false_and, and_false, Nat.reduceEqDiff, reduceIte, reduceCtorEq, and_true, true_and] using h9
  · have h9 := r_k1 R
    unfold Ck1
    simpa (disch := omega) only [sI_wI, sI_wP, gI_uI, tk_ne9, tk_inj, if_false, if_true, false_and, and_false, Nat.reduceEqDiff, reduceIte, reduceCtorEq, and_true, true_and] using h9
  · have h9 := r_k2 R
    unfold Ck2
    simpa (disch := omega) only [sI_wI, sI_wP, gI_uI, tk_ne9, tk_inj, if_false, if_true, false_and, and_false, Nat.reduceEqDiff, reduceIte, reduceCtorEq, and_true, true_and] using h9
  · have h9 := r_k3 R
    unfold Ck3
    simpa (disch := omega) only [sI_wI, sI_wP, gI_uI, tk_ne9, tk_inj, if_false, if_true, false_and, and_false, Nat.reduceEqDiff, reduceIte, reduceCtorEq, and_true, true_and] using h9
  · have h9 := r_k5 R
    unfold Ck5
    simpa (disch := omega) only [sI_wI, sI_wP, gI_uI, tk_ne9, tk_inj, if_false, if_true, false_and, and_false, Nat.reduceEqDiff, reduceIte, reduceCtorEq, and_true, true_and] using h9
  · have h9 := r_k7 R
    unfold Ck7
    simpa (disch := omega) only [sI_wI, sI_wP, gI_uI, tk_ne9, tk_inj, if_false, if_true, false_and, and_false, Nat.reduceEqDiff, reduceIte, reduceCtorEq, and_true, true_and] using h9
  · have h9 := r_k8 R
    unfold Ck8
    simpa (disch := omega) only [sI_wI, sI_wP, gI_uI, tk_ne9, tk_inj, if_false, if_true, false_and, and_false, Nat.reduceEqDiff, reduceIte, reduceCtorEq, and_true, true_and] using h9
  · have h9 := r_k9 R
    unfold Ck9
    simpa (disch := omega) only [sI_wI, sI_wP, gI_uI, tk_ne9, tk_inj, if_false, if_true, false_and, and_false, Nat.reduceEqDiff, reduceIte, reduceCtorEq, and_true, true_and] using h9
  · have h9 := r_k10 R
    unfold Ck10
    simpa (disch := omega) only [sI_wI, sI_wP, nB_u, mInSt_u, tk_ne9, tk_inj, if_false, if_true, false_and, and_false, Nat.reduceEqDiff, reduceIte, reduceCtorEq, and_true, true_and] using h9
  · have h9 := r_k11 R
    unfold Ck11
    simpa (disch := omega) only [sI_wI, sI_wP, nO_u, mProm_u, tk_ne9, tk_inj, if_false, if_true, false_and, and_false, Nat.reduceEqDiff, reduceIte, reduceCtorEq, and_true, true_and] using h9
  · have h9 := r_k12 R
    unfold Ck12
    simpa (disch := omega) only [sI_wI, sI_wP, tk_ne9, tk_inj, if_false, if_true, false_and, and_false, Nat.reduceEqDiff, reduceIte, reduceCtorEq, and_true, true_and] using h9
  · have h9 := r_ksa R
    unfold Cksa
    simpa (disch := omega) only [gI_uI, tk_ne9, tk_inj, if_false, if_true, false_and, and_false, Nat.reduceEqDiff, reduceIte, reduceCtorEq, and_true, true_and] using h9
  · have h9 := r_ksb R
    unfold Cksb
    simpa (disch := omega) only [gI_uI, nOp_u, tk_ne9, tk_inj, if_false, if_true, false_and, and_false, Nat.reduceEqDiff, reduceIte, reduceCtorEq, and_true, true_and] using h9
  · have h9 := r_ksc R
    unfold Cksc
    simpa (disch := omega) only [gI_uI, nLn_u, nOp_u, tk_ne9, tk_inj, if_false, if_true, false_and, and_false, Nat.reduceEqDiff, reduceIte, reduceCtorEq, and_true, true_and] using h9
  · have h9 := r_kw R
    unfold Ckw
    simpa (disch := omega) only [gI_uI, tk_ne9, tk_inj, if_false, if_true, false_and, and_false, Nat.reduceEqDiff, reduceIte, reduceCtorEq, and_true, true_and] using h9
  · have h9 := r_kl R
    unfold Ckl
    simpa (disch := omega) only [gI_uI, nLn_u, tk_ne9, tk_inj, if_false, if_true, false_and, and_false, Nat.reduceEqDiff, reduceIte, reduceCtorEq, and_true, true_and] using h9
  · have h9 := r_ko R
    unfold Cko
    simpa (disch := omega) only [gI_uI, nOp_u, tk_ne9, tk_inj, if_false, if_true, false_and, and_false, Nat.reduceEqDiff, reduceIte, reduceCtorEq, and_true, true_and] using h9
  · have h9 := r_kp R
    unfold Ckp
    simpa (disch := omega) only [gI_uI, tk_ne9, tk_inj, if_false, if_true, false_and, and_false, Nat.reduceEqDiff, reduceIte, reduceCtorEq, and_true, true_and] using h9
  · have h9 := r_l0 R
    unfold Cl0
    simpa (disch := omega) only [sP_wI, sP_wP, nLn_u, tk_ne9, tk_inj, if_false, if_true, false_and, and_false, Nat.reduceEqDiff, reduceIte, reduceCtorEq, and_true, true_and] using h9
  · have h9 := r_l1 R
    unfold Cl1
    simpa (disch := omega) only [sP_wI, sP_wP, nLn_u, lnP_u, tk_ne9, tk_inj, if_false, if_true, false_and, and_false, Nat.reduceEqDiff, reduceIte, reduceCtorEq, and_true, true_and] using h9
  · have h9 := r_l2 R
    unfold Cl2
    simpa (disch := omega) only [sI_wI, sI_wP, gI_uI, nLn_u, tk_ne9, tk_inj, if_false, if_true, false_and, and_false, Nat.reduceEqDiff, reduceIte, reduceCtorEq, and_true, true_and] using h9
  · have h9 := r_l3 R
    unfold Cl3
    simpa (disch := omega) only [sP_wI, sP_wP, gI_uI, nLn_u, tk_ne9, tk_inj, if_false, if_true, false_and, and_false, Nat.reduceEqDiff, reduceIte, reduceCtorEq, and_true, true_and] using h9
  · have h9 := r_lm R
    unfold Clm
    simpa (disch := omega) only [gI_uI, nLn_u, lnP_u, tk_ne9, tk_inj, if_false, if_true, false_and, and_false, Nat.reduceEqDiff, reduceIte, reduceCtorEq, and_true, true_and] using h9
  · have h9 := r_o0 R
    unfold Co0
    simpa (disch := omega) only [sP_wI, sP_wP, nOp_u, tk_ne9, tk_inj, if_false, if_true, false_and, and_false, Nat.reduceEqDiff, reduceIte, reduceCtorEq, and_true, true_and] using h9
  · have h9 := r_o1 R
    unfold Co1
    simpa (disch := omega) only [sI_wI, sI_wP, gI_uI, nOp_u, tk_ne9, tk_inj, if_false, if_true, false_and, and_false, Nat.reduceEqDiff, reduceIte, reduceCtorEq, and_true, true_and] using h9
  · have h9 := r_o2 R
    unfold Co2
    simpa (disch := omega) only [sI_wI, sI_wP, gI_uI, nOp_u, tk_ne9, tk_inj, if_false, if_true, false_and, and_false, Nat.reduceEqDiff, reduceIte, reduceCtorEq, and_true, true_and] using h9
  · have h9 := r_o3 R
    unfold Co3
    simpa (disch := omega) only [sI_wI, sI_wP, gI_uI, nOp_u, tk_ne9, tk_inj, if_false, if_true, false_and, and_false, Nat.reduceEqDiff, reduceIte, reduceCtorEq, and_true, true_and] using h9
  · have h9 := r_om R
    unfold Com
    simpa (disch := omega) only [gI_uI, nOp_u, tk_ne9, tk_inj, if_false, if_true, false_and, and_false, Nat.reduceEqDiff, reduceIte, reduceCtorEq, and_true, true_and] using h9
  · have h9 := r_b0 R
    unfold Cb0
    simpa (disch := omega) only [sP_wI, sP_wP, nB_u, tk_ne9, tk_inj, if_false, if_true, false_and, and_false, Nat.reduceEqDiff, reduceIte, reduceCtorEq, and_true, true_and] using h9
  · have h9 := r_bn R
    unfold Cbn
    simpa (disch := omega) only [sI_wI, sI_wP, nB_u, tk_ne9, tk_inj, if_false, if_true, false_and, and_false, Nat.reduceEqDiff, reduceIte, reduceCtorEq, and_true, true_and] using h9
  · have h9 := r_bk R
    unfold Cbk
    simpa (disch := omega) only [sP_wI, sP_wP, nB_u, kd_u, tk_ne9, tk_inj, if_false, if_true, false_and, and_false, Nat.reduceEqDiff, reduceIte, reduceCtorEq, and_true, true_and] using h9
  · have h9 := r_b2 R
    unfold Cb2
    simpa (disch := omega) only [sI_wI, sI_wP, gI_uI, nB_u, tk_ne9, tk_inj, if_false, if_true, false_and, and_false, Nat.reduceEqDiff, reduceIte, reduceCtorEq, and_true, true_and] using h9
  · have h9 := r_b3 R
    unfold Cb3
    simpa (disch := omega) only [sI_wI, sI_wP, gI_uI, nB_u, tk_ne9, tk_inj, if_false, if_true, false_and, and_false, Nat.reduceEqDiff, reduceIte, reduceCtorEq, and_true, true_and] using h9
  · have h9 := r_b4 R
    unfold Cb4
    simpa (disch := omega) only [sI_wI, sI_wP, gI_uI, nB_u, tk_ne9, tk_inj, if_false, if_true, false_and, and_false, Nat.reduceEqDiff, reduceIte, reduceCtorEq, and_true, true_and] using h9
  · have h9 := r_b5 R
    unfold Cb5
    simpa (disch := omega) only [sI_wI, sI_wP, gI_uI, nB_u, tk_ne9, tk_inj, if_false, if_true, false_and, and_false, Nat.reduceEqDiff, reduceIte, reduceCtorEq, and_true, true_and] using h9
  · have h9 := r_b6 R
    unfold Cb6
    simpa (disch := omega) only [sI_wI, sI_wP, gI_uI, nB_u, tk_ne9, tk_inj, if_false, if_true, false_and, and_false, Nat.reduceEqDiff, reduceIte, reduceCtorEq, and_true, true_and] using h9
  · have h9 := r_b7 R
    unfold Cb7
    simpa (disch := omega) only [sI_wI, sI_wP, gI_uI, nB_u, tk_ne9, tk_inj, if_false, if_true, false_and, and_false, Nat.reduceEqDiff, reduceIte, reduceCtorEq, and_true, true_and] using h9
  · have h9 := r_b8 R
    unfold Cb8
    simpa (disch := omega) only [sI_wI, sI_wP, gI_uI, nB_u, tk_ne9, tk_inj, if_false, if_true, false_and, and_false, Nat.reduceEqDiff, reduceIte, reduceCtorEq, and_true, true_and] using h9
  · have h9 := r_b9 R
    unfold Cb9
    simpa (disch := omega) only [sI_wI, sI_wP, gI_uI, nB_u, tk_ne9, tk_inj, if_false, if_true, false_and, and_false, Nat.reduceEqDiff, reduceIte, reduceCtorEq, and_true, true_and] using h9
  · have h9 := r_b10 R
    unfold Cb10
    simpa (disch := omega) only [sI_wI, sI_wP, gI_uI, nB_u, tk_ne9, tk_inj, if_false, if_true, false_and, and_false, Nat.reduceEqDiff, reduceIte, reduceCtorEq, and_true, true_and] using h9
  · have h9 := r_b11 R
    unfold Cb11
    simpa (disch := omega) only [sL_wI, sL_wP, gL_uI, nB_u, tk_ne9, tk_inj, if_false, if_true, false_and, and_false, Nat.reduceEqDiff, reduceIte, reduceCtorEq, and_true, true_and] using h9
  · have h9 := r_bK R
    unfold CbK
    simpa (disch := omega) only [gI_uI, nB_u, kd_u, tk_ne9, tk_inj, if_false, if_true, false_and, and_false, Nat.reduceEqDiff, reduceIte, reduceCtorEq, and_true, true_and] using h9
  · have h9 := r_bP R
    unfold CbP
    simpa (disch := omega) only [gI_uI, nB_u, pc_u, tk_ne9, tk_inj, if_false, if_true, false_and, and_false, Nat.reduceEqDiff, reduceIte, reduceCtorEq, and_true, true_and] using h9
  · have h9 := r_bO R
    unfold CbO
    simpa (disch := omega) only [gI_uI, nB_u, op_u, tk_ne9, tk_inj, if_false, if_true, false_and, and_false, Nat.reduceEqDiff, reduceIte, reduceCtorEq, and_true, true_and] using h9
  · have h9 := r_bW R
    unfold CbW
    simpa (disch := omega) only [gI_uI, nB_u, nOp_u, kd_u, op_u, tk_ne9, tk_inj, if_false, if_true, false_and, and_false, Nat.reduceEqDiff, reduceIte, reduceCtorEq, and_true, true_and] using h9
  · have h9 := r_bZ R
    unfold CbZ
    simpa (disch := omega) only [gI_uI, nB_u, pc_u, tk_ne9, tk_inj, if_false, if_true, false_and, and_false, Nat.reduceEqDiff, reduceIte, reduceCtorEq, and_true, true_and] using h9
  · have h9 := r_bF R
    unfold CbF
    simpa (disch := omega) only [gI_uI, nB_u, tk_ne9, tk_inj, if_false, if_true, false_and, and_false, Nat.reduceEqDiff, reduceIte, reduceCtorEq, and_true, true_and] using h9
  · have h9 := r_bS R
    unfold CbS
    simpa (disch := omega) only [gI_uI, nB_u, tk_ne9, tk_inj, if_false, if_true, false_and, and_false, Nat.reduceEqDiff, reduceIte, reduceCtorEq, and_true, true_and] using h9
  · have h9 := r_bC R
    unfold CbC
    simpa (disch := omega) only [gI_uI, nB_u, tk_ne9, tk_inj, if_false, if_true, false_and, and_false, Nat.reduceEqDiff, reduceIte, reduceCtorEq, and_true, true_and] using h9
  · have h9 := r_bT R
    unfold CbT
    simpa (disch := omega) only [gI_uI, nB_u, tk_ne9, tk_inj, if_false, if_true, false_and, and_false, Nat.reduceEqDiff, reduceIte, reduceCtorEq, and_true, true_and] using h9
  · have h9 := r_bU R
    unfold CbU
    simpa (disch := omega) only [gI_uI, nB_u, kd_u, tk_ne9, tk_inj, if_false, if_true, false_and, and_false, Nat.reduceEqDiff, reduceIte, reduceCtorEq, and_true, true_and] using h9
  · have h9 := r_bq R
    unfold Cbq
    simpa (disch := omega) only [nB_u, totp_u, tk_ne9, tk_inj, if_false, if_true, false_and, and_false, Nat.reduceEqDiff, reduceIte, reduceCtorEq, and_true, true_and] using h9
  · have h9 := r_ps R
    unfold Cps
    simpa (disch := omega) only [nB_u, nO_u, nInSt_u, nProm_u, tk_ne9, tk_inj, if_false, if_true, false_and, and_false, Nat.reduceEqDiff, reduceIte, reduceCtorEq, and_true, true_and] using h9
  · have h9 := r_bp R
    unfold Cbp
    simpa (disch := omega) only [gL_uI, nB_u, tk_ne9, tk_inj, if_false, if_true, false_and, and_false, Nat.reduceEqDiff, reduceIte, reduceCtorEq, and_true, true_and] using h9
  · have h9 := r_bc R
    unfold Cbc
    simpa (disch := omega) only [nB_u, hN_u, tot_u, tk_ne9, tk_inj, if_false, if_true, false_and, and_false, Nat.reduceEqDiff, reduceIte, reduceCtorEq, and_true, true_and] using h9
  · have h9 := r_fB R
    unfold CfB
    simpa (disch := omega) only [sX_wI, sX_wP, nB_u, tk_ne9, tk_inj, if_false, if_true, false_and, and_false, Nat.reduceEqDiff, reduceIte, reduceCtorEq, and_true, true_and] using h9
  · have h9 := r_fL R
    unfold CfL
    simpa (disch := omega) only [sX_wI, sX_wP, nLn_u, tk_ne9, tk_inj, if_false, if_true, false_and, and_false, Nat.reduceEqDiff, reduceIte, reduceCtorEq, and_true, true_and] using h9
  · have h9 := r_fO R
    unfold CfO
    simpa (disch := omega) only [sX_wI, sX_wP, nOp_u, tk_ne9, tk_inj, if_false, if_true, false_and, and_false, Nat.reduceEqDiff, reduceIte, reduceCtorEq, and_true, true_and] using h9
  · have h9 := r_fM R
    unfold CfM
    simpa (disch := omega) only [sX_wI, sX_wP, nM_u, tk_ne9, tk_inj, if_false, if_true, false_and, and_false, Nat.reduceEqDiff, reduceIte, reduceCtorEq, and_true, true_and] using h9
  · have h9 := r_fP R
    unfold CfP
    simpa (disch := omega) only [sX_wI, sX_wP, nP_u, tk_ne9, tk_inj, if_false, if_true, false_and, and_false, Nat.reduceEqDiff, reduceIte, reduceCtorEq, and_true, true_and] using h9
  · have h9 := r_fR R
    unfold CfR
    simpa (disch := omega) only [sX_wI, sX_wP, nO_u, tk_ne9, tk_inj, if_false, if_true, false_and, and_false, Nat.reduceEqDiff, reduceIte, reduceCtorEq, and_true, true_and] using h9
  · have h9 := r_fG R
    exact h9
  · have h9 := r_m0 R
    unfold Cm0
    simpa (disch := omega) only [sP_wI, sP_wP, nM_u, tk_ne9, tk_inj, if_false, if_true, false_and, and_false, Nat.reduceEqDiff, reduceIte, reduceCtorEq, and_true, true_and] using h9
  · have h9 := r_mn R
    unfold Cmn
    simpa (disch := omega) only [sI_wI, sI_wP, nM_u, tk_ne9, tk_inj, if_false, if_true, false_and, and_false, Nat.reduceEqDiff, reduceIte, reduceCtorEq, and_true, true_and] using h9
  · have h9 := r_m1 R
    unfold Cm1
    simpa (disch := omega) only [sI_wI, sI_wP, gI_uI, nM_u, tk_ne9, tk_inj, if_false, if_true, false_and, and_false, Nat.reduceEqDiff, reduceIte, reduceCtorEq, and_true, true_and] using h9
  · have h9 := r_m2 R
    unfold Cm2
    simpa (disch := omega) only [sI_wI, sI_wP, gI_uI, nM_u, tk_ne9, tk_inj, if_false, if_true, false_and, and_false, Nat.reduceEqDiff, reduceIte, reduceCtorEq, and_true, true_and] using h9
  · have h9 := r_m3 R
    unfold Cm3
    simpa (disch := omega) only [sI_wI, sI_wP, gI_uI, nM_u, tk_ne9, tk_inj, if_false, if_true, false_and, and_false, Nat.reduceEqDiff, reduceIte, reduceCtorEq, and_true, true_and] using h9
  · have h9 := r_m4 R
    unfold Cm4
    simpa (disch := omega) only [sI_wI, sI_wP, gI_uI, nM_u, tk_ne9, tk_inj, if_false, if_true, false_and, and_false, Nat.reduceEqDiff, reduceIte, reduceCtorEq, and_true, true_and] using h9
  · have h9 := r_m5 R
    unfold Cm5
    simpa (disch := omega) only [sI_wI, sI_wP, gI_uI, nM_u, tk_ne9, tk_inj, if_false, if_true, false_and, and_false, Nat.reduceEqDiff, reduceIte, reduceCtorEq, and_true, true_and] using h9
  · unfold Cm9
    intro x0_ h0
    have h9 := r_m9 R x0_ h0
    by_cases e1 : x0_ = m
    · subst e1
      (try simp (disch := omega) [sI_wI, sI_wP, sI_wL, sI_wN, sP_wI, sP_wP, sP_wL, sP_wN, sL_wI, sL_wP, sL_wL, sL_wN, sX_wI, sX_wP, sX_wL, sX_wN, gI_uI, gI_uL, gL_uI, gL_uL, tk_ne9, tk_inj, nB_u, nM_u, nP_u, nO_u, hN_u, nLn_u, nOp_u, lnP_u, pc_u, kd_u, op_u, pr_u, mInSt_u, mProm_u, nInSt_u, nProm_u, totp_u, tot_u, nB_l, nM_l, nP_l, nO_l, hN_l, nLn_l, nOp_l, lnP_l, pc_l, kd_l, op_l, pr_l, mInSt_l, mProm_l, nInSt_l, nProm_l, totp_l, tot_l, if_false, if_true, false_and, and_false, Nat.reduceEqDiff, reduceIte, reduceCtorEq, and_true, true_and]) <;> first | exact h9 | assumption | grind
    · (try simp (disch := omega) [sI_wI, sI_wP, sI_wL, sI_wN, sP_wI, sP_wP, sP_wL, sP_wN, sL_wI, sL_wP, sL_wL, sL_wN, sX_wI, sX_wP, sX_wL, sX_wN, gI_uI, gI_uL, gL_uI, gL_uL, tk_ne9, tk_inj, nB_u, nM_u, nP_u, nO_u, hN_u, nLn_u, nOp_u, lnP_u, pc_u, kd_u, op_u, pr_u, mInSt_u, mProm_u, nInSt_u, nProm_u, totp_u, tot_u, nB_l, nM_l, nP_l, nO_l, hN_l, nLn_l, nOp_l, lnP_l, pc_l, kd_l, op_l, pr_l, mInSt_l, mProm_l, nInSt_l, nProm_l, totp_l, tot_l, if_false, if_true, false_and, and_false, Nat.reduceEqDiff, reduceIte, reduceCtorEq, and_true, true_and, e1]) <;> first | exact h9 | assumption | grind
  · have h9 := r_m11 R
    unfold Cm11
    simpa (disch := omega) only [sI_wI, sI_wP, gI_uI, nM_u, tk_ne9, tk_inj, if_false, if_true, false_and, and_false, Nat.reduceEqDiff, reduceIte, reduceCtorEq, and_true, true_and] using h9
  · have h9 := r_m13 R
    unfold Cm13
    simpa (disch := omega) only [sI_wI, sI_wP, gI_uI, nM_u, tk_ne9, tk_inj, if_false, if_true, false_and, and_false, Nat.reduceEqDiff, reduceIte, reduceCtorEq, and_true, true_and] using h9
  · have h9 := r_m14 R
    unfold Cm14
    simpa (disch := omega) only [sI_wI, sI_wP, gI_uI, nM_u, tk_ne9, tk_inj, if_false, if_true, false_and, and_false, Nat.reduceEqDiff, reduceIte, reduceCtorEq, and_true, true_and] using h9
  · have h9 := r_m6 R
    unfold Cm6
    simpa (disch := omega) only [sP_wI, sP_wP, gI_uI, nM_u, tk_ne9, tk_inj, if_false, if_true, false_and, and_false, Nat.reduceEqDiff, reduceIte, reduceCtorEq, and_true, true_and] using h9
  · unfold Cm7
    intro x h0
    have h9 := r_m7 R x h0
    by_cases e1 : x = m
    · subst e1; simp [sP_wP, sP_wI, gI_uI, tp]
    · simpa [sP_wP, sP_wI, gI_uI, e1, tk_inj] using h9
  · unfold Cm8
    intro x h0
    have h9 := r_m8 R x h0
    by_cases e1 : x = m
    · subst e1; simp [sP_wP, sP_wI, gI_uI, tp]
    · simpa [sP_wP, sP_wI, gI_uI, e1, tk_inj] using h9
  · have h9 := r_m12 R
    unfold Cm12
    simpa (disch := omega) only [sP_wI, sP_wP, gI_uI, nM_u, tk_ne9, tk_inj, if_false, if_true, false_and, and_false, Nat.reduceEqDiff, reduceIte, reduceCtorEq, and_true, true_and] using h9
  · unfold Cm10
    intro x j1 h0 h1 h2
    have e1 : ¬ x = m := by
      intro q
      subst q
      have h3 : (-1 : Int32) = nI j1 := by simpa [gI_uI] using h2
      exact nI_ne1 (by have := r_nBx R; have h8 : j1 < nB M := h1; omega) h3.symm
    have h9 := r_m10 R x j1 h0 h1 (by simpa [gI_uI, e1] using h2)
    simpa [sI_wI, sI_wP, gI_uI, e1, tk_inj, tk_ne9] using h9
  · have h9 := r_mma R
    unfold Cmma
    simpa (disch := omega) only [gI_uI, nM_u, tk_ne9, tk_inj, if_false, if_true, false_and, and_false, Nat.reduceEqDiff, reduceIte, reduceCtorEq, and_true, true_and] using h9
  · unfold Cmmb
    intro x h0
    by_cases e1 : x = m
    · left; subst e1; simp [gI_uI]
    · rcases r_mmb R x h0 with h9 | h9
      · left; simpa [gI_uI, e1] using h9
      · right; simpa (disch := omega) [gI_uI, e1, nB_u, nP_u] using h9
  · have h9 := r_mmc R
    unfold Cmmc
    simpa (disch := omega) only [gI_uI, nM_u, tk_ne9, tk_inj, if_false, if_true, false_and, and_false, Nat.reduceEqDiff, reduceIte, reduceCtorEq, and_true, true_and] using h9
  · have h9 := r_mr29 R
    unfold Cmr29
    simpa (disch := omega) only [gI_uI, nM_u, tk_ne9, tk_inj, if_false, if_true, false_and, and_false, Nat.reduceEqDiff, reduceIte, reduceCtorEq, and_true, true_and] using h9
  · have h9 := r_mr30 R
    unfold Cmr30
    simpa (disch := omega) only [gI_uI, nM_u, tk_ne9, tk_inj, if_false, if_true, false_and, and_false, Nat.reduceEqDiff, reduceIte, reduceCtorEq, and_true, true_and] using h9
  · have h9 := r_mr31 R
    unfold Cmr31
    simpa (disch := omega) only [gI_uI, nM_u, tk_ne9, tk_inj, if_false, if_true, false_and, and_false, Nat.reduceEqDiff, reduceIte, reduceCtorEq, and_true, true_and] using h9
  · have h9 := r_mr32 R
    unfold Cmr32
    simpa (disch := omega) only [gI_uI, nM_u, tk_ne9, tk_inj, if_false, if_true, false_and, and_false, Nat.reduceEqDiff, reduceIte, reduceCtorEq, and_true, true_and] using h9
  · unfold Cmr35
    intro x h0
    have h9 := r_mr35 R x h0
    by_cases e1 : x = m
    · exact ⟨0, by simp [gI_uI, e1]; exact nI_0.symm, by omega⟩
    · simpa [gI_uI, e1] using h9
  · have h9 := r_mr39 R
    unfold Cmr39
    simpa (disch := omega) only [gI_uI, nM_u, tk_ne9, tk_inj, if_false, if_true, false_and, and_false, Nat.reduceEqDiff, reduceIte, reduceCtorEq, and_true, true_and] using h9
  · have h9 := r_mr40 R
    unfold Cmr40
    simpa (disch := omega) only [gI_uI, nM_u, tk_ne9, tk_inj, if_false, if_true, false_and, and_false, Nat.reduceEqDiff, reduceIte, reduceCtorEq, and_true, true_and] using h9
  · unfold Cmd
    intro x y h0 h1 h2 h3
    by_cases e1 : x = m
    · subst e1; simp [gI_uI]
    · have h3 : gI M 34 x = if y = m then -1 else gI M 34 y := by simpa [gI_uI, e1] using h3
      have g : gI (uI (uI (uI M 34 m (-1)) 36 m (-1)) 35 m 0) 34 x = gI M 34 x := by simp [gI_uI, e1]
      rw [g]
      by_cases e2 : y = m
      · simpa [e2] using h3
      · exact r_md R x y h0 h1 h2 (by simpa [e2] using h3)
  · unfold Cmw
    intro x y h0 h1 h2 h3
    by_cases e1 : x = m
    · subst e1; simp [gI_uI]
    · have h3 : gI M 36 x = if y = m then -1 else gI M 36 y := by simpa [gI_uI, e1] using h3
      have g : gI (uI (uI (uI M 34 m (-1)) 36 m (-1)) 35 m 0) 36 x = gI M 36 x := by simp [gI_uI, e1]
      rw [g]
      by_cases e2 : y = m
      · simpa [e2] using h3
      · exact r_mw R x y h0 h1 h2 (by simpa [e2] using h3)
  · have h9 := r_q0 R
    unfold Cq0
    simpa (disch := omega) only [sP_wI, sP_wP, nP_u, tk_ne9, tk_inj, if_false, if_true, false_and, and_false, Nat.reduceEqDiff, reduceIte, reduceCtorEq, and_true, true_and] using h9
  · have h9 := r_qn R
    unfold Cqn
    simpa (disch := omega) only [sI_wI, sI_wP, nP_u, tk_ne9, tk_inj, if_false, if_true, false_and, and_false, Nat.reduceEqDiff, reduceIte, reduceCtorEq, and_true, true_and] using h9
  · have h9 := r_q1 R
    unfold Cq1
    simpa (disch := omega) only [sI_wI, sI_wP, gI_uI, nP_u, tk_ne9, tk_inj, if_false, if_true, false_and, and_false, Nat.reduceEqDiff, reduceIte, reduceCtorEq, and_true, true_and] using h9
  · have h9 := r_q2 R
    unfold Cq2
    simpa (disch := omega) only [sI_wI, sI_wP, gI_uI, nP_u, tk_ne9, tk_inj, if_false, if_true, false_and, and_false, Nat.reduceEqDiff, reduceIte, reduceCtorEq, and_true, true_and] using h9
  · have h9 := r_q3 R
    unfold Cq3
    simpa (disch := omega) only [sI_wI, sI_wP, gI_uI, nP_u, tk_ne9, tk_inj, if_false, if_true, false_and, and_false, Nat.reduceEqDiff, reduceIte, reduceCtorEq, and_true, true_and] using h9
  · have h9 := r_q4 R
    unfold Cq4
    simpa (disch := omega) only [sP_wI, sP_wP, nP_u, tk_ne9, tk_inj, if_false, if_true, false_and, and_false, Nat.reduceEqDiff, reduceIte, reduceCtorEq, and_true, true_and] using h9
  · have h9 := r_q5 R
    unfold Cq5
    simpa (disch := omega) only [sP_wI, sP_wP, nP_u, tk_ne9, tk_inj, if_false, if_true, false_and, and_false, Nat.reduceEqDiff, reduceIte, reduceCtorEq, and_true, true_and] using h9
  · unfold Cq6
    intro x h0
    have hb : (-1 : Int32) ≠ nI x := fun q => nI_ne1 (by have := r_nPx R; have h8 : x < nP M := h0; omega) q.symm
    by_cases e1 : x = p
    · subst e1
      left
      refine ⟨by simp [sI_wI, sI_wP, tk_ne9], fun y hy => ?_⟩
      by_cases e2 : y = m
      · subst e2; simpa [gI_uI] using hb
      · have h5 : gI M 36 y ≠ nI x := by
          intro q
          have h6 := r_mw R y m hy hm e2 (q.trans hpm.symm)
          exact hb (h6.symm.trans q)
        simpa [gI_uI, e2] using h5
    · rcases r_q6 R x h0 with ⟨h1, h2⟩ | ⟨y, h1, h2, h3⟩
      · left
        refine ⟨by simpa [sI_wI, sI_wP, tk_ne9, tk_inj, e1] using h1, fun y hy => ?_⟩
        by_cases e2 : y = m
        · subst e2; simpa [gI_uI] using hb
        · simpa [gI_uI, e2] using h2 y hy
      · right
        have e2 : ¬ y = m := by
          intro q
          subst q
          exact e1 ((nI_eq (by have := r_nPx R; have h8 : x < nP M := h0; omega) (by have := r_nPx R; omega)).mp (h3.symm.trans hpm))
        exact ⟨y, h1, by simpa [sI_wI, sI_wP, tk_ne9, tk_inj, e1] using h2, by simpa [gI_uI, e2] using h3⟩
  · have h9 := r_ql R
    unfold Cql
    simpa (disch := omega) only [sI_wI, sI_wP, gI_uI, nP_u, tk_ne9, tk_inj, if_false, if_true, false_and, and_false, Nat.reduceEqDiff, reduceIte, reduceCtorEq, and_true, true_and] using h9
  · have h9 := r_qw R
    unfold Cqw
    simpa (disch := omega) only [sI_wI, sI_wP, gI_uI, nP_u, tk_ne9, tk_inj, if_false, if_true, false_and, and_false, Nat.reduceEqDiff, reduceIte, reduceCtorEq, and_true, true_and] using h9
  · have h9 := r_qm R
    unfold Cqm
    simpa (disch := omega) only [gI_uI, nP_u, tk_ne9, tk_inj, if_false, if_true, false_and, and_false, Nat.reduceEqDiff, reduceIte, reduceCtorEq, and_true, true_and] using h9
  · have h9 := r_qr R
    unfold Cqr
    simpa (disch := omega) only [gI_uI, nP_u, tk_ne9, tk_inj, if_false, if_true, false_and, and_false, Nat.reduceEqDiff, reduceIte, reduceCtorEq, and_true, true_and] using h9
  · have h9 := r_r0 R
    unfold Cr0
    simpa (disch := omega) only [sP_wI, sP_wP, nO_u, tk_ne9, tk_inj, if_false, if_true, false_and, and_false, Nat.reduceEqDiff, reduceIte, reduceCtorEq, and_true, true_and] using h9
  · have h9 := r_r1 R
    unfold Cr1
    simpa (disch := omega) only [sP_wI, sP_wP, gI_uI, nO_u, tk_ne9, tk_inj, if_false, if_true, false_and, and_false, Nat.reduceEqDiff, reduceIte, reduceCtorEq, and_true, true_and] using h9
  · have h9 := r_r2 R
    unfold Cr2
    simpa (disch := omega) only [sI_wI, sI_wP, gI_uI, nO_u, tk_ne9, tk_inj, if_false, if_true, false_and, and_false, Nat.reduceEqDiff, reduceIte, reduceCtorEq, and_true, true_and] using h9
  · have h9 := r_r3 R
    unfold Cr3
    simpa (disch := omega) only [sI_wI, sI_wP, gI_uI, nO_u, tk_ne9, tk_inj, if_false, if_true, false_and, and_false, Nat.reduceEqDiff, reduceIte, reduceCtorEq, and_true, true_and] using h9
  · have h9 := r_r4 R
    unfold Cr4
    simpa (disch := omega) only [sI_wI, sI_wP, gI_uI, nO_u, tk_ne9, tk_inj, if_false, if_true, false_and, and_false, Nat.reduceEqDiff, reduceIte, reduceCtorEq, and_true, true_and] using h9
  · have h9 := r_r5 R
    unfold Cr5
    simpa (disch := omega) only [sP_wI, sP_wP, gI_uI, nO_u, tk_ne9, tk_inj, if_false, if_true, false_and, and_false, Nat.reduceEqDiff, reduceIte, reduceCtorEq, and_true, true_and] using h9
  · have h9 := r_r6 R
    unfold Cr6
    simpa (disch := omega) only [sI_wI, sI_wP, gI_uI, nO_u, tk_ne9, tk_inj, if_false, if_true, false_and, and_false, Nat.reduceEqDiff, reduceIte, reduceCtorEq, and_true, true_and] using h9
  · have h9 := r_rk R
    unfold Crk
    simpa (disch := omega) only [gI_uI, nO_u, tk_ne9, tk_inj, if_false, if_true, false_and, and_false, Nat.reduceEqDiff, reduceIte, reduceCtorEq, and_true, true_and] using h9
  · have h9 := r_rp R
    unfold Crp
    simpa (disch := omega) only [gI_uI, nO_u, tk_ne9, tk_inj, if_false, if_true, false_and, and_false, Nat.reduceEqDiff, reduceIte, reduceCtorEq, and_true, true_and] using h9
  · have h9 := r_rq R
    unfold Crq
    simpa (disch := omega) only [gI_uI, nO_u, pr_u, tk_ne9, tk_inj, if_false, if_true, false_and, and_false, Nat.reduceEqDiff, reduceIte, reduceCtorEq, and_true, true_and] using h9
  · have h9 := r_rr R
    unfold Crr
    simpa (disch := omega) only [gI_uI, nO_u, pr_u, tk_ne9, tk_inj, if_false, if_true, false_and, and_false, Nat.reduceEqDiff, reduceIte, reduceCtorEq, and_true, true_and] using h9
  · have h9 := r_rs R
    unfold Crs
    simpa (disch := omega) only [gI_uI, nB_u, nO_u, tk_ne9, tk_inj, if_false, if_true, false_and, and_false, Nat.reduceEqDiff, reduceIte, reduceCtorEq, and_true, true_and] using h9
set_option maxHeartbeats 8000000 in
theorem rel_drawn {e : Nat} {a : Sg} {M : MS} (R : Rel e a M) (m j : Nat) (hm : m < nM M) (hjm : gI M 34 m = nI j) (hj : j < nB M) (v : Int32) : Rel e (wI a (tk 4 m) 10 v) (uI M 124 j v) := by
  unfold Rel
  refine ⟨?_, ?_, ?_, ?_, ?_, ?_, ?_, ?_, ?_, ?_, ?_, ?_, ?_, ?_, ?_, ?_, ?_, ?_, ?_, ?_, ?_, ?_, ?_, ?_, ?_, ?_, ?_, ?_, ?_, ?_, ?_, ?_, ?_, ?_, ?_, ?_, ?_, ?_, ?_, ?_, ?_, ?_, ?_, ?_, ?_, ?_, ?_, ?_, ?_, ?_, ?_, ?_, ?_, ?_, ?_, ?_, ?_, ?_, ?_, ?_, ?_, ?_, ?_, ?_, ?_, ?_, ?_, ?_, ?_, ?_, ?_, ?_, ?_, ?_, ?_, ?_, ?_, ?_, ?_, ?_, ?_, ?_, ?_, ?_, ?_, ?_, ?_, ?_, ?_, ?_, ?_, ?_, ?_, ?_, ?_, ?_, ?_, ?_, ?_, ?_, ?_, ?_, ?_, ?_, ?_, ?_, ?_, ?_, ?_, ?_, ?_, ?_, ?_, ?_, ?_, ?_, ?_, ?_, ?_, ?_, ?_, ?_, ?_, ?_, ?_, ?_, ?_, ?_, ?_, ?_, ?_, ?_, ?_, ?_, ?_, ?_, ?_, ?_, ?_, ?_, ?_, ?_, ?_, ?_, ?_, ?_, ?_, ?_, ?_⟩
  · have h9 := r_shm R
    exact h9
  · have h9 := r_px0 R
    exact h9
  · have h9 := r_px1 R
    exact h9
  · have h9 := r_px2 R
    exact h9
  · have h9 := r_pf0 R
    exact h9
  · have h9 := r_pf1 R
    exact h9
  · have h9 := r_pf3 R
    exact h9
  · have h9 := r_ps0 R
    exact h9
  · have h9 := r_ps2 R
    exact h9
  · have h9 := r_ps4 R
    exact h9
  · have h9 := r_pk R
    exact h9
  · have h9 := r_pkl R
    exact h9
  · have h9 := r_pko R
    exact h9
  · have h9 := r_ghour R
    unfold Cghour
    simpa (disch := omega) only [sI_wI, gI_uI, tk_ne9, tk_inj, if_false, if_true, false_and, and_false, Nat.reduceEqDiff, reduceIte, reduceCtorEq, and_true, true_and] using h9
  · have h9 := r_gstand R
    unfold Cgstand
    simpa (disch := omega) only [sI_wI, gI_uI, tk_ne9, tk_inj, if_false, if_true, false_and, and_false, Nat.reduceEqDiff, reduceIte, reduceCtorEq, and_true, true_and] using h9
  · have h9 := r_gbought R
    unfold Cgbought
    simpa (disch := omega) only [sI_wI, gI_uI, tk_ne9, tk_inj, if_false, if_true, false_and, and_false, Nat.reduceEqDiff, reduceIte, reduceCtorEq, and_true, true_and] using h9
  · have h9 := r_gmach R
    unfold Cgmach
    simpa (disch := omega) only [sI_wI, gI_uI, tk_ne9, tk_inj, if_false, if_true, false_and, and_false, Nat.reduceEqDiff, reduceIte, reduceCtorEq, and_true, true_and] using h9
  · have h9 := r_gpers R
    unfold Cgpers
    simpa (disch := omega) only [sI_wI, gI_uI, tk_ne9, tk_inj, if_false, if_true, false_and, and_false, Nat.reduceEqDiff, reduceIte, reduceCtorEq, and_true, true_and] using h9
  · have h9 := r_gworked R
    unfold Cgworked
    simpa (disch := omega) only [sI_wI, gI_uI, tk_ne9, tk_inj, if_false, if_true, false_and, and_false, Nat.reduceEqDiff, reduceIte, reduceCtorEq, and_true, true_and] using h9
  · have h9 := r_grep R
    unfold Cgrep
    simpa (disch := omega) only [sI_wI, gI_uI, tk_ne9, tk_inj, if_false, if_true, false_and, and_false, Nat.reduceEqDiff, reduceIte, reduceCtorEq, and_true, true_and] using h9
  · have h9 := r_gbat R
    unfold Cgbat
    simpa (disch := omega) only [sI_wI, gI_uI, tk_ne9, tk_inj, if_false, if_true, false_and, and_false, Nat.reduceEqDiff, reduceIte, reduceCtorEq, and_true, true_and] using h9
  · have h9 := r_gord R
    unfold Cgord
    simpa (disch := omega) only [sI_wI, gI_uI, tk_ne9, tk_inj, if_false, if_true, false_and, and_false, Nat.reduceEqDiff, reduceIte, reduceCtorEq, and_true, true_and] using h9
  · have h9 := r_gq R
    unfold Cgq
    simpa (disch := omega) only [sI_wI, gI_uI, tk_ne9, tk_inj, if_false, if_true, false_and, and_false, Nat.reduceEqDiff, reduceIte, reduceCtorEq, and_true, true_and] using h9
  · have h9 := r_nB R
    unfold CnB
    simpa (disch := omega) only [gI_uI, nB_u, tk_ne9, tk_inj, if_false, if_true, false_and, and_false, Nat.reduceEqDiff, reduceIte, reduceCtorEq, and_true, true_and] using h9
  · have h9 := r_nBx R
    unfold CnBx
    simpa (disch := omega) only [nB_u, tk_ne9, tk_inj, if_false, if_true, false_and, and_false, Nat.reduceEqDiff, reduceIte, reduceCtorEq, and_true, true_and] using h9
  · have h9 := r_nM R
    unfold CnM
    simpa (disch := omega) only [gI_uI, nM_u, tk_ne9, tk_inj, if_false, if_true, false_and, and_false, Nat.reduceEqDiff, reduceIte, reduceCtorEq, and_true, true_and] using h9
  · have h9 := r_nMx R
    unfold CnMx
    simpa (disch := omega) only [nM_u, tk_ne9, tk_inj, if_false, if_true, false_and, and_false, Nat.reduceEqDiff, reduceIte, reduceCtorEq, and_true, true_and] using h9
  · have h9 := r_nP R
    unfold CnP
    simpa (disch := omega) only [gI_uI, nP_u, tk_ne9, tk_inj, if_false, if_true, false_and, and_false, Nat.reduceEqDiff, reduceIte, reduceCtorEq, and_true, true_and] using h9
  · have h9 := r_nPx R
    unfold CnPx
    simpa (disch := omega) only [nP_u, tk_ne9, tk_inj, if_false, if_true, false_and, and_false, Nat.reduceEqDiff, reduceIte, reduceCtorEq, and_true, true_and] using h9
  · have h9 := r_nO R
    unfold CnO
    simpa (disch := omega) only [gI_uI, nO_u, tk_ne9, tk_inj, if_false, if_true, false_and, and_false, Nat.reduceEqDiff, reduceIte, reduceCtorEq, and_true, true_and] using h9
  · have h9 := r_nOx R
    unfold CnOx
    simpa (disch := omega) only [nO_u, tk_ne9, tk_inj, if_false, if_true, false_and, and_false, Nat.reduceEqDiff, reduceIte, reduceCtorEq, and_true, true_and] using h9
  · have h9 := r_hr R
    unfold Chr
    simpa (disch := omega) only [gI_uI, hN_u, tk_ne9, tk_inj, if_false, if_true, false_and, and_false, Nat.reduceEqDiff, reduceIte, reduceCtorEq, and_true, true_and] using h9
  · have h9 := r_hrx R
    unfold Chrx
    simpa (disch := omega) only [hN_u, tk_ne9, tk_inj, if_false, if_true, false_and, and_false, Nat.reduceEqDiff, reduceIte, reduceCtorEq, and_true, true_and] using h9
  · have h9 := r_stb R
    unfold Cstb
    simpa (disch := omega) only [gI_uI, tk_ne9, tk_inj, if_false, if_true, false_and, and_false, Nat.reduceEqDiff, reduceIte, reduceCtorEq, and_true, true_and] using h9
  · have h9 := r_ex R
    exact h9
  · have h9 := r_k0 R
    unfold Ck0
    simpa (disch := omega) only [sI_wI, tk_ne9, tk_inj, if_false, if_true, false_and, and_false, Nat.reduceEqDiff, reduceIte, reduceCtorEq, and_true, true_and] using h9
  · have h9 := r_k1 R
    unfold Ck1
    simpa (disch := omega) only [sI_wI, gI_uI, tk_ne9, tk_inj, if_false, if_true, false_and, and_false, Nat.reduceEqDiff, reduceIte, reduceCtorEq, and_true, true_and] using h9
  · have h9 := r_k2 R
    unfold Ck2
    simpa (disch := omega) only [sI_wI, gI_uI, tk_ne9, tk_inj, if_false, if_true, false_and, and_false, Nat.reduceEqDiff, reduceIte, reduceCtorEq, and_true, true_and] using h9
  · have h9 := r_k3 R
    unfold Ck3
    simpa (disch := omega) only [sI_wI, gI_uI, tk_ne9, tk_inj, if_false, if_true, false_and, and_false, Nat.reduceEqDiff, reduceIte, reduceCtorEq, and_true, true_and] using h9
  · have h9 := r_k5 R
    unfold Ck5
    simpa (disch := omega) only [sI_wI, gI_uI, tk_ne9, tk_inj, if_false, if_true, false_and, and_false, Nat.reduceEqDiff, reduceIte, reduceCtorEq, and_true, true_and] using h9
  · have h9 := r_k7 R
    unfold Ck7
    simpa (disch := omega) only [sI_wI, gI_uI, tk_ne9, tk_inj, if_false, if_true, false_and, and_false, Nat.reduceEqDiff, reduceIte, reduceCtorEq, and_true, true_and] using h9
  · have h9 := r_k8 R
    unfold Ck8
    simpa (disch := omega) only [sI_wI, gI_uI, tk_ne9, tk_inj, if_false, if_true, false_and, and_false, Nat.reduceEqDiff, reduceIte, reduceCtorEq, and_true, true_and] using h9
  · have h9 := r_k9 R
    unfold Ck9
    simpa (disch := omega) only [sI_wI, gI_uI, tk_ne9, tk_inj, if_false, if_true, false_and, and_false, Nat.reduceEqDiff, reduceIte, reduceCtorEq, and_true, true_and] using h9
  · have h9 := r_k10 R
    unfold Ck10
    simpa (disch := omega) only [sI_wI, nB_u, mInSt_u, tk_ne9, tk_inj, if_false, if_true, false_and, and_false, Nat.reduceEqDiff, reduceIte, reduceCtorEq, and_true, true_and] using h9
  · have h9 := r_k11 R
    unfold Ck11
    simpa (disch := omega) only [sI_wI, nO_u, mProm_u, tk_ne9, tk_inj, if_false, if_true, false_and, and_false, Nat.reduceEqDiff, reduceIte, reduceCtorEq, and_true, true_and] using h9
  · have h9 := r_k12 R
    unfold Ck12
    simpa (disch := omega) only [sI_wI, tk_ne9, tk_inj, if_false, if_true, false_and, and_false, Nat.reduceEqDiff, reduceIte, reduceCtorEq, and_true, true_and] using h9
  · have h9 := r_ksa R
    unfold Cksa
    simpa (disch := omega) only [gI_uI, tk_ne9, tk_inj, if_false, if_true, false_and, and_false, Nat.reduceEqDiff, reduceIte, reduceCtorEq, and_true, true_and] using h9
  · have h9 := r_ksb R
    unfold Cksb
    simpa (disch := omega) only [gI_uI, nOp_u, tk_ne9, tk_inj, if_false, if_true, false_and, and_false, Nat.reduceEqDiff, reduceIte, reduceCtorEq, and_true, true_and] using h9
  · have h9 := r_ksc R
    unfold Cksc
    simpa (disch := omega) only [gI_uI, nLn_u, nOp_u, tk_ne9, tk_inj, if_false, if_true, false_and, and_false, Nat.reduceEqDiff, reduceIte, reduceCtorEq, and_true, true_and] using h9
  · have h9 := r_kw R
    unfold Ckw
    simpa (disch := omega) only [gI_uI, tk_ne9, tk_inj, if_false, if_true, false_and, and_false, Nat.reduceEqDiff, reduceIte, reduceCtorEq, and_true, true_and] using h9
  · have h9 := r_kl R
    unfold Ckl
    simpa (disch := omega) only [gI_uI, nLn_u, tk_ne9, tk_inj, if_false, if_true, false_and, and_false, Nat.reduceEqDiff, reduceIte, reduceCtorEq, and_true, true_and] using h9
  · have h9 := r_ko R
    unfold Cko
    simpa (disch := omega) only [gI_uI, nOp_u, tk_ne9, tk_inj, if_false, if_true, false_and, and_false, Nat.reduceEqDiff, reduceIte, reduceCtorEq, and_true, true_and] using h9
  · have h9 := r_kp R
    unfold Ckp
    simpa (disch := omega) only [gI_uI, tk_ne9, tk_inj, if_false, if_true, false_and, and_false, Nat.reduceEqDiff, reduceIte, reduceCtorEq, and_true, true_and] using h9
  · have h9 := r_l0 R
    unfold Cl0
    simpa (disch := omega) only [sP_wI, nLn_u, tk_ne9, tk_inj, if_false, if_true, false_and, and_false, Nat.reduceEqDiff, reduceIte, reduceCtorEq, and_true, true_and] using h9
  · have h9 := r_l1 R
    unfold Cl1
    simpa (disch := omega) only [sP_wI, nLn_u, lnP_u, tk_ne9, tk_inj, if_false, if_true, false_and, and_false, Nat.reduceEqDiff, reduceIte, reduceCtorEq, and_true, true_and] using h9
  · have h9 := r_l2 R
    unfold Cl2
    simpa (disch := omega) only [sI_wI, gI_uI, nLn_u, tk_ne9, tk_inj, if_false, if_true, false_and, and_false, Nat.reduceEqDiff, reduceIte, reduceCtorEq, and_true, true_and] using h9
  · have h9 := r_l3 R
    unfold Cl3
    simpa (disch := omega) only [sP_wI, gI_uI, nLn_u, tk_ne9, tk_inj, if_false, if_true, false_and, and_false, Nat.reduceEqDiff, reduceIte, reduceCtorEq, and_true, true_and] using h9
  · have h9 := r_lm R
    unfold Clm
    simpa (disch := omega) only [gI_uI, nLn_u, lnP_u, tk_ne9, tk_inj, if_false, if_true, false_and, and_false, Nat.reduceEqDiff, reduceIte, reduceCtorEq, and_true, true_and] using h9
  · have h9 := r_o0 R
    unfold Co0
    simpa (disch := omega) only [sP_wI, nOp_u, tk_ne9, tk_inj, if_false, if_true, false_and, and_false, Nat.reduceEqDiff, reduceIte, reduceCtorEq, and_true, true_and] using h9
  · have h9 := r_o1 R
    unfold Co1
    simpa (disch := omega) only [sI_wI, gI_uI, nOp_u, tk_ne9, tk_inj, if_false, if_true, false_and, and_false, Nat.reduceEqDiff, reduceIte, reduceCtorEq, and_true, true_and] using h9
  · have h9 := r_o2 R
    unfold Co2
    simpa (disch := omega) only [sI_wI, gI_uI, nOp_u, tk_ne9, tk_inj, if_false, if_true, false_and, and_false, Nat.reduceEqDiff, reduceIte, reduceCtorEq, and_true, true_and] using h9
  · have h9 := r_o3 R
    unfold Co3
    simpa (disch := omega) only [sI_wI, gI_uI, nOp_u, tk_ne9, tk_inj, if_false, if_true, false_and, and_false, Nat.reduceEqDiff, reduceIte, reduceCtorEq, and_true, true_and] using h9
  · have h9 := r_om R
    unfold Com
    simpa (disch := omega) only [gI_uI, nOp_u, tk_ne9, tk_inj, if_false, if_true, false_and, and_false, Nat.reduceEqDiff, reduceIte, reduceCtorEq, and_true, true_and] using h9
  · have h9 := r_b0 R
    unfold Cb0
    simpa (disch := omega) only [sP_wI, nB_u, tk_ne9, tk_inj, if_false, if_true, false_and, and_false, Nat.reduceEqDiff, reduceIte, reduceCtorEq, and_true, true_and] using h9
  · have h9 := r_bn R
    unfold Cbn
    simpa (disch := omega) only [sI_wI, nB_u, tk_ne9, tk_inj, if_false, if_true, false_and, and_false, Nat.reduceEqDiff, reduceIte, reduceCtorEq, and_true, true_and] using h9
  · have h9 := r_bk R
    unfold Cbk
    simpa (disch := omega) only [sP_wI, nB_u, kd_u, tk_ne9, tk_inj, if_false, if_true, false_and, and_false, Nat.reduceEqDiff, reduceIte, reduceCtorEq, and_true, true_and] using h9
  · have h9 := r_b2 R
    unfold Cb2
    simpa (disch := omega) only [sI_wI, gI_uI, nB_u, tk_ne9, tk_inj, if_false, if_true, false_and, and_false, Nat.reduceEqDiff, reduceIte, reduceCtorEq, and_true, true_and] using h9
  · have h9 := r_b3 R
    unfold Cb3
    simpa (disch := omega) only [sI_wI, gI_uI, nB_u, tk_ne9, tk_inj, if_false, if_true, false_and, and_false, Nat.reduceEqDiff, reduceIte, reduceCtorEq, and_true, true_and] using h9
  · have h9 := r_b4 R
    unfold Cb4
    simpa (disch := omega) only [sI_wI, gI_uI, nB_u, tk_ne9, tk_inj, if_false, if_true, false_and, and_false, Nat.reduceEqDiff, reduceIte, reduceCtorEq, and_true, true_and] using h9
  · have h9 := r_b5 R
    unfold Cb5
    simpa (disch := omega) only [sI_wI, gI_uI, nB_u, tk_ne9, tk_inj, if_false, if_true, false_and, and_false, Nat.reduceEqDiff, reduceIte, reduceCtorEq, and_true, true_and] using h9
  · have h9 := r_b6 R
    unfold Cb6
    simpa (disch := omega) only [sI_wI, gI_uI, nB_u, tk_ne9, tk_inj, if_false, if_true, false_and, and_false, Nat.reduceEqDiff, reduceIte, reduceCtorEq, and_true, true_and] using h9
  · have h9 := r_b7 R
    unfold Cb7
    simpa (disch := omega) only [sI_wI, gI_uI, nB_u, tk_ne9, tk_inj, if_false, if_true, false_and, and_false, Nat.reduceEqDiff, reduceIte, reduceCtorEq, and_true, true_and] using h9
  · have h9 := r_b8 R
    unfold Cb8
    simpa (disch := omega) only [sI_wI, gI_uI, nB_u, tk_ne9, tk_inj, if_false, if_true, false_and, and_false, Nat.reduceEqDiff, reduceIte, reduceCtorEq, and_true, true_and] using h9
  · have h9 := r_b9 R
    unfold Cb9
    simpa (disch := omega) only [sI_wI, gI_uI, nB_u, tk_ne9, tk_inj, if_false, if_true, false_and, and_false, Nat.reduceEqDiff, reduceIte, reduceCtorEq, and_true, true_and] using h9
  · have h9 := r_b10 R
    unfold Cb10
    simpa (disch := omega) only [sI_wI, gI_uI, nB_u, tk_ne9, tk_inj, if_false, if_true, false_and, and_false, Nat.reduceEqDiff, reduceIte, reduceCtorEq, and_true, true_and] using h9
  · have h9 := r_b11 R
    unfold Cb11
    simpa (disch := omega) only [sL_wI, gL_uI, nB_u, tk_ne9, tk_inj, if_false, if_true, false_and, and_false, Nat.reduceEqDiff, reduceIte, reduceCtorEq, and_true, true_and] using h9
  · have h9 := r_bK R
    unfold CbK
    simpa (disch := omega) only [gI_uI, nB_u, kd_u, tk_ne9, tk_inj, if_false, if_true, false_and, and_false, Nat.reduceEqDiff, reduceIte, reduceCtorEq, and_true, true_and] using h9
  · have h9 := r_bP R
    unfold CbP
    simpa (disch := omega) only [gI_uI, nB_u, pc_u, tk_ne9, tk_inj, if_false, if_true, false_and, and_false, Nat.reduceEqDiff, reduceIte, reduceCtorEq, and_true, true_and] using h9
  · have h9 := r_bO R
    unfold CbO
    simpa (disch := omega) only [gI_uI, nB_u, op_u, tk_ne9, tk_inj, if_false, if_true, false_and, and_false, Nat.reduceEqDiff, reduceIte, reduceCtorEq, and_true, true_and] using h9
  · have h9 := r_bW R
    unfold CbW
    simpa (disch := omega) only [gI_uI, nB_u, nOp_u, kd_u, op_u, tk_ne9, tk_inj, if_false, if_true, false_and, and_false, Nat.reduceEqDiff, reduceIte, reduceCtorEq, and_true, true_and] using h9
  · have h9 := r_bZ R
    unfold CbZ
    simpa (disch := omega) only [gI_uI, nB_u, pc_u, tk_ne9, tk_inj, if_false, if_true, false_and, and_false, Nat.reduceEqDiff, reduceIte, reduceCtorEq, and_true, true_and] using h9
  · have h9 := r_bF R
    unfold CbF
    simpa (disch := omega) only [gI_uI, nB_u, tk_ne9, tk_inj, if_false, if_true, false_and, and_false, Nat.reduceEqDiff, reduceIte, reduceCtorEq, and_true, true_and] using h9
  · have h9 := r_bS R
    unfold CbS
    simpa (disch := omega) only [gI_uI, nB_u, tk_ne9, tk_inj, if_false, if_true, false_and, and_false, Nat.reduceEqDiff, reduceIte, reduceCtorEq, and_true, true_and] using h9
  · have h9 := r_bC R
    unfold CbC
    simpa (disch := omega) only [gI_uI, nB_u, tk_ne9, tk_inj, if_false, if_true, false_and, and_false, Nat.reduceEqDiff, reduceIte, reduceCtorEq, and_true, true_and] using h9
  · have h9 := r_bT R
    unfold CbT
    simpa (disch := omega) only [gI_uI, nB_u, tk_ne9, tk_inj, if_false, if_true, false_and, and_false, Nat.reduceEqDiff, reduceIte, reduceCtorEq, and_true, true_and] using h9
  · have h9 := r_bU R
    unfold CbU
    simpa (disch := omega) only [gI_uI, nB_u, kd_u, tk_ne9, tk_inj, if_false, if_true, false_and, and_false, Nat.reduceEqDiff, reduceIte, reduceCtorEq, and_true, true_and] using h9
  · have h9 := r_bq R
    unfold Cbq
    simpa (disch := omega) only [nB_u, totp_u, tk_ne9, tk_inj, if_false, if_true, false_and, and_false, Nat.reduceEqDiff, reduceIte, reduceCtorEq, and_true, true_and] using h9
  · have h9 := r_ps R
    unfold Cps
    simpa (disch := omega) only [nB_u, nO_u, nInSt_u, nProm_u, tk_ne9, tk_inj, if_false, if_true, false_and, and_false, Nat.reduceEqDiff, reduceIte, reduceCtorEq, and_true, true_and] using h9
  · have h9 := r_bp R
    unfold Cbp
    simpa (disch := omega) only [gL_uI, nB_u, tk_ne9, tk_inj, if_false, if_true, false_and, and_false, Nat.reduceEqDiff, reduceIte, reduceCtorEq, and_true, true_and] using h9
  · have h9 := r_bc R
    unfold Cbc
    simpa (disch := omega) only [nB_u, hN_u, tot_u, tk_ne9, tk_inj, if_false, if_true, false_and, and_false, Nat.reduceEqDiff, reduceIte, reduceCtorEq, and_true, true_and] using h9
  · have h9 := r_fB R
    unfold CfB
    simpa (disch := omega) only [sX_wI, nB_u, tk_ne9, tk_inj, if_false, if_true, false_and, and_false, Nat.reduceEqDiff, reduceIte, reduceCtorEq, and_true, true_and] using h9
  · have h9 := r_fL R
    unfold CfL
    simpa (disch := omega) only [sX_wI, nLn_u, tk_ne9, tk_inj, if_false, if_true, false_and, and_false, Nat.reduceEqDiff, reduceIte, reduceCtorEq, and_true, true_and] using h9
  · have h9 := r_fO R
    unfold CfO
    simpa (disch := omega) only [sX_wI, nOp_u, tk_ne9, tk_inj, if_false, if_true, false_and, and_false, Nat.reduceEqDiff, reduceIte, reduceCtorEq, and_true, true_and] using h9
  · have h9 := r_fM R
    unfold CfM
    simpa (disch := omega) only [sX_wI, nM_u, tk_ne9, tk_inj, if_false, if_true, false_and, and_false, Nat.reduceEqDiff, reduceIte, reduceCtorEq, and_true, true_and] using h9
  · have h9 := r_fP R
    unfold CfP
    simpa (disch := omega) only [sX_wI, nP_u, tk_ne9, tk_inj, if_false, if_true, false_and, and_false, Nat.reduceEqDiff, reduceIte, reduceCtorEq, and_true, true_and] using h9
  · have h9 := r_fR R
    unfold CfR
    simpa (disch := omega) only [sX_wI, nO_u, tk_ne9, tk_inj, if_false, if_true, false_and, and_false, Nat.reduceEqDiff, reduceIte, reduceCtorEq, and_true, true_and] using h9
  · have h9 := r_fG R
    exact h9
  · have h9 := r_m0 R
    unfold Cm0
    simpa (disch := omega) only [sP_wI, nM_u, tk_ne9, tk_inj, if_false, if_true, false_and, and_false, Nat.reduceEqDiff, reduceIte, reduceCtorEq, and_true, true_and] using h9
  · have h9 := r_mn R
    unfold Cmn
    simpa (disch := omega) only [sI_wI, nM_u, tk_ne9, tk_inj, if_false, if_true, false_and, and_false, Nat.reduceEqDiff, reduceIte, reduceCtorEq, and_true, true_and] using h9
  · have h9 := r_m1 R
    unfold Cm1
    simpa (disch := omega) only [sI_wI, gI_uI, nM_u, tk_ne9, tk_inj, if_false, if_true, false_and, and_false, Nat.reduceEqDiff, reduceIte, reduceCtorEq, and_true, true_and] using h9
  · have h9 := r_m2 R
    unfold Cm2
    simpa (disch := omega) only [sI_wI, gI_uI, nM_u, tk_ne9, tk_inj, if_false, if_true, false_and, and_false, Nat.reduceEqDiff, reduceIte, reduceCtorEq, and_true, true_and] using h9
  · have h9 := r_m3 R
    unfold Cm3
    simpa (disch := omega) only [sI_wI, gI_uI, nM_u, tk_ne9, tk_inj, if_false, if_true, false_and, and_false, Nat.reduceEqDiff, reduceIte, reduceCtorEq, and_true, true_and] using h9
  · have h9 := r_m4 R
    unfold Cm4
    simpa (disch := omega) only [sI_wI, gI_uI, nM_u, tk_ne9, tk_inj, if_false, if_true, false_and, and_false, Nat.reduceEqDiff, reduceIte, reduceCtorEq, and_true, true_and] using h9
  · have h9 := r_m5 R
    unfold Cm5
    simpa (disch := omega) only [sI_wI, gI_uI, nM_u, tk_ne9, tk_inj, if_false, if_true, false_and, and_false, Nat.reduceEqDiff, reduceIte, reduceCtorEq, and_true, true_and] using h9
  · have h9 := r_m9 R
    unfold Cm9
    simpa (disch := omega) only [sI_wI, gI_uI, nM_u, tk_ne9, tk_inj, if_false, if_true, false_and, and_false, Nat.reduceEqDiff, reduceIte, reduceCtorEq, and_true, true_and] using h9
  · have h9 := r_m11 R
    unfold Cm11
    simpa (disch := omega) only [sI_wI, gI_uI, nM_u, tk_ne9, tk_inj, if_false, if_true, false_and, and_false, Nat.reduceEqDiff, reduceIte, reduceCtorEq, and_true, true_and] using h9
  · have h9 := r_m13 R
    unfold Cm13
    simpa (disch := omega) only [sI_wI, gI_uI, nM_u, tk_ne9, tk_inj, if_false, if_true, false_and, and_false, Nat.reduceEqDiff, reduceIte, reduceCtorEq, and_true, true_and] using h9
  · have h9 := r_m14 R
    unfold Cm14
    simpa (disch := omega) only [sI_wI, gI_uI, nM_u, tk_ne9, tk_inj, if_false, if_true, false_and, and_false, Nat.reduceEqDiff, reduceIte, reduceCtorEq, and_true, true_and] using h9
  · have h9 := r_m6 R
    unfold Cm6
    simpa (disch := omega) only [sP_wI, gI_uI, nM_u, tk_ne9, tk_inj, if_false, if_true, false_and, and_false, Nat.reduceEqDiff, reduceIte, reduceCtorEq, and_true, true_and] using h9
  · have h9 := r_m7 R
    unfold Cm7
    simpa (disch := omega) only [sP_wI, gI_uI, nM_u, tk_ne9, tk_inj, if_false, if_true, false_and, and_false, Nat.reduceEqDiff, reduceIte, reduceCtorEq, and_true, true_and] using h9
  · have h9 := r_m8 R
    unfold Cm8
    simpa (disch := omega) only [sP_wI, gI_uI, nM_u, tk_ne9, tk_inj, if_false, if_true, false_and, and_false, Nat.reduceEqDiff, reduceIte, reduceCtorEq, and_true, true_and] using h9
  · have h9 := r_m12 R
    unfold Cm12
    simpa (disch := omega) only [sP_wI, gI_uI, nM_u, tk_ne9, tk_inj, if_false, if_true, false_and, and_false, Nat.reduceEqDiff, reduceIte, reduceCtorEq, and_true, true_and] using h9
  · unfold Cm10
    intro x j1 h0 h1 h2
    have h2 : gI M 34 x = nI j1 := by simpa [gI_uI] using h2
    have hB := r_nBx R
    have h1 : j1 < nB M := h1
    by_cases e1 : x = m
    · subst e1
      have e2 : j = j1 := (nI_eq (by omega) (by omega)).mp (hjm.symm.trans h2)
      subst e2; simp [sI_wI, gI_uI]
    · have e2 : ¬ j1 = j := by
        intro q
        subst q
        have h6 := r_md R x m h0 hm e1 (h2.trans hjm.symm)
        exact nI_ne1 (show j1 < 2 ^ 31 - 1 by omega) (h2.symm.trans h6)
      simpa [sI_wI, gI_uI, tk_inj, e1, e2] using r_m10 R x j1 h0 h1 h2
  · have h9 := r_mma R
    unfold Cmma
    simpa (disch := omega) only [gI_uI, nM_u, tk_ne9, tk_inj, if_false, if_true, false_and, and_false, Nat.reduceEqDiff, reduceIte, reduceCtorEq, and_true, true_and] using h9
  · have h9 := r_mmb R
    unfold Cmmb
    simpa (disch := omega) only [gI_uI, nB_u, nM_u, nP_u, tk_ne9, tk_inj, if_false, if_true, false_and, and_false, Nat.reduceEqDiff, reduceIte, reduceCtorEq, and_true, true_and] using h9
  · have h9 := r_mmc R
    unfold Cmmc
    simpa (disch := omega) only [gI_uI, nM_u, tk_ne9, tk_inj, if_false, if_true, false_and, and_false, Nat.reduceEqDiff, reduceIte, reduceCtorEq, and_true, true_and] using h9
  · have h9 := r_mr29 R
    unfold Cmr29
    simpa (disch := omega) only [gI_uI, nM_u, tk_ne9, tk_inj, if_false, if_true, false_and, and_false, Nat.reduceEqDiff, reduceIte, reduceCtorEq, and_true, true_and] using h9
  · have h9 := r_mr30 R
    unfold Cmr30
    simpa (disch := omega) only [gI_uI, nM_u, tk_ne9, tk_inj, if_false, if_true, false_and, and_false, Nat.reduceEqDiff, reduceIte, reduceCtorEq, and_true, true_and] using h9
  · have h9 := r_mr31 R
    unfold Cmr31
    simpa (disch := omega) only [gI_uI, nM_u, tk_ne9, tk_inj, if_false, if_true, false_and, and_false, Nat.reduceEqDiff, reduceIte, reduceCtorEq, and_true, true_and] using h9
  · have h9 := r_mr32 R
    unfold Cmr32
    simpa (disch := omega) only [gI_uI, nM_u, tk_ne9, tk_inj, if_false, if_true, false_and, and_false, Nat.reduceEqDiff, reduceIte, reduceCtorEq, and_true, true_and] using h9
  · have h9 := r_mr35 R
    unfold Cmr35
    simpa (disch := omega) only [gI_uI, nM_u, tk_ne9, tk_inj, if_false, if_true, false_and, and_false, Nat.reduceEqDiff, reduceIte, reduceCtorEq, and_true, true_and] using h9
  · have h9 := r_mr39 R
    unfold Cmr39
    simpa (disch := omega) only [gI_uI, nM_u, tk_ne9, tk_inj, if_false, if_true, false_and, and_false, Nat.reduceEqDiff, reduceIte, reduceCtorEq, and_true, true_and] using h9
  · have h9 := r_mr40 R
    unfold Cmr40
    simpa (disch := omega) only [gI_uI, nM_u, tk_ne9, tk_inj, if_false, if_true, false_and, and_false, Nat.reduceEqDiff, reduceIte, reduceCtorEq, and_true, true_and] using h9
  · have h9 := r_md R
    unfold Cmd
    simpa (disch := omega) only [gI_uI, nM_u, tk_ne9, tk_inj, if_false, if_true, false_and, and_false, Nat.reduceEqDiff, reduceIte, reduceCtorEq, and_true, true_and] using h9
  · have h9 := r_mw R
    unfold Cmw
    simpa (disch := omega) only [gI_uI, nM_u, tk_ne9, tk_inj, if_false, if_true, false_and, and_false, Nat.reduceEqDiff, reduceIte, reduceCtorEq, and_true, true_and] using h9
  · have h9 := r_q0 R
    unfold Cq0
    simpa (disch := omega) only [sP_wI, nP_u, tk_ne9, tk_inj, if_false, if_true, false_and, and_false, Nat.reduceEqDiff, reduceIte, reduceCtorEq, and_true, true_and] using h9
  · have h9 := r_qn R
    unfold Cqn
    simpa (disch := omega) only [sI_wI, nP_u, tk_ne9, tk_inj, if_false, if_true, false_and, and_false, Nat.reduceEqDiff, reduceIte, reduceCtorEq, and_true, true_and] using h9
  · have h9 := r_q1 R
    unfold Cq1
    simpa (disch := omega) only [sI_wI, gI_uI, nP_u, tk_ne9, tk_inj, if_false, if_true, false_and, and_false, Nat.reduceEqDiff, reduceIte, reduceCtorEq, and_true, true_and] using h9
  · have h9 := r_q2 R
    unfold Cq2
    simpa (disch := omega) only [sI_wI, gI_uI, nP_u, tk_ne9, tk_inj, if_false, if_true, false_and, and_false, Nat.reduceEqDiff, reduceIte, reduceCtorEq, and_true, true_and] using h9
  · have h9 := r_q3 R
    unfold Cq3
    simpa (disch := omega) only [sI_wI, gI_uI, nP_u, tk_ne9, tk_inj, if_false, if_true, false_and, and_false, Nat.reduceEqDiff, reduceIte, reduceCtorEq, and_true, true_and] using h9
  · have h9 := r_q4 R
    unfold Cq4
    simpa (disch := omega) only [sP_wI, nP_u, tk_ne9, tk_inj, if_false, if_true, false_and, and_false, Nat.reduceEqDiff, reduceIte, reduceCtorEq, and_true, true_and] using h9
  · have h9 := r_q5 R
    unfold Cq5
    simpa (disch := omega) only [sP_wI, nP_u, tk_ne9, tk_inj, if_false, if_true, false_and, and_false, Nat.reduceEqDiff, reduceIte, reduceCtorEq, and_true, true_and] using h9
  · have h9 := r_q6 R
    unfold Cq6
    simpa (disch := omega) only [sI_wI, gI_uI, nM_u, nP_u, tk_ne9, tk_inj, if_false, if_true, false_and, and_false, Nat.reduceEqDiff, reduceIte, reduceCtorEq, and_true, true_and] using h9
  · have h9 := r_ql R
    unfold Cql
    simpa (disch := omega) only [sI_wI, gI_uI, nP_u, tk_ne9, tk_inj, if_false, if_true, false_and, and_false, Nat.reduceEqDiff, reduceIte, reduceCtorEq, and_true, true_and] using h9
  · have h9 := r_qw R
    unfold Cqw
    simpa (disch := omega) only [sI_wI, gI_uI, nP_u, tk_ne9, tk_inj, if_false, if_true, false_and, and_false, Nat.reduceEqDiff, reduceIte, reduceCtorEq, and_true, true_and] using h9
  · have h9 := r_qm R
    unfold Cqm
    simpa (disch := omega) only [gI_uI, nP_u, tk_ne9, tk_inj, if_false, if_true, false_and, and_false, Nat.reduceEqDiff, reduceIte, reduceCtorEq, and_true, true_and] using h9
  · have h9 := r_qr R
    unfold Cqr
    simpa (disch := omega) only [gI_uI, nP_u, tk_ne9, tk_inj, if_false, if_true, false_and, and_false, Nat.reduceEqDiff, reduceIte, reduceCtorEq, and_true, true_and] using h9
  · have h9 := r_r0 R
    unfold Cr0
    simpa (disch := omega) only [sP_wI, nO_u, tk_ne9, tk_inj, if_false, if_true, false_and, and_false, Nat.reduceEqDiff, reduceIte, reduceCtorEq, and_true, true_and] using h9
  · have h9 := r_r1 R
    unfold Cr1
    simpa (disch := omega) only [sP_wI, gI_uI, nO_u, tk_ne9, tk_inj, if_false, if_true, false_and, and_false, Nat.reduceEqDiff, reduceIte, reduceCtorEq, and_true, true_and] using h9
  · have h9 := r_r2 R
    unfold Cr2
    simpa (disch := omega) only [sI_wI, gI_uI, nO_u, tk_ne9, tk_inj, if_false, if_true, false_and, and_false, Nat.reduceEqDiff, reduceIte, reduceCtorEq, and_true, true_and] using h9
  · have h9 := r_r3 R
    unfold Cr3
    simpa (disch := omega) only [sI_wI, gI_uI, nO_u, tk_ne9, tk_inj, if_false, if_true, false_and, and_false, Nat.reduceEqDiff, reduceIte, reduceCtorEq, and_true, true_and] using h9
  · have h9 := r_r4 R
    unfold Cr4
    simpa (disch := omega) only [sI_wI, gI_uI, nO_u, tk_ne9, tk_inj, if_false, if_true, false_and, and_false, Nat.reduceEqDiff, reduceIte, reduceCtorEq, and_true, true_and] using h9
  · have h9 := r_r5 R
    unfold Cr5
    simpa (disch := omega) only [sP_wI, gI_uI, nO_u, tk_ne9, tk_inj, if_false, if_true, false_and, and_false, Nat.reduceEqDiff, reduceIte, reduceCtorEq, and_true, true_and] using h9
  · have h9 := r_r6 R
    unfold Cr6
    simpa (disch := omega) only [sI_wI, gI_uI, nO_u, tk_ne9, tk_inj, if_false, if_true, false_and, and_false, Nat.reduceEqDiff, reduceIte, reduceCtorEq, and_true, true_and] using h9
  · have h9 := r_rk R
    unfold Crk
    simpa (disch := omega) only [gI_uI, nO_u, tk_ne9, tk_inj, if_false, if_true, false_and, and_false, Nat.reduceEqDiff, reduceIte, reduceCtorEq, and_true, true_and] using h9
  · have h9 := r_rp R
    unfold Crp
    simpa (disch := omega) only [gI_uI, nO_u, tk_ne9, tk_inj, if_false, if_true, false_and, and_false, Nat.reduceEqDiff, reduceIte, reduceCtorEq, and_true, true_and] using h9
  · have h9 := r_rq R
    unfold Crq
    simpa (disch := omega) only [gI_uI, nO_u, pr_u, tk_ne9, tk_inj, if_false, if_true, false_and, and_false, Nat.reduceEqDiff, reduceIte, reduceCtorEq, and_true, true_and] using h9
  · have h9 := r_rr R
    unfold Crr
    simpa (disch := omega) only [gI_uI, nO_u, pr_u, tk_ne9, tk_inj, if_false, if_true, false_and, and_false, Nat.reduceEqDiff, reduceIte, reduceCtorEq, and_true, true_and] using h9
  · have h9 := r_rs R
    unfold Crs
    simpa (disch := omega) only [gI_uI, nB_u, nO_u, tk_ne9, tk_inj, if_false, if_true, false_and, and_false, Nat.reduceEqDiff, reduceIte, reduceCtorEq, and_true, true_and] using h9
set_option maxHeartbeats 8000000 in
theorem rel_repE {e : Nat} {a : Sg} {M : MS} (R : Rel e a M) (m : Nat) (hm : m < nM M) : Rel e (wI (wI (wI a (tk 4 m) 14 0) (tk 4 m) 11 0) (tk 4 m) 13 0) (uI (uI (uI M 40 m 0) 39 m 0) 37 m 0) := by
  unfold Rel
  refine ⟨?_, ?_, ?_, ?_, ?_, ?_, ?_, ?_, ?_, ?_, ?_, ?_, ?_, ?_, ?_, ?_, ?_, ?_, ?_, ?_, ?_, ?_, ?_, ?_, ?_, ?_, ?_, ?_, ?_, ?_, ?_, ?_, ?_, ?_, ?_, ?_, ?_, ?_, ?_, ?_, ?_, ?_, ?_, ?_, ?_, ?_, ?_, ?_, ?_, ?_, ?_, ?_, ?_, ?_, ?_, ?_, ?_, ?_, ?_, ?_, ?_, ?_, ?_, ?_, ?_, ?_, ?_, ?_, ?_, ?_, ?_, ?_, ?_, ?_, ?_, ?_, ?_, ?_, ?_, ?_, ?_, ?_, ?_, ?_, ?_, ?_, ?_, ?_, ?_, ?_, ?_, ?_, ?_, ?_, ?_, ?_, ?_, ?_, ?_, ?_, ?_, ?_, ?_, ?_, ?_, ?_, ?_, ?_, ?_, ?_, ?_, ?_, ?_, ?_, ?_, ?_, ?_, ?_, ?_, ?_, ?_, ?_, ?_, ?_, ?_, ?_, ?_, ?_, ?_, ?_, ?_, ?_, ?_, ?_, ?_, ?_, ?_, ?_, ?_, ?_, ?_, ?_, ?_, ?_, ?_, ?_, ?_, ?_, ?_⟩
  · have h9 := r_shm R
    exact h9
  · have h9 := r_px0 R
    exact h9
  · have h9 := r_px1 R
    exact h9
  · have h9 := r_px2 R
    exact h9
  · have h9 := r_pf0 R
    exact h9
  · have h9 := r_pf1 R
    exact h9
  · have h9 := r_pf3 R
    exact h9
  · have h9 := r_ps0 R
    exact h9
  · have h9 := r_ps2 R
    exact h9
  · have h9 := r_ps4 R
    exact h9
  · have h9 := r_pk R
    exact h9
  · have h9 := r_pkl R
    exact h9
  · have h9 := r_pko R
    exact h9
  · have h9 := r_ghour R
    unfold Cghour
    simpa (disch := omega) only [sI_wI, gI_uI, tk_ne9, tk_inj, if_false, if_true, false_and, and_false, Nat.reduceEqDiff, reduceIte, reduceCtorEq, and_true, true_and] using h9
  · have h9 := r_gstand R
    unfold Cgstand
    simpa (disch := omega) only [sI_wI, gI_uI, tk_ne9, tk_inj, if_false, if_true, false_and, and_false, Nat.reduceEqDiff, reduceIte, reduceCtorEq, and_true, true_and] using h9
  · have h9 := r_gbought R
    unfold Cgbought
    simpa (disch := omega) only [sI_wI, gI_uI, tk_ne9, tk_inj, if_false, if_true, false_and, and_false, Nat.reduceEqDiff, reduceIte, reduceCtorEq, and_true, true_and] using h9
  · have h9 := r_gmach R
    unfold Cgmach
    simpa (disch := omega) only [sI_wI, gI_uI, tk_ne9, tk_inj, if_false, if_true, false_and, and_false, Nat.reduceEqDiff, reduceIte, reduceCtorEq, and_true, true_and] using h9
  · have h9 := r_gpers R
    unfold Cgpers
    simpa (disch := omega) only [sI_wI, gI_uI, tk_ne9, tk_inj, if_false, if_true, false_and, and_false, Nat.reduceEqDiff, reduceIte, reduceCtorEq, and_true, true_and] using h9
  · have h9 := r_gworked R
    unfold Cgworked
    simpa (disch := omega) only [sI_wI, gI_uI, tk_ne9, tk_inj, if_false, if_true, false_and, and_false, Nat.reduceEqDiff, reduceIte, reduceCtorEq, and_true, true_and] using h9
  · have h9 := r_grep R
    unfold Cgrep
    simpa (disch := omega) only [sI_wI, gI_uI, tk_ne9, tk_inj, if_false, if_true, false_and, and_false, Nat.reduceEqDiff, reduceIte, reduceCtorEq, and_true, true_and] using h9
  · have h9 := r_gbat R
    unfold Cgbat
    simpa (disch := omega) only [sI_wI, gI_uI, tk_ne9, tk_inj, if_false, if_true, false_and, and_false, Nat.reduceEqDiff, reduceIte, reduceCtorEq, and_true, true_and] using h9
  · have h9 := r_gord R
    unfold Cgord
    simpa (disch := omega) only [sI_wI, gI_uI, tk_ne9, tk_inj, if_false, if_true, false_and, and_false, Nat.reduceEqDiff, reduceIte, reduceCtorEq, and_true, true_and] using h9
  · have h9 := r_gq R
    unfold Cgq
    simpa (disch := omega) only [sI_wI, gI_uI, tk_ne9, tk_inj, if_false, if_true, false_and, and_false, Nat.reduceEqDiff, reduceIte, reduceCtorEq, and_true, true_and] using h9
  · have h9 := r_nB R
    unfold CnB
    simpa (disch := omega) only [gI_uI, nB_u, tk_ne9, tk_inj, if_false, if_true, false_and, and_false, Nat.reduceEqDiff, reduceIte, reduceCtorEq, and_true, true_and] using h9
  · have h9 := r_nBx R
    unfold CnBx
    simpa (disch := omega) only [nB_u, tk_ne9, tk_inj, if_false, if_true, false_and, and_false, Nat.reduceEqDiff, reduceIte, reduceCtorEq, and_true, true_and] using h9
  · have h9 := r_nM R
    unfold CnM
    simpa (disch := omega) only [gI_uI, nM_u, tk_ne9, tk_inj, if_false, if_true, false_and, and_false, Nat.reduceEqDiff, reduceIte, reduceCtorEq, and_true, true_and] using h9
  · have h9 := r_nMx R
    unfold CnMx
    simpa (disch := omega) only [nM_u, tk_ne9, tk_inj, if_false, if_true, false_and, and_false, Nat.reduceEqDiff, reduceIte, reduceCtorEq, and_true, true_and] using h9
  · have h9 := r_nP R
    unfold CnP
    simpa (disch := omega) only [gI_uI, nP_u, tk_ne9, tk_inj, if_false, if_true, false_and, and_false, Nat.reduceEqDiff, reduceIte, reduceCtorEq, and_true, true_and] using h9
  · have h9 := r_nPx R
    unfold CnPx
    simpa (disch := omega) only [nP_u, tk_ne9, tk_inj, if_false, if_true, false_and, and_false, Nat.reduceEqDiff, reduceIte, reduceCtorEq, and_true, true_and] using h9
  · have h9 := r_nO R
    unfold CnO
    simpa (disch := omega) only [gI_uI, nO_u, tk_ne9, tk_inj, if_false, if_true, false_and, and_false, Nat.reduceEqDiff, reduceIte, reduceCtorEq, and_true, true_and] using h9
  · have h9 := r_nOx R
    unfold CnOx
    simpa (disch := omega) only [nO_u, tk_ne9, tk_inj, if_false, if_true, false_and, and_false, Nat.reduceEqDiff, reduceIte, reduceCtorEq, and_true, true_and] using h9
  · have h9 := r_hr R
    unfold Chr
    simpa (disch := omega) only [gI_uI, hN_u, tk_ne9, tk_inj, if_false, if_true, false_and, and_false, Nat.reduceEqDiff, reduceIte, reduceCtorEq, and_true, true_and] using h9
  · have h9 := r_hrx R
    unfold Chrx
    simpa (disch := omega) only [hN_u, tk_ne9, tk_inj, if_false, if_true, false_and, and_false, Nat.reduceEqDiff, reduceIte, reduceCtorEq, and_true, true_and] using h9
  · have h9 := r_stb R
    unfold Cstb
    simpa (disch := omega) only [gI_uI, tk_ne9, tk_inj, if_false, if_true, false_and, and_false, Nat.reduceEqDiff, reduceIte, reduceCtorEq, and_true, true_and] using h9
  · have h9 := r_ex R
    exact h9
  · have h9 := r_k0 R
    unfold Ck0
    simpa (disch := omega) only [sI_wI, tk_ne9, tk_inj, if_false, if_true, false_and, and_false, Nat.reduceEqDiff, reduceIte, reduceCtorEq, and_true, true_and] using h9
  · have h9 := r_k1 R
    unfold Ck1
    simpa (disch := omega) only [sI_wI, gI_uI, tk_ne9, tk_inj, if_false, if_true, false_and, and_false, Nat.reduceEqDiff, reduceIte, reduceCtorEq, and_true, true_and] using h9
  · have h9 := r_k2 R
    unfold Ck2
    simpa (disch := omega) only [sI_wI, gI_uI, tk_ne9, tk_inj, if_false, if_true, false_and, and_false, Nat.reduceEqDiff, reduceIte, reduceCtorEq, and_true, true_and] using h9
  · have h9 := r_k3 R
    unfold Ck3
    simpa (disch := omega) only [sI_wI, gI_uI, tk_ne9, tk_inj, if_false, if_true, false_and, and_false, Nat.reduceEqDiff, reduceIte, reduceCtorEq, and_true, true_and] using h9
  · have h9 := r_k5 R
    unfold Ck5
    simpa (disch := omega) only [sI_wI, gI_uI, tk_ne9, tk_inj, if_false, if_true, false_and, and_false, Nat.reduceEqDiff, reduceIte, reduceCtorEq, and_true, true_and] using h9
  · have h9 := r_k7 R
    unfold Ck7
    simpa (disch := omega) only [sI_wI, gI_uI, tk_ne9, tk_inj, if_false, if_true, false_and, and_false, Nat.reduceEqDiff, reduceIte, reduceCtorEq, and_true, true_and] using h9
  · have h9 := r_k8 R
    unfold Ck8
    simpa (disch := omega) only [sI_wI, gI_uI, tk_ne9, tk_inj, if_false, if_true, false_and, and_false, Nat.reduceEqDiff, reduceIte, reduceCtorEq, and_true, true_and] using h9
  · have h9 := r_k9 R
    unfold Ck9
    simpa (disch := omega) only [sI_wI, gI_uI, tk_ne9, tk_inj, if_false, if_true, false_and, and_false, Nat.reduceEqDiff, reduceIte, reduceCtorEq, and_true, true_and] using h9
  · have h9 := r_k10 R
    unfold Ck10
    simpa (disch := omega) only [sI_wI, nB_u, mInSt_u, tk_ne9, tk_inj, if_false, if_true, false_and, and_false, Nat.reduceEqDiff, reduceIte, reduceCtorEq, and_true, true_and] using h9
  · have h9 := r_k11 R
    unfold Ck11
    simpa (disch := omega) only [sI_wI, nO_u, mProm_u, tk_ne9, tk_inj, if_false, if_true, false_and, and_false, Nat.reduceEqDiff, reduceIte, reduceCtorEq, and_true, true_and] using h9
  · have h9 := r_k12 R
    unfold Ck12
    simpa (disch := omega) only [sI_wI, tk_ne9, tk_inj, if_false, if_true, false_and, and_false, Nat.reduceEqDiff, reduceIte, reduceCtorEq, and_true, true_and] using h9
  · have h9 := r_ksa R
    unfold Cksa
    simpa (disch := omega) only [gI_uI, tk_ne9, tk_inj, if_false, if_true, false_and, and_false, Nat.reduceEqDiff, reduceIte, reduceCtorEq, and_true, true_and] using h9
  · have h9 := r_ksb R
    unfold Cksb
    simpa (disch := omega) only [gI_uI, nOp_u, tk_ne9, tk_inj, if_false, if_true, false_and, and_false, Nat.reduceEqDiff, reduceIte, reduceCtorEq, and_true, true_and] using h9
  · have h9 := r_ksc R
    unfold Cksc
    simpa (disch := omega) only [gI_uI, nLn_u, nOp_u, tk_ne9, tk_inj, if_false, if_true, false_and, and_false, Nat.reduceEqDiff, reduceIte, reduceCtorEq, and_true, true_and] using h9
  · have h9 := r_kw R
    unfold Ckw
    simpa (disch := omega) only [gI_uI, tk_ne9, tk_inj, if_false, if_true, false_and, and_false, Nat.reduceEqDiff, reduceIte, reduceCtorEq, and_true, true_and] using h9
  · have h9 := r_kl R
    unfold Ckl
    simpa (disch := omega) only [gI_uI, nLn_u, tk_ne9, tk_inj, if_false, if_true, false_and, and_false, Nat.reduceEqDiff, reduceIte, reduceCtorEq, and_true, true_and] using h9
  · have h9 := r_ko R
    unfold Cko
    simpa (disch := omega) only [gI_uI, nOp_u, tk_ne9, tk_inj, if_false, if_true, false_and, and_false, Nat.reduceEqDiff, reduceIte, reduceCtorEq, and_true, true_and] using h9
  · have h9 := r_kp R
    unfold Ckp
    simpa (disch := omega) only [gI_uI, tk_ne9, tk_inj, if_false, if_true, false_and, and_false, Nat.reduceEqDiff, reduceIte, reduceCtorEq, and_true, true_and] using h9
  · have h9 := r_l0 R
    unfold Cl0
    simpa (disch := omega) only [sP_wI, nLn_u, tk_ne9, tk_inj, if_false, if_true, false_and, and_false, Nat.reduceEqDiff, reduceIte, reduceCtorEq, and_true, true_and] using h9
  · have h9 := r_l1 R
    unfold Cl1
    simpa (disch := omega) only [sP_wI, nLn_u, lnP_u, tk_ne9, tk_inj, if_false, if_true, false_and, and_false, Nat.reduceEqDiff, reduceIte, reduceCtorEq, and_true, true_and] using h9
  · have h9 := r_l2 R
    unfold Cl2
    simpa (disch := omega) only [sI_wI, gI_uI, nLn_u, tk_ne9, tk_inj, if_false, if_true, false_and, and_false, Nat.reduceEqDiff, reduceIte, reduceCtorEq, and_true, true_and] using h9
  · have h9 := r_l3 R
    unfold Cl3
    simpa (disch := omega) only [sP_wI, gI_uI, nLn_u, tk_ne9, tk_inj, if_false, if_true, false_and, and_false, Nat.reduceEqDiff, reduceIte, reduceCtorEq, and_true, true_and] using h9
  · have h9 := r_lm R
    unfold Clm
    simpa (disch := omega) only [gI_uI, nLn_u, lnP_u, tk_ne9, tk_inj, if_false, if_true, false_and, and_false, Nat.reduceEqDiff, reduceIte, reduceCtorEq, and_true, true_and] using h9
  · have h9 := r_o0 R
    unfold Co0
    simpa (disch := omega) only [sP_wI, nOp_u, tk_ne9, tk_inj, if_false, if_true, false_and, and_false, Nat.reduceEqDiff, reduceIte, reduceCtorEq, and_true, true_and] using h9
  · have h9 := r_o1 R
    unfold Co1
    simpa (disch := omega) only [sI_wI, gI_uI, nOp_u, tk_ne9, tk_inj, if_false, if_true, false_and, and_false, Nat.reduceEqDiff, reduceIte, reduceCtorEq, and_true, true_and] using h9
  · have h9 := r_o2 R
    unfold Co2
    simpa (disch := omega) only [sI_wI, gI_uI, nOp_u, tk_ne9, tk_inj, if_false, if_true, false_and, and_false, Nat.reduceEqDiff, reduceIte, reduceCtorEq, and_true, true_and] using h9
  · have h9 := r_o3 R
    unfold Co3
    simpa (disch := omega) only [sI_wI, gI_uI, nOp_u, tk_ne9, tk_inj, if_false, if_true, false_and, and_false, Nat.reduceEqDiff, reduceIte, reduceCtorEq, and_true, true_and] using h9
  · have h9 := r_om R
    unfold Com
    simpa (disch := omega) only [gI_uI, nOp_u, tk_ne9, tk_inj, if_false, if_true, false_and, and_false, Nat.reduceEqDiff, reduceIte, reduceCtorEq, and_true, true_and] using h9
  · have h9 := r_b0 R
    unfold Cb0
    simpa (disch := omega) only [sP_wI, nB_u, tk_ne9, tk_inj, if_false, if_true, false_and, and_false, Nat.reduceEqDiff, reduceIte, reduceCtorEq, and_true, true_and] using h9
  · have h9 := r_bn R
    unfold Cbn
    simpa (disch := omega) only [sI_wI, nB_u, tk_ne9, tk_inj, if_false, if_true, false_and, and_false, Nat.reduceEqDiff, reduceIte, reduceCtorEq, and_true, true_and] using h9
  · have h9 := r_bk R
    unfold Cbk
    simpa (disch := omega) only [sP_wI, nB_u, kd_u, tk_ne9, tk_inj, if_false, if_true, false_and, and_false, Nat.reduceEqDiff, reduceIte, reduceCtorEq, and_true, true_and] using h9
  · have h9 := r_b2 R
    unfold Cb2
    simpa (disch := omega) only [sI_wI, gI_uI, nB_u, tk_ne9, tk_inj, if_false, if_true, false_and, and_false, Nat.reduceEqDiff, reduceIte, reduceCtorEq, and_true, true_and] using h9
  · have h9 := r_b3 R
    unfold Cb3
    simpa (disch := omega) only [sI_wI, gI_uI, nB_u, tk_ne9, tk_inj, if_false, if_true, false_and, and_false, Nat.reduceEqDiff, reduceIte, reduceCtorEq, and_true, true_and] using h9
  · have h9 := r_b4 R
    unfold Cb4
    simpa (disch := omega) only [sI_wI, gI_uI, nB_u, tk_ne9, tk_inj, if_false, if_true, false_and, and_false, Nat.reduceEqDiff, reduceIte, reduceCtorEq, and_true, true_and] using h9
  · have h9 := r_b5 R
    unfold Cb5
    simpa (disch := omega) only [sI_wI, gI_uI, nB_u, tk_ne9, tk_inj, if_false, if_true, false_and, and_false, Nat.reduceEqDiff, reduceIte, reduceCtorEq, and_true, true_and] using h9
  · have h9 := r_b6 R
    unfold Cb6
    simpa (disch := omega) only [sI_wI, gI_uI, nB_u, tk_ne9, tk_inj, if_false, if_true, false_and, and_false, Nat.reduceEqDiff, reduceIte, reduceCtorEq, and_true, true_and] using h9
  · have h9 := r_b7 R
    unfold Cb7
    simpa (disch := omega) only [sI_wI, gI_uI, nB_u, tk_ne9, tk_inj, if_false, if_true, false_and, and_false, Nat.reduceEqDiff, reduceIte, reduceCtorEq, and_true, true_and] using h9
  · have h9 := r_b8 R
    unfold Cb8
    simpa (disch := omega) only [sI_wI, gI_uI, nB_u, tk_ne9, tk_inj, if_false, if_true, false_and, and_false, Nat.reduceEqDiff, reduceIte, reduceCtorEq, and_true, true_and] using h9
  · have h9 := r_b9 R
    unfold Cb9
    simpa (disch := omega) only [sI_wI, gI_uI, nB_u, tk_ne9, tk_inj, if_false, if_true, false_and, and_false, Nat.reduceEqDiff, reduceIte, reduceCtorEq, and_true, true_and] using h9
  · have h9 := r_b10 R
    unfold Cb10
    simpa (disch := omega) only [sI_wI, gI_uI, nB_u, tk_ne9, tk_inj, if_false, if_true, false_and, and_false, Nat.reduceEqDiff, reduceIte, reduceCtorEq, and_true, true_and] using h9
  · have h9 := r_b11 R
    unfold Cb11
    simpa (disch := omega) only [sL_wI, gL_uI, nB_u, tk_ne9, tk_inj, if_false, if_true, false_and, and_false, Nat.reduceEqDiff, reduceIte, reduceCtorEq, and_true, true_and] using h9
  · have h9 := r_bK R
    unfold CbK
    simpa (disch := omega) only [gI_uI, nB_u, kd_u, tk_ne9, tk_inj, if_false, if_true, false_and, and_false, Nat.reduceEqDiff, reduceIte, reduceCtorEq, and_true, true_and] using h9
  · have h9 := r_bP R
    unfold CbP
    simpa (disch := omega) only [gI_uI, nB_u, pc_u, tk_ne9, tk_inj, if_false, if_true, false_and, and_false, Nat.reduceEqDiff, reduceIte, reduceCtorEq, and_true, true_and] using h9
  · have h9 := r_bO R
    unfold CbO
    simpa (disch := omega) only [gI_uI, nB_u, op_u, tk_ne9, tk_inj, if_false, if_true, false_and, and_false, Nat.reduceEqDiff, reduceIte, reduceCtorEq, and_true, true_and] using h9
  · have h9 := r_bW R
    unfold CbW
    simpa (disch := omega) only [gI_uI, nB_u, nOp_u, kd_u, op_u, tk_ne9, tk_inj, if_false, if_true, false_and, and_false, Nat.reduceEqDiff, reduceIte, reduceCtorEq, and_true, true_and] using h9
  · have h9 := r_bZ R
    unfold CbZ
    simpa (disch := omega) only [gI_uI, nB_u, pc_u, tk_ne9, tk_inj, if_false, if_true, false_and, and_false, Nat.reduceEqDiff, reduceIte, reduceCtorEq, and_true, true_and] using h9
  · have h9 := r_bF R
    unfold CbF
    simpa (disch := omega) only [gI_uI, nB_u, tk_ne9, tk_inj, if_false, if_true, false_and, and_false, Nat.reduceEqDiff, reduceIte, reduceCtorEq, and_true, true_and] using h9
  · have h9 := r_bS R
    unfold CbS
    simpa (disch := omega) only [gI_uI, nB_u, tk_ne9, tk_inj, if_false, if_true, false_and, and_false, Nat.reduceEqDiff, reduceIte, reduceCtorEq, and_true, true_and] using h9
  · have h9 := r_bC R
    unfold CbC
    simpa (disch := omega) only [gI_uI, nB_u, tk_ne9, tk_inj, if_false, if_true, false_and, and_false, Nat.reduceEqDiff, reduceIte, reduceCtorEq, and_true, true_and] using h9
  · have h9 := r_bT R
    unfold CbT
    simpa (disch := omega) only [gI_uI, nB_u, tk_ne9, tk_inj, if_false, if_true, false_and, and_false, Nat.reduceEqDiff, reduceIte, reduceCtorEq, and_true, true_and] using h9
  · have h9 := r_bU R
    unfold CbU
    simpa (disch := omega) only [gI_uI, nB_u, kd_u, tk_ne9, tk_inj, if_false, if_true, false_and, and_false, Nat.reduceEqDiff, reduceIte, reduceCtorEq, and_true, true_and] using h9
  · have h9 := r_bq R
    unfold Cbq
    simpa (disch := omega) only [nB_u, totp_u, tk_ne9, tk_inj, if_false, if_true, false_and, and_false, Nat.reduceEqDiff, reduceIte, reduceCtorEq, and_true, true_and] using h9
  · have h9 := r_ps R
    unfold Cps
    simpa (disch := omega) only [nB_u, nO_u, nInSt_u, nProm_u, tk_ne9, tk_inj, if_false, if_true, false_and, and_false, Nat.reduceEqDiff, reduceIte, reduceCtorEq, and_true, true_and] using h9
  · have h9 := r_bp R
    unfold Cbp
    simpa (disch := omega) only [gL_uI, nB_u, tk_ne9, tk_inj, if_false, if_true, false_and, and_false, Nat.reduceEqDiff, reduceIte, reduceCtorEq, and_true, true_and] using h9
  · have h9 := r_bc R
    unfold Cbc
    simpa (disch := omega) only [nB_u, hN_u, tot_u, tk_ne9, tk_inj, if_false, if_true, false_and, and_false, Nat.reduceEqDiff, reduceIte, reduceCtorEq, and_true, true_and] using h9
  · have h9 := r_fB R
    unfold CfB
    simpa (disch := omega) only [sX_wI, nB_u, tk_ne9, tk_inj, if_false, if_true, false_and, and_false, Nat.reduceEqDiff, reduceIte, reduceCtorEq, and_true, true_and] using h9
  · have h9 := r_fL R
    unfold CfL
    simpa (disch := omega) only [sX_wI, nLn_u, tk_ne9, tk_inj, if_false, if_true, false_and, and_false, Nat.reduceEqDiff, reduceIte, reduceCtorEq, and_true, true_and] using h9
  · have h9 := r_fO R
    unfold CfO
    simpa (disch := omega) only [sX_wI, nOp_u, tk_ne9, tk_inj, if_false, if_true, false_and, and_false, Nat.reduceEqDiff, reduceIte, reduceCtorEq, and_true, true_and] using h9
  · have h9 := r_fM R
    unfold CfM
    simpa (disch := omega) only [sX_wI, nM_u, tk_ne9, tk_inj, if_false, if_true, false_and, and_false, Nat.reduceEqDiff, reduceIte, reduceCtorEq, and_true, true_and] using h9
  · have h9 := r_fP R
    unfold CfP
    simpa (disch := omega) only [sX_wI, nP_u, tk_ne9, tk_inj, if_false, if_true, false_and, and_false, Nat.reduceEqDiff, reduceIte, reduceCtorEq, and_true, true_and] using h9
  · have h9 := r_fR R
    unfold CfR
    simpa (disch := omega) only [sX_wI, nO_u, tk_ne9, tk_inj, if_false, if_true, false_and, and_false, Nat.reduceEqDiff, reduceIte, reduceCtorEq, and_true, true_and] using h9
  · have h9 := r_fG R
    exact h9
  · have h9 := r_m0 R
    unfold Cm0
    simpa (disch := omega) only [sP_wI, nM_u, tk_ne9, tk_inj, if_false, if_true, false_and, and_false, Nat.reduceEqDiff, reduceIte, reduceCtorEq, and_true, true_and] using h9
  · have h9 := r_mn R
    unfold Cmn
    simpa (disch := omega) only [sI_wI, nM_u, tk_ne9, tk_inj, if_false, if_true, false_and, and_false, Nat.reduceEqDiff, reduceIte, reduceCtorEq, and_true, true_and] using h9
  · have h9 := r_m1 R
    unfold Cm1
    simpa (disch := omega) only [sI_wI, gI_uI, nM_u, tk_ne9, tk_inj, if_false, if_true, false_and, and_false, Nat.reduceEqDiff, reduceIte, reduceCtorEq, and_true, true_and] using h9
  · have h9 := r_m2 R
    unfold Cm2
    simpa (disch := omega) only [sI_wI, gI_uI, nM_u, tk_ne9, tk_inj, if_false, if_true, false_and, and_false, Nat.reduceEqDiff, reduceIte, reduceCtorEq, and_true, true_and] using h9
  · have h9 := r_m3 R
    unfold Cm3
    simpa (disch := omega) only [sI_wI, gI_uI, nM_u, tk_ne9, tk_inj, if_false, if_true, false_and, and_false, Nat.reduceEqDiff, reduceIte, reduceCtorEq, and_true, true_and] using h9
  · have h9 := r_m4 R
    unfold Cm4
    simpa (disch := omega) only [sI_wI, gI_uI, nM_u, tk_ne9, tk_inj, if_false, if_true, false_and, and_false, Nat.reduceEqDiff, reduceIte, reduceCtorEq, and_true, true_and] using h9
  · have h9 := r_m5 R
    unfold Cm5
    simpa (disch := omega) only [sI_wI, gI_uI, nM_u, tk_ne9, tk_inj, if_false, if_true, false_and, and_false, Nat.reduceEqDiff, reduceIte, reduceCtorEq, and_true, true_and] using h9
  · have h9 := r_m9 R
    unfold Cm9
    simpa (disch := omega) only [sI_wI, gI_uI, nM_u, tk_ne9, tk_inj, if_false, if_true, false_and, and_false, Nat.reduceEqDiff, reduceIte, reduceCtorEq, and_true, true_and] using h9
  · unfold Cm11
    intro x0_ h0
    have h9 := r_m11 R x0_ h0
    by_cases e1 : x0_ = m
    · subst e1
      (try simp (disch := omega) [sI_wI, sI_wP, sI_wL, sI_wN, sP_wI, sP_wP, sP_wL, sP_wN, sL_wI, sL_wP, sL_wL, sL_wN, sX_wI, sX_wP, sX_wL, sX_wN, gI_uI, gI_uL, gL_uI, gL_uL, tk_ne9, tk_inj, nB_u, nM_u, nP_u, nO_u, hN_u, nLn_u, nOp_u, lnP_u, pc_u, kd_u, op_u, pr_u, mInSt_u, mProm_u, nInSt_u, nProm_u, totp_u, tot_u, nB_l, nM_l, nP_l, nO_l, hN_l, nLn_l, nOp_l, lnP_l, pc_l, kd_l, op_l, pr_l, mInSt_l, mProm_l, nInSt_l, nProm_l, totp_l, tot_l, if_false, if_true, false_and, and_false, Nat.reduceEqDiff, reduceIte, reduceCtorEq, and_true, true_and]) <;> first | exact h9 | assumption | grind
    · (try simp (disch := omega) [sI_wI, sI_wP, sI_wL, sI_wN, sP_wI, sP_wP, sP_wL, sP_wN, sL_wI, sL_wP, sL_wL, sL_wN, sX_wI, sX_wP, sX_wL, sX_wN, gI_uI, gI_uL, gL_uI, gL_uL, tk_ne9, tk_inj, nB_u, nM_u, nP_u, nO_u, hN_u, nLn_u, nOp_u, lnP_u, pc_u, kd_u, op_u, pr_u, mInSt_u, mProm_u, nInSt_u, nProm_u, totp_u, tot_u, nB_l, nM_l, nP_l, nO_l, hN_l, nLn_l, nOp_l, lnP_l, pc_l, kd_l, op_l, pr_l, mInSt_l, mProm_l, nInSt_l, nProm_l, totp_l, tot_l, if_false, if_true, false_and, and_false, Nat.reduceEqDiff, reduceIte, reduceCtorEq, and_true, true_and, e1]) <;> first | exact h9 | assumption | grind
  · unfold Cm13
    intro x0_ h0
    have h9 := r_m13 R x0_ h0
    by_cases e1 : x0_ = m
    · subst e1
      (try simp (disch := omega) [sI_wI, sI_wP, sI_wL, sI_wN, sP_wI, sP_wP, sP_wL, sP_wN, sL_wI, sL_wP, sL_wL, sL_wN, sX_wI, sX_wP, sX_wL, sX_wN, gI_uI, gI_uL, gL_uI, gL_uL, tk_ne9, tk_inj, nB_u, nM_u, nP_u, nO_u, hN_u, nLn_u, nOp_u, lnP_u, pc_u, kd_u, op_u, pr_u, mInSt_u, mProm_u, nInSt_u, nProm_u, totp_u, tot_u, nB_l, nM_l, nP_l, nO_l, hN_l, nLn_l, nOp_l, lnP_l, pc_l, kd_l, op_l, pr_l, mInSt_l, mProm_l, nInSt_l, nProm_l, totp_l, tot_l, if_false, if_true, false_and, and_false, Nat.reduceEqDiff, reduceIte, reduceCtorEq, and_true, true_and]) <;> first | exact h9 | assumption | grind
    · (try simp (disch := omega) [sI_wI, sI_wP, sI_wL, sI_wN, sP_wI, sP_wP, sP_wL, sP_wN, sL_wI, sL_wP, sL_wL, sL_wN, sX_wI, sX_wP, sX_wL, sX_wN, gI_uI, gI_uL, gL_uI, gL_uL, tk_ne9, tk_inj, nB_u, nM_u, nP_u, nO_u, hN_u, nLn_u, nOp_u, lnP_u, pc_u, kd_u, op_u, pr_u, mInSt_u, mProm_u, nInSt_u, nProm_u, totp_u, tot_u, nB_l, nM_l, nP_l, nO_l, hN_l, nLn_l, nOp_l, lnP_l, pc_l, kd_l, op_l, pr_l, mInSt_l, mProm_l, nInSt_l, nProm_l, totp_l, tot_l, if_false, if_true, false_and, and_false, Nat.reduceEqDiff, reduceIte, reduceCtorEq, and_true, true_and, e1]) <;> first | exact h9 | assumption | grind
  · unfold Cm14
    intro x0_ h0
    have h9 := r_m14 R x0_ h0
    by_cases e1 : x0_ = m
    · subst e1
      (try simp (disch := omega) [sI_wI, sI_wP, sI_wL, sI_wN, sP_wI, sP_wP, sP_wL, sP_wN, sL_wI, sL_wP, sL_wL, sL_wN, sX_wI, sX_wP, sX_wL, sX_wN, gI_uI, gI_uL, gL_uI, gL_uL, tk_ne9, tk_inj, nB_u, nM_u, nP_u, nO_u, hN_u, nLn_u, nOp_u, lnP_u, pc_u, kd_u, op_u, pr_u, mInSt_u, mProm_u, nInSt_u, nProm_u, totp_u, tot_u, nB_l, nM_l, nP_l, nO_l, hN_l, nLn_l, nOp_l, lnP_l, pc_l, kd_l, op_l, pr_l, mInSt_l, mProm_l, nInSt_l, nProm_l, totp_l, tot_l, if_false, if_true, false_and, and_false, Nat.reduceEqDiff, reduceIte, reduceCtorEq, and_true, true_and]) <;> first | exact h9 | assumption | grind
    · (try simp (disch := omega) [sI_wI, sI_wP, sI_wL, sI_wN, sP_wI, sP_wP, sP_wL, sP_wN, sL_wI, sL_wP, sL_wL, sL_wN, sX_wI, sX_wP, sX_wL, sX_wN, gI_uI, gI_uL, gL_uI, gL_uL, tk_ne9, tk_inj, nB_u, nM_u, nP_u, nO_u, hN_u, nLn_u, nOp_u, lnP_u, pc_u, kd_u, op_u, pr_u, mInSt_u, mProm_u, nInSt_u, nProm_u, totp_u, tot_u, nB_l, nM_l, nP_l, nO_l, hN_l, nLn_l, nOp_l, lnP_l, pc_l, kd_l, op_l, pr_l, mInSt_l, mProm_l, nInSt_l, nProm_l, totp_l, tot_l, if_false, if_true, false_and, and_false, Nat.reduceEqDiff, reduceIte, reduceCtorEq, and_true, true_and, e1]) <;> first | exact h9 | assumption | grind
  · have h9 := r_m6 R
    unfold Cm6
    simpa (disch := omega) only [sP_wI, gI_uI, nM_u, tk_ne9, tk_inj, if_false, if_true, false_and, and_false, Nat.reduceEqDiff, reduceIte, reduceCtorEq, and_true, true_and] using h9
  · have h9 := r_m7 R
    unfold Cm7
    simpa (disch := omega) only [sP_wI, gI_uI, nM_u, tk_ne9, tk_inj, if_false, if_true, false_and, and_false, Nat.reduceEqDiff, reduceIte, reduceCtorEq, and_true, true_and] using h9
  · have h9 := r_m8 R
    unfold Cm8
    simpa (disch := omega) only [sP_wI, gI_uI, nM_u, tk_ne9, tk_inj, if_false, if_true, false_and, and_false, Nat.reduceEqDiff, reduceIte, reduceCtorEq, and_true, true_and] using h9
  · have h9 := r_m12 R
    unfold Cm12
    simpa (disch := omega) only [sP_wI, gI_uI, nM_u, tk_ne9, tk_inj, if_false, if_true, false_and, and_false, Nat.reduceEqDiff, reduceIte, reduceCtorEq, and_true, true_and] using h9
  · have h9 := r_m10 R
    unfold Cm10
    simpa (disch := omega) only [sI_wI, gI_uI, nB_u, nM_u, tk_ne9, tk_inj, if_false, if_true, false_and, and_false, Nat.reduceEqDiff, reduceIte, reduceCtorEq, and_true, true_and] using h9
  · have h9 := r_mma R
    unfold Cmma
    simpa (disch := omega) only [gI_uI, nM_u, tk_ne9, tk_inj, if_false, if_true, false_and, and_false, Nat.reduceEqDiff, reduceIte, reduceCtorEq, and_true, true_and] using h9
  · have h9 := r_mmb R
    unfold Cmmb
    simpa (disch := omega) only [gI_uI, nB_u, nM_u, nP_u, tk_ne9, tk_inj, if_false, if_true, false_and, and_false, Nat.reduceEqDiff, reduceIte, reduceCtorEq, and_true, true_and] using h9
  · have h9 := r_mmc R
    unfold Cmmc
    simpa (disch := omega) only [gI_uI, nM_u, tk_ne9, tk_inj, if_false, if_true, false_and, and_false, Nat.reduceEqDiff, reduceIte, reduceCtorEq, and_true, true_and] using h9
  · have h9 := r_mr29 R
    unfold Cmr29
    simpa (disch := omega) only [gI_uI, nM_u, tk_ne9, tk_inj, if_false, if_true, false_and, and_false, Nat.reduceEqDiff, reduceIte, reduceCtorEq, and_true, true_and] using h9
  · have h9 := r_mr30 R
    unfold Cmr30
    simpa (disch := omega) only [gI_uI, nM_u, tk_ne9, tk_inj, if_false, if_true, false_and, and_false, Nat.reduceEqDiff, reduceIte, reduceCtorEq, and_true, true_and] using h9
  · have h9 := r_mr31 R
    unfold Cmr31
    simpa (disch := omega) only [gI_uI, nM_u, tk_ne9, tk_inj, if_false, if_true, false_and, and_false, Nat.reduceEqDiff, reduceIte, reduceCtorEq, and_true, true_and] using h9
  · have h9 := r_mr32 R
    unfold Cmr32
    simpa (disch := omega) only [gI_uI, nM_u, tk_ne9, tk_inj, if_false, if_true, false_and, and_false, Nat.reduceEqDiff, reduceIte, reduceCtorEq, and_true, true_and] using h9
  · have h9 := r_mr35 R
    unfold Cmr35
    simpa (disch := omega) only [gI_uI, nM_u, tk_ne9, tk_inj, if_false, if_true, false_and, and_false, Nat.reduceEqDiff, reduceIte, reduceCtorEq, and_true, true_and] using h9
  · unfold Cmr39
    intro x h0
    have h9 := r_mr39 R x h0
    by_cases e1 : x = m
    · exact ⟨0, by simp [gI_uI, e1]; exact nI_0.symm, by omega⟩
    · simpa [gI_uI, e1] using h9
  · unfold Cmr40
    intro x h0 q
    by_cases e1 : x = m
    · subst e1
      simp [gI_uI] at q
    · have q2 : gI M 39 x = 2 := by simpa [gI_uI, e1] using q
      simpa [gI_uI, e1] using r_mr40 R x h0 q2
  · have h9 := r_md R
    unfold Cmd
    simpa (disch := omega) only [gI_uI, nM_u, tk_ne9, tk_inj, if_false, if_true, false_and, and_false, Nat.reduceEqDiff, reduceIte, reduceCtorEq, and_true, true_and] using h9
  · have h9 := r_mw R
    unfold Cmw
    simpa (disch := omega) only [gI_uI, nM_u, tk_ne9, tk_inj, if_false, if_true, false_and, and_false, Nat.reduceEqDiff, reduceIte, reduceCtorEq, and_true, true_and] using h9
  · have h9 := r_q0 R
    unfold Cq0
    simpa (disch := omega) only [sP_wI, nP_u, tk_ne9, tk_inj, if_false, if_true, false_and, and_false, Nat.reduceEqDiff, reduceIte, reduceCtorEq, and_true, true_and] using h9
  · have h9 := r_qn R
    unfold Cqn
    simpa (disch := omega) only [sI_wI, nP_u, tk_ne9, tk_inj, if_false, if_true, false_and, and_false, Nat.reduceEqDiff, reduceIte, reduceCtorEq, and_true, true_and] using h9
  · have h9 := r_q1 R
    unfold Cq1
    simpa (disch := omega) only [sI_wI, gI_uI, nP_u, tk_ne9, tk_inj, if_false, if_true, false_and, and_false, Nat.reduceEqDiff, reduceIte, reduceCtorEq, and_true, true_and] using h9
  · have h9 := r_q2 R
    unfold Cq2
    simpa (disch := omega) only [sI_wI, gI_uI, nP_u, tk_ne9, tk_inj, if_false, if_true, false_and, and_false, Nat.reduceEqDiff, reduceIte, reduceCtorEq, and_true, true_and] using h9
  · have h9 := r_q3 R
    unfold Cq3
    simpa (disch := omega) only [sI_wI, gI_uI, nP_u, tk_ne9, tk_inj, if_false, if_true, false_and, and_false, Nat.reduceEqDiff, reduceIte, reduceCtorEq, and_true, true_and] using h9
  · have h9 := r_q4 R
    unfold Cq4
    simpa (disch := omega) only [sP_wI, nP_u, tk_ne9, tk_inj, if_false, if_true, false_and, and_false, Nat.reduceEqDiff, reduceIte, reduceCtorEq, and_true, true_and] using h9
  · have h9 := r_q5 R
    unfold Cq5
    simpa (disch := omega) only [sP_wI, nP_u, tk_ne9, tk_inj, if_false, if_true, false_and, and_false, Nat.reduceEqDiff, reduceIte, reduceCtorEq, and_true, true_and] using h9
  · have h9 := r_q6 R
    unfold Cq6
    simpa (disch := omega) only [sI_wI, gI_uI, nM_u, nP_u, tk_ne9, tk_inj, if_false, if_true, false_and, and_false, Nat.reduceEqDiff, reduceIte, reduceCtorEq, and_true, true_and] using h9
  · have h9 := r_ql R
    unfold Cql
    simpa (disch := omega) only [sI_wI, gI_uI, nP_u, tk_ne9, tk_inj, if_false, if_true, false_and, and_false, Nat.reduceEqDiff, reduceIte, reduceCtorEq, and_true, true_and] using h9
  · have h9 := r_qw R
    unfold Cqw
    simpa (disch := omega) only [sI_wI, gI_uI, nP_u, tk_ne9, tk_inj, if_false, if_true, false_and, and_false, Nat.reduceEqDiff, reduceIte, reduceCtorEq, and_true, true_and] using h9
  · have h9 := r_qm R
    unfold Cqm
    simpa (disch := omega) only [gI_uI, nP_u, tk_ne9, tk_inj, if_false, if_true, false_and, and_false, Nat.reduceEqDiff, reduceIte, reduceCtorEq, and_true, true_and] using h9
  · have h9 := r_qr R
    unfold Cqr
    simpa (disch := omega) only [gI_uI, nP_u, tk_ne9, tk_inj, if_false, if_true, false_and, and_false, Nat.reduceEqDiff, reduceIte, reduceCtorEq, and_true, true_and] using h9
  · have h9 := r_r0 R
    unfold Cr0
    simpa (disch := omega) only [sP_wI, nO_u, tk_ne9, tk_inj, if_false, if_true, false_and, and_false, Nat.reduceEqDiff, reduceIte, reduceCtorEq, and_true, true_and] using h9
  · have h9 := r_r1 R
    unfold Cr1
    simpa (disch := omega) only [sP_wI, gI_uI, nO_u, tk_ne9, tk_inj, if_false, if_true, false_and, and_false, Nat.reduceEqDiff, reduceIte, reduceCtorEq, and_true, true_and] using h9
  · have h9 := r_r2 R
    unfold Cr2
    simpa (disch := omega) only [sI_wI, gI_uI, nO_u, tk_ne9, tk_inj, if_false, if_true, false_and, and_false, Nat.reduceEqDiff, reduceIte, reduceCtorEq, and_true, true_and] using h9
  · have h9 := r_r3 R
    unfold Cr3
    simpa (disch := omega) only [sI_wI, gI_uI, nO_u, tk_ne9, tk_inj, if_false, if_true, false_and, and_false, Nat.reduceEqDiff, reduceIte, reduceCtorEq, and_true, true_and] using h9
  · have h9 := r_r4 R
    unfold Cr4
    simpa (disch := omega) only [sI_wI, gI_uI, nO_u, tk_ne9, tk_inj, if_false, if_true, false_and, and_false, Nat.reduceEqDiff, reduceIte, reduceCtorEq, and_true, true_and] using h9
  · have h9 := r_r5 R
    unfold Cr5
    simpa (disch := omega) only [sP_wI, gI_uI, nO_u, tk_ne9, tk_inj, if_false, if_true, false_and, and_false, Nat.reduceEqDiff, reduceIte, reduceCtorEq, and_true, true_and] using h9
  · have h9 := r_r6 R
    unfold Cr6
    simpa (disch := omega) only [sI_wI, gI_uI, nO_u, tk_ne9, tk_inj, if_false, if_true, false_and, and_false, Nat.reduceEqDiff, reduceIte, reduceCtorEq, and_true, true_and] using h9
  · have h9 := r_rk R
    unfold Crk
    simpa (disch := omega) only [gI_uI, nO_u, tk_ne9, tk_inj, if_false, if_true, false_and, and_false, Nat.reduceEqDiff, reduceIte, reduceCtorEq, and_true, true_and] using h9
  · have h9 := r_rp R
    unfold Crp
    simpa (disch := omega) only [gI_uI, nO_u, tk_ne9, tk_inj, if_false, if_true, false_and, and_false, Nat.reduceEqDiff, reduceIte, reduceCtorEq, and_true, true_and] using h9
  · have h9 := r_rq R
    unfold Crq
    simpa (disch := omega) only [gI_uI, nO_u, pr_u, tk_ne9, tk_inj, if_false, if_true, false_and, and_false, Nat.reduceEqDiff, reduceIte, reduceCtorEq, and_true, true_and] using h9
  · have h9 := r_rr R
    unfold Crr
    simpa (disch := omega) only [gI_uI, nO_u, pr_u, tk_ne9, tk_inj, if_false, if_true, false_and, and_false, Nat.reduceEqDiff, reduceIte, reduceCtorEq, and_true, true_and] using h9
  · have h9 := r_rs R
    unfold Crs
    simpa (disch := omega) only [gI_uI, nB_u, nO_u, tk_ne9, tk_inj, if_false, if_true, false_and, and_false, Nat.reduceEqDiff, reduceIte, reduceCtorEq, and_true, true_and] using h9
