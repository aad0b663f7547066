/-! A machine takes a batch. -/
set_option maxHeartbeats 8000000 in
theorem rel_load {e : Nat} {a : Sg} {M : MS} (R : Rel e a M) (m j p L : Nat) (hm : m < nM M) (hj : j < nB M) (hp : p < nP M) (hL : L ≤ 20) (h34 : gI M 34 m = -1) (st : gI M 18 j = 1) (hfr : ∀ y, y < nM M → gI M 36 y ≠ nI p) : Rel e (wI (wI (wP (wP (wI (wI a (tk 4 m) 9 (nI L)) (tk 4 m) 10 0) (tk 4 m) 7 (some (tk 0 j))) (tk 4 m) 8 (some (tk 7 p))) (tk 0 j) 4 2) (tk 7 p) 6 (nI m)) (uI (uI (uI (uI (uI M 35 m (nI L)) 34 m (nI j)) 36 m (nI p)) 18 j 2) 124 j 0) := by
  have hB := r_nBx R
  have hP := r_nPx R
  have nl : ∀ y, y < nM M → gI M 34 y ≠ nI j := fun y hy z => by
    rcases r_mmb R y hy with w | ⟨j1, p1, w1, w2, w3, _⟩
    · exact nI_ne1 (by omega) (z.symm.trans w.1)
    · have w9 : j = j1 := (nI_eq (by omega) (by omega)).mp (z.symm.trans w1)
      subst w9
      rw [st] at w3
      exact absurd w3 (by decide)
  have h36 : gI M 36 m = -1 := by
    rcases r_mmb R m hm with w | ⟨j1, p1, w1, w2, _⟩
    · exact w.2.1
    · exact absurd (w1.symm.trans h34) (nI_ne1 (by omega))
  have hj1 : nI j ≠ -1 := nI_ne1 (by omega)
  have hp1 : nI p ≠ -1 := nI_ne1 (by omega)
  have n9 : nB (uI (uI (uI (uI (uI M 35 m (nI L)) 34 m (nI j)) 36 m (nI p)) 18 j 2) 124 j 0) = nB M := by simp (disch := decide) only [nB_u]
  have n8 : nO (uI (uI (uI (uI (uI M 35 m (nI L)) 34 m (nI j)) 36 m (nI p)) 18 j 2) 124 j 0) = nO M := by simp (disch := decide) only [nO_u]
  have n7 : nM (uI (uI (uI (uI (uI M 35 m (nI L)) 34 m (nI j)) 36 m (nI p)) 18 j 2) 124 j 0) = nM M := by simp (disch := decide) only [nM_u]
  have n6 : nP (uI (uI (uI (uI (uI M 35 m (nI L)) 34 m (nI j)) 36 m (nI p)) 18 j 2) 124 j 0) = nP M := by simp (disch := decide) only [nP_u]
  unfold Rel
  refine ⟨?_, ?_, ?_, ?_, ?_, ?_, ?_, ?_, ?_, ?_, ?_, ?_, ?_, ?_, ?_, ?_, ?_, ?_, ?_, ?_, ?_, ?_, ?_, ?_, ?_, ?_, ?_, ?_, ?_, ?_, ?_, ?_, ?_, ?_, ?_, ?_, ?_, ?_, ?_, ?_, ?_, ?_, ?_, ?_, ?_, ?_, ?_, ?_, ?_, ?_, ?_, ?_, ?_, ?_, ?_, ?_, ?_, ?_, ?_, ?_, ?_, ?_, ?_, ?_, ?_, ?_, ?_, ?_, ?_, ?_, ?_, ?_, ?_, ?_, ?_, ?_, ?_, ?_, ?_, ?_, ?_, ?_, ?_, ?_, ?_, ?_, ?_, ?_, ?_, ?_, ?_, ?_, ?_, ?_, ?_, ?_, ?_, ?_, ?_, ?_, ?_, ?_, ?_, ?_, ?_, ?_, ?_, ?_, ?_, ?_, ?_, ?_, ?_, ?_, ?_, ?_, ?_, ?_, ?_, ?_, ?_, ?_, ?_, ?_, ?_, ?_, ?_, ?_, ?_, ?_, ?_, ?_, ?_, ?_, ?_, ?_, ?_, ?_, ?_, ?_, ?_, ?_, ?_, ?_, ?_, ?_, ?_, ?_, ?_⟩
  · have h9 := r_shm R
    unfold Cshm
    simpa (disch := omega) only [sP_wI, sP_wP, tk_ne9, tk_inj, if_false, if_true, false_and, and_false, Nat.reduceEqDiff, reduceIte, reduceCtorEq, and_true, true_and] using h9
  · have h9 := r_px0 R
    unfold Cpx0
    simpa (disch := omega) only [sP_wI, sP_wP, tk_ne9, tk_inj, if_false, if_true, false_and, and_false, Nat.reduceEqDiff, reduceIte, reduceCtorEq, and_true, true_and] using h9
  · have h9 := r_px1 R
    unfold Cpx1
    simpa (disch := omega) only [sP_wI, sP_wP, tk_ne9, tk_inj, if_false, if_true, false_and, and_false, Nat.reduceEqDiff, reduceIte, reduceCtorEq, and_true, true_and] using h9
  · have h9 := r_px2 R
    unfold Cpx2
    simpa (disch := omega) only [sP_wI, sP_wP, tk_ne9, tk_inj, if_false, if_true, false_and, and_false, Nat.reduceEqDiff, reduceIte, reduceCtorEq, and_true, true_and] using h9
  · have h9 := r_pf0 R
    unfold Cpf0
    simpa (disch := omega) only [sP_wI, sP_wP, tk_ne9, tk_inj, if_false, if_true, false_and, and_false, Nat.reduceEqDiff, reduceIte, reduceCtorEq, and_true, true_and] using h9
  · have h9 := r_pf1 R
    unfold Cpf1
    simpa (disch := omega) only [sP_wI, sP_wP, tk_ne9, tk_inj, if_false, if_true, false_and, and_false, Nat.reduceEqDiff, reduceIte, reduceCtorEq, and_true, true_and] using h9
  · have h9 := r_pf3 R
    unfold Cpf3
    simpa (disch := omega) only [sP_wI, sP_wP, tk_ne9, tk_inj, if_false, if_true, false_and, and_false, Nat.reduceEqDiff, reduceIte, reduceCtorEq, and_true, true_and] using h9
  · have h9 := r_ps0 R
    unfold Cps0
    simpa (disch := omega) only [sP_wI, sP_wP, tk_ne9, tk_inj, if_false, if_true, false_and, and_false, Nat.reduceEqDiff, reduceIte, reduceCtorEq, and_true, true_and] using h9
  · have h9 := r_ps2 R
    unfold Cps2
    simpa (disch := omega) only [sP_wI, sP_wP, tk_ne9, tk_inj, if_false, if_true, false_and, and_false, Nat.reduceEqDiff, reduceIte, reduceCtorEq, and_true, true_and] using h9
  · have h9 := r_ps4 R
    unfold Cps4
    simpa (disch := omega) only [sP_wI, sP_wP, tk_ne9, tk_inj, if_false, if_true, false_and, and_false, Nat.reduceEqDiff, reduceIte, reduceCtorEq, and_true, true_and] using h9
  · have h9 := r_pk R
    unfold Cpk
    simpa (disch := omega) only [sP_wI, sP_wP, tk_ne9, tk_inj, if_false, if_true, false_and, and_false, Nat.reduceEqDiff, reduceIte, reduceCtorEq, and_true, true_and] using h9
  · have h9 := r_pkl R
    unfold Cpkl
    simpa (disch := omega) only [sP_wI, sP_wP, tk_ne9, tk_inj, if_false, if_true, false_and, and_false, Nat.reduceEqDiff, reduceIte, reduceCtorEq, and_true, true_and] using h9
  · have h9 := r_pko R
    unfold Cpko
    simpa (disch := omega) only [sP_wI, sP_wP, tk_ne9, tk_inj, if_false, if_true, false_and, and_false, Nat.reduceEqDiff, reduceIte, reduceCtorEq, and_true, true_and] using h9
  · have h9 := r_ghour R
    unfold Cghour
    simpa (disch := omega) only [sI_wI, sI_wP, gI_uI, tk_ne9, tk_inj, if_false, if_true, false_and, and_false, Nat.reduceEqDiff, reduceIte, reduceCtorEq, and_true, true_and] using h9
  · have h9 := r_gstand R
    unfold Cgstand
    simpa (disch := omega) only [sI_wI, sI_wP, gI_uI, tk_ne9, tk_inj, if_false, if_true, false_and, and_false, Nat.reduceEqDiff, reduceIte, reduceCtorEq, and_true, true_and] using h9
  · have h9 := r_gbought R
    unfold Cgbought
    simpa (disch := omega) only [sI_wI, sI_wP, gI_uI, tk_ne9, tk_inj, if_false, if_true, false_and, and_false, Nat.reduceEqDiff, reduceIte, reduceCtorEq, and_true, true_and] using h9
  · have h9 := r_gmach R
    unfold Cgmach
    simpa (disch := omega) only [sI_wI, sI_wP, gI_uI, tk_ne9, tk_inj, if_false, if_true, false_and, and_false, Nat.reduceEqDiff, reduceIte, reduceCtorEq, and_true, true_and] using h9
  · have h9 := r_gpers R
    unfold Cgpers
    simpa (disch := omega) only [sI_wI, sI_wP, gI_uI, tk_ne9, tk_inj, if_false, if_true, false_and, and_false, Nat.reduceEqDiff, reduceIte, reduceCtorEq, and_true, true_and] using h9
  · have h9 := r_gworked R
    unfold Cgworked
    simpa (disch := omega) only [sI_wI, sI_wP, gI_uI, tk_ne9, tk_inj, if_false, if_true, false_and, and_false, Nat.reduceEqDiff, reduceIte, reduceCtorEq, and_true, true_and] using h9
  · have h9 := r_grep R
    unfold Cgrep
    simpa (disch := omega) only [sI_wI, sI_wP, gI_uI, tk_ne9, tk_inj, if_false, if_true, false_and, and_false, Nat.reduceEqDiff, reduceIte, reduceCtorEq, and_true, true_and] using h9
  · have h9 := r_gbat R
    unfold Cgbat
    simpa (disch := omega) only [sI_wI, sI_wP, gI_uI, tk_ne9, tk_inj, if_false, if_true, false_and, and_false, Nat.reduceEqDiff, reduceIte, reduceCtorEq, and_true, true_and] using h9
  · have h9 := r_gord R
    unfold Cgord
    simpa (disch := omega) only [sI_wI, sI_wP, gI_uI, tk_ne9, tk_inj, if_false, if_true, false_and, and_false, Nat.reduceEqDiff, reduceIte, reduceCtorEq, and_true, true_and] using h9
  · have h9 := r_gq R
    unfold Cgq
    simpa (disch := omega) only [sI_wI, sI_wP, gI_uI, tk_ne9, tk_inj, if_false, if_true, false_and, and_false, Nat.reduceEqDiff, reduceIte, reduceCtorEq, and_true, true_and] using h9
  · have h9 := r_nB R
    unfold CnB
    simpa (disch := omega) only [gI_uI, nB_u, tk_ne9, tk_inj, if_false, if_true, false_and, and_false, Nat.reduceEqDiff, reduceIte, reduceCtorEq, and_true, true_and] using h9
  · have h9 := r_nBx R
    unfold CnBx
    simpa (disch := omega) only [nB_u, tk_ne9, tk_inj, if_false, if_true, false_and, and_false, Nat.reduceEqDiff, reduceIte, reduceCtorEq, and_true, true_and] using h9
  · have h9 := r_nM R
    unfold CnM
    simpa (disch := omega) only [gI_uI, nM_u, tk_ne9, tk_inj, if_false, if_true, false_and, and_false, Nat.reduceEqDiff, reduceIte, reduceCtorEq, and_true, true_and] using h9
  · have h9 := r_nMx R
    unfold CnMx
    simpa (disch := omega) only [nM_u, tk_ne9, tk_inj, if_false, if_true, false_and, and_false, Nat.reduceEqDiff, reduceIte, reduceCtorEq, and_true, true_and] using h9
  · have h9 := r_nP R
    unfold CnP
    simpa (disch := omega) only [gI_uI, nP_u, tk_ne9, tk_inj, if_false, if_true, false_and, and_false, Nat.reduceEqDiff, reduceIte, reduceCtorEq, and_true, true_and] using h9
  · have h9 := r_nPx R
    unfold CnPx
    simpa (disch := omega) only [nP_u, tk_ne9, tk_inj, if_false, if_true, false_and, and_false, Nat.reduceEqDiff, reduceIte, reduceCtorEq, and_true, true_and] using h9
  · have h9 := r_nO R
    unfold CnO
    simpa (disch := omega) only [gI_uI, nO_u, tk_ne9, tk_inj, if_false, if_true, false_and, and_false, Nat.reduceEqDiff, reduceIte, reduceCtorEq, and_true, true_and] using h9
  · have h9 := r_nOx R
    unfold CnOx
    simpa (disch := omega) only [nO_u, tk_ne9, tk_inj, if_false, if_true, false_and, and_false, Nat.reduceEqDiff, reduceIte, reduceCtorEq, and_true, true_and] using h9
  · have h9 := r_hr R
    unfold Chr
    simpa (disch := omega) only [gI_uI, hN_u, tk_ne9, tk_inj, if_false, if_true, false_and, and_false, Nat.reduceEqDiff, reduceIte, reduceCtorEq, and_true, true_and] using h9
  · have h9 := r_hrx R
    unfold Chrx
    simpa (disch := omega) only [hN_u, tk_ne9, tk_inj, if_false, if_true, false_and, and_false, Nat.reduceEqDiff, reduceIte, reduceCtorEq, and_true, true_and] using h9
  · have h9 := r_stb R
    unfold Cstb
    simpa (disch := omega) only [gI_uI, tk_ne9, tk_inj, if_false, if_true, false_and, and_false, Nat.reduceEqDiff, reduceIte, reduceCtorEq, and_true, true_and] using h9
  · have h9 := r_ex R
    exact h9
  · have h9 := r_k0 R
    unfold Ck0
    simpa (disch := omega) only [sI_wI, sI_wP, tk_ne9, tk_inj, if_false, if_true, false_and, and_false, Nat.reduceEqDiff, reduceIte, reduceCtorEq, and_true, true_and] using h9
  · have h9 := r_k1 R
    unfold Ck1
    simpa (disch := omega) only [sI_wI, sI_wP, gI_uI, tk_ne9, tk_inj, if_false, if_true, false_and, and_false, Nat.reduceEqDiff, reduceIte, reduceCtorEq, and_true, true_and] using h9
  · have h9 := r_k2 R
    unfold Ck2
    simpa (disch := omega) only [sI_wI, sI_wP, gI_uI, tk_ne9, tk_inj, if_false, if_true, false_and, and_false, Nat.reduceEqDiff, reduceIte, reduceCtorEq, and_true, true_and] using h9
  · have h9 := r_k3 R
    unfold Ck3
    simpa (disch := omega) only [sI_wI, sI_wP, gI_uI, tk_ne9, tk_inj, if_false, if_true, false_and, and_false, Nat.reduceEqDiff, reduceIte, reduceCtorEq, and_true, true_and] using h9
  · have h9 := r_k5 R
    unfold Ck5
    simpa (disch := omega) only [sI_wI, sI_wP, gI_uI, tk_ne9, tk_inj, if_false, if_true, false_and, and_false, Nat.reduceEqDiff, reduceIte, reduceCtorEq, and_true, true_and] using h9
  · have h9 := r_k7 R
    unfold Ck7
    simpa (disch := omega) only [sI_wI, sI_wP, gI_uI, tk_ne9, tk_inj, if_false, if_true, false_and, and_false, Nat.reduceEqDiff, reduceIte, reduceCtorEq, and_true, true_and] using h9
  · have h9 := r_k8 R
    unfold Ck8
    simpa (disch := omega) only [sI_wI, sI_wP, gI_uI, tk_ne9, tk_inj, if_false, if_true, false_and, and_false, Nat.reduceEqDiff, reduceIte, reduceCtorEq, and_true, true_and] using h9
  · have h9 := r_k9 R
    unfold Ck9
    simpa (disch := omega) only [sI_wI, sI_wP, gI_uI, tk_ne9, tk_inj, if_false, if_true, false_and, and_false, Nat.reduceEqDiff, reduceIte, reduceCtorEq, and_true, true_and] using h9
  · unfold Ck10
    intro i hi
    rw [n9, mInSt_u _ _ _ _ _ _ (by decide) (by decide) (by decide), mInSt_no _ _ (by rw [gI_ne (by decide), gI_ne (by decide), gI_ne (by decide), st]; decide) (by decide), mInSt_u _ _ _ _ _ _ (by decide) (by decide) (by decide), mInSt_u _ _ _ _ _ _ (by decide) (by decide) (by decide), mInSt_u _ _ _ _ _ _ (by decide) (by decide) (by decide)]
    simpa [sI_wI, sI_wP, tk_ne9] using r_k10 R i hi
  · have h9 := r_k11 R
    unfold Ck11
    simpa (disch := omega) only [sI_wI, sI_wP, nO_u, mProm_u, tk_ne9, tk_inj, if_false, if_true, false_and, and_false, Nat.reduceEqDiff, reduceIte, reduceCtorEq, and_true, true_and] using h9
  · have h9 := r_k12 R
    unfold Ck12
    simpa (disch := omega) only [sI_wI, sI_wP, tk_ne9, tk_inj, if_false, if_true, false_and, and_false, Nat.reduceEqDiff, reduceIte, reduceCtorEq, and_true, true_and] using h9
  · have h9 := r_ksa R
    unfold Cksa
    simpa (disch := omega) only [gI_uI, tk_ne9, tk_inj, if_false, if_true, false_and, and_false, Nat.reduceEqDiff, reduceIte, reduceCtorEq, and_true, true_and] using h9
  · have h9 := r_ksb R
    unfold Cksb
    simpa (disch := omega) only [gI_uI, nOp_u, tk_ne9, tk_inj, if_false, if_true, false_and, and_false, Nat.reduceEqDiff, reduceIte, reduceCtorEq, and_true, true_and] using h9
  · have h9 := r_ksc R
    unfold Cksc
    simpa (disch := omega) only [gI_uI, nLn_u, nOp_u, tk_ne9, tk_inj, if_false, if_true, false_and, and_false, Nat.reduceEqDiff, reduceIte, reduceCtorEq, and_true, true_and] using h9
  · have h9 := r_kw R
    unfold Ckw
    simpa (disch := omega) only [gI_uI, tk_ne9, tk_inj, if_false, if_true, false_and, and_false, Nat.reduceEqDiff, reduceIte, reduceCtorEq, and_true, true_and] using h9
  · have h9 := r_kl R
    unfold Ckl
    simpa (disch := omega) only [gI_uI, nLn_u, tk_ne9, tk_inj, if_false, if_true, false_and, and_false, Nat.reduceEqDiff, reduceIte, reduceCtorEq, and_true, true_and] using h9
  · have h9 := r_ko R
    unfold Cko
    simpa (disch := omega) only [gI_uI, nOp_u, tk_ne9, tk_inj, if_false, if_true, false_and, and_false, Nat.reduceEqDiff, reduceIte, reduceCtorEq, and_true, true_and] using h9
  · have h9 := r_kp R
    unfold Ckp
    simpa (disch := omega) only [gI_uI, tk_ne9, tk_inj, if_false, if_true, false_and, and_false, Nat.reduceEqDiff, reduceIte, reduceCtorEq, and_true, true_and] using h9
  · have h9 := r_l0 R
    unfold Cl0
    simpa (disch := omega) only [sP_wI, sP_wP, nLn_u, tk_ne9, tk_inj, if_false, if_true, false_and, and_false, Nat.reduceEqDiff, reduceIte, reduceCtorEq, and_true, true_and] using h9
  · have h9 := r_l1 R
    unfold Cl1
    simpa (disch := omega) only [sP_wI, sP_wP, nLn_u, lnP_u, tk_ne9, tk_inj, if_false, if_true, false_and, and_false, Nat.reduceEqDiff, reduceIte, reduceCtorEq, and_true, true_and] using h9
  · have h9 := r_l2 R
    unfold Cl2
    simpa (disch := omega) only [sI_wI, sI_wP, gI_uI, nLn_u, tk_ne9, tk_inj, if_false, if_true, false_and, and_false, Nat.reduceEqDiff, reduceIte, reduceCtorEq, and_true, true_and] using h9
  · have h9 := r_l3 R
    unfold Cl3
    simpa (disch := omega) only [sP_wI, sP_wP, gI_uI, nLn_u, tk_ne9, tk_inj, if_false, if_true, false_and, and_false, Nat.reduceEqDiff, reduceIte, reduceCtorEq, and_true, true_and] using h9
  · have h9 := r_lm R
    unfold Clm
    simpa (disch := omega) only [gI_uI, nLn_u, lnP_u, tk_ne9, tk_inj, if_false, if_true, false_and, and_false, Nat.reduceEqDiff, reduceIte, reduceCtorEq, and_true, true_and] using h9
  · have h9 := r_o0 R
    unfold Co0
    simpa (disch := omega) only [sP_wI, sP_wP, nOp_u, tk_ne9, tk_inj, if_false, if_true, false_and, and_false, Nat.reduceEqDiff, reduceIte, reduceCtorEq, and_true, true_and] using h9
  · have h9 := r_o1 R
    unfold Co1
    simpa (disch := omega) only [sI_wI, sI_wP, gI_uI, nOp_u, tk_ne9, tk_inj, if_false, if_true, false_and, and_false, Nat.reduceEqDiff, reduceIte, reduceCtorEq, and_true, true_and] using h9
  · have h9 := r_o2 R
    unfold Co2
    simpa (disch := omega) only [sI_wI, sI_wP, gI_uI, nOp_u, tk_ne9, tk_inj, if_false, if_true, false_and, and_false, Nat.reduceEqDiff, reduceIte, reduceCtorEq, and_true, true_and] using h9
  · have h9 := r_o3 R
    unfold Co3
    simpa (disch := omega) only [sI_wI, sI_wP, gI_uI, nOp_u, tk_ne9, tk_inj, if_false, if_true, false_and, and_false, Nat.reduceEqDiff, reduceIte, reduceCtorEq, and_true, true_and] using h9
  · have h9 := r_om R
    unfold Com
    simpa (disch := omega) only [gI_uI, nOp_u, tk_ne9, tk_inj, if_false, if_true, false_and, and_false, Nat.reduceEqDiff, reduceIte, reduceCtorEq, and_true, true_and] using h9
  · have h9 := r_b0 R
    unfold Cb0
    simpa (disch := omega) only [sP_wI, sP_wP, nB_u, tk_ne9, tk_inj, if_false, if_true, false_and, and_false, Nat.reduceEqDiff, reduceIte, reduceCtorEq, and_true, true_and] using h9
  · have h9 := r_bn R
    unfold Cbn
    simpa (disch := omega) only [sI_wI, sI_wP, nB_u, tk_ne9, tk_inj, if_false, if_true, false_and, and_false, Nat.reduceEqDiff, reduceIte, reduceCtorEq, and_true, true_and] using h9
  · have h9 := r_bk R
    unfold Cbk
    simpa (disch := omega) only [sP_wI, sP_wP, nB_u, kd_u, tk_ne9, tk_inj, if_false, if_true, false_and, and_false, Nat.reduceEqDiff, reduceIte, reduceCtorEq, and_true, true_and] using h9
  · have h9 := r_b2 R
    unfold Cb2
    simpa (disch := omega) only [sI_wI, sI_wP, gI_uI, nB_u, tk_ne9, tk_inj, if_false, if_true, false_and, and_false, Nat.reduceEqDiff, reduceIte, reduceCtorEq, and_true, true_and] using h9
  · have h9 := r_b3 R
    unfold Cb3
    simpa (disch := omega) only [sI_wI, sI_wP, gI_uI, nB_u, tk_ne9, tk_inj, if_false, if_true, false_and, and_false, Nat.reduceEqDiff, reduceIte, reduceCtorEq, and_true, true_and] using h9
  · unfold Cb4
    intro x0_ h0
    have h9 := r_b4 R x0_ h0
    by_cases e1 : x0_ = j
    · subst e1
      (try simp (disch := omega) [sI_wI, sI_wP, sI_wL, sI_wN, sP_wI, sP_wP, sP_wL, sP_wN, sL_wI, sL_wP, sL_wL, sL_wN, sX_wI, sX_wP, sX_wL, sX_wN, gI_uI, gI_uL, gL_uI, gL_uL, tk_ne9, tk_inj, nB_u, nM_u, nP_u, nO_u, hN_u, nLn_u, nOp_u, lnP_u, pc_u, kd_u, op_u, pr_u, mInSt_u, mProm_u, nInSt_u, nProm_u, totp_u, tot_u, nB_l, nM_l, nP_l, nO_l, hN_l, nLn_l, nOp_l, lnP_l, pc_l, kd_l, op_l, pr_l, mInSt_l, mProm_l, nInSt_l, nProm_l, totp_l, tot_l, if_false, if_true, false_and, and_false, Nat.reduceEqDiff, reduceIte, reduceCtorEq, and_true, true_and]) <;> first | exact h9 | assumption | grind
    · (try simp (disch := omega) [sI_wI, sI_wP, sI_wL, sI_wN, sP_wI, sP_wP, sP_wL, sP_wN, sL_wI, sL_wP, sL_wL, sL_wN, sX_wI, sX_wP, sX_wL, sX_wN, gI_uI, gI_uL, gL_uI, gL_uL, tk_ne9, tk_inj, nB_u, nM_u, nP_u, nO_u, hN_u, nLn_u, nOp_u, lnP_u, pc_u, kd_u, op_u, pr_u, mInSt_u, mProm_u, nInSt_u, nProm_u, totp_u, tot_u, nB_l, nM_l, nP_l, nO_l, hN_l, nLn_l, nOp_l, lnP_l, pc_l, kd_l, op_l, pr_l, mInSt_l, mProm_l, nInSt_l, nProm_l, totp_l, tot_l, if_false, if_true, false_and, and_false, Nat.reduceEqDiff, reduceIte, reduceCtorEq, and_true, true_and, e1]) <;> first | exact h9 | assumption | grind
  · have h9 := r_b5 R
    unfold Cb5
    simpa (disch := omega) only [sI_wI, sI_wP, gI_uI, nB_u, tk_ne9, tk_inj, if_false, if_true, false_and, and_false, Nat.reduceEqDiff, reduceIte, reduceCtorEq, and_true, true_and] using h9
  · have h9 := r_b6 R
    unfold Cb6
    simpa (disch := omega) only [sI_wI, sI_wP, gI_uI, nB_u, tk_ne9, tk_inj, if_false, if_true, false_and, and_false, Nat.reduceEqDiff, reduceIte, reduceCtorEq, and_true, true_and] using h9
  · have h9 := r_b7 R
    unfold Cb7
    simpa (disch := omega) only [sI_wI, sI_wP, gI_uI, nB_u, tk_ne9, tk_inj, if_false, if_true, false_and, and_false, Nat.reduceEqDiff, reduceIte, reduceCtorEq, and_true, true_and] using h9
  · have h9 := r_b8 R
    unfold Cb8
    simpa (disch := omega) only [sI_wI, sI_wP, gI_uI, nB_u, tk_ne9, tk_inj, if_false, if_true, false_and, and_false, Nat.reduceEqDiff, reduceIte, reduceCtorEq, and_true, true_and] using h9
  · have h9 := r_b9 R
    unfold Cb9
    simpa (disch := omega) only [sI_wI, sI_wP, gI_uI, nB_u, tk_ne9, tk_inj, if_false, if_true, false_and, and_false, Nat.reduceEqDiff, reduceIte, reduceCtorEq, and_true, true_and] using h9
  · have h9 := r_b10 R
    unfold Cb10
    simpa (disch := omega) only [sI_wI, sI_wP, gI_uI, nB_u, tk_ne9, tk_inj, if_false, if_true, false_and, and_false, Nat.reduceEqDiff, reduceIte, reduceCtorEq, and_true, true_and] using h9
  · have h9 := r_b11 R
    unfold Cb11
    simpa (disch := omega) only [sL_wI, sL_wP, gL_uI, nB_u, tk_ne9, tk_inj, if_false, if_true, false_and, and_false, Nat.reduceEqDiff, reduceIte, reduceCtorEq, and_true, true_and] using h9
  · have h9 := r_bK R
    unfold CbK
    simpa (disch := omega) only [gI_uI, nB_u, kd_u, tk_ne9, tk_inj, if_false, if_true, false_and, and_false, Nat.reduceEqDiff, reduceIte, reduceCtorEq, and_true, true_and] using h9
  · have h9 := r_bP R
    unfold CbP
    simpa (disch := omega) only [gI_uI, nB_u, pc_u, tk_ne9, tk_inj, if_false, if_true, false_and, and_false, Nat.reduceEqDiff, reduceIte, reduceCtorEq, and_true, true_and] using h9
  · have h9 := r_bO R
    unfold CbO
    simpa (disch := omega) only [gI_uI, nB_u, op_u, tk_ne9, tk_inj, if_false, if_true, false_and, and_false, Nat.reduceEqDiff, reduceIte, reduceCtorEq, and_true, true_and] using h9
  · unfold CbW
    intro x h1
    rw [n9] at h1
    have h9 := r_bW R x h1
    by_cases e1 : x = j
    · subst e1; simpa (disch := omega) [gI_uI, op_u, nOp_u, kd_u] using h9 (Or.inl st)
    · simpa (disch := omega) [gI_uI, e1, op_u, nOp_u, kd_u] using h9
  · unfold CbZ
    intro x h1
    rw [n9] at h1
    have h9 := r_bZ R x h1
    by_cases e1 : x = j
    · subst e1
      rw [st] at h9
      have h8 : ¬ pc M x = 0 := fun z => absurd (h9.mpr z) (by decide)
      simpa (disch := omega) [gI_uI, pc_u] using h8
    · simpa (disch := omega) [gI_uI, e1, pc_u] using h9
  · have h9 := r_bF R
    unfold CbF
    simpa (disch := omega) only [gI_uI, nB_u, tk_ne9, tk_inj, if_false, if_true, false_and, and_false, Nat.reduceEqDiff, reduceIte, reduceCtorEq, and_true, true_and] using h9
  · have h9 := r_bS R
    unfold CbS
    simpa (disch := omega) only [gI_uI, nB_u, tk_ne9, tk_inj, if_false, if_true, false_and, and_false, Nat.reduceEqDiff, reduceIte, reduceCtorEq, and_true, true_and] using h9
  · have h9 := r_bC R
    unfold CbC
    simpa (disch := omega) only [gI_uI, nB_u, tk_ne9, tk_inj, if_false, if_true, false_and, and_false, Nat.reduceEqDiff, reduceIte, reduceCtorEq, and_true, true_and] using h9
  · unfold CbT
    intro x h1
    rw [n9] at h1
    have h9 := r_bT R x h1
    by_cases e1 : x = j
    · subst e1; exact ⟨2, by simp [gI_uI]; rfl, by omega⟩
    · simpa [gI_uI, e1] using h9
  · have h9 := r_bU R
    unfold CbU
    simpa (disch := omega) only [gI_uI, nB_u, kd_u, tk_ne9, tk_inj, if_false, if_true, false_and, and_false, Nat.reduceEqDiff, reduceIte, reduceCtorEq, and_true, true_and] using h9
  · have h9 := r_bq R
    unfold Cbq
    simpa (disch := omega) only [nB_u, totp_u, tk_ne9, tk_inj, if_false, if_true, false_and, and_false, Nat.reduceEqDiff, reduceIte, reduceCtorEq, and_true, true_and] using h9
  · unfold Cps
    intro he i hi
    rw [n9, n8, nInSt_u _ _ _ _ _ _ (by decide) (by decide) (by decide), nInSt_no _ _ (by rw [gI_ne (by decide), gI_ne (by decide), gI_ne (by decide), st]; decide) (by decide), nInSt_u _ _ _ _ _ _ (by decide) (by decide) (by decide), nInSt_u _ _ _ _ _ _ (by decide) (by decide) (by decide), nInSt_u _ _ _ _ _ _ (by decide) (by decide) (by decide)]
    simp (disch := decide) only [nProm_u]
    exact r_ps R he i hi
  · have h9 := r_bp R
    unfold Cbp
    simpa (disch := omega) only [gL_uI, nB_u, tk_ne9, tk_inj, if_false, if_true, false_and, and_false, Nat.reduceEqDiff, reduceIte, reduceCtorEq, and_true, true_and] using h9
  · have h9 := r_bc R
    unfold Cbc
    simpa (disch := omega) only [nB_u, hN_u, tot_u, tk_ne9, tk_inj, if_false, if_true, false_and, and_false, Nat.reduceEqDiff, reduceIte, reduceCtorEq, and_true, true_and] using h9
  · have h9 := r_fB R
    unfold CfB
    simpa (disch := omega) only [sX_wI, sX_wP, nB_u, tk_ne9, tk_inj, if_false, if_true, false_and, and_false, Nat.reduceEqDiff, reduceIte, reduceCtorEq, and_true, true_and] using h9
  · have h9 := r_fL R
    unfold CfL
    simpa (disch := omega) only [sX_wI, sX_wP, nLn_u, tk_ne9, tk_inj, if_false, if_true, false_and, and_false, Nat.reduceEqDiff, reduceIte, reduceCtorEq, and_true, true_and] using h9
  · have h9 := r_fO R
    unfold CfO
    simpa (disch := omega) only [sX_wI, sX_wP, nOp_u, tk_ne9, tk_inj, if_false, if_true, false_and, and_false, Nat.reduceEqDiff, reduceIte, reduceCtorEq, and_true, true_and] using h9
  · have h9 := r_fM R
    unfold CfM
    simpa (disch := omega) only [sX_wI, sX_wP, nM_u, tk_ne9, tk_inj, if_false, if_true, false_and, and_false, Nat.reduceEqDiff, reduceIte, reduceCtorEq, and_true, true_and] using h9
  · have h9 := r_fP R
    unfold CfP
    simpa (disch := omega) only [sX_wI, sX_wP, nP_u, tk_ne9, tk_inj, if_false, if_true, false_and, and_false, Nat.reduceEqDiff, reduceIte, reduceCtorEq, and_true, true_and] using h9
  · have h9 := r_fR R
    unfold CfR
    simpa (disch := omega) only [sX_wI, sX_wP, nO_u, tk_ne9, tk_inj, if_false, if_true, false_and, and_false, Nat.reduceEqDiff, reduceIte, reduceCtorEq, and_true, true_and] using h9
  · have h9 := r_fG R
    exact h9
  · have h9 := r_m0 R
    unfold Cm0
    simpa (disch := omega) only [sP_wI, sP_wP, nM_u, tk_ne9, tk_inj, if_false, if_true, false_and, and_false, Nat.reduceEqDiff, reduceIte, reduceCtorEq, and_true, true_and] using h9
  · have h9 := r_mn R
    unfold Cmn
    simpa (disch := omega) only [sI_wI, sI_wP, nM_u, tk_ne9, tk_inj, if_false, if_true, false_and, and_false, Nat.reduceEqDiff, reduceIte, reduceCtorEq, and_true, true_and] using h9
  · have h9 := r_m1 R
    unfold Cm1
    simpa (disch := omega) only [sI_wI, sI_wP, gI_uI, nM_u, tk_ne9, tk_inj, if_false, if_true, false_and, and_false, Nat.reduceEqDiff, reduceIte, reduceCtorEq, and_true, true_and] using h9
  · have h9 := r_m2 R
    unfold Cm2
    simpa (disch := omega) only [sI_wI, sI_wP, gI_uI, nM_u, tk_ne9, tk_inj, if_false, if_true, false_and, and_false, Nat.reduceEqDiff, reduceIte, reduceCtorEq, and_true, true_and] using h9
  · have h9 := r_m3 R
    unfold Cm3
    simpa (disch := omega) only [sI_wI, sI_wP, gI_uI, nM_u, tk_ne9, tk_inj, if_false, if_true, false_and, and_false, Nat.reduceEqDiff, reduceIte, reduceCtorEq, and_true, true_and] using h9
  · have h9 := r_m4 R
    unfold Cm4
    simpa (disch := omega) only [sI_wI, sI_wP, gI_uI, nM_u, tk_ne9, tk_inj, if_false, if_true, false_and, and_false, Nat.reduceEqDiff, reduceIte, reduceCtorEq, and_true, true_and] using h9
  · have h9 := r_m5 R
    unfold Cm5
    simpa (disch := omega) only [sI_wI, sI_wP, gI_uI, nM_u, tk_ne9, tk_inj, if_false, if_true, false_and, and_false, Nat.reduceEqDiff, reduceIte, reduceCtorEq, and_true, true_and] using h9
  · unfold Cm9
    intro x0_ h0
    have h9 := r_m9 R x0_ h0
    by_cases e1 : x0_ = m
    · subst e1
      (try simp (disch := omega) [sI_wI, sI_wP, sI_wL, sI_wN, sP_wI, sP_wP, sP_wL, sP_wN, sL_wI, sL_wP, sL_wL, sL_wN, sX_wI, sX_wP, sX_wL, sX_wN, gI_uI, gI_uL, gL_uI, gL_uL, tk_ne9, tk_inj, nB_u, nM_u, nP_u, nO_u, hN_u, nLn_u, nOp_u, lnP_u, pc_u, kd_u, op_u, pr_u, mInSt_u, mProm_u, nInSt_u, nProm_u, totp_u, tot_u, nB_l, nM_l, nP_l, nO_l, hN_l, nLn_l, nOp_l, lnP_l, pc_l, kd_l, op_l, pr_l, mInSt_l, mProm_l, nInSt_l, nProm_l, totp_l, tot_l, if_false, if_true, false_and, and_false, Nat.reduceEqDiff, reduceIte, reduceCtorEq, and_true, true_and]) <;> first | exact h9 | assumption | grind
    · (try simp (disch := omega) [sI_wI, sI_wP, sI_wL, sI_wN, sP_wI, sP_wP, sP_wL, sP_wN, sL_wI, sL_wP, sL_wL, sL_wN, sX_wI, sX_wP, sX_wL, sX_wN, gI_uI, gI_uL, gL_uI, gL_uL, tk_ne9, tk_inj, nB_u, nM_u, nP_u, nO_u, hN_u, nLn_u, nOp_u, lnP_u, pc_u, kd_u, op_u, pr_u, mInSt_u, mProm_u, nInSt_u, nProm_u, totp_u, tot_u, nB_l, nM_l, nP_l, nO_l, hN_l, nLn_l, nOp_l, lnP_l, pc_l, kd_l, op_l, pr_l, mInSt_l, mProm_l, nInSt_l, nProm_l, totp_l, tot_l, if_false, if_true, false_and, and_false, Nat.reduceEqDiff, reduceIte, reduceCtorEq, and_true, true_and, e1]) <;> first | exact h9 | assumption | grind
  · have h9 := r_m11 R
    unfold Cm11
    simpa (disch := omega) only [sI_wI, sI_wP, gI_uI, nM_u, tk_ne9, tk_inj, if_false, if_true, false_and, and_false, Nat.reduceEqDiff, reduceIte, reduceCtorEq, and_true, true_and] using h9
  · have h9 := r_m13 R
    unfold Cm13
    simpa (disch := omega) only [sI_wI, sI_wP, gI_uI, nM_u, tk_ne9, tk_inj, if_false, if_true, false_and, and_false, Nat.reduceEqDiff, reduceIte, reduceCtorEq, and_true, true_and] using h9
  · have h9 := r_m14 R
    unfold Cm14
    simpa (disch := omega) only [sI_wI, sI_wP, gI_uI, nM_u, tk_ne9, tk_inj, if_false, if_true, false_and, and_false, Nat.reduceEqDiff, reduceIte, reduceCtorEq, and_true, true_and] using h9
  · have h9 := r_m6 R
    unfold Cm6
    simpa (disch := omega) only [sP_wI, sP_wP, gI_uI, nM_u, tk_ne9, tk_inj, if_false, if_true, false_and, and_false, Nat.reduceEqDiff, reduceIte, reduceCtorEq, and_true, true_and] using h9
  · unfold Cm7
    intro x h0
    rw [n7] at h0
    have h9 := r_m7 R x h0
    by_cases e1 : x = m
    · subst e1; simp [sP_wP, sP_wI, gI_uI, tp_nI (show j < 2 ^ 31 by omega)]
    · simpa [sP_wP, sP_wI, gI_uI, e1, tk_inj] using h9
  · unfold Cm8
    intro x h0
    rw [n7] at h0
    have h9 := r_m8 R x h0
    by_cases e1 : x = m
    · subst e1; simp [sP_wP, sP_wI, gI_uI, tp_nI (show p < 2 ^ 31 by omega)]
    · simpa [sP_wP, sP_wI, gI_uI, e1, tk_inj] using h9
  · have h9 := r_m12 R
    unfold Cm12
    simpa (disch := omega) only [sP_wI, sP_wP, gI_uI, nM_u, tk_ne9, tk_inj, if_false, if_true, false_and, and_false, Nat.reduceEqDiff, reduceIte, reduceCtorEq, and_true, true_and] using h9
  · unfold Cm10
    intro x j1 h0 h1 h2
    rw [n7] at h0
    rw [n9] at h1
    by_cases e1 : x = m
    · subst e1
      have h3 : nI j = nI j1 := by simpa [gI_uI] using h2
      have h4 : j = j1 := (nI_eq (by omega) (by omega)).mp h3
      subst h4
      simp [sI_wI, sI_wP, gI_uI, tk_ne9]
    · have h3 : gI M 34 x = nI j1 := by simpa [gI_uI, e1] using h2
      have h4 : ¬ j1 = j := fun z => by subst z; exact nl x h0 h3
      have h9 := r_m10 R x j1 h0 h1 h3
      simpa [sI_wI, sI_wP, gI_uI, e1, h4, tk_ne9, tk_inj] using h9
  · have h9 := r_mma R
    unfold Cmma
    simpa (disch := omega) only [gI_uI, nM_u, tk_ne9, tk_inj, if_false, if_true, false_and, and_false, Nat.reduceEqDiff, reduceIte, reduceCtorEq, and_true, true_and] using h9
  · unfold Cmmb
    intro x h0
    rw [n7] at h0
    by_cases e1 : x = m
    · right
      subst e1
      exact ⟨j, p, by simp [gI_uI], by rw [n9]; exact hj, by simp [gI_uI], by simp [gI_uI], by rw [n6]; exact hp⟩
    · rcases r_mmb R x h0 with h9 | ⟨j1, p1, w1, w2, w3, w4, w5⟩
      · left; simpa [gI_uI, e1] using h9
      · right
        refine ⟨j1, p1, by simpa [gI_uI, e1] using w1, by rw [n9]; exact w2, ?_, by simpa [gI_uI, e1] using w4, by rw [n6]; exact w5⟩
        by_cases e2 : j1 = j
        · simp [gI_uI, e2]
        · simpa [gI_uI, e2] using w3
  · have h9 := r_mmc R
    unfold Cmmc
    simpa (disch := omega) only [gI_uI, nM_u, tk_ne9, tk_inj, if_false, if_true, false_and, and_false, Nat.reduceEqDiff, reduceIte, reduceCtorEq, and_true, true_and] using h9
  · have h9 := r_mr29 R
    unfold Cmr29
    simpa (disch := omega) only [gI_uI, nM_u, tk_ne9, tk_inj, if_false, if_true, false_and, and_false, Nat.reduceEqDiff, reduceIte, reduceCtorEq, and_true, true_and] using h9
  · have h9 := r_mr30 R
    unfold Cmr30
    simpa (disch := omega) only [gI_uI, nM_u, tk_ne9, tk_inj, if_false, if_true, false_and, and_false, Nat.reduceEqDiff, reduceIte, reduceCtorEq, and_true, true_and] using h9
  · have h9 := r_mr31 R
    unfold Cmr31
    simpa (disch := omega) only [gI_uI, nM_u, tk_ne9, tk_inj, if_false, if_true, false_and, and_false, Nat.reduceEqDiff, reduceIte, reduceCtorEq, and_true, true_and] using h9
  · have h9 := r_mr32 R
    unfold Cmr32
    simpa (disch := omega) only [gI_uI, nM_u, tk_ne9, tk_inj, if_false, if_true, false_and, and_false, Nat.reduceEqDiff, reduceIte, reduceCtorEq, and_true, true_and] using h9
  · unfold Cmr35
    intro x h0
    rw [n7] at h0
    have h9 := r_mr35 R x h0
    by_cases e1 : x = m
    · exact ⟨L, by simp [gI_uI, e1], hL⟩
    · simpa [gI_uI, e1] using h9
  · have h9 := r_mr39 R
    unfold Cmr39
    simpa (disch := omega) only [gI_uI, nM_u, tk_ne9, tk_inj, if_false, if_true, false_and, and_false, Nat.reduceEqDiff, reduceIte, reduceCtorEq, and_true, true_and] using h9
  · have h9 := r_mr40 R
    unfold Cmr40
    simpa (disch := omega) only [gI_uI, nM_u, tk_ne9, tk_inj, if_false, if_true, false_and, and_false, Nat.reduceEqDiff, reduceIte, reduceCtorEq, and_true, true_and] using h9
  · unfold Cmd
    intro x y h0 h1 h2 h3
    rw [n7] at h0 h1
    by_cases e1 : x = m
    · subst e1
      have e2 : ¬ y = x := fun z => h2 z.symm
      have h4 : nI j = gI M 34 y := by simpa [gI_uI, e2] using h3
      exact absurd h4.symm (nl y h1)
    · by_cases e2 : y = m
      · subst e2
        have h4 : gI M 34 x = nI j := by simpa [gI_uI, e1] using h3
        exact absurd h4 (nl x h0)
      · have h4 : gI M 34 x = gI M 34 y := by simpa [gI_uI, e1, e2] using h3
        have h5 := r_md R x y h0 h1 h2 h4
        simpa [gI_uI, e1] using h5
  · unfold Cmw
    intro x y h0 h1 h2 h3
    rw [n7] at h0 h1
    by_cases e1 : x = m
    · subst e1
      have e2 : ¬ y = x := fun z => h2 z.symm
      have h4 : nI p = gI M 36 y := by simpa [gI_uI, e2] using h3
      exact absurd h4.symm (hfr y h1)
    · by_cases e2 : y = m
      · subst e2
        have h4 : gI M 36 x = nI p := by simpa [gI_uI, e1] using h3
        exact absurd h4 (hfr x h0)
      · have h4 : gI M 36 x = gI M 36 y := by simpa [gI_uI, e1, e2] using h3
        have h5 := r_mw R x y h0 h1 h2 h4
        simpa [gI_uI, e1] using h5
  · have h9 := r_q0 R
    unfold Cq0
    simpa (disch := omega) only [sP_wI, sP_wP, nP_u, tk_ne9, tk_inj, if_false, if_true, false_and, and_false, Nat.reduceEqDiff, reduceIte, reduceCtorEq, and_true, true_and] using h9
  · have h9 := r_qn R
    unfold Cqn
    simpa (disch := omega) only [sI_wI, sI_wP, nP_u, tk_ne9, tk_inj, if_false, if_true, false_and, and_false, Nat.reduceEqDiff, reduceIte, reduceCtorEq, and_true, true_and] using h9
  · have h9 := r_q1 R
    unfold Cq1
    simpa (disch := omega) only [sI_wI, sI_wP, gI_uI, nP_u, tk_ne9, tk_inj, if_false, if_true, false_and, and_false, Nat.reduceEqDiff, reduceIte, reduceCtorEq, and_true, true_and] using h9
  · have h9 := r_q2 R
    unfold Cq2
    simpa (disch := omega) only [sI_wI, sI_wP, gI_uI, nP_u, tk_ne9, tk_inj, if_false, if_true, false_and, and_false, Nat.reduceEqDiff, reduceIte, reduceCtorEq, and_true, true_and] using h9
  · have h9 := r_q3 R
    unfold Cq3
    simpa (disch := omega) only [sI_wI, sI_wP, gI_uI, nP_u, tk_ne9, tk_inj, if_false, if_true, false_and, and_false, Nat.reduceEqDiff, reduceIte, reduceCtorEq, and_true, true_and] using h9
  · have h9 := r_q4 R
    unfold Cq4
    simpa (disch := omega) only [sP_wI, sP_wP, nP_u, tk_ne9, tk_inj, if_false, if_true, false_and, and_false, Nat.reduceEqDiff, reduceIte, reduceCtorEq, and_true, true_and] using h9
  · have h9 := r_q5 R
    unfold Cq5
    simpa (disch := omega) only [sP_wI, sP_wP, nP_u, tk_ne9, tk_inj, if_false, if_true, false_and, and_false, Nat.reduceEqDiff, reduceIte, reduceCtorEq, and_true, true_and] using h9
  · unfold Cq6
    intro x h0
    rw [n6] at h0
    rw [n7]
    by_cases e1 : x = p
    · subst e1
      right
      exact ⟨m, hm, by simp [sI_wI], by simp [gI_uI]⟩
    · rcases r_q6 R x h0 with ⟨h1, h2⟩ | ⟨y, h1, h2, h3⟩
      · left
        refine ⟨by simpa [sI_wI, sI_wP, tk_ne9, tk_inj, e1] using h1, fun y hy => ?_⟩
        by_cases e2 : y = m
        · subst e2
          have h5 : ¬ nI p = nI x := fun z => e1 ((nI_eq (by omega) (by omega)).mp z).symm
          simpa [gI_uI] using h5
        · simpa [gI_uI, e2] using h2 y hy
      · right
        have e2 : ¬ y = m := fun z => by
          subst z
          exact nI_ne1 (show x < 2 ^ 31 - 1 by omega) (h3.symm.trans h36)
        exact ⟨y, h1, by simpa [sI_wI, sI_wP, tk_ne9, tk_inj, e1] using h2, by simpa [gI_uI, e2] using h3⟩
  · have h9 := r_ql R
    unfold Cql
    simpa (disch := omega) only [sI_wI, sI_wP, gI_uI, nP_u, tk_ne9, tk_inj, if_false, if_true, false_and, and_false, Nat.reduceEqDiff, reduceIte, reduceCtorEq, and_true, true_and] using h9
  · have h9 := r_qw R
    unfold Cqw
    simpa (disch := omega) only [sI_wI, sI_wP, gI_uI, nP_u, tk_ne9, tk_inj, if_false, if_true, false_and, and_false, Nat.reduceEqDiff, reduceIte, reduceCtorEq, and_true, true_and] using h9
  · have h9 := r_qm R
    unfold Cqm
    simpa (disch := omega) only [gI_uI, nP_u, tk_ne9, tk_inj, if_false, if_true, false_and, and_false, Nat.reduceEqDiff, reduceIte, reduceCtorEq, and_true, true_and] using h9
  · have h9 := r_qr R
    unfold Cqr
    simpa (disch := omega) only [gI_uI, nP_u, tk_ne9, tk_inj, if_false, if_true, false_and, and_false, Nat.reduceEqDiff, reduceIte, reduceCtorEq, and_true, true_and] using h9
  · have h9 := r_r0 R
    unfold Cr0
    simpa (disch := omega) only [sP_wI, sP_wP, nO_u, tk_ne9, tk_inj, if_false, if_true, false_and, and_false, Nat.reduceEqDiff, reduceIte, reduceCtorEq, and_true, true_and] using h9
  · have h9 := r_r1 R
    unfold Cr1
    simpa (disch := omega) only [sP_wI, sP_wP, gI_uI, nO_u, tk_ne9, tk_inj, if_false, if_true, false_and, and_false, Nat.reduceEqDiff, reduceIte, reduceCtorEq, and_true, true_and] using h9
  · have h9 := r_r2 R
    unfold Cr2
    simpa (disch := omega) only [sI_wI, sI_wP, gI_uI, nO_u, tk_ne9, tk_inj, if_false, if_true, false_and, and_false, Nat.reduceEqDiff, reduceIte, reduceCtorEq, and_true, true_and] using h9
  · have h9 := r_r3 R
    unfold Cr3
    simpa (disch := omega) only [sI_wI, sI_wP, gI_uI, nO_u, tk_ne9, tk_inj, if_false, if_true, false_and, and_false, Nat.reduceEqDiff, reduceIte, reduceCtorEq, and_true, true_and] using h9
  · have h9 := r_r4 R
    unfold Cr4
    simpa (disch := omega) only [sI_wI, sI_wP, gI_uI, nO_u, tk_ne9, tk_inj, if_false, if_true, false_and, and_false, Nat.reduceEqDiff, reduceIte, reduceCtorEq, and_true, true_and] using h9
  · have h9 := r_r5 R
    unfold Cr5
    simpa (disch := omega) only [sP_wI, sP_wP, gI_uI, nO_u, tk_ne9, tk_inj, if_false, if_true, false_and, and_false, Nat.reduceEqDiff, reduceIte, reduceCtorEq, and_true, true_and] using h9
  · have h9 := r_r6 R
    unfold Cr6
    simpa (disch := omega) only [sI_wI, sI_wP, gI_uI, nO_u, tk_ne9, tk_inj, if_false, if_true, false_and, and_false, Nat.reduceEqDiff, reduceIte, reduceCtorEq, and_true, true_and] using h9
  · have h9 := r_rk R
    unfold Crk
    simpa (disch := omega) only [gI_uI, nO_u, tk_ne9, tk_inj, if_false, if_true, false_and, and_false, Nat.reduceEqDiff, reduceIte, reduceCtorEq, and_true, true_and] using h9
  · have h9 := r_rp R
    unfold Crp
    simpa (disch := omega) only [gI_uI, nO_u, tk_ne9, tk_inj, if_false, if_true, false_and, and_false, Nat.reduceEqDiff, reduceIte, reduceCtorEq, and_true, true_and] using h9
  · have h9 := r_rq R
    unfold Crq
    simpa (disch := omega) only [gI_uI, nO_u, pr_u, tk_ne9, tk_inj, if_false, if_true, false_and, and_false, Nat.reduceEqDiff, reduceIte, reduceCtorEq, and_true, true_and] using h9
  · have h9 := r_rr R
    unfold Crr
    simpa (disch := omega) only [gI_uI, nO_u, pr_u, tk_ne9, tk_inj, if_false, if_true, false_and, and_false, Nat.reduceEqDiff, reduceIte, reduceCtorEq, and_true, true_and] using h9
  · have h9 := r_rs R
    unfold Crs
    simpa (disch := omega) only [gI_uI, nB_u, nO_u, tk_ne9, tk_inj, if_false, if_true, false_and, and_false, Nat.reduceEqDiff, reduceIte, reduceCtorEq, and_true, true_and] using h9
def mHr (M : MS) (m j p s : Nat) : Int32 := (if 1 < gI M 10 (4 * kd M j + op M j) - gI M 45 (4 * p + s) + 1 then gI M 10 (4 * kd M j + op M j) - gI M 45 (4 * p + s) + 1 else 1) + (if gI M 38 m = gI M 15 j then 0 else gI M 29 m)
def mLd (N : MS) (m j p : Nat) (L : Int32) : MS := uI (uI (uI (uI (uI (uI N 38 m (gI N 15 j)) 35 m L) 34 m (nI j)) 36 m (nI p)) 18 j 2) 124 j 0
def mBp (M : MS) (j : Nat) : Nat := (mPf M (mSk M j) (nP M)).toNatClampNeg
def mBeg (M : MS) (m j : Nat) : MS := mLd (if gI M 19 j = 0 ∧ gI M 122 j = 0 then mTP M j (nLn M (kd M j)) else M) m j (mBp M j) (mHr M m j (mBp M j) (mSk M j))
section RR
variable {e : Nat} {a : Sg} {M : MS}
theorem hr_ok (R : Rel e a M) {m j p s : Nat} (hm : m < nM M) (hj : j < nB M) (ho : op M j < nOp M (kd M j)) (hp : p < nP M) (hs : s < 4) : ∃ L, mHr M m j p s = nI L ∧ L ≤ 20 := by
  obtain ⟨w, s1, h, z1, z2, z3, z4, z5, z6, z7⟩ := r_om R _ _ (r_bK R j hj).2 ho
  obtain ⟨l, w1, f1, f2, f3, f4⟩ := r_qr R p s hp hs
  obtain ⟨u, u1, u2⟩ := r_mr29 R m hm
  have key : ∃ L, (if 1 < gI M 10 (4 * kd M j + op M j) - gI M 45 (4 * p + s) + 1 then gI M 10 (4 * kd M j + op M j) - gI M 45 (4 * p + s) + 1 else 1) = nI L ∧ L ≤ 10 := by
    rw [z5, f1]
    by_cases c : 1 < nI h - nI l + 1
    · rw [if_pos c]
      rcases Nat.lt_or_ge h l with d | d
      · exfalso
        have e1 : nI h - nI l + 1 ≤ 0 := by
          have e2 : nI h - nI l + 1 = nI (h + 1) - nI l := by rw [← nI_1]; grind
          rw [e2]
          exact nI_dle (by omega) (by omega)
        exact absurd (Int32.lt_of_lt_of_le c e1) (by decide)
      · exact ⟨h - l + 1, by rw [nI_sub d, nI_1], by omega⟩
    · rw [if_neg c]
      exact ⟨1, rfl, by omega⟩
  obtain ⟨L, k1, k2⟩ := key
  unfold mHr
  rw [k1]
  by_cases c : gI M 38 m = gI M 15 j
  · rw [if_pos c]
    exact ⟨L, Int32.add_zero _, by omega⟩
  · rw [if_neg c, u1, nI_add]
    exact ⟨L + u, rfl, by omega⟩
set_option maxHeartbeats 16000000 in
/-- the last step of the class: the machine is loaded -/
theorem si_load (R : Rel e a M) {N : MS} {a2 : Sg} (R2 : Rel e a2 N) {m j p s : Nat} (hm : m < nM M) (hj : j < nB M) (hp : p < nP M) (hs : s < 4) (hsk : gI M 9 (4 * kd M j + op M j) = nI s) (h34 : gI M 34 m = -1) (st : gI M 18 j = 1) (hfr : ∀ y, y < nM M → gI M 36 y ≠ nI p)
    (hN : ∀ t i, t ≠ 17 → (t ≠ 16 ∧ t ≠ 18) ∨ gI M 18 i ≠ 3 → gI N t i = gI M t i) : Si e (mLd N m j p (mHr M m j p s)) a2 (.inl none) (wp_X4_begin (tk 4 m) (some (tk 0 j)) (some (tk 5 (4 * kd M j + op M j))) (some (tk 7 p))) := by
  have hB := r_nBx R
  have ho := r_bW R j hj (Or.inl st)
  have hK := r_bK R j hj
  obtain ⟨L, l1, l2⟩ := hr_ok R hm hj ho hp hs
  have s0 : ∀ t i, t ≠ 16 → t ≠ 17 → t ≠ 18 → gI N t i = gI M t i := fun t i h1 h2 h3 => hN t i h2 (Or.inl ⟨h1, h3⟩)
  have nb : nB N = nB M := by unfold nB; rw [s0 _ _ (by decide) (by decide) (by decide)]
  have nm : nM N = nM M := by unfold nM; rw [s0 _ _ (by decide) (by decide) (by decide)]
  have np : nP N = nP M := by unfold nP; rw [s0 _ _ (by decide) (by decide) (by decide)]
  have stN : gI N 18 j = 1 := by rw [hN 18 j (by decide) (Or.inr (by rw [st]; decide))]; exact st
  have hKN : gI N 15 j = nI (kd M j) := by rw [s0 _ _ (by decide) (by decide) (by decide)]; exact hK.1
  have kk : kd N j = kd M j := by unfold kd; rw [s0 _ _ (by decide) (by decide) (by decide)]
  have R3 := rel_last R2 m (by rw [nm]; exact hm) (kd M j) hK.2
  have R4 := rel_load R3 m j p L (by rw [nM_u _ _ _ _ (by decide), nm]; exact hm) (by rw [nB_u _ _ _ _ (by decide), nb]; exact hj) (by rw [nP_u _ _ _ _ (by decide), np]; exact hp) l2 (by rw [gI_ne (by decide), s0 _ _ (by decide) (by decide) (by decide)]; exact h34) (by rw [gI_ne (by decide)]; exact stN) (fun y hy => by
    rw [nM_u _ _ _ _ (by decide), nm] at hy
    rw [gI_ne (by decide), s0 _ _ (by decide) (by decide) (by decide)]
    exact hfr y hy)
  have eL : mLd N m j p (mHr M m j p s) = uI (uI (uI (uI (uI (uI N 38 m (nI (kd M j))) 35 m (nI L)) 34 m (nI j)) 36 m (nI p)) 18 j 2) 124 j 0 := by unfold mLd; rw [l1, hKN]
  rw [eL]
  refine ⟨_, R4, fun M0 Post hp9 => ?_⟩
  have hjN : j < nB N := by rw [nb]; exact hj
  have hmN : m < nM N := by rw [nm]; exact hm
  have gk := r_bk R2 j hjN
  rw [kk] at gk
  have onN : nOp N (kd M j) = nOp M (kd M j) := by unfold nOp; rw [s0 _ _ (by decide) (by decide) (by decide)]
  have g1 : sI a2 (tk 5 (4 * kd M j + op M j)) 1 = nI s := by rw [r_o2 R2 _ _ hK.2 (by rw [onN]; exact ho), s0 _ _ (by decide) (by decide) (by decide)]; exact hsk
  have g2 : sI a2 (tk 5 (4 * kd M j + op M j)) 2 = gI M 10 (4 * kd M j + op M j) := by rw [r_o3 R2 _ _ hK.2 (by rw [onN]; exact ho), s0 _ _ (by decide) (by decide) (by decide)]
  have g4 := r_q4 R2 p (by rw [np]; exact hp)
  have gl : sI a2 (tk 21 p) s = gI M 45 (4 * p + s) := by rw [r_ql R2 p s (by rw [np]; exact hp) hs, s0 _ _ (by decide) (by decide) (by decide)]
  have gs : sI a2 (tk 4 m) 2 = gI M 29 m := by rw [r_m2 R2 m hmN, s0 _ _ (by decide) (by decide) (by decide)]
  have gn : sI a2 (tk 4 m) 0 = nI m := r_mn R2 m hmN
  have g12 := r_m12 R2 m hmN
  rw [s0 _ _ (by decide) (by decide) (by decide)] at g12
  have l1' := l1
  unfold mHr at l1'
  by_cases c : gI M 38 m = gI M 15 j
  · rw [if_pos c, Int32.add_zero] at l1'
    rw [c, hK.1, kp_nI (by omega)] at g12
    unfold wp_X4_begin wp_X4_begin_48
    simp (disch := first | (with_reducible exact rfl) | (with_reducible assumption) | omega | decide | (simp only [al_14, al_15, al_16, al_17, al_18, al_19, al_20, al_21, al_22, al_23, al_24, al_m0, al_m1, al_m2, al_m3, al_m4, al_m5, al_m6, al_m7, al_m8, al_m9, al_m10, al_m11, al_m12, al_m13, al_m15, al_m16, al_m17, al_m18, al_m19, al_m20, al_m21, al_m22, al_m23, al_m24, al_m25, al_m26, al_m28, al_m29, al_m30, al_m31, al_m32, al_m33, al_m34, al_m35, al_m36, al_m37, al_m38, al_m39, al_m40, al_m42, al_m43, al_m44, al_m45, al_m46, al_m48, al_m49, al_m50, al_m51, al_m52, al_m53, al_m60, al_m61]; omega) | (simp (disch := omega) only [gk, g1, g4, g12, hs, sP_put, mp_0, mp_1, mp_2, mp_3, mp_4, mp_5, mp_6, mp_7, mp_8, mp_9, mp_10, mp_11, mp_12, mp_13, mp_15, mp_16, mp_17, mp_18, mp_19, mp_20, mp_21, mp_22, mp_23, mp_24, mp_25, mp_26, mp_28, mp_29, mp_30, mp_31, mp_32, mp_33, mp_34, mp_35, mp_36, mp_37, mp_38, mp_39, mp_40, mp_42, mp_43, mp_44, mp_45, mp_46, mp_48, mp_49, mp_50, mp_51, mp_52, mp_53, mp_60, mp_61, sP_wI, sP_wP, sP_wL, true_and, and_true, tk_inj, false_and, and_false, if_true, if_false, tk_ne9]; with_reducible rfl) | (simp (disch := omega) only [gk, g1, g4, g12, hs, sI_putc, wI_putc, sI_put11, sI_put13, sI_putm, sL_put12, wI_put11, wI_put13, wI_putm, wL_put12, sP_put, sX_put, wP_put, sI_put_0, sI_put_1, sI_put_2, sI_put_3, sI_put_4, sI_put_5, sI_put_6, sI_put_7, sI_put_8, sI_put_9, sI_put_14, sI_put_15, sI_put_16, sI_put_17, sI_put_18, sI_put_19, sI_put_20, sI_put_21, sI_put_22, sI_put_23, sI_put_24, wI_put_0, wI_put_1, wI_put_2, wI_put_3, wI_put_4, wI_put_5, wI_put_6, wI_put_7, wI_put_8, wI_put_9, wI_put_14, wI_put_15, wI_put_16, wI_put_17, wI_put_18, wI_put_19, wI_put_20, wI_put_21, wI_put_22, wI_put_23, wI_put_24, wN_put_0, wN_put_1, wN_put_2, wN_put_3, wN_put_4, wN_put_5, wN_put_6, wN_put_7, wN_put_8, wN_put_9, wN_put_14, wN_put_15, wN_put_16, wN_put_17, wN_put_18, wN_put_19, wN_put_20, wN_put_21, wN_put_22, wN_put_23, wN_put_24, sL_put_0, sL_put_24, wL_put_0, wL_put_24, tm_0, tm_1, tm_2, tm_3, tm_4, tm_5, tm_6, tm_7, tm_8, tm_9, tm_10, tm_11, tm_12, tm_13, tm_14, tm_15, tm_16, tm_17, tm_18, tm_19, tm_20, tm_21, tm_22, tm_23, tm_24, at_11, at_12, at_13, at_14, at_15, at_16, at_17, at_18, at_19, at_20, at_21, at_22, at_23, at_24, al_14, al_15, al_16, al_17, al_18, al_19, al_20, al_21, al_22, al_23, al_24, al_m0, al_m1, al_m2, al_m3, al_m4, al_m5, al_m6, al_m7, al_m8, al_m9, al_m10, al_m11, al_m12, al_m13, al_m15, al_m16, al_m17, al_m18, al_m19, al_m20, al_m21, al_m22, al_m23, al_m24, al_m25, al_m26, al_m28, al_m29, al_m30, al_m31, al_m32, al_m33, al_m34, al_m35, al_m36, al_m37, al_m38, al_m39, al_m40, al_m42, al_m43, al_m44, al_m45, al_m46, al_m48, al_m49, al_m50, al_m51, al_m52, al_m53, al_m60, al_m61, mp_0, mp_1, mp_2, mp_3, mp_4, mp_5, mp_6, mp_7, mp_8, mp_9, mp_10, mp_11, mp_12, mp_13, mp_15, mp_16, mp_17, mp_18, mp_19, mp_20, mp_21, mp_22, mp_23, mp_24, mp_25, mp_26, mp_28, mp_29, mp_30, mp_31, mp_32, mp_33, mp_34, mp_35, mp_36, mp_37, mp_38, mp_39, mp_40, mp_42, mp_43, mp_44, mp_45, mp_46, mp_48, mp_49, mp_50, mp_51, mp_52, mp_53, mp_60, mp_61, row_14, row_15, row_16, row_17, row_18, row_19, row_20, ar_11, ar_12, ar_13, ar_14, ar_15, ar_16, ar_17, ar_18, ar_19, ar_20, ar_21, ar_22, ar_23, ar_24, cs_14, cs_15, cs_16, cs_17, cs_18, cs_19, cs_20, ex_ix, ex_0, b01_0, b01_1, KI_i, KI_x, KJ_j, KJ_x, KV_v, KV_x, KO_t, KO_n, KO_x, KO_rf, n4, n3, nI_add, nI_1, nI_leI, nI_ltI, nI_eq, gI_uI, gI_uL, gL_uI, gL_uL, sI_wI, sI_wP, sI_wL, sP_wI, sP_wP, sP_wL, sL_wI, sL_wP, sL_wL, forall_eq, exists_eq_left, exists_eq_left', Option.some.injEq, true_and, and_true, Nat.reduceAdd, Nat.reduceMul, Nat.reduceEqDiff, eq_self, tk_inj, and_self, false_and, and_false, if_true, if_false, forall_const, true_implies, ite_true, ite_false, reduceIte, reduceCtorEq, tk_ne9, i1e, i2e, i3e, i1_0, i2_0, i3_0, false_implies, false_or, or_false, true_or, or_true, String.reduceEq, Nat.reduceLT, Int32.le_refl, not_true_eq_false, not_false_eq_true, Nat.zero_lt_one, Bool.false_eq_true, Bool.true_eq_false]; done) | (simp (disch := omega) only [gk, g1, g4, g12, hs, sI_putc, wI_putc, sI_put11, sI_put13, sI_putm, sL_put12, wI_put11, wI_put13, wI_putm, wL_put12, sP_put, sX_put, wP_put, sI_put_0, sI_put_1, sI_put_2, sI_put_3, sI_put_4, sI_put_5, sI_put_6, sI_put_7, sI_put_8, sI_put_9, sI_put_14, sI_put_15, sI_put_16, sI_put_17, sI_put_18, sI_put_19, sI_put_20, sI_put_21, sI_put_22, sI_put_23, sI_put_24, wI_put_0, wI_put_1, wI_put_2, wI_put_3, wI_put_4, wI_put_5, wI_put_6, wI_put_7, wI_put_8, wI_put_9, wI_put_14, wI_put_15, wI_put_16, wI_put_17, wI_put_18, wI_put_19, wI_put_20, wI_put_21, wI_put_22, wI_put_23, wI_put_24, wN_put_0, wN_put_1, wN_put_2, wN_put_3, wN_put_4, wN_put_5, wN_put_6, wN_put_7, wN_put_8, wN_put_9, wN_put_14, wN_put_15, wN_put_16, wN_put_17, wN_put_18, wN_put_19, wN_put_20, wN_put_21, wN_put_22, wN_put_23, wN_put_24, sL_put_0, sL_put_24, wL_put_0, wL_put_24, tm_0, tm_1, tm_2, tm_3, tm_4, tm_5, tm_6, tm_7, tm_8, tm_9, tm_10, tm_11, tm_12, tm_13, tm_14, tm_15, tm_16, tm_17, tm_18, tm_19, tm_20, tm_21, tm_22, tm_23, tm_24, at_11, at_12, at_13, at_14, at_15, at_16, at_17, at_18, at_19, at_20, at_21, at_22, at_23, at_24, al_14, al_15, al_16, al_17, al_18, al_19, al_20, al_21, al_22, al_23, al_24, al_m0, al_m1, al_m2, al_m3, al_m4, al_m5, al_m6, al_m7, al_m8, al_m9, al_m10, al_m11, al_m12, al_m13, al_m15, al_m16, al_m17, al_m18, al_m19, al_m20, al_m21, al_m22, al_m23, al_m24, al_m25, al_m26, al_m28, al_m29, al_m30, al_m31, al_m32, al_m33, al_m34, al_m35, al_m36, al_m37, al_m38, al_m39, al_m40, al_m42, al_m43, al_m44, al_m45, al_m46, al_m48, al_m49, al_m50, al_m51, al_m52, al_m53, al_m60, al_m61, mp_0, mp_1, mp_2, mp_3, mp_4, mp_5, mp_6, mp_7, mp_8, mp_9, mp_10, mp_11, mp_12, mp_13, mp_15, mp_16, mp_17, mp_18, mp_19, mp_20, mp_21, mp_22, mp_23, mp_24, mp_25, mp_26, mp_28, mp_29, mp_30, mp_31, mp_32, mp_33, mp_34, mp_35, mp_36, mp_37, mp_38, mp_39, mp_40, mp_42, mp_43, mp_44, mp_45, mp_46, mp_48, mp_49, mp_50, mp_51, mp_52, mp_53, mp_60, mp_61, row_14, row_15, row_16, row_17, row_18, row_19, row_20, ar_11, ar_12, ar_13, ar_14, ar_15, ar_16, ar_17, ar_18, ar_19, ar_20, ar_21, ar_22, ar_23, ar_24, cs_14, cs_15, cs_16, cs_17, cs_18, cs_19, cs_20, ex_ix, ex_0, b01_0, b01_1, KI_i, KI_x, KJ_j, KJ_x, KV_v, KV_x, KO_t, KO_n, KO_x, KO_rf, n4, n3, nI_add, nI_1, nI_leI, nI_ltI, gI_uI, gI_uL, gL_uI, gL_uL, sI_wI, sI_wP, sI_wL, sP_wI, sP_wP, sP_wL, sL_wI, sL_wP, sL_wL, forall_eq, exists_eq_left, exists_eq_left', Option.some.injEq, true_and, and_true, Nat.reduceAdd, Nat.reduceMul, Nat.reduceEqDiff, eq_self, tk_inj, and_self, false_and, and_false, if_true, if_false, forall_const, true_implies, ite_true, ite_false, reduceIte, reduceCtorEq, tk_ne9, i1e, i2e, i3e, i1_0, i2_0, i3_0, false_implies, false_or, or_false, true_or, or_true, String.reduceEq, Nat.reduceLT, Int32.le_refl, not_true_eq_false, not_false_eq_true, Nat.zero_lt_one, Bool.false_eq_true, Bool.true_eq_false]; with_reducible rfl) | fail "no") only [↓dO1, ↓dO0, ↓KI_i, ↓KI_x, ↓KJ_j, ↓KJ_x, ↓KV_v, ↓KV_x, ↓KO_t, ↓KO_n, ↓KO_x, ↓KO_rf, ↓dT, ↓dAt, ↓dX, ↓dX0, ↓dE, ↓dS, ↓dR, ↓dAr, ↓dCs, ↓dB, ↓forall_eq, ↓dI1, ↓dI2, ↓dI3, ↓dI4, ↓dF1, ↓dF2, ↓wI_putm, ↓wI_put11, ↓wI_put13, ↓wL_put12, ↓wP_put, ↓wI_put_0, ↓wI_put_1, ↓wI_put_2, ↓wI_put_3, ↓wI_put_4, ↓wI_put_5, ↓wI_put_6, ↓wI_put_7, ↓wI_put_8, ↓wI_put_9, ↓wI_put_14, ↓wI_put_15, ↓wI_put_16, ↓wI_put_17, ↓wI_put_18, ↓wI_put_19, ↓wI_put_20, ↓wI_put_21, ↓wI_put_22, ↓wI_put_23, ↓wI_put_24, ↓wN_put_0, ↓wN_put_1, ↓wN_put_2, ↓wN_put_3, ↓wN_put_4, ↓wN_put_5, ↓wN_put_6, ↓wN_put_7, ↓wN_put_8, ↓wN_put_9, ↓wN_put_14, ↓wN_put_15, ↓wN_put_16, ↓wN_put_17, ↓wN_put_18, ↓wN_put_19, ↓wN_put_20, ↓wN_put_21, ↓wN_put_22, ↓wN_put_23, ↓wN_put_24, ↓wL_put_0, ↓wL_put_24]
    try simp (disch := omega) only [g2, gl, gs, gn, gk, l1', sI_putc, wI_putc, sI_put11, sI_put13, sI_putm, sL_put12, wI_put11, wI_put13, wI_putm, wL_put12, sP_put, sX_put, wP_put, sI_put_0, sI_put_1, sI_put_2, sI_put_3, sI_put_4, sI_put_5, sI_put_6, sI_put_7, sI_put_8, sI_put_9, sI_put_14, sI_put_15, sI_put_16, sI_put_17, sI_put_18, sI_put_19, sI_put_20, sI_put_21, sI_put_22, sI_put_23, sI_put_24, wI_put_0, wI_put_1, wI_put_2, wI_put_3, wI_put_4, wI_put_5, wI_put_6, wI_put_7, wI_put_8, wI_put_9, wI_put_14, wI_put_15, wI_put_16, wI_put_17, wI_put_18, wI_put_19, wI_put_20, wI_put_21, wI_put_22, wI_put_23, wI_put_24, wN_put_0, wN_put_1, wN_put_2, wN_put_3, wN_put_4, wN_put_5, wN_put_6, wN_put_7, wN_put_8, wN_put_9, wN_put_14, wN_put_15, wN_put_16, wN_put_17, wN_put_18, wN_put_19, wN_put_20, wN_put_21, wN_put_22, wN_put_23, wN_put_24, sL_put_0, sL_put_24, wL_put_0, wL_put_24, tm_0, tm_1, tm_2, tm_3, tm_4, tm_5, tm_6, tm_7, tm_8, tm_9, tm_10, tm_11, tm_12, tm_13, tm_14, tm_15, tm_16, tm_17, tm_18, tm_19, tm_20, tm_21, tm_22, tm_23, tm_24, at_11, at_12, at_13, at_14, at_15, at_16, at_17, at_18, at_19, at_20, at_21, at_22, at_23, at_24, al_14, al_15, al_16, al_17, al_18, al_19, al_20, al_21, al_22, al_23, al_24, al_m0, al_m1, al_m2, al_m3, al_m4, al_m5, al_m6, al_m7, al_m8, al_m9, al_m10, al_m11, al_m12, al_m13, al_m15, al_m16, al_m17, al_m18, al_m19, al_m20, al_m21, al_m22, al_m23, al_m24, al_m25, al_m26, al_m28, al_m29, al_m30, al_m31, al_m32, al_m33, al_m34, al_m35, al_m36, al_m37, al_m38, al_m39, al_m40, al_m42, al_m43, al_m44, al_m45, al_m46, al_m48, al_m49, al_m50, al_m51, al_m52, al_m53, al_m60, al_m61, mp_0, mp_1, mp_2, mp_3, mp_4, mp_5, mp_6, mp_7, mp_8, mp_9, mp_10, mp_11, mp_12, mp_13, mp_15, mp_16, mp_17, mp_18, mp_19, mp_20, mp_21, mp_22, mp_23, mp_24, mp_25, mp_26, mp_28, mp_29, mp_30, mp_31, mp_32, mp_33, mp_34, mp_35, mp_36, mp_37, mp_38, mp_39, mp_40, mp_42, mp_43, mp_44, mp_45, mp_46, mp_48, mp_49, mp_50, mp_51, mp_52, mp_53, mp_60, mp_61, row_14, row_15, row_16, row_17, row_18, row_19, row_20, ar_11, ar_12, ar_13, ar_14, ar_15, ar_16, ar_17, ar_18, ar_19, ar_20, ar_21, ar_22, ar_23, ar_24, cs_14, cs_15, cs_16, cs_17, cs_18, cs_19, cs_20, ex_ix, ex_0, b01_0, b01_1, KI_i, KI_x, KJ_j, KJ_x, KV_v, KV_x, KO_t, KO_n, KO_x, KO_rf, n4, n3, nI_add, nI_1, nI_leI, nI_ltI, nI_eq, gI_uI, gI_uL, gL_uI, gL_uL, sI_wI, sI_wP, sI_wL, sP_wI, sP_wP, sP_wL, sL_wI, sL_wP, sL_wL, forall_eq, exists_eq_left, exists_eq_left', Option.some.injEq, true_and, and_true, Nat.reduceAdd, Nat.reduceMul, Nat.reduceEqDiff, eq_self, tk_inj, and_self, false_and, and_false, if_true, if_false, forall_const, true_implies, ite_true, ite_false, reduceIte, reduceCtorEq, tk_ne9, i1e, i2e, i3e, i1_0, i2_0, i3_0, false_implies, false_or, or_false, true_or, or_true, String.reduceEq, Nat.reduceLT, Int32.le_refl, not_true_eq_false, not_false_eq_true, Nat.zero_lt_one, Bool.false_eq_true, Bool.true_eq_false]
    try simp (disch := omega) only [g2, gl, gs, gn, gk, l1', sI_putc, wI_putc, sI_put11, sI_put13, sI_putm, sL_put12, wI_put11, wI_put13, wI_putm, wL_put12, sP_put, sX_put, wP_put, sI_put_0, sI_put_1, sI_put_2, sI_put_3, sI_put_4, sI_put_5, sI_put_6, sI_put_7, sI_put_8, sI_put_9, sI_put_14, sI_put_15, sI_put_16, sI_put_17, sI_put_18, sI_put_19, sI_put_20, sI_put_21, sI_put_22, sI_put_23, sI_put_24, wI_put_0, wI_put_1, wI_put_2, wI_put_3, wI_put_4, wI_put_5, wI_put_6, wI_put_7, wI_put_8, wI_put_9, wI_put_14, wI_put_15, wI_put_16, wI_put_17, wI_put_18, wI_put_19, wI_put_20, wI_put_21, wI_put_22, wI_put_23, wI_put_24, wN_put_0, wN_put_1, wN_put_2, wN_put_3, wN_put_4, wN_put_5, wN_put_6, wN_put_7, wN_put_8, wN_put_9, wN_put_14, wN_put_15, wN_put_16, wN_put_17, wN_put_18, wN_put_19, wN_put_20, wN_put_21, wN_put_22, wN_put_23, wN_put_24, sL_put_0, sL_put_24, wL_put_0, wL_put_24, tm_0, tm_1, tm_2, tm_3, tm_4, tm_5, tm_6, tm_7, tm_8, tm_9, tm_10, tm_11, tm_12, tm_13, tm_14, tm_15, tm_16, tm_17, tm_18, tm_19, tm_20, tm_21, tm_22, tm_23, tm_24, at_11, at_12, at_13, at_14, at_15, at_16, at_17, at_18, at_19, at_20, at_21, at_22, at_23, at_24, al_14, al_15, al_16, al_17, al_18, al_19, al_20, al_21, al_22, al_23, al_24, al_m0, al_m1, al_m2, al_m3, al_m4, al_m5, al_m6, al_m7, al_m8, al_m9, al_m10, al_m11, al_m12, al_m13, al_m15, al_m16, al_m17, al_m18, al_m19, al_m20, al_m21, al_m22, al_m23, al_m24, al_m25, al_m26, al_m28, al_m29, al_m30, al_m31, al_m32, al_m33, al_m34, al_m35, al_m36, al_m37, al_m38, al_m39, al_m40, al_m42, al_m43, al_m44, al_m45, al_m46, al_m48, al_m49, al_m50, al_m51, al_m52, al_m53, al_m60, al_m61, mp_0, mp_1, mp_2, mp_3, mp_4, mp_5, mp_6, mp_7, mp_8, mp_9, mp_10, mp_11, mp_12, mp_13, mp_15, mp_16, mp_17, mp_18, mp_19, mp_20, mp_21, mp_22, mp_23, mp_24, mp_25, mp_26, mp_28, mp_29, mp_30, mp_31, mp_32, mp_33, mp_34, mp_35, mp_36, mp_37, mp_38, mp_39, mp_40, mp_42, mp_43, mp_44, mp_45, mp_46, mp_48, mp_49, mp_50, mp_51, mp_52, mp_53, mp_60, mp_61, row_14, row_15, row_16, row_17, row_18, row_19, row_20, ar_11, ar_12, ar_13, ar_14, ar_15, ar_16, ar_17, ar_18, ar_19, ar_20, ar_21, ar_22, ar_23, ar_24, cs_14, cs_15, cs_16, cs_17, cs_18, cs_19, cs_20, ex_ix, ex_0, b01_0, b01_1, KI_i, KI_x, KJ_j, KJ_x, KV_v, KV_x, KO_t, KO_n, KO_x, KO_rf, n4, n3, nI_add, nI_1, nI_leI, nI_ltI, nI_eq, gI_uI, gI_uL, gL_uI, gL_uL, sI_wI, sI_wP, sI_wL, sP_wI, sP_wP, sP_wL, sL_wI, sL_wP, sL_wL, forall_eq, exists_eq_left, exists_eq_left', Option.some.injEq, true_and, and_true, Nat.reduceAdd, Nat.reduceMul, Nat.reduceEqDiff, eq_self, tk_inj, and_self, false_and, and_false, if_true, if_false, forall_const, true_implies, ite_true, ite_false, reduceIte, reduceCtorEq, tk_ne9, i1e, i2e, i3e, i1_0, i2_0, i3_0, false_implies, false_or, or_false, true_or, or_true, String.reduceEq, Nat.reduceLT, Int32.le_refl, not_true_eq_false, not_false_eq_true, Nat.zero_lt_one, Bool.false_eq_true, Bool.true_eq_false] at hp9
    try simp (disch := omega) only [wI_cc, wI_cf, wI_ab, wIP, wIL, wLP]
    try simp (disch := omega) only [wI_cc, wI_cf, wI_ab, wIP, wIL, wLP] at hp9
    exact hp9
  · rw [if_neg c] at l1'
    have g12' : ¬ sP a2 (tk 4 m) 12 = some (tk 2 (kd M j)) := by
      rw [g12]
      rcases r_mmc R m hm with z | ⟨q, z1, z2⟩
      · rw [z, kp_m1]; exact fun y => by cases y
      · rw [z1, kp_nI (by omega), Option.some.injEq, tk_inj]
        intro y
        apply c
        rw [z1, hK.1, y]
    unfold wp_X4_begin wp_X4_begin_48
    simp (disch := first | (with_reducible exact rfl) | (with_reducible assumption) | omega | decide | (simp only [al_14, al_15, al_16, al_17, al_18, al_19, al_20, al_21, al_22, al_23, al_24, al_m0, al_m1, al_m2, al_m3, al_m4, al_m5, al_m6, al_m7, al_m8, al_m9, al_m10, al_m11, al_m12, al_m13, al_m15, al_m16, al_m17, al_m18, al_m19, al_m20, al_m21, al_m22, al_m23, al_m24, al_m25, al_m26, al_m28, al_m29, al_m30, al_m31, al_m32, al_m33, al_m34, al_m35, al_m36, al_m37, al_m38, al_m39, al_m40, al_m42, al_m43, al_m44, al_m45, al_m46, al_m48, al_m49, al_m50, al_m51, al_m52, al_m53, al_m60, al_m61]; omega) | (simp (disch := omega) only [gk, g1, g4, g12', hs, sP_put, mp_0, mp_1, mp_2, mp_3, mp_4, mp_5, mp_6, mp_7, mp_8, mp_9, mp_10, mp_11, mp_12, mp_13, mp_15, mp_16, mp_17, mp_18, mp_19, mp_20, mp_21, mp_22, mp_23, mp_24, mp_25, mp_26, mp_28, mp_29, mp_30, mp_31, mp_32, mp_33, mp_34, mp_35, mp_36, mp_37, mp_38, mp_39, mp_40, mp_42, mp_43, mp_44, mp_45, mp_46, mp_48, mp_49, mp_50, mp_51, mp_52, mp_53, mp_60, mp_61, sP_wI, sP_wP, sP_wL, true_and, and_true, tk_inj, false_and, and_false, if_true, if_false, tk_ne9]; with_reducible rfl) | (simp (disch := omega) only [gk, g1, g4, g12', hs, sI_putc, wI_putc, sI_put11, sI_put13, sI_putm, sL_put12, wI_put11, wI_put13, wI_putm, wL_put12, sP_put, sX_put, wP_put, sI_put_0, sI_put_1, sI_put_2, sI_put_3, sI_put_4, sI_put_5, sI_put_6, sI_put_7, sI_put_8, sI_put_9, sI_put_14, sI_put_15, sI_put_16, sI_put_17, sI_put_18, sI_put_19, sI_put_20, sI_put_21, sI_put_22, sI_put_23, sI_put_24, wI_put_0, wI_put_1, wI_put_2, wI_put_3, wI_put_4, wI_put_5, wI_put_6, wI_put_7, wI_put_8, wI_put_9, wI_put_14, wI_put_15, wI_put_16, wI_put_17, wI_put_18, wI_put_19, wI_put_20, wI_put_21, wI_put_22, wI_put_23, wI_put_24, wN_put_0, wN_put_1, wN_put_2, wN_put_3, wN_put_4, wN_put_5, wN_put_6, wN_put_7, wN_put_8, wN_put_9, wN_put_14, wN_put_15, wN_put_16, wN_put_17, wN_put_18, wN_put_19, wN_put_20, wN_put_21, wN_put_22, wN_put_23, wN_put_24, sL_put_0, sL_put_24, wL_put_0, wL_put_24, tm_0, tm_1, tm_2, tm_3, tm_4, tm_5, tm_6, tm_7, tm_8, tm_9, tm_10, tm_11, tm_12, tm_13, tm_14, tm_15, tm_16, tm_17, tm_18, tm_19, tm_20, tm_21, tm_22, tm_23, tm_24, at_11, at_12, at_13, at_14, at_15, at_16, at_17, at_18, at_19, at_20, at_21, at_22, at_23, at_24, al_14, al_15, al_16, al_17, al_18, al_19, al_20, al_21, al_22, al_23, al_24, al_m0, al_m1, al_m2, al_m3, al_m4, al_m5, al_m6, al_m7, al_m8, al_m9, al_m10, al_m11, al_m12, al_m13, al_m15, al_m16, al_m17, al_m18, al_m19, al_m20, al_m21, al_m22, al_m23, al_m24, al_m25, al_m26, al_m28, al_m29, al_m30, al_m31, al_m32, al_m33, al_m34, al_m35, al_m36, al_m37, al_m38, al_m39, al_m40, al_m42, al_m43, al_m44, al_m45, al_m46, al_m48, al_m49, al_m50, al_m51, al_m52, al_m53, al_m60, al_m61, mp_0, mp_1, mp_2, mp_3, mp_4, mp_5, mp_6, mp_7, mp_8, mp_9, mp_10, mp_11, mp_12, mp_13, mp_15, mp_16, mp_17, mp_18, mp_19, mp_20, mp_21, mp_22, mp_23, mp_24, mp_25, mp_26, mp_28, mp_29, mp_30, mp_31, mp_32, mp_33, mp_34, mp_35, mp_36, mp_37, mp_38, mp_39, mp_40, mp_42, mp_43, mp_44, mp_45, mp_46, mp_48, mp_49, mp_50, mp_51, mp_52, mp_53, mp_60, mp_61, row_14, row_15, row_16, row_17, row_18, row_19, row_20, ar_11, ar_12, ar_13, ar_14, ar_15, ar_16, ar_17, ar_18, ar_19, ar_20, ar_21, ar_22, ar_23, ar_24, cs_14, cs_15, cs_16, cs_17, cs_18, cs_19, cs_20, ex_ix, ex_0, b01_0, b01_1, KI_i, KI_x, KJ_j, KJ_x, KV_v, KV_x, KO_t, KO_n, KO_x, KO_rf, n4, n3, nI_add, nI_1, nI_leI, nI_ltI, nI_eq, gI_uI, gI_uL, gL_uI, gL_uL, sI_wI, sI_wP, sI_wL, sP_wI, sP_wP, sP_wL, sL_wI, sL_wP, sL_wL, forall_eq, exists_eq_left, exists_eq_left', Option.some.injEq, true_and, and_true, Nat.reduceAdd, Nat.reduceMul, Nat.reduceEqDiff, eq_self, tk_inj, and_self, false_and, and_false, if_true, if_false, forall_const, true_implies, ite_true, ite_false, reduceIte, reduceCtorEq, tk_ne9, i1e, i2e, i3e, i1_0, i2_0, i3_0, false_implies, false_or, or_false, true_or, or_true, String.reduceEq, Nat.reduceLT, Int32.le_refl, not_true_eq_false, not_false_eq_true, Nat.zero_lt_one, Bool.false_eq_true, Bool.true_eq_false]; done) | (simp (disch := omega) only [gk, g1, g4, g12', hs, sI_putc, wI_putc, sI_put11, sI_put13, sI_putm, sL_put12, wI_put11, wI_put13, wI_putm, wL_put12, sP_put, sX_put, wP_put, sI_put_0, sI_put_1, sI_put_2, sI_put_3, sI_put_4, sI_put_5, sI_put_6, sI_put_7, sI_put_8, sI_put_9, sI_put_14, sI_put_15, sI_put_16, sI_put_17, sI_put_18, sI_put_19, sI_put_20, sI_put_21, sI_put_22, sI_put_23, sI_put_24, wI_put_0, wI_put_1, wI_put_2, wI_put_3, wI_put_4, wI_put_5, wI_put_6, wI_put_7, wI_put_8, wI_put_9, wI_put_14, wI_put_15, wI_put_16, wI_put_17, wI_put_18, wI_put_19, wI_put_20, wI_put_21, wI_put_22, wI_put_23, wI_put_24, wN_put_0, wN_put_1, wN_put_2, wN_put_3, wN_put_4, wN_put_5, wN_put_6, wN_put_7, wN_put_8, wN_put_9, wN_put_14, wN_put_15, wN_put_16, wN_put_17, wN_put_18, wN_put_19, wN_put_20, wN_put_21, wN_put_22, wN_put_23, wN_put_24, sL_put_0, sL_put_24, wL_put_0, wL_put_24, tm_0, tm_1, tm_2, tm_3, tm_4, tm_5, tm_6, tm_7, tm_8, tm_9, tm_10, tm_11, tm_12, tm_13, tm_14, tm_15, tm_16, tm_17, tm_18, tm_19, tm_20, tm_21, tm_22, tm_23, tm_24, at_11, at_12, at_13, at_14, at_15, at_16, at_17, at_18, at_19, at_20, at_21, at_22, at_23, at_24, al_14, al_15, al_16, al_17, al_18, al_19, al_20, al_21, al_22, al_23, al_24, al_m0, al_m1, al_m2, al_m3, al_m4, al_m5, al_m6, al_m7, al_m8, al_m9, al_m10, al_m11, al_m12, al_m13, al_m15, al_m16, al_m17, al_m18, al_m19, al_m20, al_m21, al_m22, al_m23, al_m24, al_m25, al_m26, al_m28, al_m29, al_m30, al_m31, al_m32, al_m33, al_m34, al_m35, al_m36, al_m37, al_m38, al_m39, al_m40, al_m42, al_m43, al_m44, al_m45, al_m46, al_m48, al_m49, al_m50, al_m51, al_m52, al_m53, al_m60, al_m61, mp_0, mp_1, mp_2, mp_3, mp_4, mp_5, mp_6, mp_7, mp_8, mp_9, mp_10, mp_11, mp_12, mp_13, mp_15, mp_16, mp_17, mp_18, mp_19, mp_20, mp_21, mp_22, mp_23, mp_24, mp_25, mp_26, mp_28, mp_29, mp_30, mp_31, mp_32, mp_33, mp_34, mp_35, mp_36, mp_37, mp_38, mp_39, mp_40, mp_42, mp_43, mp_44, mp_45, mp_46, mp_48, mp_49, mp_50, mp_51, mp_52, mp_53, mp_60, mp_61, row_14, row_15, row_16, row_17, row_18, row_19, row_20, ar_11, ar_12, ar_13, ar_14, ar_15, ar_16, ar_17, ar_18, ar_19, ar_20, ar_21, ar_22, ar_23, ar_24, cs_14, cs_15, cs_16, cs_17, cs_18, cs_19, cs_20, ex_ix, ex_0, b01_0, b01_1, KI_i, KI_x, KJ_j, KJ_x, KV_v, KV_x, KO_t, KO_n, KO_x, KO_rf, n4, n3, nI_add, nI_1, nI_leI, nI_ltI, gI_uI, gI_uL, gL_uI, gL_uL, sI_wI, sI_wP, sI_wL, sP_wI, sP_wP, sP_wL, sL_wI, sL_wP, sL_wL, forall_eq, exists_eq_left, exists_eq_left', Option.some.injEq, true_and, and_true, Nat.reduceAdd, Nat.reduceMul, Nat.reduceEqDiff, eq_self, tk_inj, and_self, false_and, and_false, if_true, if_false, forall_const, true_implies, ite_true, ite_false, reduceIte, reduceCtorEq, tk_ne9, i1e, i2e, i3e, i1_0, i2_0, i3_0, false_implies, false_or, or_false, true_or, or_true, String.reduceEq, Nat.reduceLT, Int32.le_refl, not_true_eq_false, not_false_eq_true, Nat.zero_lt_one, Bool.false_eq_true, Bool.true_eq_false]; with_reducible rfl) | fail "no") only [↓dO1, ↓dO0, ↓KI_i, ↓KI_x, ↓KJ_j, ↓KJ_x, ↓KV_v, ↓KV_x, ↓KO_t, ↓KO_n, ↓KO_x, ↓KO_rf, ↓dT, ↓dAt, ↓dX, ↓dX0, ↓dE, ↓dS, ↓dR, ↓dAr, ↓dCs, ↓dB, ↓forall_eq, ↓dI1, ↓dI2, ↓dI3, ↓dI4, ↓dF1, ↓dF2, ↓wI_putm, ↓wI_put11, ↓wI_put13, ↓wL_put12, ↓wP_put, ↓wI_put_0, ↓wI_put_1, ↓wI_put_2, ↓wI_put_3, ↓wI_put_4, ↓wI_put_5, ↓wI_put_6, ↓wI_put_7, ↓wI_put_8, ↓wI_put_9, ↓wI_put_14, ↓wI_put_15, ↓wI_put_16, ↓wI_put_17, ↓wI_put_18, ↓wI_put_19, ↓wI_put_20, ↓wI_put_21, ↓wI_put_22, ↓wI_put_23, ↓wI_put_24, ↓wN_put_0, ↓wN_put_1, ↓wN_put_2, ↓wN_put_3, ↓wN_put_4, ↓wN_put_5, ↓wN_put_6, ↓wN_put_7, ↓wN_put_8, ↓wN_put_9, ↓wN_put_14, ↓wN_put_15, ↓wN_put_16, ↓wN_put_17, ↓wN_put_18, ↓wN_put_19, ↓wN_put_20, ↓wN_put_21, ↓wN_put_22, ↓wN_put_23, ↓wN_put_24, ↓wL_put_0, ↓wL_put_24]
    try simp (disch := omega) only [g2, gl, gs, gn, gk, l1', sI_putc, wI_putc, sI_put11, sI_put13, sI_putm, sL_put12, wI_put11, wI_put13, wI_putm, wL_put12, sP_put, sX_put, wP_put, sI_put_0, sI_put_1, sI_put_2, sI_put_3, sI_put_4, sI_put_5, sI_put_6, sI_put_7, sI_put_8, sI_put_9, sI_put_14, sI_put_15, sI_put_16, sI_put_17, sI_put_18, sI_put_19, sI_put_20, sI_put_21, sI_put_22, sI_put_23, sI_put_24, wI_put_0, wI_put_1, wI_put_2, wI_put_3, wI_put_4, wI_put_5, wI_put_6, wI_put_7, wI_put_8, wI_put_9, wI_put_14, wI_put_15, wI_put_16, wI_put_17, wI_put_18, wI_put_19, wI_put_20, wI_put_21, wI_put_22, wI_put_23, wI_put_24, wN_put_0, wN_put_1, wN_put_2, wN_put_3, wN_put_4, wN_put_5, wN_put_6, wN_put_7, wN_put_8, wN_put_9, wN_put_14, wN_put_15, wN_put_16, wN_put_17, wN_put_18, wN_put_19, wN_put_20, wN_put_21, wN_put_22, wN_put_23, wN_put_24, sL_put_0, sL_put_24, wL_put_0, wL_put_24, tm_0, tm_1, tm_2, tm_3, tm_4, tm_5, tm_6, tm_7, tm_8, tm_9, tm_10, tm_11, tm_12, tm_13, tm_14, tm_15, tm_16, tm_17, tm_18, tm_19, tm_20, tm_21, tm_22, tm_23, tm_24, at_11, at_12, at_13, at_14, at_15, at_16, at_17, at_18, at_19, at_20, at_21, at_22, at_23, at_24, al_14, al_15, al_16, al_17, al_18, al_19, al_20, al_21, al_22, al_23, al_24, al_m0, al_m1, al_m2, al_m3, al_m4, al_m5, al_m6, al_m7, al_m8, al_m9, al_m10, al_m11, al_m12, al_m13, al_m15, al_m16, al_m17, al_m18, al_m19, al_m20, al_m21, al_m22, al_m23, al_m24, al_m25, al_m26, al_m28, al_m29, al_m30, al_m31, al_m32, al_m33, al_m34, al_m35, al_m36, al_m37, al_m38, al_m39, al_m40, al_m42, al_m43, al_m44, al_m45, al_m46, al_m48, al_m49, al_m50, al_m51, al_m52, al_m53, al_m60, al_m61, mp_0, mp_1, mp_2, mp_3, mp_4, mp_5, mp_6, mp_7, mp_8, mp_9, mp_10, mp_11, mp_12, mp_13, mp_15, mp_16, mp_17, mp_18, mp_19, mp_20, mp_21, mp_22, mp_23, mp_24, mp_25, mp_26, mp_28, mp_29, mp_30, mp_31, mp_32, mp_33, mp_34, mp_35, mp_36, mp_37, mp_38, mp_39, mp_40, mp_42, mp_43, mp_44, mp_45, mp_46, mp_48, mp_49, mp_50, mp_51, mp_52, mp_53, mp_60, mp_61, row_14, row_15, row_16, row_17, row_18, row_19, row_20, ar_11, ar_12, ar_13, ar_14, ar_15, ar_16, ar_17, ar_18, ar_19, ar_20, ar_21, ar_22, ar_23, ar_24, cs_14, cs_15, cs_16, cs_17, cs_18, cs_19, cs_20, ex_ix, ex_0, b01_0, b01_1, KI_i, KI_x, KJ_j, KJ_x, KV_v, KV_x, KO_t, KO_n, KO_x, KO_rf, n4, n3, nI_add, nI_1, nI_leI, nI_ltI, nI_eq, gI_uI, gI_uL, gL_uI, gL_uL, sI_wI, sI_wP, sI_wL, sP_wI, sP_wP, sP_wL, sL_wI, sL_wP, sL_wL, forall_eq, exists_eq_left, exists_eq_left', Option.some.injEq, true_and, and_true, Nat.reduceAdd, Nat.reduceMul, Nat.reduceEqDiff, eq_self, tk_inj, and_self, false_and, and_false, if_true, if_false, forall_const, true_implies, ite_true, ite_false, reduceIte, reduceCtorEq, tk_ne9, i1e, i2e, i3e, i1_0, i2_0, i3_0, false_implies, false_or, or_false, true_or, or_true, String.reduceEq, Nat.reduceLT, Int32.le_refl, not_true_eq_false, not_false_eq_true, Nat.zero_lt_one, Bool.false_eq_true, Bool.true_eq_false]
    try simp (disch := omega) only [g2, gl, gs, gn, gk, l1', sI_putc, wI_putc, sI_put11, sI_put13, sI_putm, sL_put12, wI_put11, wI_put13, wI_putm, wL_put12, sP_put, sX_put, wP_put, sI_put_0, sI_put_1, sI_put_2, sI_put_3, sI_put_4, sI_put_5, sI_put_6, sI_put_7, sI_put_8, sI_put_9, sI_put_14, sI_put_15, sI_put_16, sI_put_17, sI_put_18, sI_put_19, sI_put_20, sI_put_21, sI_put_22, sI_put_23, sI_put_24, wI_put_0, wI_put_1, wI_put_2, wI_put_3, wI_put_4, wI_put_5, wI_put_6, wI_put_7, wI_put_8, wI_put_9, wI_put_14, wI_put_15, wI_put_16, wI_put_17, wI_put_18, wI_put_19, wI_put_20, wI_put_21, wI_put_22, wI_put_23, wI_put_24, wN_put_0, wN_put_1, wN_put_2, wN_put_3, wN_put_4, wN_put_5, wN_put_6, wN_put_7, wN_put_8, wN_put_9, wN_put_14, wN_put_15, wN_put_16, wN_put_17, wN_put_18, wN_put_19, wN_put_20, wN_put_21, wN_put_22, wN_put_23, wN_put_24, sL_put_0, sL_put_24, wL_put_0, wL_put_24, tm_0, tm_1, tm_2, tm_3, tm_4, tm_5, tm_6, tm_7, tm_8, tm_9, tm_10, tm_11, tm_12, tm_13, tm_14, tm_15, tm_16, tm_17, tm_18, tm_19, tm_20, tm_21, tm_22, tm_23, tm_24, at_11, at_12, at_13, at_14, at_15, at_16, at_17, at_18, at_19, at_20, at_21, at_22, at_23, at_24, al_14, al_15, al_16, al_17, al_18, al_19, al_20, al_21, al_22, al_23, al_24, al_m0, al_m1, al_m2, al_m3, al_m4, al_m5, al_m6, al_m7, al_m8, al_m9, al_m10, al_m11, al_m12, al_m13, al_m15, al_m16, al_m17, al_m18, al_m19, al_m20, al_m21, al_m22, al_m23, al_m24, al_m25, al_m26, al_m28, al_m29, al_m30, al_m31, al_m32, al_m33, al_m34, al_m35, al_m36, al_m37, al_m38, al_m39, al_m40, al_m42, al_m43, al_m44, al_m45, al_m46, al_m48, al_m49, al_m50, al_m51, al_m52, al_m53, al_m60, al_m61, mp_0, mp_1, mp_2, mp_3, mp_4, mp_5, mp_6, mp_7, mp_8, mp_9, mp_10, mp_11, mp_12, mp_13, mp_15, mp_16, mp_17, mp_18, mp_19, mp_20, mp_21, mp_22, mp_23, mp_24, mp_25, mp_26, mp_28, mp_29, mp_30, mp_31, mp_32, mp_33, mp_34, mp_35, mp_36, mp_37, mp_38, mp_39, mp_40, mp_42, mp_43, mp_44, mp_45, mp_46, mp_48, mp_49, mp_50, mp_51, mp_52, mp_53, mp_60, mp_61, row_14, row_15, row_16, row_17, row_18, row_19, row_20, ar_11, ar_12, ar_13, ar_14, ar_15, ar_16, ar_17, ar_18, ar_19, ar_20, ar_21, ar_22, ar_23, ar_24, cs_14, cs_15, cs_16, cs_17, cs_18, cs_19, cs_20, ex_ix, ex_0, b01_0, b01_1, KI_i, KI_x, KJ_j, KJ_x, KV_v, KV_x, KO_t, KO_n, KO_x, KO_rf, n4, n3, nI_add, nI_1, nI_leI, nI_ltI, nI_eq, gI_uI, gI_uL, gL_uI, gL_uL, sI_wI, sI_wP, sI_wL, sP_wI, sP_wP, sP_wL, sL_wI, sL_wP, sL_wL, forall_eq, exists_eq_left, exists_eq_left', Option.some.injEq, true_and, and_true, Nat.reduceAdd, Nat.reduceMul, Nat.reduceEqDiff, eq_self, tk_inj, and_self, false_and, and_false, if_true, if_false, forall_const, true_implies, ite_true, ite_false, reduceIte, reduceCtorEq, tk_ne9, i1e, i2e, i3e, i1_0, i2_0, i3_0, false_implies, false_or, or_false, true_or, or_true, String.reduceEq, Nat.reduceLT, Int32.le_refl, not_true_eq_false, not_false_eq_true, Nat.zero_lt_one, Bool.false_eq_true, Bool.true_eq_false] at hp9
    try simp (disch := omega) only [wI_cc, wI_cf, wI_ab, wIP, wIL, wLP]
    try simp (disch := omega) only [wI_cc, wI_cf, wI_ab, wIP, wIL, wLP] at hp9
    exact hp9
end RR
