/-! A new batch, on both sides. -/
/-- a new object, kept whole while the rest is evaluated -/
def NW (σ : Sg) (c : Nat) (Q : Nat → Prop) (_ : {_z : Unit // Q = Q}) : Prop := ∃ u, sX σ u = false ∧ u % 32 = c ∧ Q u
theorem nw_l {σ : Sg} {c : Nat} {Q : Nat → Prop} : (∃ u, sX σ u = false ∧ u % 32 = c ∧ Q u) ↔ NW σ c Q ⟨(), rfl⟩ := Iff.rfl
theorem nw_of {σ : Sg} {c : Nat} {Q : Nat → Prop} {w : {_z : Unit // Q = Q}} (t : Nat) (h1 : sX σ t = false) (h2 : t % 32 = c) (h3 : Q t) : NW σ c Q w := ⟨t, h1, h2, h3⟩
theorem ldlt {e : Nat} {a : Sg} {M : MS} (R : Rel e a M) {m j : Nat} (hm : m < nM M) (h : gI M 34 m = nI j) (hj : j < 2 ^ 31 - 1) : j < nB M := by
  have hB := r_nBx R
  rcases r_mmb R m hm with w | ⟨q, p, w1, w2, w3⟩
  · exact absurd (h.symm.trans w.1) (nI_ne1 hj)
  · have := (nI_eq (by omega) (by omega)).mp (h.symm.trans w1)
    omega
def zb (t : Nat) : Bool := t != 15 && t != 16 && t != 17 && t != 18 && t != 19 && t != 20 && t != 121 && t != 122 && t != 23 && t != 124 && t != 25 && t != 214 && t != 113
def zc (c : Nat) : Bool := c != 0 && c != 2 && c != 8
set_option maxHeartbeats 8000000 in
theorem rel_prio {e : Nat} {a : Sg} {M : MS} (R : Rel e a M) (j : Nat) (hj : j < nB M) (v : Int32) : Rel e (wI a (tk 0 j) 6 v) (uI M 20 j v) := by
  unfold Rel
  refine ⟨?_, ?_, ?_, ?_, ?_, ?_, ?_, ?_, ?_, ?_, ?_, ?_, ?_, ?_, ?_, ?_, ?_, ?_, ?_, ?_, ?_, ?_, ?_, ?_, ?_, ?_, ?_, ?_, ?_, ?_, ?_, ?_, ?_, ?_, ?_, ?_, ?_, ?_, ?_, ?_, ?_, ?_, ?_, ?_, ?_, ?_, ?_, ?_, ?_, ?_, ?_, ?_, ?_, ?_, ?_, ?_, ?_, ?_, ?_, ?_, ?_, ?_, ?_, ?_, ?_, ?_, ?_, ?_, ?_, ?_, ?_, ?_, ?_, ?_, ?_, ?_, ?_, ?_, ?_, ?_, ?_, ?_, ?_, ?_, ?_, ?_, ?_, ?_, ?_, ?_, ?_, ?_, ?_, ?_, ?_, ?_, ?_, ?_, ?_, ?_, ?_, ?_, ?_, ?_, ?_, ?_, ?_, ?_, ?_, ?_, ?_, ?_, ?_, ?_, ?_, ?_, ?_, ?_, ?_, ?_, ?_, ?_, ?_, ?_, ?_, ?_, ?_, ?_, ?_, ?_, ?_, ?_, ?_, ?_, ?_, ?_, ?_, ?_, ?_, ?_, ?_, ?_, ?_, ?_, ?_, ?_, ?_, ?_, ?_⟩
  · have h9 := r_shm R
    exact h9
  · have h9 := r_px0 R
    exact h9
  · have h9 := r_px1 R
    exact h9
  · have h9 := r_px2 R
    exact h9
  · have h9 := r_pf0 R
    exact h9
  · have h9 := r_pf1 R
    exact h9
  · have h9 := r_pf3 R
    exact h9
  · have h9 := r_ps0 R
    exact h9
  · have h9 := r_ps2 R
    exact h9
  · have h9 := r_ps4 R
    exact h9
  · have h9 := r_pk R
    exact h9
  · have h9 := r_pkl R
    exact h9
  · have h9 := r_pko R
    exact h9
  · have h9 := r_ghour R
    unfold Cghour
    simpa (disch := omega) only [sI_wI, gI_uI, tk_ne9, tk_inj, if_false, if_true, false_and, and_false, Nat.reduceEqDiff, reduceIte, reduceCtorEq, and_true, true_and] using h9
  · have h9 := r_gstand R
    unfold Cgstand
    simpa (disch := omega) only [sI_wI, gI_uI, tk_ne9, tk_inj, if_false, if_true, false_and, and_false, Nat.reduceEqDiff, reduceIte, reduceCtorEq, and_true, true_and] using h9
  · have h9 := r_gbought R
    unfold Cgbought
    simpa (disch := omega) only [sI_wI, gI_uI, tk_ne9, tk_inj, if_false, if_true, false_and, and_false, Nat.reduceEqDiff, reduceIte, reduceCtorEq, and_true, true_and] using h9
  · have h9 := r_gmach R
    unfold Cgmach
    simpa (disch := omega) only [sI_wI, gI_uI, tk_ne9, tk_inj, if_false, if_true, false_and, and_false, Nat.reduceEqDiff, reduceIte, reduceCtorEq, and_true, true_and] using h9
  · have h9 := r_gpers R
    unfold Cgpers
    simpa (disch := omega) only [sI_wI, gI_uI, tk_ne9, tk_inj, if_false, if_true, false_and, and_false, Nat.reduceEqDiff, reduceIte, reduceCtorEq, and_true, true_and] using h9
  · have h9 := r_gworked R
    unfold Cgworked
    simpa (disch := omega) only [sI_wI, gI_uI, tk_ne9, tk_inj, if_false, if_true, false_and, and_false, Nat.reduceEqDiff, reduceIte, reduceCtorEq, and_true, true_and] using h9
  · have h9 := r_grep R
    unfold Cgrep
    simpa (disch := omega) only [sI_wI, gI_uI, tk_ne9, tk_inj, if_false, if_true, false_and, and_false, Nat.reduceEqDiff, reduceIte, reduceCtorEq, and_true, true_and] using h9
  · have h9 := r_gbat R
    unfold Cgbat
    simpa (disch := omega) only [sI_wI, gI_uI, tk_ne9, tk_inj, if_false, if_true, false_and, and_false, Nat.reduceEqDiff, reduceIte, reduceCtorEq, and_true, true_and] using h9
  · have h9 := r_gord R
    unfold Cgord
    simpa (disch := omega) only [sI_wI, gI_uI, tk_ne9, tk_inj, if_false, if_true, false_and, and_false, Nat.reduceEqDiff, reduceIte, reduceCtorEq, and_true, true_and] using h9
  · have h9 := r_gq R
    unfold Cgq
    simpa (disch := omega) only [sI_wI, gI_uI, tk_ne9, tk_inj, if_false, if_true, false_and, and_false, Nat.reduceEqDiff, reduceIte, reduceCtorEq, and_true, true_and] using h9
  · have h9 := r_nB R
    unfold CnB
    simpa (disch := omega) only [gI_uI, nB_u, tk_ne9, tk_inj, if_false, if_true, false_and, and_false, Nat.reduceEqDiff, reduceIte, reduceCtorEq, and_true, true_and] using h9
  · have h9 := r_nBx R
    unfold CnBx
    simpa (disch := omega) only [nB_u, tk_ne9, tk_inj, if_false, if_true, false_and, and_false, Nat.reduceEqDiff, reduceIte, reduceCtorEq, and_true, true_and] using h9
  · have h9 := r_nM R
    unfold CnM
    simpa (disch := omega) only [gI_uI, nM_u, tk_ne9, tk_inj, if_false, if_true, false_and, and_false, Nat.reduceEqDiff, reduceIte, reduceCtorEq, and_true, true_and] using h9
  · have h9 := r_nMx R
    unfold CnMx
    simpa (disch := omega) only [nM_u, tk_ne9, tk_inj, if_false, if_true, false_and, and_false, Nat.reduceEqDiff, reduceIte, reduceCtorEq, and_true, true_and] using h9
  · have h9 := r_nP R
    unfold CnP
    simpa (disch := omega) only [gI_uI, nP_u, tk_ne9, tk_inj, if_false, if_true, false_and, and_false, Nat.reduceEqDiff, reduceIte, reduceCtorEq, and_true, true_and] using h9
  · have h9 := r_nPx R
    unfold CnPx
    simpa (disch := omega) only [nP_u, tk_ne9, tk_inj, if_false, if_true, false_and, and_false, Nat.reduceEqDiff, reduceIte, reduceCtorEq, and_true, true_and] using h9
  · have h9 := r_nO R
    unfold CnO
    simpa (disch := omega) only [gI_uI, nO_u, tk_ne9, tk_inj, if_false, if_true, false_and, and_false, Nat.reduceEqDiff, reduceIte, reduceCtorEq, and_true, true_and] using h9
  · have h9 := r_nOx R
    unfold CnOx
    simpa (disch := omega) only [nO_u, tk_ne9, tk_inj, if_false, if_true, false_and, and_false, Nat.reduceEqDiff, reduceIte, reduceCtorEq, and_true, true_and] using h9
  · have h9 := r_hr R
    unfold Chr
    simpa (disch := omega) only [gI_uI, hN_u, tk_ne9, tk_inj, if_false, if_true, false_and, and_false, Nat.reduceEqDiff, reduceIte, reduceCtorEq, and_true, true_and] using h9
  · have h9 := r_hrx R
    unfold Chrx
    simpa (disch := omega) only [hN_u, tk_ne9, tk_inj, if_false, if_true, false_and, and_false, Nat.reduceEqDiff, reduceIte, reduceCtorEq, and_true, true_and] using h9
  · have h9 := r_stb R
    unfold Cstb
    simpa (disch := omega) only [gI_uI, tk_ne9, tk_inj, if_false, if_true, false_and, and_false, Nat.reduceEqDiff, reduceIte, reduceCtorEq, and_true, true_and] using h9
  · have h9 := r_ex R
    exact h9
  · have h9 := r_k0 R
    unfold Ck0
    simpa (disch := omega) only [sI_wI, tk_ne9, tk_inj, if_false, if_true, false_and, and_false, Nat.reduceEqDiff, reduceIte, reduceCtorEq, and_true, true_and] using h9
  · have h9 := r_k1 R
    unfold Ck1
    simpa (disch := omega) only [sI_wI, gI_uI, tk_ne9, tk_inj, if_false, if_true, false_and, and_false, Nat.reduceEqDiff, reduceIte, reduceCtorEq, and_true, true_and] using h9
  · have h9 := r_k2 R
    unfold Ck2
    simpa (disch := omega) only [sI_wI, gI_uI, tk_ne9, tk_inj, if_false, if_true, false_and, and_false, Nat.reduceEqDiff, reduceIte, reduceCtorEq, and_true, true_and] using h9
  · have h9 := r_k3 R
    unfold Ck3
    simpa (disch := omega) only [sI_wI, gI_uI, tk_ne9, tk_inj, if_false, if_true, false_and, and_false, Nat.reduceEqDiff, reduceIte, reduceCtorEq, and_true, true_and] using h9
  · have h9 := r_k5 R
    unfold Ck5
    simpa (disch := omega) only [sI_wI, gI_uI, tk_ne9, tk_inj, if_false, if_true, false_and, and_false, Nat.reduceEqDiff, reduceIte, reduceCtorEq, and_true, true_and] using h9
  · have h9 := r_k7 R
    unfold Ck7
    simpa (disch := omega) only [sI_wI, gI_uI, tk_ne9, tk_inj, if_false, if_true, false_and, and_false, Nat.reduceEqDiff, reduceIte, reduceCtorEq, and_true, true_and] using h9
  · have h9 := r_k8 R
    unfold Ck8
    simpa (disch := omega) only [sI_wI, gI_uI, tk_ne9, tk_inj, if_false, if_true, false_and, and_false, Nat.reduceEqDiff, reduceIte, reduceCtorEq, and_true, true_and] using h9
  · have h9 := r_k9 R
    unfold Ck9
    simpa (disch := omega) only [sI_wI, gI_uI, tk_ne9, tk_inj, if_false, if_true, false_and, and_false, Nat.reduceEqDiff, reduceIte, reduceCtorEq, and_true, true_and] using h9
  · have h9 := r_k10 R
    unfold Ck10
    simpa (disch := omega) only [sI_wI, nB_u, mInSt_u, tk_ne9, tk_inj, if_false, if_true, false_and, and_false, Nat.reduceEqDiff, reduceIte, reduceCtorEq, and_true, true_and] using h9
  · have h9 := r_k11 R
    unfold Ck11
    simpa (disch := omega) only [sI_wI, nO_u, mProm_u, tk_ne9, tk_inj, if_false, if_true, false_and, and_false, Nat.reduceEqDiff, reduceIte, reduceCtorEq, and_true, true_and] using h9
  · have h9 := r_k12 R
    unfold Ck12
    simpa (disch := omega) only [sI_wI, tk_ne9, tk_inj, if_false, if_true, false_and, and_false, Nat.reduceEqDiff, reduceIte, reduceCtorEq, and_true, true_and] using h9
  · have h9 := r_ksa R
    unfold Cksa
    simpa (disch := omega) only [gI_uI, tk_ne9, tk_inj, if_false, if_true, false_and, and_false, Nat.reduceEqDiff, reduceIte, reduceCtorEq, and_true, true_and] using h9
  · have h9 := r_ksb R
    unfold Cksb
    simpa (disch := omega) only [gI_uI, nOp_u, tk_ne9, tk_inj, if_false, if_true, false_and, and_false, Nat.reduceEqDiff, reduceIte, reduceCtorEq, and_true, true_and] using h9
  · have h9 := r_ksc R
    unfold Cksc
    simpa (disch := omega) only [gI_uI, nLn_u, nOp_u, tk_ne9, tk_inj, if_false, if_true, false_and, and_false, Nat.reduceEqDiff, reduceIte, reduceCtorEq, and_true, true_and] using h9
  · have h9 := r_kw R
    unfold Ckw
    simpa (disch := omega) only [gI_uI, tk_ne9, tk_inj, if_false, if_true, false_and, and_false, Nat.reduceEqDiff, reduceIte, reduceCtorEq, and_true, true_and] using h9
  · have h9 := r_kl R
    unfold Ckl
    simpa (disch := omega) only [gI_uI, nLn_u, tk_ne9, tk_inj, if_false, if_true, false_and, and_false, Nat.reduceEqDiff, reduceIte, reduceCtorEq, and_true, true_and] using h9
  · have h9 := r_ko R
    unfold Cko
    simpa (disch := omega) only [gI_uI, nOp_u, tk_ne9, tk_inj, if_false, if_true, false_and, and_false, Nat.reduceEqDiff, reduceIte, reduceCtorEq, and_true, true_and] using h9
  · have h9 := r_kp R
    unfold Ckp
    simpa (disch := omega) only [gI_uI, tk_ne9, tk_inj, if_false, if_true, false_and, and_false, Nat.reduceEqDiff, reduceIte, reduceCtorEq, and_true, true_and] using h9
  · have h9 := r_l0 R
    unfold Cl0
    simpa (disch := omega) only [sP_wI, nLn_u, tk_ne9, tk_inj, if_false, if_true, false_and, and_false, Nat.reduceEqDiff, reduceIte, reduceCtorEq, and_true, true_and] using h9
  · have h9 := r_l1 R
    unfold Cl1
    simpa (disch := omega) only [sP_wI, nLn_u, lnP_u, tk_ne9, tk_inj, if_false, if_true, false_and, and_false, Nat.reduceEqDiff, reduceIte, reduceCtorEq, and_true, true_and] using h9
  · have h9 := r_l2 R
    unfold Cl2
    simpa (disch := omega) only [sI_wI, gI_uI, nLn_u, tk_ne9, tk_inj, if_false, if_true, false_and, and_false, Nat.reduceEqDiff, reduceIte, reduceCtorEq, and_true, true_and] using h9
  · have h9 := r_l3 R
    unfold Cl3
    simpa (disch := omega) only [sP_wI, gI_uI, nLn_u, tk_ne9, tk_inj, if_false, if_true, false_and, and_false, Nat.reduceEqDiff, reduceIte, reduceCtorEq, and_true, true_and] using h9
  · have h9 := r_lm R
    unfold Clm
    simpa (disch := omega) only [gI_uI, nLn_u, lnP_u, tk_ne9, tk_inj, if_false, if_true, false_and, and_false, Nat.reduceEqDiff, reduceIte, reduceCtorEq, and_true, true_and] using h9
  · have h9 := r_o0 R
    unfold Co0
    simpa (disch := omega) only [sP_wI, nOp_u, tk_ne9, tk_inj, if_false, if_true, false_and, and_false, Nat.reduceEqDiff, reduceIte, reduceCtorEq, and_true, true_and] using h9
  · have h9 := r_o1 R
    unfold Co1
    simpa (disch := omega) only [sI_wI, gI_uI, nOp_u, tk_ne9, tk_inj, if_false, if_true, false_and, and_false, Nat.reduceEqDiff, reduceIte, reduceCtorEq, and_true, true_and] using h9
  · have h9 := r_o2 R
    unfold Co2
    simpa (disch := omega) only [sI_wI, gI_uI, nOp_u, tk_ne9, tk_inj, if_false, if_true, false_and, and_false, Nat.reduceEqDiff, reduceIte, reduceCtorEq, and_true, true_and] using h9
  · have h9 := r_o3 R
    unfold Co3
    simpa (disch := omega) only [sI_wI, gI_uI, nOp_u, tk_ne9, tk_inj, if_false, if_true, false_and, and_false, Nat.reduceEqDiff, reduceIte, reduceCtorEq, and_true, true_and] using h9
  · have h9 := r_om R
    unfold Com
    simpa (disch := omega) only [gI_uI, nOp_u, tk_ne9, tk_inj, if_false, if_true, false_and, and_false, Nat.reduceEqDiff, reduceIte, reduceCtorEq, and_true, true_and] using h9
  · have h9 := r_b0 R
    unfold Cb0
    simpa (disch := omega) only [sP_wI, nB_u, tk_ne9, tk_inj, if_false, if_true, false_and, and_false, Nat.reduceEqDiff, reduceIte, reduceCtorEq, and_true, true_and] using h9
  · have h9 := r_bn R
    unfold Cbn
    simpa (disch := omega) only [sI_wI, nB_u, tk_ne9, tk_inj, if_false, if_true, false_and, and_false, Nat.reduceEqDiff, reduceIte, reduceCtorEq, and_true, true_and] using h9
  · have h9 := r_bk R
    unfold Cbk
    simpa (disch := omega) only [sP_wI, nB_u, kd_u, tk_ne9, tk_inj, if_false, if_true, false_and, and_false, Nat.reduceEqDiff, reduceIte, reduceCtorEq, and_true, true_and] using h9
  · have h9 := r_b2 R
    unfold Cb2
    simpa (disch := omega) only [sI_wI, gI_uI, nB_u, tk_ne9, tk_inj, if_false, if_true, false_and, and_false, Nat.reduceEqDiff, reduceIte, reduceCtorEq, and_true, true_and] using h9
  · have h9 := r_b3 R
    unfold Cb3
    simpa (disch := omega) only [sI_wI, gI_uI, nB_u, tk_ne9, tk_inj, if_false, if_true, false_and, and_false, Nat.reduceEqDiff, reduceIte, reduceCtorEq, and_true, true_and] using h9
  · have h9 := r_b4 R
    unfold Cb4
    simpa (disch := omega) only [sI_wI, gI_uI, nB_u, tk_ne9, tk_inj, if_false, if_true, false_and, and_false, Nat.reduceEqDiff, reduceIte, reduceCtorEq, and_true, true_and] using h9
  · have h9 := r_b5 R
    unfold Cb5
    simpa (disch := omega) only [sI_wI, gI_uI, nB_u, tk_ne9, tk_inj, if_false, if_true, false_and, and_false, Nat.reduceEqDiff, reduceIte, reduceCtorEq, and_true, true_and] using h9
  · unfold Cb6
    intro x0_ h0
    have h9 := r_b6 R x0_ h0
    by_cases e1 : x0_ = j
    · subst e1
      (try simp (disch := omega) [sI_wI, sI_wP, sI_wL, sI_wN, sP_wI, sP_wP, sP_wL, sP_wN, sL_wI, sL_wP, sL_wL, sL_wN, sX_wI, sX_wP, sX_wL, sX_wN, gI_uI, gI_uL, gL_uI, gL_uL, tk_ne9, tk_inj, nB_u, nM_u, nP_u, nO_u, hN_u, nLn_u, nOp_u, lnP_u, pc_u, kd_u, op_u, pr_u, mInSt_u, mProm_u, nInSt_u, nProm_u, totp_u, tot_u, nB_l, nM_l, nP_l, nO_l, hN_l, nLn_l, nOp_l, lnP_l, pc_l, kd_l, op_l, pr_l, mInSt_l, mProm_l, nInSt_l, nProm_l, totp_l, tot_l, if_false, if_true, false_and, and_false, Nat.reduceEqDiff, reduceIte, reduceCtorEq, and_true, true_and]) <;> first | exact h9 | assumption | grind
    · (try simp (disch := omega) [sI_wI, sI_wP, sI_wL, sI_wN, sP_wI, sP_wP, sP_wL, sP_wN, sL_wI, sL_wP, sL_wL, sL_wN, sX_wI, sX_wP, sX_wL, sX_wN, gI_uI, gI_uL, gL_uI, gL_uL, tk_ne9, tk_inj, nB_u, nM_u, nP_u, nO_u, hN_u, nLn_u, nOp_u, lnP_u, pc_u, kd_u, op_u, pr_u, mInSt_u, mProm_u, nInSt_u, nProm_u, totp_u, tot_u, nB_l, nM_l, nP_l, nO_l, hN_l, nLn_l, nOp_l, lnP_l, pc_l, kd_l, op_l, pr_l, mInSt_l, mProm_l, nInSt_l, nProm_l, totp_l, tot_l, if_false, if_true, false_and, and_false, Nat.reduceEqDiff, reduceIte, reduceCtorEq, and_true, true_and, e1]) <;> first | exact h9 | assumption | grind
  · have h9 := r_b7 R
    unfold Cb7
    simpa (disch := omega) only [sI_wI, gI_uI, nB_u, tk_ne9, tk_inj, if_false, if_true, false_and, and_false, Nat.reduceEqDiff, reduceIte, reduceCtorEq, and_true, true_and] using h9
  · have h9 := r_b8 R
    unfold Cb8
    simpa (disch := omega) only [sI_wI, gI_uI, nB_u, tk_ne9, tk_inj, if_false, if_true, false_and, and_false, Nat.reduceEqDiff, reduceIte, reduceCtorEq, and_true, true_and] using h9
  · have h9 := r_b9 R
    unfold Cb9
    simpa (disch := omega) only [sI_wI, gI_uI, nB_u, tk_ne9, tk_inj, if_false, if_true, false_and, and_false, Nat.reduceEqDiff, reduceIte, reduceCtorEq, and_true, true_and] using h9
  · have h9 := r_b10 R
    unfold Cb10
    simpa (disch := omega) only [sI_wI, gI_uI, nB_u, tk_ne9, tk_inj, if_false, if_true, false_and, and_false, Nat.reduceEqDiff, reduceIte, reduceCtorEq, and_true, true_and] using h9
  · have h9 := r_b11 R
    unfold Cb11
    simpa (disch := omega) only [sL_wI, gL_uI, nB_u, tk_ne9, tk_inj, if_false, if_true, false_and, and_false, Nat.reduceEqDiff, reduceIte, reduceCtorEq, and_true, true_and] using h9
  · have h9 := r_bK R
    unfold CbK
    simpa (disch := omega) only [gI_uI, nB_u, kd_u, tk_ne9, tk_inj, if_false, if_true, false_and, and_false, Nat.reduceEqDiff, reduceIte, reduceCtorEq, and_true, true_and] using h9
  · have h9 := r_bP R
    unfold CbP
    simpa (disch := omega) only [gI_uI, nB_u, pc_u, tk_ne9, tk_inj, if_false, if_true, false_and, and_false, Nat.reduceEqDiff, reduceIte, reduceCtorEq, and_true, true_and] using h9
  · have h9 := r_bO R
    unfold CbO
    simpa (disch := omega) only [gI_uI, nB_u, op_u, tk_ne9, tk_inj, if_false, if_true, false_and, and_false, Nat.reduceEqDiff, reduceIte, reduceCtorEq, and_true, true_and] using h9
  · have h9 := r_bW R
    unfold CbW
    simpa (disch := omega) only [gI_uI, nB_u, nOp_u, kd_u, op_u, tk_ne9, tk_inj, if_false, if_true, false_and, and_false, Nat.reduceEqDiff, reduceIte, reduceCtorEq, and_true, true_and] using h9
  · have h9 := r_bZ R
    unfold CbZ
    simpa (disch := omega) only [gI_uI, nB_u, pc_u, tk_ne9, tk_inj, if_false, if_true, false_and, and_false, Nat.reduceEqDiff, reduceIte, reduceCtorEq, and_true, true_and] using h9
  · have h9 := r_bF R
    unfold CbF
    simpa (disch := omega) only [gI_uI, nB_u, tk_ne9, tk_inj, if_false, if_true, false_and, and_false, Nat.reduceEqDiff, reduceIte, reduceCtorEq, and_true, true_and] using h9
  · have h9 := r_bS R
    unfold CbS
    simpa (disch := omega) only [gI_uI, nB_u, tk_ne9, tk_inj, if_false, if_true, false_and, and_false, Nat.reduceEqDiff, reduceIte, reduceCtorEq, and_true, true_and] using h9
  · have h9 := r_bC R
    unfold CbC
    simpa (disch := omega) only [gI_uI, nB_u, tk_ne9, tk_inj, if_false, if_true, false_and, and_false, Nat.reduceEqDiff, reduceIte, reduceCtorEq, and_true, true_and] using h9
  · have h9 := r_bT R
    unfold CbT
    simpa (disch := omega) only [gI_uI, nB_u, tk_ne9, tk_inj, if_false, if_true, false_and, and_false, Nat.reduceEqDiff, reduceIte, reduceCtorEq, and_true, true_and] using h9
  · have h9 := r_bU R
    unfold CbU
    simpa (disch := omega) only [gI_uI, nB_u, kd_u, tk_ne9, tk_inj, if_false, if_true, false_and, and_false, Nat.reduceEqDiff, reduceIte, reduceCtorEq, and_true, true_and] using h9
  · have h9 := r_bq R
    unfold Cbq
    simpa (disch := omega) only [nB_u, totp_u, tk_ne9, tk_inj, if_false, if_true, false_and, and_false, Nat.reduceEqDiff, reduceIte, reduceCtorEq, and_true, true_and] using h9
  · have h9 := r_ps R
    unfold Cps
    simpa (disch := omega) only [nB_u, nO_u, nInSt_u, nProm_u, tk_ne9, tk_inj, if_false, if_true, false_and, and_false, Nat.reduceEqDiff, reduceIte, reduceCtorEq, and_true, true_and] using h9
  · have h9 := r_bp R
    unfold Cbp
    simpa (disch := omega) only [gL_uI, nB_u, tk_ne9, tk_inj, if_false, if_true, false_and, and_false, Nat.reduceEqDiff, reduceIte, reduceCtorEq, and_true, true_and] using h9
  · have h9 := r_bc R
    unfold Cbc
    simpa (disch := omega) only [nB_u, hN_u, tot_u, tk_ne9, tk_inj, if_false, if_true, false_and, and_false, Nat.reduceEqDiff, reduceIte, reduceCtorEq, and_true, true_and] using h9
  · have h9 := r_fB R
    unfold CfB
    simpa (disch := omega) only [sX_wI, nB_u, tk_ne9, tk_inj, if_false, if_true, false_and, and_false, Nat.reduceEqDiff, reduceIte, reduceCtorEq, and_true, true_and] using h9
  · have h9 := r_fL R
    unfold CfL
    simpa (disch := omega) only [sX_wI, nLn_u, tk_ne9, tk_inj, if_false, if_true, false_and, and_false, Nat.reduceEqDiff, reduceIte, reduceCtorEq, and_true, true_and] using h9
  · have h9 := r_fO R
    unfold CfO
    simpa (disch := omega) only [sX_wI, nOp_u, tk_ne9, tk_inj, if_false, if_true, false_and, and_false, Nat.reduceEqDiff, reduceIte, reduceCtorEq, and_true, true_and] using h9
  · have h9 := r_fM R
    unfold CfM
    simpa (disch := omega) only [sX_wI, nM_u, tk_ne9, tk_inj, if_false, if_true, false_and, and_false, Nat.reduceEqDiff, reduceIte, reduceCtorEq, and_true, true_and] using h9
  · have h9 := r_fP R
    unfold CfP
    simpa (disch := omega) only [sX_wI, nP_u, tk_ne9, tk_inj, if_false, if_true, false_and, and_false, Nat.reduceEqDiff, reduceIte, reduceCtorEq, and_true, true_and] using h9
  · have h9 := r_fR R
    unfold CfR
    simpa (disch := omega) only [sX_wI, nO_u, tk_ne9, tk_inj, if_false, if_true, false_and, and_false, Nat.reduceEqDiff, reduceIte, reduceCtorEq, and_true, true_and] using h9
  · have h9 := r_fG R
    exact h9
  · have h9 := r_m0 R
    unfold Cm0
    simpa (disch := omega) only [sP_wI, nM_u, tk_ne9, tk_inj, if_false, if_true, false_and, and_false, Nat.reduceEqDiff, reduceIte, reduceCtorEq, and_true, true_and] using h9
  · have h9 := r_mn R
    unfold Cmn
    simpa (disch := omega) only [sI_wI, nM_u, tk_ne9, tk_inj, if_false, if_true, false_and, and_false, Nat.reduceEqDiff, reduceIte, reduceCtorEq, and_true, true_and] using h9
  · have h9 := r_m1 R
    unfold Cm1
    simpa (disch := omega) only [sI_wI, gI_uI, nM_u, tk_ne9, tk_inj, if_false, if_true, false_and, and_false, Nat.reduceEqDiff, reduceIte, reduceCtorEq, and_true, true_and] using h9
  · have h9 := r_m2 R
    unfold Cm2
    simpa (disch := omega) only [sI_wI, gI_uI, nM_u, tk_ne9, tk_inj, if_false, if_true, false_and, and_false, Nat.reduceEqDiff, reduceIte, reduceCtorEq, and_true, true_and] using h9
  · have h9 := r_m3 R
    unfold Cm3
    simpa (disch := omega) only [sI_wI, gI_uI, nM_u, tk_ne9, tk_inj, if_false, if_true, false_and, and_false, Nat.reduceEqDiff, reduceIte, reduceCtorEq, and_true, true_and] using h9
  · have h9 := r_m4 R
    unfold Cm4
    simpa (disch := omega) only [sI_wI, gI_uI, nM_u, tk_ne9, tk_inj, if_false, if_true, false_and, and_false, Nat.reduceEqDiff, reduceIte, reduceCtorEq, and_true, true_and] using h9
  · have h9 := r_m5 R
    unfold Cm5
    simpa (disch := omega) only [sI_wI, gI_uI, nM_u, tk_ne9, tk_inj, if_false, if_true, false_and, and_false, Nat.reduceEqDiff, reduceIte, reduceCtorEq, and_true, true_and] using h9
  · have h9 := r_m9 R
    unfold Cm9
    simpa (disch := omega) only [sI_wI, gI_uI, nM_u, tk_ne9, tk_inj, if_false, if_true, false_and, and_false, Nat.reduceEqDiff, reduceIte, reduceCtorEq, and_true, true_and] using h9
  · have h9 := r_m11 R
    unfold Cm11
    simpa (disch := omega) only [sI_wI, gI_uI, nM_u, tk_ne9, tk_inj, if_false, if_true, false_and, and_false, Nat.reduceEqDiff, reduceIte, reduceCtorEq, and_true, true_and] using h9
  · have h9 := r_m13 R
    unfold Cm13
    simpa (disch := omega) only [sI_wI, gI_uI, nM_u, tk_ne9, tk_inj, if_false, if_true, false_and, and_false, Nat.reduceEqDiff, reduceIte, reduceCtorEq, and_true, true_and] using h9
  · have h9 := r_m14 R
    unfold Cm14
    simpa (disch := omega) only [sI_wI, gI_uI, nM_u, tk_ne9, tk_inj, if_false, if_true, false_and, and_false, Nat.reduceEqDiff, reduceIte, reduceCtorEq, and_true, true_and] using h9
  · have h9 := r_m6 R
    unfold Cm6
    simpa (disch := omega) only [sP_wI, gI_uI, nM_u, tk_ne9, tk_inj, if_false, if_true, false_and, and_false, Nat.reduceEqDiff, reduceIte, reduceCtorEq, and_true, true_and] using h9
  · have h9 := r_m7 R
    unfold Cm7
    simpa (disch := omega) only [sP_wI, gI_uI, nM_u, tk_ne9, tk_inj, if_false, if_true, false_and, and_false, Nat.reduceEqDiff, reduceIte, reduceCtorEq, and_true, true_and] using h9
  · have h9 := r_m8 R
    unfold Cm8
    simpa (disch := omega) only [sP_wI, gI_uI, nM_u, tk_ne9, tk_inj, if_false, if_true, false_and, and_false, Nat.reduceEqDiff, reduceIte, reduceCtorEq, and_true, true_and] using h9
  · have h9 := r_m12 R
    unfold Cm12
    simpa (disch := omega) only [sP_wI, gI_uI, nM_u, tk_ne9, tk_inj, if_false, if_true, false_and, and_false, Nat.reduceEqDiff, reduceIte, reduceCtorEq, and_true, true_and] using h9
  · have h9 := r_m10 R
    unfold Cm10
    simpa (disch := omega) only [sI_wI, gI_uI, nB_u, nM_u, tk_ne9, tk_inj, if_false, if_true, false_and, and_false, Nat.reduceEqDiff, reduceIte, reduceCtorEq, and_true, true_and] using h9
  · have h9 := r_mma R
    unfold Cmma
    simpa (disch := omega) only [gI_uI, nM_u, tk_ne9, tk_inj, if_false, if_true, false_and, and_false, Nat.reduceEqDiff, reduceIte, reduceCtorEq, and_true, true_and] using h9
  · have h9 := r_mmb R
    unfold Cmmb
    simpa (disch := omega) only [gI_uI, nB_u, nM_u, nP_u, tk_ne9, tk_inj, if_false, if_true, false_and, and_false, Nat.reduceEqDiff, reduceIte, reduceCtorEq, and_true, true_and] using h9
  · have h9 := r_mmc R
    unfold Cmmc
    simpa (disch := omega) only [gI_uI, nM_u, tk_ne9, tk_inj, if_false, if_true, false_and, and_false, Nat.reduceEqDiff, reduceIte, reduceCtorEq, and_true, true_and] using h9
  · have h9 := r_mr29 R
    unfold Cmr29
    simpa (disch := omega) only [gI_uI, nM_u, tk_ne9, tk_inj, if_false, if_true, false_and, and_false, Nat.reduceEqDiff, reduceIte, reduceCtorEq, and_true, true_and] using h9
  · have h9 := r_mr30 R
    unfold Cmr30
    simpa (disch := omega) only [gI_uI, nM_u, tk_ne9, tk_inj, if_false, if_true, false_and, and_false, Nat.reduceEqDiff, reduceIte, reduceCtorEq, and_true, true_and] using h9
  · have h9 := r_mr31 R
    unfold Cmr31
    simpa (disch := omega) only [gI_uI, nM_u, tk_ne9, tk_inj, if_false, if_true, false_and, and_false, Nat.reduceEqDiff, reduceIte, reduceCtorEq, and_true, true_and] using h9
  · have h9 := r_mr32 R
    unfold Cmr32
    simpa (disch := omega) only [gI_uI, nM_u, tk_ne9, tk_inj, if_false, if_true, false_and, and_false, Nat.reduceEqDiff, reduceIte, reduceCtorEq, and_true, true_and] using h9
  · have h9 := r_mr35 R
    unfold Cmr35
    simpa (disch := omega) only [gI_uI, nM_u, tk_ne9, tk_inj, if_false, if_true, false_and, and_false, Nat.reduceEqDiff, reduceIte, reduceCtorEq, and_true, true_and] using h9
  · have h9 := r_mr39 R
    unfold Cmr39
    simpa (disch := omega) only [gI_uI, nM_u, tk_ne9, tk_inj, if_false, if_true, false_and, and_false, Nat.reduceEqDiff, reduceIte, reduceCtorEq, and_true, true_and] using h9
  · have h9 := r_mr40 R
    unfold Cmr40
    simpa (disch := omega) only [gI_uI, nM_u, tk_ne9, tk_inj, if_false, if_true, false_and, and_false, Nat.reduceEqDiff, reduceIte, reduceCtorEq, and_true, true_and] using h9
  · have h9 := r_md R
    unfold Cmd
    simpa (disch := omega) only [gI_uI, nM_u, tk_ne9, tk_inj, if_false, if_true, false_and, and_false, Nat.reduceEqDiff, reduceIte, reduceCtorEq, and_true, true_and] using h9
  · have h9 := r_mw R
    unfold Cmw
    simpa (disch := omega) only [gI_uI, nM_u, tk_ne9, tk_inj, if_false, if_true, false_and, and_false, Nat.reduceEqDiff, reduceIte, reduceCtorEq, and_true, true_and] using h9
  · have h9 := r_q0 R
    unfold Cq0
    simpa (disch := omega) only [sP_wI, nP_u, tk_ne9, tk_inj, if_false, if_true, false_and, and_false, Nat.reduceEqDiff, reduceIte, reduceCtorEq, and_true, true_and] using h9
  · have h9 := r_qn R
    unfold Cqn
    simpa (disch := omega) only [sI_wI, nP_u, tk_ne9, tk_inj, if_false, if_true, false_and, and_false, Nat.reduceEqDiff, reduceIte, reduceCtorEq, and_true, true_and] using h9
  · have h9 := r_q1 R
    unfold Cq1
    simpa (disch := omega) only [sI_wI, gI_uI, nP_u, tk_ne9, tk_inj, if_false, if_true, false_and, and_false, Nat.reduceEqDiff, reduceIte, reduceCtorEq, and_true, true_and] using h9
  · have h9 := r_q2 R
    unfold Cq2
    simpa (disch := omega) only [sI_wI, gI_uI, nP_u, tk_ne9, tk_inj, if_false, if_true, false_and, and_false, Nat.reduceEqDiff, reduceIte, reduceCtorEq, and_true, true_and] using h9
  · have h9 := r_q3 R
    unfold Cq3
    simpa (disch := omega) only [sI_wI, gI_uI, nP_u, tk_ne9, tk_inj, if_false, if_true, false_and, and_false, Nat.reduceEqDiff, reduceIte, reduceCtorEq, and_true, true_and] using h9
  · have h9 := r_q4 R
    unfold Cq4
    simpa (disch := omega) only [sP_wI, nP_u, tk_ne9, tk_inj, if_false, if_true, false_and, and_false, Nat.reduceEqDiff, reduceIte, reduceCtorEq, and_true, true_and] using h9
  · have h9 := r_q5 R
    unfold Cq5
    simpa (disch := omega) only [sP_wI, nP_u, tk_ne9, tk_inj, if_false, if_true, false_and, and_false, Nat.reduceEqDiff, reduceIte, reduceCtorEq, and_true, true_and] using h9
  · have h9 := r_q6 R
    unfold Cq6
    simpa (disch := omega) only [sI_wI, gI_uI, nM_u, nP_u, tk_ne9, tk_inj, if_false, if_true, false_and, and_false, Nat.reduceEqDiff, reduceIte, reduceCtorEq, and_true, true_and] using h9
  · have h9 := r_ql R
    unfold Cql
    simpa (disch := omega) only [sI_wI, gI_uI, nP_u, tk_ne9, tk_inj, if_false, if_true, false_and, and_false, Nat.reduceEqDiff, reduceIte, reduceCtorEq, and_true, true_and] using h9
  · have h9 := r_qw R
    unfold Cqw
    simpa (disch := omega) only [sI_wI, gI_uI, nP_u, tk_ne9, tk_inj, if_false, if_true, false_and, and_false, Nat.reduceEqDiff, reduceIte, reduceCtorEq, and_true, true_and] using h9
  · have h9 := r_qm R
    unfold Cqm
    simpa (disch := omega) only [gI_uI, nP_u, tk_ne9, tk_inj, if_false, if_true, false_and, and_false, Nat.reduceEqDiff, reduceIte, reduceCtorEq, and_true, true_and] using h9
  · have h9 := r_qr R
    unfold Cqr
    simpa (disch := omega) only [gI_uI, nP_u, tk_ne9, tk_inj, if_false, if_true, false_and, and_false, Nat.reduceEqDiff, reduceIte, reduceCtorEq, and_true, true_and] using h9
  · have h9 := r_r0 R
    unfold Cr0
    simpa (disch := omega) only [sP_wI, nO_u, tk_ne9, tk_inj, if_false, if_true, false_and, and_false, Nat.reduceEqDiff, reduceIte, reduceCtorEq, and_true, true_and] using h9
  · have h9 := r_r1 R
    unfold Cr1
    simpa (disch := omega) only [sP_wI, gI_uI, nO_u, tk_ne9, tk_inj, if_false, if_true, false_and, and_false, Nat.reduceEqDiff, reduceIte, reduceCtorEq, and_true, true_and] using h9
  · have h9 := r_r2 R
    unfold Cr2
    simpa (disch := omega) only [sI_wI, gI_uI, nO_u, tk_ne9, tk_inj, if_false, if_true, false_and, and_false, Nat.reduceEqDiff, reduceIte, reduceCtorEq, and_true, true_and] using h9
  · have h9 := r_r3 R
    unfold Cr3
    simpa (disch := omega) only [sI_wI, gI_uI, nO_u, tk_ne9, tk_inj, if_false, if_true, false_and, and_false, Nat.reduceEqDiff, reduceIte, reduceCtorEq, and_true, true_and] using h9
  · have h9 := r_r4 R
    unfold Cr4
    simpa (disch := omega) only [sI_wI, gI_uI, nO_u, tk_ne9, tk_inj, if_false, if_true, false_and, and_false, Nat.reduceEqDiff, reduceIte, reduceCtorEq, and_true, true_and] using h9
  · have h9 := r_r5 R
    unfold Cr5
    simpa (disch := omega) only [sP_wI, gI_uI, nO_u, tk_ne9, tk_inj, if_false, if_true, false_and, and_false, Nat.reduceEqDiff, reduceIte, reduceCtorEq, and_true, true_and] using h9
  · have h9 := r_r6 R
    unfold Cr6
    simpa (disch := omega) only [sI_wI, gI_uI, nO_u, tk_ne9, tk_inj, if_false, if_true, false_and, and_false, Nat.reduceEqDiff, reduceIte, reduceCtorEq, and_true, true_and] using h9
  · have h9 := r_rk R
    unfold Crk
    simpa (disch := omega) only [gI_uI, nO_u, tk_ne9, tk_inj, if_false, if_true, false_and, and_false, Nat.reduceEqDiff, reduceIte, reduceCtorEq, and_true, true_and] using h9
  · have h9 := r_rp R
    unfold Crp
    simpa (disch := omega) only [gI_uI, nO_u, tk_ne9, tk_inj, if_false, if_true, false_and, and_false, Nat.reduceEqDiff, reduceIte, reduceCtorEq, and_true, true_and] using h9
  · have h9 := r_rq R
    unfold Crq
    simpa (disch := omega) only [gI_uI, nO_u, pr_u, tk_ne9, tk_inj, if_false, if_true, false_and, and_false, Nat.reduceEqDiff, reduceIte, reduceCtorEq, and_true, true_and] using h9
  · have h9 := r_rr R
    unfold Crr
    simpa (disch := omega) only [gI_uI, nO_u, pr_u, tk_ne9, tk_inj, if_false, if_true, false_and, and_false, Nat.reduceEqDiff, reduceIte, reduceCtorEq, and_true, true_and] using h9
  · have h9 := r_rs R
    unfold Crs
    simpa (disch := omega) only [gI_uI, nB_u, nO_u, tk_ne9, tk_inj, if_false, if_true, false_and, and_false, Nat.reduceEqDiff, reduceIte, reduceCtorEq, and_true, true_and] using h9
set_option maxHeartbeats 2000000 in
theorem rel_nbN {e : Nat} {a b : Sg} {M N : MS} (R : Rel e a M) (k p : Nat) (s : Int32) (h60 : nB M < 60) (hk : k < 12) (hp : 1 ≤ p) (hp2 : p ≤ 1200) (htq : totp M (nB M) + p ≤ 20 * (nB M + 1)) (hs3 : s ≠ 3) (hs4 : s ≠ 4) (hs1 : s = 1 ∨ s = 2 → 0 < nOp M k) (hs6 : ∃ q : Nat, s = nI q ∧ q ≤ 6) (gO : ∀ t j, zb t = true → gI N t j = gI M t j) (gJ : ∀ t j, ¬ j = nB M → t ≠ 214 → t ≠ 113 → gI N t j = gI M t j) (gC : gI N 214 0 = nI (nB M + 1)) (gW : ∀ i, gI N 113 i = if i = k then 1 else gI M 113 i) (g15 : gI N 15 (nB M) = nI k) (g16 : gI N 16 (nB M) = nI p) (g17 : gI N 17 (nB M) = 0) (g18 : gI N 18 (nB M) = s) (g19 : gI N 19 (nB M) = 0) (g20 : gI N 20 (nB M) = 0) (g121 : gI N 121 (nB M) = 0) (g122 : gI N 122 (nB M) = 0) (g23 : gI N 23 (nB M) = 0) (g124 : gI N 124 (nB M) = 0) (g25 : gI N 25 (nB M) = -1) (gLj : ∀ j, ¬ j = nB M → gL N j = gL M j) (gLn : gL N (nB M) = 0) (bI : ∀ c i q, c < 32 → zc c = true → sI b (tk c i) q = sI a (tk c i) q) (bI2 : ∀ i q, q ≠ 9 → sI b (tk 2 i) q = sI a (tk 2 i) q) (bI29 : ∀ i, sI b (tk 2 i) 9 = if i = k then 1 else sI a (tk 2 i) 9) (bI8 : ∀ q, q ≠ 1 → sI b (tk 8 0) q = sI a (tk 8 0) q) (bI81 : sI b (tk 8 0) 1 = nI (nB M + 1)) (bI0 : ∀ j q, ¬ j = nB M → sI b (tk 0 j) q = sI a (tk 0 j) q) (v0 : sI b (tk 0 (nB M)) 0 = nI (nB M)) (v2 : sI b (tk 0 (nB M)) 2 = nI p) (v3 : sI b (tk 0 (nB M)) 3 = 0) (v4 : sI b (tk 0 (nB M)) 4 = s) (v5 : sI b (tk 0 (nB M)) 5 = 0) (v6 : sI b (tk 0 (nB M)) 6 = 0) (v7 : sI b (tk 0 (nB M)) 7 = 0) (v8 : sI b (tk 0 (nB M)) 8 = 0) (v10 : sI b (tk 0 (nB M)) 10 = 0) (v9 : sI b (tk 0 (nB M)) 9 = -1) (v11 : sL b (tk 0 (nB M)) 11 = 0) (bP : ∀ c i q, c < 32 → c ≠ 0 → c ≠ 14 → sP b (tk c i) q = sP a (tk c i) q) (bP0 : ∀ j q, ¬ j = nB M → sP b (tk 0 j) q = sP a (tk 0 j) q) (bPk : sP b (tk 0 (nB M)) 1 = some (tk 2 k)) (bP14 : ∀ j, sP b (tk 14 0) j = if j = nB M then some (tk 0 (nB M)) else sP a (tk 14 0) j) (bL0 : ∀ j, ¬ j = nB M → sL b (tk 0 j) 11 = sL a (tk 0 j) 11) (bX : ∀ t, t ≠ tk 0 (nB M) → sX b t = sX a t) : Rel e b N := by
  have hB := r_nBx R
  have e1 : nB N = nB M + 1 := by unfold nB at gC ⊢; rw [gC, nI_clamp (by unfold nB at h60; omega)]
  have hnM : nM N = nM M := by unfold nM; rw [gO _ _ rfl]
  have hnP : nP N = nP M := by unfold nP; rw [gO _ _ rfl]
  have hnO : nO N = nO M := by unfold nO; rw [gO _ _ rfl]
  have hhN : hN N = hN M := by unfold hN; rw [gO _ _ rfl]
  have hnOp : ∀ i, nOp N i = nOp M i := fun i => by unfold nOp; rw [gO _ _ rfl]
  have hnLn : ∀ i, nLn N i = nLn M i := fun i => by unfold nLn; rw [gO _ _ rfl]
  have hlnP : ∀ i, lnP N i = lnP M i := fun i => by unfold lnP; rw [gO _ _ rfl]
  have hpr : ∀ i, pr N i = pr M i := fun i => by unfold pr; rw [gO _ _ rfl]
  have hkd : ∀ j, ¬ j = nB M → kd N j = kd M j := fun j c => by unfold kd; rw [gJ _ _ c (by decide) (by decide)]
  have hkn : kd N (nB M) = k := by unfold kd; rw [g15, nI_clamp (by omega)]
  have hop : ∀ j, ¬ j = nB M → op N j = op M j := fun j c => by unfold op; rw [gJ _ _ c (by decide) (by decide)]
  have hon : op N (nB M) = 0 := by unfold op; rw [g19]; rfl
  have hpc : ∀ j, ¬ j = nB M → pc N j = pc M j := fun j c => by unfold pc; rw [gJ _ _ c (by decide) (by decide)]
  have hpn : pc N (nB M) = p := by unfold pc; rw [g16, nI_clamp (by omega)]
  have hin : ∀ i, mInSt N i (nB M + 1) = mInSt M i (nB M) := fun i => by
    unfold mInSt
    rw [sumN_1, if_neg (by rw [g18]; exact fun q => hs3 q.1), Int32.add_zero]
    refine sumN_congr fun j hj => ?_
    have c : ¬ j = nB M := by omega
    rw [gJ _ _ c (by decide) (by decide), gJ _ _ c (by decide) (by decide), gJ _ _ c (by decide) (by decide)]
  have hnin : ∀ i, nInSt N i (nB M + 1) = nInSt M i (nB M) := fun i => by
    unfold nInSt
    rw [sumT_1, if_neg (by rw [g18]; exact fun q => hs3 q.1), Nat.add_zero]
    refine sumT_congr fun j hj => ?_
    have c : ¬ j = nB M := by omega
    rw [gJ _ _ c (by decide) (by decide), gJ _ _ c (by decide) (by decide), hpc _ c]
  have hnpr : ∀ i m, nProm N i m = nProm M i m := fun i m => by
    unfold nProm
    refine sumT_congr fun j hj => ?_
    rw [gO _ _ rfl, gO _ _ rfl, hpr]
  have hmpr : ∀ i m, mProm N i m = mProm M i m := fun i m => by
    unfold mProm
    refine sumN_congr fun j hj => ?_
    rw [gO _ _ rfl, gO _ _ rfl, gO _ _ rfl]
  have htp : totp N (nB M + 1) = totp M (nB M) + p := by
    unfold totp
    rw [sumT_1, hpn, sumT_congr (h := pc M) fun j hj => hpc j (by omega)]
  have htt : ∀ m, m ≤ nB M → tot N m = tot M m := by
    intro m
    induction m with
    | zero => intro _; rfl
    | succ m ih =>
      intro hm
      rw [tot_1, tot_1, ih (by omega), gJ 17 m (by omega) (by decide) (by decide)]
  have hb0 : b01 (0 : Int32) := b01_0.mpr trivial
  unfold Rel
  refine ⟨?_, ?_, ?_, ?_, ?_, ?_, ?_, ?_, ?_, ?_, ?_, ?_, ?_, ?_, ?_, ?_, ?_, ?_, ?_, ?_, ?_, ?_, ?_, ?_, ?_, ?_, ?_, ?_, ?_, ?_, ?_, ?_, ?_, ?_, ?_, ?_, ?_, ?_, ?_, ?_, ?_, ?_, ?_, ?_, ?_, ?_, ?_, ?_, ?_, ?_, ?_, ?_, ?_, ?_, ?_, ?_, ?_, ?_, ?_, ?_, ?_, ?_, ?_, ?_, ?_, ?_, ?_, ?_, ?_, ?_, ?_, ?_, ?_, ?_, ?_, ?_, ?_, ?_, ?_, ?_, ?_, ?_, ?_, ?_, ?_, ?_, ?_, ?_, ?_, ?_, ?_, ?_, ?_, ?_, ?_, ?_, ?_, ?_, ?_, ?_, ?_, ?_, ?_, ?_, ?_, ?_, ?_, ?_, ?_, ?_, ?_, ?_, ?_, ?_, ?_, ?_, ?_, ?_, ?_, ?_, ?_, ?_, ?_, ?_, ?_, ?_, ?_, ?_, ?_, ?_, ?_, ?_, ?_, ?_, ?_, ?_, ?_, ?_, ?_, ?_, ?_, ?_, ?_, ?_, ?_, ?_, ?_, ?_, ?_⟩
  · unfold Cshm
    have h9 := r_shm R
    simpa (disch := decide) only [gO, hnM, hnP, hnO, hhN, hnOp, hnLn, hlnP, hpr, bI, bI2, bI8, bP] using h9
  · unfold Cpx0
    have h9 := r_px0 R
    simpa (disch := decide) only [gO, hnM, hnP, hnO, hhN, hnOp, hnLn, hlnP, hpr, bI, bI2, bI8, bP] using h9
  · unfold Cpx1
    have h9 := r_px1 R
    simpa (disch := decide) only [gO, hnM, hnP, hnO, hhN, hnOp, hnLn, hlnP, hpr, bI, bI2, bI8, bP] using h9
  · unfold Cpx2
    have h9 := r_px2 R
    simpa (disch := decide) only [gO, hnM, hnP, hnO, hhN, hnOp, hnLn, hlnP, hpr, bI, bI2, bI8, bP] using h9
  · unfold Cpf0
    have h9 := r_pf0 R
    simpa (disch := decide) only [gO, hnM, hnP, hnO, hhN, hnOp, hnLn, hlnP, hpr, bI, bI2, bI8, bP] using h9
  · unfold Cpf1
    have h9 := r_pf1 R
    simpa (disch := decide) only [gO, hnM, hnP, hnO, hhN, hnOp, hnLn, hlnP, hpr, bI, bI2, bI8, bP] using h9
  · unfold Cpf3
    have h9 := r_pf3 R
    simpa (disch := decide) only [gO, hnM, hnP, hnO, hhN, hnOp, hnLn, hlnP, hpr, bI, bI2, bI8, bP] using h9
  · unfold Cps0
    have h9 := r_ps0 R
    simpa (disch := decide) only [gO, hnM, hnP, hnO, hhN, hnOp, hnLn, hlnP, hpr, bI, bI2, bI8, bP] using h9
  · unfold Cps2
    have h9 := r_ps2 R
    simpa (disch := decide) only [gO, hnM, hnP, hnO, hhN, hnOp, hnLn, hlnP, hpr, bI, bI2, bI8, bP] using h9
  · unfold Cps4
    have h9 := r_ps4 R
    simpa (disch := decide) only [gO, hnM, hnP, hnO, hhN, hnOp, hnLn, hlnP, hpr, bI, bI2, bI8, bP] using h9
  · unfold Cpk
    have h9 := r_pk R
    simpa (disch := decide) only [gO, hnM, hnP, hnO, hhN, hnOp, hnLn, hlnP, hpr, bI, bI2, bI8, bP] using h9
  · unfold Cpkl
    have h9 := r_pkl R
    simpa (disch := decide) only [gO, hnM, hnP, hnO, hhN, hnOp, hnLn, hlnP, hpr, bI, bI2, bI8, bP] using h9
  · unfold Cpko
    have h9 := r_pko R
    simpa (disch := decide) only [gO, hnM, hnP, hnO, hhN, hnOp, hnLn, hlnP, hpr, bI, bI2, bI8, bP] using h9
  · unfold Cghour
    have h9 := r_ghour R
    simpa (disch := decide) only [gO, hnM, hnP, hnO, hhN, hnOp, hnLn, hlnP, hpr, bI, bI2, bI8, bP] using h9
  · unfold Cgstand
    have h9 := r_gstand R
    simpa (disch := decide) only [gO, hnM, hnP, hnO, hhN, hnOp, hnLn, hlnP, hpr, bI, bI2, bI8, bP] using h9
  · unfold Cgbought
    have h9 := r_gbought R
    simpa (disch := decide) only [gO, hnM, hnP, hnO, hhN, hnOp, hnLn, hlnP, hpr, bI, bI2, bI8, bP] using h9
  · unfold Cgmach
    have h9 := r_gmach R
    simpa (disch := decide) only [gO, hnM, hnP, hnO, hhN, hnOp, hnLn, hlnP, hpr, bI, bI2, bI8, bP] using h9
  · unfold Cgpers
    have h9 := r_gpers R
    simpa (disch := decide) only [gO, hnM, hnP, hnO, hhN, hnOp, hnLn, hlnP, hpr, bI, bI2, bI8, bP] using h9
  · unfold Cgworked
    have h9 := r_gworked R
    simpa (disch := decide) only [gO, hnM, hnP, hnO, hhN, hnOp, hnLn, hlnP, hpr, bI, bI2, bI8, bP] using h9
  · unfold Cgrep
    have h9 := r_grep R
    simpa (disch := decide) only [gO, hnM, hnP, hnO, hhN, hnOp, hnLn, hlnP, hpr, bI, bI2, bI8, bP] using h9
  · unfold Cgbat
    rw [bI81, gC]
  · unfold Cgord
    have h9 := r_gord R
    simpa (disch := decide) only [gO, hnM, hnP, hnO, hhN, hnOp, hnLn, hlnP, hpr, bI, bI2, bI8, bP] using h9
  · unfold Cgq
    have h9 := r_gq R
    simpa (disch := decide) only [gO, hnM, hnP, hnO, hhN, hnOp, hnLn, hlnP, hpr, bI, bI2, bI8, bP] using h9
  · unfold CnB
    rw [e1]; exact gC
  · unfold CnBx
    rw [e1]; omega
  · unfold CnM
    have h9 := r_nM R
    simpa (disch := decide) only [gO, hnM, hnP, hnO, hhN, hnOp, hnLn, hlnP, hpr, bI, bI2, bI8, bP] using h9
  · unfold CnMx
    have h9 := r_nMx R
    simpa (disch := decide) only [gO, hnM, hnP, hnO, hhN, hnOp, hnLn, hlnP, hpr, bI, bI2, bI8, bP] using h9
  · unfold CnP
    have h9 := r_nP R
    simpa (disch := decide) only [gO, hnM, hnP, hnO, hhN, hnOp, hnLn, hlnP, hpr, bI, bI2, bI8, bP] using h9
  · unfold CnPx
    have h9 := r_nPx R
    simpa (disch := decide) only [gO, hnM, hnP, hnO, hhN, hnOp, hnLn, hlnP, hpr, bI, bI2, bI8, bP] using h9
  · unfold CnO
    have h9 := r_nO R
    simpa (disch := decide) only [gO, hnM, hnP, hnO, hhN, hnOp, hnLn, hlnP, hpr, bI, bI2, bI8, bP] using h9
  · unfold CnOx
    have h9 := r_nOx R
    simpa (disch := decide) only [gO, hnM, hnP, hnO, hhN, hnOp, hnLn, hlnP, hpr, bI, bI2, bI8, bP] using h9
  · unfold Chr
    have h9 := r_hr R
    simpa (disch := decide) only [gO, hnM, hnP, hnO, hhN, hnOp, hnLn, hlnP, hpr, bI, bI2, bI8, bP] using h9
  · unfold Chrx
    have h9 := r_hrx R
    simpa (disch := decide) only [gO, hnM, hnP, hnO, hhN, hnOp, hnLn, hlnP, hpr, bI, bI2, bI8, bP] using h9
  · unfold Cstb
    have h9 := r_stb R
    simpa (disch := decide) only [gO, hnM, hnP, hnO, hhN, hnOp, hnLn, hlnP, hpr, bI, bI2, bI8, bP] using h9
  · unfold Cex
    have h9 := r_ex R
    simpa (disch := decide) only [gO, hnM, hnP, hnO, hhN, hnOp, hnLn, hlnP, hpr, bI, bI2, bI8, bP] using h9
  · unfold Ck0
    have h9 := r_k0 R
    simpa (disch := decide) only [gO, hnM, hnP, hnO, hhN, hnOp, hnLn, hlnP, hpr, bI, bI2, bI8, bP] using h9
  · unfold Ck1
    have h9 := r_k1 R
    simpa (disch := decide) only [gO, hnM, hnP, hnO, hhN, hnOp, hnLn, hlnP, hpr, bI, bI2, bI8, bP] using h9
  · unfold Ck2
    have h9 := r_k2 R
    simpa (disch := decide) only [gO, hnM, hnP, hnO, hhN, hnOp, hnLn, hlnP, hpr, bI, bI2, bI8, bP] using h9
  · unfold Ck3
    have h9 := r_k3 R
    simpa (disch := decide) only [gO, hnM, hnP, hnO, hhN, hnOp, hnLn, hlnP, hpr, bI, bI2, bI8, bP] using h9
  · unfold Ck5
    have h9 := r_k5 R
    simpa (disch := decide) only [gO, hnM, hnP, hnO, hhN, hnOp, hnLn, hlnP, hpr, bI, bI2, bI8, bP] using h9
  · unfold Ck7
    have h9 := r_k7 R
    simpa (disch := decide) only [gO, hnM, hnP, hnO, hhN, hnOp, hnLn, hlnP, hpr, bI, bI2, bI8, bP] using h9
  · unfold Ck8
    have h9 := r_k8 R
    simpa (disch := decide) only [gO, hnM, hnP, hnO, hhN, hnOp, hnLn, hlnP, hpr, bI, bI2, bI8, bP] using h9
  · unfold Ck9
    intro i hi
    rw [bI29, gW, r_k9 R i hi]
  · unfold Ck10
    intro i hi
    rw [e1, hin, bI2 _ _ (by decide)]
    exact r_k10 R i hi
  · unfold Ck11
    intro i hi
    rw [hnO, hmpr, bI2 _ _ (by decide)]
    exact r_k11 R i hi
  · unfold Ck12
    have h9 := r_k12 R
    simpa (disch := decide) only [gO, hnM, hnP, hnO, hhN, hnOp, hnLn, hlnP, hpr, bI, bI2, bI8, bP] using h9
  · unfold Cksa
    have h9 := r_ksa R
    simpa (disch := decide) only [gO, hnM, hnP, hnO, hhN, hnOp, hnLn, hlnP, hpr, bI, bI2, bI8, bP] using h9
  · unfold Cksb
    have h9 := r_ksb R
    simpa (disch := decide) only [gO, hnM, hnP, hnO, hhN, hnOp, hnLn, hlnP, hpr, bI, bI2, bI8, bP] using h9
  · unfold Cksc
    have h9 := r_ksc R
    simpa (disch := decide) only [gO, hnM, hnP, hnO, hhN, hnOp, hnLn, hlnP, hpr, bI, bI2, bI8, bP] using h9
  · unfold Ckw
    intro i hi
    rw [gW]
    split
    · exact b01_1.mpr trivial
    · exact r_kw R i hi
  · unfold Ckl
    have h9 := r_kl R
    simpa (disch := decide) only [gO, hnM, hnP, hnO, hhN, hnOp, hnLn, hlnP, hpr, bI, bI2, bI8, bP] using h9
  · unfold Cko
    have h9 := r_ko R
    simpa (disch := decide) only [gO, hnM, hnP, hnO, hhN, hnOp, hnLn, hlnP, hpr, bI, bI2, bI8, bP] using h9
  · unfold Ckp
    have h9 := r_kp R
    simpa (disch := decide) only [gO, hnM, hnP, hnO, hhN, hnOp, hnLn, hlnP, hpr, bI, bI2, bI8, bP] using h9
  · unfold Cl0
    have h9 := r_l0 R
    simpa (disch := decide) only [gO, hnM, hnP, hnO, hhN, hnOp, hnLn, hlnP, hpr, bI, bI2, bI8, bP] using h9
  · unfold Cl1
    have h9 := r_l1 R
    simpa (disch := decide) only [gO, hnM, hnP, hnO, hhN, hnOp, hnLn, hlnP, hpr, bI, bI2, bI8, bP] using h9
  · unfold Cl2
    have h9 := r_l2 R
    simpa (disch := decide) only [gO, hnM, hnP, hnO, hhN, hnOp, hnLn, hlnP, hpr, bI, bI2, bI8, bP] using h9
  · unfold Cl3
    have h9 := r_l3 R
    simpa (disch := decide) only [gO, hnM, hnP, hnO, hhN, hnOp, hnLn, hlnP, hpr, bI, bI2, bI8, bP] using h9
  · unfold Clm
    have h9 := r_lm R
    simpa (disch := decide) only [gO, hnM, hnP, hnO, hhN, hnOp, hnLn, hlnP, hpr, bI, bI2, bI8, bP] using h9
  · unfold Co0
    have h9 := r_o0 R
    simpa (disch := decide) only [gO, hnM, hnP, hnO, hhN, hnOp, hnLn, hlnP, hpr, bI, bI2, bI8, bP] using h9
  · unfold Co1
    have h9 := r_o1 R
    simpa (disch := decide) only [gO, hnM, hnP, hnO, hhN, hnOp, hnLn, hlnP, hpr, bI, bI2, bI8, bP] using h9
  · unfold Co2
    have h9 := r_o2 R
    simpa (disch := decide) only [gO, hnM, hnP, hnO, hhN, hnOp, hnLn, hlnP, hpr, bI, bI2, bI8, bP] using h9
  · unfold Co3
    have h9 := r_o3 R
    simpa (disch := decide) only [gO, hnM, hnP, hnO, hhN, hnOp, hnLn, hlnP, hpr, bI, bI2, bI8, bP] using h9
  · unfold Com
    have h9 := r_om R
    simpa (disch := decide) only [gO, hnM, hnP, hnO, hhN, hnOp, hnLn, hlnP, hpr, bI, bI2, bI8, bP] using h9
  · unfold Cb0
    intro j hj
    rw [e1] at hj
    by_cases c : j = nB M
    · subst c
      rw [bP14, if_pos rfl]
    · have hj2 : j < nB M := by omega
      have h9 := r_b0 R j hj2
      simpa (disch := decide) only [gJ _ _ c, gLj _ c, bI0 _ _ c, bP0 _ _ c, bL0 _ c, hkd _ c, hop _ c, hpc _ c, hnOp, bP14, if_neg c] using h9
  · unfold Cbn
    intro j hj
    rw [e1] at hj
    by_cases c : j = nB M
    · subst c
      exact v0
    · have hj2 : j < nB M := by omega
      have h9 := r_bn R j hj2
      simpa (disch := decide) only [gJ _ _ c, gLj _ c, bI0 _ _ c, bP0 _ _ c, bL0 _ c, hkd _ c, hop _ c, hpc _ c, hnOp, bP14, if_neg c] using h9
  · unfold Cbk
    intro j hj
    rw [e1] at hj
    by_cases c : j = nB M
    · subst c
      rw [hkn]; exact bPk
    · have hj2 : j < nB M := by omega
      have h9 := r_bk R j hj2
      simpa (disch := decide) only [gJ _ _ c, gLj _ c, bI0 _ _ c, bP0 _ _ c, bL0 _ c, hkd _ c, hop _ c, hpc _ c, hnOp, bP14, if_neg c] using h9
  · unfold Cb2
    intro j hj
    rw [e1] at hj
    by_cases c : j = nB M
    · subst c
      rw [v2, g16]
    · have hj2 : j < nB M := by omega
      have h9 := r_b2 R j hj2
      simpa (disch := decide) only [gJ _ _ c, gLj _ c, bI0 _ _ c, bP0 _ _ c, bL0 _ c, hkd _ c, hop _ c, hpc _ c, hnOp, bP14, if_neg c] using h9
  · unfold Cb3
    intro j hj
    rw [e1] at hj
    by_cases c : j = nB M
    · subst c
      rw [v3, g17]
    · have hj2 : j < nB M := by omega
      have h9 := r_b3 R j hj2
      simpa (disch := decide) only [gJ _ _ c, gLj _ c, bI0 _ _ c, bP0 _ _ c, bL0 _ c, hkd _ c, hop _ c, hpc _ c, hnOp, bP14, if_neg c] using h9
  · unfold Cb4
    intro j hj
    rw [e1] at hj
    by_cases c : j = nB M
    · subst c
      rw [v4, g18]
    · have hj2 : j < nB M := by omega
      have h9 := r_b4 R j hj2
      simpa (disch := decide) only [gJ _ _ c, gLj _ c, bI0 _ _ c, bP0 _ _ c, bL0 _ c, hkd _ c, hop _ c, hpc _ c, hnOp, bP14, if_neg c] using h9
  · unfold Cb5
    intro j hj
    rw [e1] at hj
    by_cases c : j = nB M
    · subst c
      rw [v5, g19]
    · have hj2 : j < nB M := by omega
      have h9 := r_b5 R j hj2
      simpa (disch := decide) only [gJ _ _ c, gLj _ c, bI0 _ _ c, bP0 _ _ c, bL0 _ c, hkd _ c, hop _ c, hpc _ c, hnOp, bP14, if_neg c] using h9
  · unfold Cb6
    intro j hj
    rw [e1] at hj
    by_cases c : j = nB M
    · subst c
      rw [v6, g20]
    · have hj2 : j < nB M := by omega
      have h9 := r_b6 R j hj2
      simpa (disch := decide) only [gJ _ _ c, gLj _ c, bI0 _ _ c, bP0 _ _ c, bL0 _ c, hkd _ c, hop _ c, hpc _ c, hnOp, bP14, if_neg c] using h9
  · unfold Cb7
    intro j hj
    rw [e1] at hj
    by_cases c : j = nB M
    · subst c
      rw [v7, g121]
    · have hj2 : j < nB M := by omega
      have h9 := r_b7 R j hj2
      simpa (disch := decide) only [gJ _ _ c, gLj _ c, bI0 _ _ c, bP0 _ _ c, bL0 _ c, hkd _ c, hop _ c, hpc _ c, hnOp, bP14, if_neg c] using h9
  · unfold Cb8
    intro j hj
    rw [e1] at hj
    by_cases c : j = nB M
    · subst c
      rw [v8, g122]
    · have hj2 : j < nB M := by omega
      have h9 := r_b8 R j hj2
      simpa (disch := decide) only [gJ _ _ c, gLj _ c, bI0 _ _ c, bP0 _ _ c, bL0 _ c, hkd _ c, hop _ c, hpc _ c, hnOp, bP14, if_neg c] using h9
  · unfold Cb9
    intro j hj
    rw [e1] at hj
    by_cases c : j = nB M
    · subst c
      rw [v9, g25]
    · have hj2 : j < nB M := by omega
      have h9 := r_b9 R j hj2
      simpa (disch := decide) only [gJ _ _ c, gLj _ c, bI0 _ _ c, bP0 _ _ c, bL0 _ c, hkd _ c, hop _ c, hpc _ c, hnOp, bP14, if_neg c] using h9
  · unfold Cb10
    intro j hj
    rw [e1] at hj
    by_cases c : j = nB M
    · subst c
      rw [v10, g23]
    · have hj2 : j < nB M := by omega
      have h9 := r_b10 R j hj2
      simpa (disch := decide) only [gJ _ _ c, gLj _ c, bI0 _ _ c, bP0 _ _ c, bL0 _ c, hkd _ c, hop _ c, hpc _ c, hnOp, bP14, if_neg c] using h9
  · unfold Cb11
    intro j hj
    rw [e1] at hj
    by_cases c : j = nB M
    · subst c
      rw [v11, gLn]
    · have hj2 : j < nB M := by omega
      have h9 := r_b11 R j hj2
      simpa (disch := decide) only [gJ _ _ c, gLj _ c, bI0 _ _ c, bP0 _ _ c, bL0 _ c, hkd _ c, hop _ c, hpc _ c, hnOp, bP14, if_neg c] using h9
  · unfold CbK
    intro j hj
    rw [e1] at hj
    by_cases c : j = nB M
    · subst c
      rw [hkn]; exact ⟨g15, hk⟩
    · have hj2 : j < nB M := by omega
      have h9 := r_bK R j hj2
      simpa (disch := decide) only [gJ _ _ c, gLj _ c, bI0 _ _ c, bP0 _ _ c, bL0 _ c, hkd _ c, hop _ c, hpc _ c, hnOp, bP14, if_neg c] using h9
  · unfold CbP
    intro j hj
    rw [e1] at hj
    by_cases c : j = nB M
    · subst c
      rw [hpn]; exact g16
    · have hj2 : j < nB M := by omega
      have h9 := r_bP R j hj2
      simpa (disch := decide) only [gJ _ _ c, gLj _ c, bI0 _ _ c, bP0 _ _ c, bL0 _ c, hkd _ c, hop _ c, hpc _ c, hnOp, bP14, if_neg c] using h9
  · unfold CbO
    intro j hj
    rw [e1] at hj
    by_cases c : j = nB M
    · subst c
      rw [hon]; exact ⟨g19.trans nI_0.symm, by omega⟩
    · have hj2 : j < nB M := by omega
      have h9 := r_bO R j hj2
      simpa (disch := decide) only [gJ _ _ c, gLj _ c, bI0 _ _ c, bP0 _ _ c, bL0 _ c, hkd _ c, hop _ c, hpc _ c, hnOp, bP14, if_neg c] using h9
  · unfold CbW
    intro j hj
    rw [e1] at hj
    by_cases c : j = nB M
    · subst c
      rw [hkn, hon, hnOp, g18]; exact hs1
    · have hj2 : j < nB M := by omega
      have h9 := r_bW R j hj2
      simpa (disch := decide) only [gJ _ _ c, gLj _ c, bI0 _ _ c, bP0 _ _ c, bL0 _ c, hkd _ c, hop _ c, hpc _ c, hnOp, bP14, if_neg c] using h9
  · unfold CbZ
    intro j hj
    rw [e1] at hj
    by_cases c : j = nB M
    · subst c
      rw [hpn, g18]; exact ⟨fun q => absurd q hs4, fun q => by omega⟩
    · have hj2 : j < nB M := by omega
      have h9 := r_bZ R j hj2
      simpa (disch := decide) only [gJ _ _ c, gLj _ c, bI0 _ _ c, bP0 _ _ c, bL0 _ c, hkd _ c, hop _ c, hpc _ c, hnOp, bP14, if_neg c] using h9
  · unfold CbF
    intro j hj
    rw [e1] at hj
    by_cases c : j = nB M
    · subst c
      rw [g121]; exact hb0
    · have hj2 : j < nB M := by omega
      have h9 := r_bF R j hj2
      simpa (disch := decide) only [gJ _ _ c, gLj _ c, bI0 _ _ c, bP0 _ _ c, bL0 _ c, hkd _ c, hop _ c, hpc _ c, hnOp, bP14, if_neg c] using h9
  · unfold CbS
    intro j hj
    rw [e1] at hj
    by_cases c : j = nB M
    · subst c
      rw [g122]; exact hb0
    · have hj2 : j < nB M := by omega
      have h9 := r_bS R j hj2
      simpa (disch := decide) only [gJ _ _ c, gLj _ c, bI0 _ _ c, bP0 _ _ c, bL0 _ c, hkd _ c, hop _ c, hpc _ c, hnOp, bP14, if_neg c] using h9
  · unfold CbC
    intro j hj
    rw [e1] at hj
    by_cases c : j = nB M
    · subst c
      rw [g17]; decide
    · have hj2 : j < nB M := by omega
      have h9 := r_bC R j hj2
      simpa (disch := decide) only [gJ _ _ c, gLj _ c, bI0 _ _ c, bP0 _ _ c, bL0 _ c, hkd _ c, hop _ c, hpc _ c, hnOp, bP14, if_neg c] using h9
  · unfold CbT
    intro j hj
    rw [e1] at hj
    by_cases c : j = nB M
    · subst c
      rw [g18]; exact hs6
    · have hj2 : j < nB M := by omega
      have h9 := r_bT R j hj2
      simpa (disch := decide) only [gJ _ _ c, gLj _ c, bI0 _ _ c, bP0 _ _ c, bL0 _ c, hkd _ c, hop _ c, hpc _ c, hnOp, bP14, if_neg c] using h9
  · unfold CbU
    intro j hj
    rw [e1] at hj
    by_cases c : j = nB M
    · subst c
      rw [hkn, gW, if_pos rfl]
    · have hj2 : j < nB M := by omega
      have h9 := r_bU R j hj2
      rw [hkd _ c, gW]; split; rfl; exact h9
  · unfold Cbq
    rw [e1, htp]
    omega
  · unfold Cps
    intro he i hi
    rw [e1, hnin, hnO, hnpr]
    exact r_ps R he i hi
  · unfold Cbp
    intro j q hj hb h64
    rw [e1] at hj hb
    by_cases c : j = nB M
    · subst c; rw [gLn]; exact bt_0 q
    · rw [gLj _ c]; exact r_bp R j q (by omega) (by omega) h64
  · unfold Cbc
    rw [e1, tot_1, htt _ (Nat.le_refl _), g17, hhN]
    have h9 := r_bc R
    rw [show ((0 : Int32)).toInt = 0 by decide]
    push_cast
    omega
  · unfold CfB
    intro j hj h60
    rw [e1] at hj
    rw [bX _ (fun q => by have := tk_inj.mp q; omega)]
    exact r_fB R j (by omega) h60
  · unfold CfL
    intro i q h1 h2 h3
    rw [hnLn] at h3
    rw [bX _ (tk_ne (by decide) (by decide) (by decide) : tk 3 _ ≠ tk 0 _)]
    exact r_fL R i q h1 h2 h3
  · unfold CfO
    intro i q h1 h2 h3
    rw [hnOp] at h3
    rw [bX _ (tk_ne (by decide) (by decide) (by decide) : tk 5 _ ≠ tk 0 _)]
    exact r_fO R i q h1 h2 h3
  · unfold CfM
    intro m h1 h2
    rw [hnM] at h1
    rw [bX _ (tk_ne (by decide) (by decide) (by decide) : tk 4 _ ≠ tk 0 _)]
    exact r_fM R m h1 h2
  · unfold CfP
    intro m h1 h2
    rw [hnP] at h1
    rw [bX _ (tk_ne (by decide) (by decide) (by decide) : tk 7 _ ≠ tk 0 _), bX _ (tk_ne (by decide) (by decide) (by decide) : tk 21 _ ≠ tk 0 _), bX _ (tk_ne (by decide) (by decide) (by decide) : tk 22 _ ≠ tk 0 _)]
    exact r_fP R m h1 h2
  · unfold CfR
    intro m h1 h2
    rw [hnO] at h1
    rw [bX _ (tk_ne (by decide) (by decide) (by decide) : tk 6 _ ≠ tk 0 _)]
    exact r_fR R m h1 h2
  · unfold CfG
    obtain ⟨Q, h1, h2⟩ := r_fG R
    refine ⟨Q, h1, fun c i hi => ?_⟩
    rw [bX _ (by unfold tk; omega)]
    exact h2 c i hi
  · unfold Cm0
    have h9 := r_m0 R
    simpa (disch := decide) only [gO, hnM, hnP, hnO, hhN, hnOp, hnLn, hlnP, hpr, bI, bI2, bI8, bP] using h9
  · unfold Cmn
    have h9 := r_mn R
    simpa (disch := decide) only [gO, hnM, hnP, hnO, hhN, hnOp, hnLn, hlnP, hpr, bI, bI2, bI8, bP] using h9
  · unfold Cm1
    have h9 := r_m1 R
    simpa (disch := decide) only [gO, hnM, hnP, hnO, hhN, hnOp, hnLn, hlnP, hpr, bI, bI2, bI8, bP] using h9
  · unfold Cm2
    have h9 := r_m2 R
    simpa (disch := decide) only [gO, hnM, hnP, hnO, hhN, hnOp, hnLn, hlnP, hpr, bI, bI2, bI8, bP] using h9
  · unfold Cm3
    have h9 := r_m3 R
    simpa (disch := decide) only [gO, hnM, hnP, hnO, hhN, hnOp, hnLn, hlnP, hpr, bI, bI2, bI8, bP] using h9
  · unfold Cm4
    have h9 := r_m4 R
    simpa (disch := decide) only [gO, hnM, hnP, hnO, hhN, hnOp, hnLn, hlnP, hpr, bI, bI2, bI8, bP] using h9
  · unfold Cm5
    have h9 := r_m5 R
    simpa (disch := decide) only [gO, hnM, hnP, hnO, hhN, hnOp, hnLn, hlnP, hpr, bI, bI2, bI8, bP] using h9
  · unfold Cm9
    have h9 := r_m9 R
    simpa (disch := decide) only [gO, hnM, hnP, hnO, hhN, hnOp, hnLn, hlnP, hpr, bI, bI2, bI8, bP] using h9
  · unfold Cm11
    have h9 := r_m11 R
    simpa (disch := decide) only [gO, hnM, hnP, hnO, hhN, hnOp, hnLn, hlnP, hpr, bI, bI2, bI8, bP] using h9
  · unfold Cm13
    have h9 := r_m13 R
    simpa (disch := decide) only [gO, hnM, hnP, hnO, hhN, hnOp, hnLn, hlnP, hpr, bI, bI2, bI8, bP] using h9
  · unfold Cm14
    have h9 := r_m14 R
    simpa (disch := decide) only [gO, hnM, hnP, hnO, hhN, hnOp, hnLn, hlnP, hpr, bI, bI2, bI8, bP] using h9
  · unfold Cm6
    have h9 := r_m6 R
    simpa (disch := decide) only [gO, hnM, hnP, hnO, hhN, hnOp, hnLn, hlnP, hpr, bI, bI2, bI8, bP] using h9
  · unfold Cm7
    have h9 := r_m7 R
    simpa (disch := decide) only [gO, hnM, hnP, hnO, hhN, hnOp, hnLn, hlnP, hpr, bI, bI2, bI8, bP] using h9
  · unfold Cm8
    have h9 := r_m8 R
    simpa (disch := decide) only [gO, hnM, hnP, hnO, hhN, hnOp, hnLn, hlnP, hpr, bI, bI2, bI8, bP] using h9
  · unfold Cm12
    have h9 := r_m12 R
    simpa (disch := decide) only [gO, hnM, hnP, hnO, hhN, hnOp, hnLn, hlnP, hpr, bI, bI2, bI8, bP] using h9
  · unfold Cm10
    intro m j hm hj hl
    rw [hnM] at hm
    have hl2 : gI M 34 m = nI j := by rw [← gO _ _ rfl]; exact hl
    have hj2 : j < nB M := ldlt R hm hl2 (by omega)
    have c : ¬ j = nB M := by omega
    rw [bI _ _ _ (by decide) rfl, gJ _ _ c (by decide) (by decide)]
    exact r_m10 R m j hm hj2 hl2
  · unfold Cmma
    have h9 := r_mma R
    simpa (disch := decide) only [gO, hnM, hnP, hnO, hhN, hnOp, hnLn, hlnP, hpr, bI, bI2, bI8, bP] using h9
  · unfold Cmmb
    intro m hm
    rw [hnM] at hm
    rw [gO _ _ rfl, gO _ _ rfl, gO _ _ rfl]
    rcases r_mmb R m hm with h9 | ⟨j, q, h1, h2, h3, h4, h5⟩
    · exact Or.inl h9
    · have c : ¬ j = nB M := by omega
      exact Or.inr ⟨j, q, h1, by omega, by rw [gJ _ _ c (by decide) (by decide)]; exact h3, h4, by rw [hnP]; exact h5⟩
  · unfold Cmmc
    have h9 := r_mmc R
    simpa (disch := decide) only [gO, hnM, hnP, hnO, hhN, hnOp, hnLn, hlnP, hpr, bI, bI2, bI8, bP] using h9
  · unfold Cmr29
    have h9 := r_mr29 R
    simpa (disch := decide) only [gO, hnM, hnP, hnO, hhN, hnOp, hnLn, hlnP, hpr, bI, bI2, bI8, bP] using h9
  · unfold Cmr30
    have h9 := r_mr30 R
    simpa (disch := decide) only [gO, hnM, hnP, hnO, hhN, hnOp, hnLn, hlnP, hpr, bI, bI2, bI8, bP] using h9
  · unfold Cmr31
    have h9 := r_mr31 R
    simpa (disch := decide) only [gO, hnM, hnP, hnO, hhN, hnOp, hnLn, hlnP, hpr, bI, bI2, bI8, bP] using h9
  · unfold Cmr32
    have h9 := r_mr32 R
    simpa (disch := decide) only [gO, hnM, hnP, hnO, hhN, hnOp, hnLn, hlnP, hpr, bI, bI2, bI8, bP] using h9
  · unfold Cmr35
    have h9 := r_mr35 R
    simpa (disch := decide) only [gO, hnM, hnP, hnO, hhN, hnOp, hnLn, hlnP, hpr, bI, bI2, bI8, bP] using h9
  · unfold Cmr39
    have h9 := r_mr39 R
    simpa (disch := decide) only [gO, hnM, hnP, hnO, hhN, hnOp, hnLn, hlnP, hpr, bI, bI2, bI8, bP] using h9
  · unfold Cmr40
    have h9 := r_mr40 R
    simpa (disch := decide) only [gO, hnM, hnP, hnO, hhN, hnOp, hnLn, hlnP, hpr, bI, bI2, bI8, bP] using h9
  · unfold Cmd
    have h9 := r_md R
    simpa (disch := decide) only [gO, hnM, hnP, hnO, hhN, hnOp, hnLn, hlnP, hpr, bI, bI2, bI8, bP] using h9
  · unfold Cmw
    have h9 := r_mw R
    simpa (disch := decide) only [gO, hnM, hnP, hnO, hhN, hnOp, hnLn, hlnP, hpr, bI, bI2, bI8, bP] using h9
  · unfold Cq0
    have h9 := r_q0 R
    simpa (disch := decide) only [gO, hnM, hnP, hnO, hhN, hnOp, hnLn, hlnP, hpr, bI, bI2, bI8, bP] using h9
  · unfold Cqn
    have h9 := r_qn R
    simpa (disch := decide) only [gO, hnM, hnP, hnO, hhN, hnOp, hnLn, hlnP, hpr, bI, bI2, bI8, bP] using h9
  · unfold Cq1
    have h9 := r_q1 R
    simpa (disch := decide) only [gO, hnM, hnP, hnO, hhN, hnOp, hnLn, hlnP, hpr, bI, bI2, bI8, bP] using h9
  · unfold Cq2
    have h9 := r_q2 R
    simpa (disch := decide) only [gO, hnM, hnP, hnO, hhN, hnOp, hnLn, hlnP, hpr, bI, bI2, bI8, bP] using h9
  · unfold Cq3
    have h9 := r_q3 R
    simpa (disch := decide) only [gO, hnM, hnP, hnO, hhN, hnOp, hnLn, hlnP, hpr, bI, bI2, bI8, bP] using h9
  · unfold Cq4
    have h9 := r_q4 R
    simpa (disch := decide) only [gO, hnM, hnP, hnO, hhN, hnOp, hnLn, hlnP, hpr, bI, bI2, bI8, bP] using h9
  · unfold Cq5
    have h9 := r_q5 R
    simpa (disch := decide) only [gO, hnM, hnP, hnO, hhN, hnOp, hnLn, hlnP, hpr, bI, bI2, bI8, bP] using h9
  · unfold Cq6
    have h9 := r_q6 R
    simpa (disch := decide) only [gO, hnM, hnP, hnO, hhN, hnOp, hnLn, hlnP, hpr, bI, bI2, bI8, bP] using h9
  · unfold Cql
    have h9 := r_ql R
    simpa (disch := decide) only [gO, hnM, hnP, hnO, hhN, hnOp, hnLn, hlnP, hpr, bI, bI2, bI8, bP] using h9
  · unfold Cqw
    have h9 := r_qw R
    simpa (disch := decide) only [gO, hnM, hnP, hnO, hhN, hnOp, hnLn, hlnP, hpr, bI, bI2, bI8, bP] using h9
  · unfold Cqm
    have h9 := r_qm R
    simpa (disch := decide) only [gO, hnM, hnP, hnO, hhN, hnOp, hnLn, hlnP, hpr, bI, bI2, bI8, bP] using h9
  · unfold Cqr
    have h9 := r_qr R
    simpa (disch := decide) only [gO, hnM, hnP, hnO, hhN, hnOp, hnLn, hlnP, hpr, bI, bI2, bI8, bP] using h9
  · unfold Cr0
    have h9 := r_r0 R
    simpa (disch := decide) only [gO, hnM, hnP, hnO, hhN, hnOp, hnLn, hlnP, hpr, bI, bI2, bI8, bP] using h9
  · unfold Cr1
    have h9 := r_r1 R
    simpa (disch := decide) only [gO, hnM, hnP, hnO, hhN, hnOp, hnLn, hlnP, hpr, bI, bI2, bI8, bP] using h9
  · unfold Cr2
    have h9 := r_r2 R
    simpa (disch := decide) only [gO, hnM, hnP, hnO, hhN, hnOp, hnLn, hlnP, hpr, bI, bI2, bI8, bP] using h9
  · unfold Cr3
    have h9 := r_r3 R
    simpa (disch := decide) only [gO, hnM, hnP, hnO, hhN, hnOp, hnLn, hlnP, hpr, bI, bI2, bI8, bP] using h9
  · unfold Cr4
    have h9 := r_r4 R
    simpa (disch := decide) only [gO, hnM, hnP, hnO, hhN, hnOp, hnLn, hlnP, hpr, bI, bI2, bI8, bP] using h9
  · unfold Cr5
    have h9 := r_r5 R
    simpa (disch := decide) only [gO, hnM, hnP, hnO, hhN, hnOp, hnLn, hlnP, hpr, bI, bI2, bI8, bP] using h9
  · unfold Cr6
    have h9 := r_r6 R
    simpa (disch := decide) only [gO, hnM, hnP, hnO, hhN, hnOp, hnLn, hlnP, hpr, bI, bI2, bI8, bP] using h9
  · unfold Crk
    have h9 := r_rk R
    simpa (disch := decide) only [gO, hnM, hnP, hnO, hhN, hnOp, hnLn, hlnP, hpr, bI, bI2, bI8, bP] using h9
  · unfold Crp
    have h9 := r_rp R
    simpa (disch := decide) only [gO, hnM, hnP, hnO, hhN, hnOp, hnLn, hlnP, hpr, bI, bI2, bI8, bP] using h9
  · unfold Crq
    have h9 := r_rq R
    simpa (disch := decide) only [gO, hnM, hnP, hnO, hhN, hnOp, hnLn, hlnP, hpr, bI, bI2, bI8, bP] using h9
  · unfold Crr
    have h9 := r_rr R
    simpa (disch := decide) only [gO, hnM, hnP, hnO, hhN, hnOp, hnLn, hlnP, hpr, bI, bI2, bI8, bP] using h9
  · unfold Crs
    intro r hr
    rw [hnO] at hr
    rw [gO _ _ rfl]
    rcases r_rs R r hr with h9 | ⟨j, h1, h2⟩
    · exact Or.inl h9
    · exact Or.inr ⟨j, h1, by omega⟩
def nbA (a : Sg) (n k p : Nat) (s : Int32) : Sg := wI (wI (wP (wI (wI (wP (wI (wI (wN a (tk 0 n)) (tk 0 n) 9 (-1)) (tk 0 n) 0 (nI n)) (tk 0 n) 1 (some (tk 2 k))) (tk 0 n) 2 (nI p)) (tk 0 n) 4 s) (tk 14 0) n (some (tk 0 n))) (tk 8 0) 1 (nI (n + 1))) (tk 2 k) 9 1
def mNB (M : MS) (n k p : Nat) (s : Int32) : MS := uI (uL (uI (uI (uI (uI (uI (uI (uI (uI (uI (uI (uI M 15 n (nI k)) 16 n (nI p)) 17 n 0) 18 n s) 19 n 0) 20 n 0) 121 n 0) 122 n 0) 23 n 0) 124 n 0) 25 n (-1)) n 0) 214 0 (nI (n + 1))
section RR
variable {e : Nat} {a b : Sg} {M : MS}
theorem rel_nb (R : Rel e a M) (k p : Nat) (s : Int32) (h60 : nB M < 60) (hk : k < 12) (hp : 1 ≤ p) (hp2 : p ≤ 1200) (htq : totp M (nB M) + p ≤ 20 * (nB M + 1)) (hs3 : s ≠ 3) (hs4 : s ≠ 4) (hs1 : s = 1 ∨ s = 2 → 0 < nOp M k) (hs6 : ∃ q : Nat, s = nI q ∧ q ≤ 6) : Rel e (nbA a (nB M) k p s) (uI (mNB M (nB M) k p s) 113 k 1) := by
  refine rel_nbN R k p s h60 hk hp hp2 htq hs3 hs4 hs1 hs6 ?_ ?_ ?_ ?_ ?_ ?_ ?_ ?_ ?_ ?_ ?_ ?_ ?_ ?_ ?_ ?_ ?_ ?_ ?_ ?_ ?_ ?_ ?_ ?_ ?_ ?_ ?_ ?_ ?_ ?_ ?_ ?_ ?_ ?_ ?_ ?_ ?_ ?_ ?_ ?_
  · intro t j h; have h : t ≠ 15 ∧ t ≠ 16 ∧ t ≠ 17 ∧ t ≠ 18 ∧ t ≠ 19 ∧ t ≠ 20 ∧ t ≠ 121 ∧ t ≠ 122 ∧ t ≠ 23 ∧ t ≠ 124 ∧ t ≠ 25 ∧ t ≠ 214 ∧ t ≠ 113 := by unfold zb at h; simp only [Bool.and_eq_true, bne_iff_ne] at h; omega
    unfold mNB; simp (disch := omega) only [gI_ne, gI_uL]
  · intro t j h h1 h2; unfold mNB; rw [gI_ne (Ne.symm h2), gI_ne (Ne.symm h1)]; simp (disch := omega) only [gI_nj, gI_uL]
  · unfold mNB; simp [gI_uI]
  · intro i; unfold mNB; rw [gI_uI]; by_cases c : i = k
    · rw [if_pos ⟨rfl, c⟩, if_pos c]
    · rw [if_neg (fun z => c z.2), if_neg c]; simp [gI_uI, gI_uL]
  · unfold mNB; simp [gI_uI, gI_uL]
  · unfold mNB; simp [gI_uI, gI_uL]
  · unfold mNB; simp [gI_uI, gI_uL]
  · unfold mNB; simp [gI_uI, gI_uL]
  · unfold mNB; simp [gI_uI, gI_uL]
  · unfold mNB; simp [gI_uI, gI_uL]
  · unfold mNB; simp [gI_uI, gI_uL]
  · unfold mNB; simp [gI_uI, gI_uL]
  · unfold mNB; simp [gI_uI, gI_uL]
  · unfold mNB; simp [gI_uI, gI_uL]
  · unfold mNB; simp [gI_uI, gI_uL]
  · intro j h; unfold mNB; simp [gL_uI, gL_uL, h]
  · unfold mNB; simp [gL_uI, gL_uL]
  · intro c i q h1 h2; have h : c ≠ 0 ∧ c ≠ 2 ∧ c ≠ 8 := by unfold zc at h2; simp only [Bool.and_eq_true, bne_iff_ne] at h2; omega
    unfold nbA; simp (disch := omega) [sI_wI, sI_wP, sI_wN, tk_ne9]
  · intro i q h; unfold nbA; simp [sI_wI, sI_wP, sI_wN, tk_ne9, h]
  · intro i; unfold nbA; simp [sI_wI, sI_wP, sI_wN, tk_ne9, tk_inj]
  · intro q h; unfold nbA; simp [sI_wI, sI_wP, sI_wN, tk_ne9, h]
  · unfold nbA; simp [sI_wI, sI_wP, sI_wN, tk_ne9]
  · intro j q h; unfold nbA; simp [sI_wI, sI_wP, sI_wN, tk_ne9, tk_inj, h]
  · unfold nbA; simp [sI_wI, sI_wP, sI_wN, tk_ne9, tk_inj]
  · unfold nbA; simp [sI_wI, sI_wP, sI_wN, tk_ne9, tk_inj]
  · unfold nbA; simp [sI_wI, sI_wP, sI_wN, tk_ne9, tk_inj]
  · unfold nbA; simp [sI_wI, sI_wP, sI_wN, tk_ne9, tk_inj]
  · unfold nbA; simp [sI_wI, sI_wP, sI_wN, tk_ne9, tk_inj]
  · unfold nbA; simp [sI_wI, sI_wP, sI_wN, tk_ne9, tk_inj]
  · unfold nbA; simp [sI_wI, sI_wP, sI_wN, tk_ne9, tk_inj]
  · unfold nbA; simp [sI_wI, sI_wP, sI_wN, tk_ne9, tk_inj]
  · unfold nbA; simp [sI_wI, sI_wP, sI_wN, tk_ne9, tk_inj]
  · unfold nbA; simp [sI_wI, sI_wP, sI_wN, tk_ne9, tk_inj]
  · unfold nbA; simp [sL_wI, sL_wP, sL_wN, tk_inj]
  · intro c i q h1 h2 h3; unfold nbA; simp (disch := omega) [sP_wI, sP_wP, sP_wN, tk_ne9]
  · intro j q h; unfold nbA; simp [sP_wI, sP_wP, sP_wN, tk_ne9, tk_inj, h]
  · unfold nbA; simp [sP_wI, sP_wP, sP_wN, tk_ne9, tk_inj]
  · intro j; unfold nbA; simp [sP_wI, sP_wP, sP_wN, tk_ne9]
  · intro j h; unfold nbA; simp [sL_wI, sL_wP, sL_wN, tk_inj, h]
  · intro t h; unfold nbA; simp [sX_wI, sX_wP, sX_wN, h]
set_option maxHeartbeats 8000000 in
theorem sp_nb (R : Rel e a M) {k p : Nat} {s : Int32} (h60 : nB M < 60) {x y : Int32} (hx : x = nI p) (hy : y = s) (M0 : MS) (Post : Rs → Sg → Prop) (h : Post (.inl (some (.ref (tk 0 (nB M))))) (put (nbA a (nB M) k p s) M0)) : wp_X8_newBatch (tk 8 0) (some (tk 2 k)) x y (put a M0) Post := by
  subst hx
  subst hy
  have g1 : sI a (tk 8 0) 1 = nI (nB M) := (r_gbat R).trans (r_nB R)
  have c : nI (nB M) < nI 60 := by rw [nI_ltI (by omega) (by omega)]; exact h60
  unfold wp_X8_newBatch
  simp (disch := first | (with_reducible exact rfl) | (with_reducible assumption) | omega | decide | (simp only [al_14, al_15, al_16, al_17, al_18, al_19, al_20, al_21, al_22, al_23, al_24, al_m0, al_m1, al_m2, al_m3, al_m4, al_m5, al_m6, al_m7, al_m8, al_m9, al_m10, al_m11, al_m12, al_m13, al_m15, al_m16, al_m17, al_m18, al_m19, al_m20, al_m21, al_m22, al_m23, al_m24, al_m25, al_m26, al_m28, al_m29, al_m30, al_m31, al_m32, al_m33, al_m34, al_m35, al_m36, al_m37, al_m38, al_m39, al_m40, al_m42, al_m43, al_m44, al_m45, al_m46, al_m48, al_m49, al_m50, al_m51, al_m52, al_m53, al_m60, al_m61]; omega) | (simp (disch := omega) only [nI_clamp, r_px0 R, r_px1 R, r_px2 R, r_pf0 R, r_pf1 R, r_pf3 R, r_ps0 R, r_ps2 R, r_ps4 R, r_shm R, r_nB R, r_nM R, r_nP R, r_nO R, bi_0, idx4, g1, c, nw_l, sP_put, mp_0, mp_1, mp_2, mp_3, mp_4, mp_5, mp_6, mp_7, mp_8, mp_9, mp_10, mp_11, mp_12, mp_13, mp_15, mp_16, mp_17, mp_18, mp_19, mp_20, mp_21, mp_22, mp_23, mp_24, mp_25, mp_26, mp_28, mp_29, mp_30, mp_31, mp_32, mp_33, mp_34, mp_35, mp_36, mp_37, mp_38, mp_39, mp_40, mp_42, mp_43, mp_44, mp_45, mp_46, mp_48, mp_49, mp_50, mp_51, mp_52, mp_53, mp_60, mp_61, sP_wI, sP_wP, sP_wL, true_and, and_true, tk_inj, false_and, and_false, if_true, if_false, tk_ne9]; with_reducible rfl) | (simp (disch := omega) only [nI_clamp, r_px0 R, r_px1 R, r_px2 R, r_pf0 R, r_pf1 R, r_pf3 R, r_ps0 R, r_ps2 R, r_ps4 R, r_shm R, r_nB R, r_nM R, r_nP R, r_nO R, bi_0, idx4, g1, c, nw_l, sI_putc, wI_putc, sI_put11, sI_put13, sI_putm, sL_put12, wI_put11, wI_put13, wI_putm, wL_put12, sP_put, sX_put, wP_put, sI_put_0, sI_put_1, sI_put_2, sI_put_3, sI_put_4, sI_put_5, sI_put_6, sI_put_7, sI_put_8, sI_put_9, sI_put_14, sI_put_15, sI_put_16, sI_put_17, sI_put_18, sI_put_19, sI_put_20, sI_put_21, sI_put_22, sI_put_23, sI_put_24, wI_put_0, wI_put_1, wI_put_2, wI_put_3, wI_put_4, wI_put_5, wI_put_6, wI_put_7, wI_put_8, wI_put_9, wI_put_14, wI_put_15, wI_put_16, wI_put_17, wI_put_18, wI_put_19, wI_put_20, wI_put_21, wI_put_22, wI_put_23, wI_put_24, wN_put_0, wN_put_1, wN_put_2, wN_put_3, wN_put_4, wN_put_5, wN_put_6, wN_put_7, wN_put_8, wN_put_9, wN_put_14, wN_put_15, wN_put_16, wN_put_17, wN_put_18, wN_put_19, wN_put_20, wN_put_21, wN_put_22, wN_put_23, wN_put_24, sL_put_0, sL_put_24, wL_put_0, wL_put_24, tm_0, tm_1, tm_2, tm_3, tm_4, tm_5, tm_6, tm_7, tm_8, tm_9, tm_10, tm_11, tm_12, tm_13, tm_14, tm_15, tm_16, tm_17, tm_18, tm_19, tm_20, tm_21, tm_22, tm_23, tm_24, at_11, at_12, at_13, at_14, at_15, at_16, at_17, at_18, at_19, at_20, at_21, at_22, at_23, at_24, al_14, al_15, al_16, al_17, al_18, al_19, al_20, al_21, al_22, al_23, al_24, al_m0, al_m1, al_m2, al_m3, al_m4, al_m5, al_m6, al_m7, al_m8, al_m9, al_m10, al_m11, al_m12, al_m13, al_m15, al_m16, al_m17, al_m18, al_m19, al_m20, al_m21, al_m22, al_m23, al_m24, al_m25, al_m26, al_m28, al_m29, al_m30, al_m31, al_m32, al_m33, al_m34, al_m35, al_m36, al_m37, al_m38, al_m39, al_m40, al_m42, al_m43, al_m44, al_m45, al_m46, al_m48, al_m49, al_m50, al_m51, al_m52, al_m53, al_m60, al_m61, mp_0, mp_1, mp_2, mp_3, mp_4, mp_5, mp_6, mp_7, mp_8, mp_9, mp_10, mp_11, mp_12, mp_13, mp_15, mp_16, mp_17, mp_18, mp_19, mp_20, mp_21, mp_22, mp_23, mp_24, mp_25, mp_26, mp_28, mp_29, mp_30, mp_31, mp_32, mp_33, mp_34, mp_35, mp_36, mp_37, mp_38, mp_39, mp_40, mp_42, mp_43, mp_44, mp_45, mp_46, mp_48, mp_49, mp_50, mp_51, mp_52, mp_53, mp_60, mp_61, row_14, row_15, row_16, row_17, row_18, row_19, row_20, ar_11, ar_12, ar_13, ar_14, ar_15, ar_16, ar_17, ar_18, ar_19, ar_20, ar_21, ar_22, ar_23, ar_24, cs_14, cs_15, cs_16, cs_17, cs_18, cs_19, cs_20, ex_ix, ex_0, b01_0, b01_1, KI_i, KI_x, KJ_j, KJ_x, KV_v, KV_x, KO_t, KO_n, KO_x, KO_rf, n4, n3, nI_add, nI_1, nI_leI, nI_ltI, nI_eq, gI_uI, gI_uL, gL_uI, gL_uL, sI_wI, sI_wP, sI_wL, sP_wI, sP_wP, sP_wL, sL_wI, sL_wP, sL_wL, forall_eq, exists_eq_left, exists_eq_left', Option.some.injEq, true_and, and_true, Nat.reduceAdd, Nat.reduceMul, Nat.reduceEqDiff, eq_self, tk_inj, and_self, false_and, and_false, if_true, if_false, forall_const, true_implies, ite_true, ite_false, reduceIte, reduceCtorEq, tk_ne9, i1e, i2e, i3e, i1_0, i2_0, i3_0, false_implies, false_or, or_false, true_or, or_true, String.reduceEq, Nat.reduceLT, Int32.le_refl, not_true_eq_false, not_false_eq_true, Nat.zero_lt_one, Bool.false_eq_true, Bool.true_eq_false]; done) | (simp (disch := omega) only [nI_clamp, r_px0 R, r_px1 R, r_px2 R, r_pf0 R, r_pf1 R, r_pf3 R, r_ps0 R, r_ps2 R, r_ps4 R, r_shm R, r_nB R, r_nM R, r_nP R, r_nO R, bi_0, idx4, g1, c, nw_l, sI_putc, wI_putc, sI_put11, sI_put13, sI_putm, sL_put12, wI_put11, wI_put13, wI_putm, wL_put12, sP_put, sX_put, wP_put, sI_put_0, sI_put_1, sI_put_2, sI_put_3, sI_put_4, sI_put_5, sI_put_6, sI_put_7, sI_put_8, sI_put_9, sI_put_14, sI_put_15, sI_put_16, sI_put_17, sI_put_18, sI_put_19, sI_put_20, sI_put_21, sI_put_22, sI_put_23, sI_put_24, wI_put_0, wI_put_1, wI_put_2, wI_put_3, wI_put_4, wI_put_5, wI_put_6, wI_put_7, wI_put_8, wI_put_9, wI_put_14, wI_put_15, wI_put_16, wI_put_17, wI_put_18, wI_put_19, wI_put_20, wI_put_21, wI_put_22, wI_put_23, wI_put_24, wN_put_0, wN_put_1, wN_put_2, wN_put_3, wN_put_4, wN_put_5, wN_put_6, wN_put_7, wN_put_8, wN_put_9, wN_put_14, wN_put_15, wN_put_16, wN_put_17, wN_put_18, wN_put_19, wN_put_20, wN_put_21, wN_put_22, wN_put_23, wN_put_24, sL_put_0, sL_put_24, wL_put_0, wL_put_24, tm_0, tm_1, tm_2, tm_3, tm_4, tm_5, tm_6, tm_7, tm_8, tm_9, tm_10, tm_11, tm_12, tm_13, tm_14, tm_15, tm_16, tm_17, tm_18, tm_19, tm_20, tm_21, tm_22, tm_23, tm_24, at_11, at_12, at_13, at_14, at_15, at_16, at_17, at_18, at_19, at_20, at_21, at_22, at_23, at_24, al_14, al_15, al_16, al_17, al_18, al_19, al_20, al_21, al_22, al_23, al_24, al_m0, al_m1, al_m2, al_m3, al_m4, al_m5, al_m6, al_m7, al_m8, al_m9, al_m10, al_m11, al_m12, al_m13, al_m15, al_m16, al_m17, al_m18, al_m19, al_m20, al_m21, al_m22, al_m23, al_m24, al_m25, al_m26, al_m28, al_m29, al_m30, al_m31, al_m32, al_m33, al_m34, al_m35, al_m36, al_m37, al_m38, al_m39, al_m40, al_m42, al_m43, al_m44, al_m45, al_m46, al_m48, al_m49, al_m50, al_m51, al_m52, al_m53, al_m60, al_m61, mp_0, mp_1, mp_2, mp_3, mp_4, mp_5, mp_6, mp_7, mp_8, mp_9, mp_10, mp_11, mp_12, mp_13, mp_15, mp_16, mp_17, mp_18, mp_19, mp_20, mp_21, mp_22, mp_23, mp_24, mp_25, mp_26, mp_28, mp_29, mp_30, mp_31, mp_32, mp_33, mp_34, mp_35, mp_36, mp_37, mp_38, mp_39, mp_40, mp_42, mp_43, mp_44, mp_45, mp_46, mp_48, mp_49, mp_50, mp_51, mp_52, mp_53, mp_60, mp_61, row_14, row_15, row_16, row_17, row_18, row_19, row_20, ar_11, ar_12, ar_13, ar_14, ar_15, ar_16, ar_17, ar_18, ar_19, ar_20, ar_21, ar_22, ar_23, ar_24, cs_14, cs_15, cs_16, cs_17, cs_18, cs_19, cs_20, ex_ix, ex_0, b01_0, b01_1, KI_i, KI_x, KJ_j, KJ_x, KV_v, KV_x, KO_t, KO_n, KO_x, KO_rf, n4, n3, nI_add, nI_1, nI_leI, nI_ltI, gI_uI, gI_uL, gL_uI, gL_uL, sI_wI, sI_wP, sI_wL, sP_wI, sP_wP, sP_wL, sL_wI, sL_wP, sL_wL, forall_eq, exists_eq_left, exists_eq_left', Option.some.injEq, true_and, and_true, Nat.reduceAdd, Nat.reduceMul, Nat.reduceEqDiff, eq_self, tk_inj, and_self, false_and, and_false, if_true, if_false, forall_const, true_implies, ite_true, ite_false, reduceIte, reduceCtorEq, tk_ne9, i1e, i2e, i3e, i1_0, i2_0, i3_0, false_implies, false_or, or_false, true_or, or_true, String.reduceEq, Nat.reduceLT, Int32.le_refl, not_true_eq_false, not_false_eq_true, Nat.zero_lt_one, Bool.false_eq_true, Bool.true_eq_false]; with_reducible rfl) | fail "no") only [↓nw_l, ↓dO1, ↓dO0, ↓KI_i, ↓KI_x, ↓KJ_j, ↓KJ_x, ↓KV_v, ↓KV_x, ↓KO_t, ↓KO_n, ↓KO_x, ↓KO_rf, ↓dT, ↓dAt, ↓dX, ↓dX0, ↓dE, ↓dS, ↓dR, ↓dAr, ↓dCs, ↓dB, ↓forall_eq, ↓dI1, ↓dI2, ↓dI3, ↓dI4, ↓dF1, ↓dF2, ↓wI_putm, ↓wI_put11, ↓wI_put13, ↓wL_put12, ↓wP_put, ↓wI_put_0, ↓wI_put_1, ↓wI_put_2, ↓wI_put_3, ↓wI_put_4, ↓wI_put_5, ↓wI_put_6, ↓wI_put_7, ↓wI_put_8, ↓wI_put_9, ↓wI_put_14, ↓wI_put_15, ↓wI_put_16, ↓wI_put_17, ↓wI_put_18, ↓wI_put_19, ↓wI_put_20, ↓wI_put_21, ↓wI_put_22, ↓wI_put_23, ↓wI_put_24, ↓wN_put_0, ↓wN_put_1, ↓wN_put_2, ↓wN_put_3, ↓wN_put_4, ↓wN_put_5, ↓wN_put_6, ↓wN_put_7, ↓wN_put_8, ↓wN_put_9, ↓wN_put_14, ↓wN_put_15, ↓wN_put_16, ↓wN_put_17, ↓wN_put_18, ↓wN_put_19, ↓wN_put_20, ↓wN_put_21, ↓wN_put_22, ↓wN_put_23, ↓wN_put_24, ↓wL_put_0, ↓wL_put_24]
  refine nw_of (tk 0 (nB M)) (r_fB R _ (Nat.le_refl _) h60) (tkm 0 _ (by decide)) ?_
  simp (disch := first | (with_reducible exact rfl) | (with_reducible assumption) | omega | decide | (simp only [al_14, al_15, al_16, al_17, al_18, al_19, al_20, al_21, al_22, al_23, al_24, al_m0, al_m1, al_m2, al_m3, al_m4, al_m5, al_m6, al_m7, al_m8, al_m9, al_m10, al_m11, al_m12, al_m13, al_m15, al_m16, al_m17, al_m18, al_m19, al_m20, al_m21, al_m22, al_m23, al_m24, al_m25, al_m26, al_m28, al_m29, al_m30, al_m31, al_m32, al_m33, al_m34, al_m35, al_m36, al_m37, al_m38, al_m39, al_m40, al_m42, al_m43, al_m44, al_m45, al_m46, al_m48, al_m49, al_m50, al_m51, al_m52, al_m53, al_m60, al_m61]; omega) | (simp (disch := omega) only [nI_clamp, r_px0 R, r_px1 R, r_px2 R, r_pf0 R, r_pf1 R, r_pf3 R, r_ps0 R, r_ps2 R, r_ps4 R, r_shm R, r_nB R, r_nM R, r_nP R, r_nO R, bi_0, idx4, g1, sP_wN, sI_wN, sP_wP, sI_wI, h60, sP_put, mp_0, mp_1, mp_2, mp_3, mp_4, mp_5, mp_6, mp_7, mp_8, mp_9, mp_10, mp_11, mp_12, mp_13, mp_15, mp_16, mp_17, mp_18, mp_19, mp_20, mp_21, mp_22, mp_23, mp_24, mp_25, mp_26, mp_28, mp_29, mp_30, mp_31, mp_32, mp_33, mp_34, mp_35, mp_36, mp_37, mp_38, mp_39, mp_40, mp_42, mp_43, mp_44, mp_45, mp_46, mp_48, mp_49, mp_50, mp_51, mp_52, mp_53, mp_60, mp_61, sP_wI, sP_wP, sP_wL, true_and, and_true, tk_inj, false_and, and_false, if_true, if_false, tk_ne9]; with_reducible rfl) | (simp (disch := omega) only [nI_clamp, r_px0 R, r_px1 R, r_px2 R, r_pf0 R, r_pf1 R, r_pf3 R, r_ps0 R, r_ps2 R, r_ps4 R, r_shm R, r_nB R, r_nM R, r_nP R, r_nO R, bi_0, idx4, g1, sP_wN, sI_wN, sP_wP, sI_wI, h60, sI_putc, wI_putc, sI_put11, sI_put13, sI_putm, sL_put12, wI_put11, wI_put13, wI_putm, wL_put12, sP_put, sX_put, wP_put, sI_put_0, sI_put_1, sI_put_2, sI_put_3, sI_put_4, sI_put_5, sI_put_6, sI_put_7, sI_put_8, sI_put_9, sI_put_14, sI_put_15, sI_put_16, sI_put_17, sI_put_18, sI_put_19, sI_put_20, sI_put_21, sI_put_22, sI_put_23, sI_put_24, wI_put_0, wI_put_1, wI_put_2, wI_put_3, wI_put_4, wI_put_5, wI_put_6, wI_put_7, wI_put_8, wI_put_9, wI_put_14, wI_put_15, wI_put_16, wI_put_17, wI_put_18, wI_put_19, wI_put_20, wI_put_21, wI_put_22, wI_put_23, wI_put_24, wN_put_0, wN_put_1, wN_put_2, wN_put_3, wN_put_4, wN_put_5, wN_put_6, wN_put_7, wN_put_8, wN_put_9, wN_put_14, wN_put_15, wN_put_16, wN_put_17, wN_put_18, wN_put_19, wN_put_20, wN_put_21, wN_put_22, wN_put_23, wN_put_24, sL_put_0, sL_put_24, wL_put_0, wL_put_24, tm_0, tm_1, tm_2, tm_3, tm_4, tm_5, tm_6, tm_7, tm_8, tm_9, tm_10, tm_11, tm_12, tm_13, tm_14, tm_15, tm_16, tm_17, tm_18, tm_19, tm_20, tm_21, tm_22, tm_23, tm_24, at_11, at_12, at_13, at_14, at_15, at_16, at_17, at_18, at_19, at_20, at_21, at_22, at_23, at_24, al_14, al_15, al_16, al_17, al_18, al_19, al_20, al_21, al_22, al_23, al_24, al_m0, al_m1, al_m2, al_m3, al_m4, al_m5, al_m6, al_m7, al_m8, al_m9, al_m10, al_m11, al_m12, al_m13, al_m15, al_m16, al_m17, al_m18, al_m19, al_m20, al_m21, al_m22, al_m23, al_m24, al_m25, al_m26, al_m28, al_m29, al_m30, al_m31, al_m32, al_m33, al_m34, al_m35, al_m36, al_m37, al_m38, al_m39, al_m40, al_m42, al_m43, al_m44, al_m45, al_m46, al_m48, al_m49, al_m50, al_m51, al_m52, al_m53, al_m60, al_m61, mp_0, mp_1, mp_2, mp_3, mp_4, mp_5, mp_6, mp_7, mp_8, mp_9, mp_10, mp_11, mp_12, mp_13, mp_15, mp_16, mp_17, mp_18, mp_19, mp_20, mp_21, mp_22, mp_23, mp_24, mp_25, mp_26, mp_28, mp_29, mp_30, mp_31, mp_32, mp_33, mp_34, mp_35, mp_36, mp_37, mp_38, mp_39, mp_40, mp_42, mp_43, mp_44, mp_45, mp_46, mp_48, mp_49, mp_50, mp_51, mp_52, mp_53, mp_60, mp_61, row_14, row_15, row_16, row_17, row_18, row_19, row_20, ar_11, ar_12, ar_13, ar_14, ar_15, ar_16, ar_17, ar_18, ar_19, ar_20, ar_21, ar_22, ar_23, ar_24, cs_14, cs_15, cs_16, cs_17, cs_18, cs_19, cs_20, ex_ix, ex_0, b01_0, b01_1, KI_i, KI_x, KJ_j, KJ_x, KV_v, KV_x, KO_t, KO_n, KO_x, KO_rf, n4, n3, nI_add, nI_1, nI_leI, nI_ltI, nI_eq, gI_uI, gI_uL, gL_uI, gL_uL, sI_wI, sI_wP, sI_wL, sP_wI, sP_wP, sP_wL, sL_wI, sL_wP, sL_wL, forall_eq, exists_eq_left, exists_eq_left', Option.some.injEq, true_and, and_true, Nat.reduceAdd, Nat.reduceMul, Nat.reduceEqDiff, eq_self, tk_inj, and_self, false_and, and_false, if_true, if_false, forall_const, true_implies, ite_true, ite_false, reduceIte, reduceCtorEq, tk_ne9, i1e, i2e, i3e, i1_0, i2_0, i3_0, false_implies, false_or, or_false, true_or, or_true, String.reduceEq, Nat.reduceLT, Int32.le_refl, not_true_eq_false, not_false_eq_true, Nat.zero_lt_one, Bool.false_eq_true, Bool.true_eq_false]; done) | (simp (disch := omega) only [nI_clamp, r_px0 R, r_px1 R, r_px2 R, r_pf0 R, r_pf1 R, r_pf3 R, r_ps0 R, r_ps2 R, r_ps4 R, r_shm R, r_nB R, r_nM R, r_nP R, r_nO R, bi_0, idx4, g1, sP_wN, sI_wN, sP_wP, sI_wI, h60, sI_putc, wI_putc, sI_put11, sI_put13, sI_putm, sL_put12, wI_put11, wI_put13, wI_putm, wL_put12, sP_put, sX_put, wP_put, sI_put_0, sI_put_1, sI_put_2, sI_put_3, sI_put_4, sI_put_5, sI_put_6, sI_put_7, sI_put_8, sI_put_9, sI_put_14, sI_put_15, sI_put_16, sI_put_17, sI_put_18, sI_put_19, sI_put_20, sI_put_21, sI_put_22, sI_put_23, sI_put_24, wI_put_0, wI_put_1, wI_put_2, wI_put_3, wI_put_4, wI_put_5, wI_put_6, wI_put_7, wI_put_8, wI_put_9, wI_put_14, wI_put_15, wI_put_16, wI_put_17, wI_put_18, wI_put_19, wI_put_20, wI_put_21, wI_put_22, wI_put_23, wI_put_24, wN_put_0, wN_put_1, wN_put_2, wN_put_3, wN_put_4, wN_put_5, wN_put_6, wN_put_7, wN_put_8, wN_put_9, wN_put_14, wN_put_15, wN_put_16, wN_put_17, wN_put_18, wN_put_19, wN_put_20, wN_put_21, wN_put_22, wN_put_23, wN_put_24, sL_put_0, sL_put_24, wL_put_0, wL_put_24, tm_0, tm_1, tm_2, tm_3, tm_4, tm_5, tm_6, tm_7, tm_8, tm_9, tm_10, tm_11, tm_12, tm_13, tm_14, tm_15, tm_16, tm_17, tm_18, tm_19, tm_20, tm_21, tm_22, tm_23, tm_24, at_11, at_12, at_13, at_14, at_15, at_16, at_17, at_18, at_19, at_20, at_21, at_22, at_23, at_24, al_14, al_15, al_16, al_17, al_18, al_19, al_20, al_21, al_22, al_23, al_24, al_m0, al_m1, al_m2, al_m3, al_m4, al_m5, al_m6, al_m7, al_m8, al_m9, al_m10, al_m11, al_m12, al_m13, al_m15, al_m16, al_m17, al_m18, al_m19, al_m20, al_m21, al_m22, al_m23, al_m24, al_m25, al_m26, al_m28, al_m29, al_m30, al_m31, al_m32, al_m33, al_m34, al_m35, al_m36, al_m37, al_m38, al_m39, al_m40, al_m42, al_m43, al_m44, al_m45, al_m46, al_m48, al_m49, al_m50, al_m51, al_m52, al_m53, al_m60, al_m61, mp_0, mp_1, mp_2, mp_3, mp_4, mp_5, mp_6, mp_7, mp_8, mp_9, mp_10, mp_11, mp_12, mp_13, mp_15, mp_16, mp_17, mp_18, mp_19, mp_20, mp_21, mp_22, mp_23, mp_24, mp_25, mp_26, mp_28, mp_29, mp_30, mp_31, mp_32, mp_33, mp_34, mp_35, mp_36, mp_37, mp_38, mp_39, mp_40, mp_42, mp_43, mp_44, mp_45, mp_46, mp_48, mp_49, mp_50, mp_51, mp_52, mp_53, mp_60, mp_61, row_14, row_15, row_16, row_17, row_18, row_19, row_20, ar_11, ar_12, ar_13, ar_14, ar_15, ar_16, ar_17, ar_18, ar_19, ar_20, ar_21, ar_22, ar_23, ar_24, cs_14, cs_15, cs_16, cs_17, cs_18, cs_19, cs_20, ex_ix, ex_0, b01_0, b01_1, KI_i, KI_x, KJ_j, KJ_x, KV_v, KV_x, KO_t, KO_n, KO_x, KO_rf, n4, n3, nI_add, nI_1, nI_leI, nI_ltI, gI_uI, gI_uL, gL_uI, gL_uL, sI_wI, sI_wP, sI_wL, sP_wI, sP_wP, sP_wL, sL_wI, sL_wP, sL_wL, forall_eq, exists_eq_left, exists_eq_left', Option.some.injEq, true_and, and_true, Nat.reduceAdd, Nat.reduceMul, Nat.reduceEqDiff, eq_self, tk_inj, and_self, false_and, and_false, if_true, if_false, forall_const, true_implies, ite_true, ite_false, reduceIte, reduceCtorEq, tk_ne9, i1e, i2e, i3e, i1_0, i2_0, i3_0, false_implies, false_or, or_false, true_or, or_true, String.reduceEq, Nat.reduceLT, Int32.le_refl, not_true_eq_false, not_false_eq_true, Nat.zero_lt_one, Bool.false_eq_true, Bool.true_eq_false]; with_reducible rfl) | fail "no") only [↓wp_X0_init, ↓sP_wN, ↓sI_wN, ↓dO1, ↓dO0, ↓KI_i, ↓KI_x, ↓KJ_j, ↓KJ_x, ↓KV_v, ↓KV_x, ↓KO_t, ↓KO_n, ↓KO_x, ↓KO_rf, ↓dT, ↓dAt, ↓dX, ↓dX0, ↓dE, ↓dS, ↓dR, ↓dAr, ↓dCs, ↓dB, ↓forall_eq, ↓dI1, ↓dI2, ↓dI3, ↓dI4, ↓dF1, ↓dF2, ↓wI_putm, ↓wI_put11, ↓wI_put13, ↓wL_put12, ↓wP_put, ↓wI_put_0, ↓wI_put_1, ↓wI_put_2, ↓wI_put_3, ↓wI_put_4, ↓wI_put_5, ↓wI_put_6, ↓wI_put_7, ↓wI_put_8, ↓wI_put_9, ↓wI_put_14, ↓wI_put_15, ↓wI_put_16, ↓wI_put_17, ↓wI_put_18, ↓wI_put_19, ↓wI_put_20, ↓wI_put_21, ↓wI_put_22, ↓wI_put_23, ↓wI_put_24, ↓wN_put_0, ↓wN_put_1, ↓wN_put_2, ↓wN_put_3, ↓wN_put_4, ↓wN_put_5, ↓wN_put_6, ↓wN_put_7, ↓wN_put_8, ↓wN_put_9, ↓wN_put_14, ↓wN_put_15, ↓wN_put_16, ↓wN_put_17, ↓wN_put_18, ↓wN_put_19, ↓wN_put_20, ↓wN_put_21, ↓wN_put_22, ↓wN_put_23, ↓wN_put_24, ↓wL_put_0, ↓wL_put_24]
  try simp (disch := omega) only [sP_wN, sI_wN, g1, sI_putc, wI_putc, sI_put11, sI_put13, sI_putm, sL_put12, wI_put11, wI_put13, wI_putm, wL_put12, sP_put, sX_put, wP_put, sI_put_0, sI_put_1, sI_put_2, sI_put_3, sI_put_4, sI_put_5, sI_put_6, sI_put_7, sI_put_8, sI_put_9, sI_put_14, sI_put_15, sI_put_16, sI_put_17, sI_put_18, sI_put_19, sI_put_20, sI_put_21, sI_put_22, sI_put_23, sI_put_24, wI_put_0, wI_put_1, wI_put_2, wI_put_3, wI_put_4, wI_put_5, wI_put_6, wI_put_7, wI_put_8, wI_put_9, wI_put_14, wI_put_15, wI_put_16, wI_put_17, wI_put_18, wI_put_19, wI_put_20, wI_put_21, wI_put_22, wI_put_23, wI_put_24, wN_put_0, wN_put_1, wN_put_2, wN_put_3, wN_put_4, wN_put_5, wN_put_6, wN_put_7, wN_put_8, wN_put_9, wN_put_14, wN_put_15, wN_put_16, wN_put_17, wN_put_18, wN_put_19, wN_put_20, wN_put_21, wN_put_22, wN_put_23, wN_put_24, sL_put_0, sL_put_24, wL_put_0, wL_put_24, tm_0, tm_1, tm_2, tm_3, tm_4, tm_5, tm_6, tm_7, tm_8, tm_9, tm_10, tm_11, tm_12, tm_13, tm_14, tm_15, tm_16, tm_17, tm_18, tm_19, tm_20, tm_21, tm_22, tm_23, tm_24, at_11, at_12, at_13, at_14, at_15, at_16, at_17, at_18, at_19, at_20, at_21, at_22, at_23, at_24, al_14, al_15, al_16, al_17, al_18, al_19, al_20, al_21, al_22, al_23, al_24, al_m0, al_m1, al_m2, al_m3, al_m4, al_m5, al_m6, al_m7, al_m8, al_m9, al_m10, al_m11, al_m12, al_m13, al_m15, al_m16, al_m17, al_m18, al_m19, al_m20, al_m21, al_m22, al_m23, al_m24, al_m25, al_m26, al_m28, al_m29, al_m30, al_m31, al_m32, al_m33, al_m34, al_m35, al_m36, al_m37, al_m38, al_m39, al_m40, al_m42, al_m43, al_m44, al_m45, al_m46, al_m48, al_m49, al_m50, al_m51, al_m52, al_m53, al_m60, al_m61, mp_0, mp_1, mp_2, mp_3, mp_4, mp_5, mp_6, mp_7, mp_8, mp_9, mp_10, mp_11, mp_12, mp_13, mp_15, mp_16, mp_17, mp_18, mp_19, mp_20, mp_21, mp_22, mp_23, mp_24, mp_25, mp_26, mp_28, mp_29, mp_30, mp_31, mp_32, mp_33, mp_34, mp_35, mp_36, mp_37, mp_38, mp_39, mp_40, mp_42, mp_43, mp_44, mp_45, mp_46, mp_48, mp_49, mp_50, mp_51, mp_52, mp_53, mp_60, mp_61, row_14, row_15, row_16, row_17, row_18, row_19, row_20, ar_11, ar_12, ar_13, ar_14, ar_15, ar_16, ar_17, ar_18, ar_19, ar_20, ar_21, ar_22, ar_23, ar_24, cs_14, cs_15, cs_16, cs_17, cs_18, cs_19, cs_20, ex_ix, ex_0, b01_0, b01_1, KI_i, KI_x, KJ_j, KJ_x, KV_v, KV_x, KO_t, KO_n, KO_x, KO_rf, n4, n3, nI_add, nI_1, nI_leI, nI_ltI, nI_eq, gI_uI, gI_uL, gL_uI, gL_uL, sI_wI, sI_wP, sI_wL, sP_wI, sP_wP, sP_wL, sL_wI, sL_wP, sL_wL, forall_eq, exists_eq_left, exists_eq_left', Option.some.injEq, true_and, and_true, Nat.reduceAdd, Nat.reduceMul, Nat.reduceEqDiff, eq_self, tk_inj, and_self, false_and, and_false, if_true, if_false, forall_const, true_implies, ite_true, ite_false, reduceIte, reduceCtorEq, tk_ne9, i1e, i2e, i3e, i1_0, i2_0, i3_0, false_implies, false_or, or_false, true_or, or_true, String.reduceEq, Nat.reduceLT, Int32.le_refl, not_true_eq_false, not_false_eq_true, Nat.zero_lt_one, Bool.false_eq_true, Bool.true_eq_false]
  exact h
theorem nb_full (R : Rel e a M) {k : Nat} (h60 : ¬ nB M < 60) (x y : Int32) (M0 : MS) (Post : Rs → Sg → Prop) : wp_X8_newBatch (tk 8 0) (some (tk 2 k)) x y (put a M0) Post ↔ Post (.inr "java/lang/IllegalStateException") (put a M0) := by
  have g1 : sI a (tk 8 0) 1 = nI (nB M) := (r_gbat R).trans (r_nB R)
  have hB := r_nBx R
  have c : ¬ nI (nB M) < nI 60 := by rw [nI_ltI (by omega) (by omega)]; exact h60
  unfold wp_X8_newBatch
  simp (disch := first | (with_reducible exact rfl) | (with_reducible assumption) | omega | decide | (simp only [al_14, al_15, al_16, al_17, al_18, al_19, al_20, al_21, al_22, al_23, al_24, al_m0, al_m1, al_m2, al_m3, al_m4, al_m5, al_m6, al_m7, al_m8, al_m9, al_m10, al_m11, al_m12, al_m13, al_m15, al_m16, al_m17, al_m18, al_m19, al_m20, al_m21, al_m22, al_m23, al_m24, al_m25, al_m26, al_m28, al_m29, al_m30, al_m31, al_m32, al_m33, al_m34, al_m35, al_m36, al_m37, al_m38, al_m39, al_m40, al_m42, al_m43, al_m44, al_m45, al_m46, al_m48, al_m49, al_m50, al_m51, al_m52, al_m53, al_m60, al_m61]; omega) | (simp (disch := omega) only [nI_clamp, r_px0 R, r_px1 R, r_px2 R, r_pf0 R, r_pf1 R, r_pf3 R, r_ps0 R, r_ps2 R, r_ps4 R, r_shm R, r_nB R, r_nM R, r_nP R, r_nO R, bi_0, idx4, g1, c, sP_put, mp_0, mp_1, mp_2, mp_3, mp_4, mp_5, mp_6, mp_7, mp_8, mp_9, mp_10, mp_11, mp_12, mp_13, mp_15, mp_16, mp_17, mp_18, mp_19, mp_20, mp_21, mp_22, mp_23, mp_24, mp_25, mp_26, mp_28, mp_29, mp_30, mp_31, mp_32, mp_33, mp_34, mp_35, mp_36, mp_37, mp_38, mp_39, mp_40, mp_42, mp_43, mp_44, mp_45, mp_46, mp_48, mp_49, mp_50, mp_51, mp_52, mp_53, mp_60, mp_61, sP_wI, sP_wP, sP_wL, true_and, and_true, tk_inj, false_and, and_false, if_true, if_false, tk_ne9]; with_reducible rfl) | (simp (disch := omega) only [nI_clamp, r_px0 R, r_px1 R, r_px2 R, r_pf0 R, r_pf1 R, r_pf3 R, r_ps0 R, r_ps2 R, r_ps4 R, r_shm R, r_nB R, r_nM R, r_nP R, r_nO R, bi_0, idx4, g1, c, sI_putc, wI_putc, sI_put11, sI_put13, sI_putm, sL_put12, wI_put11, wI_put13, wI_putm, wL_put12, sP_put, sX_put, wP_put, sI_put_0, sI_put_1, sI_put_2, sI_put_3, sI_put_4, sI_put_5, sI_put_6, sI_put_7, sI_put_8, sI_put_9, sI_put_14, sI_put_15, sI_put_16, sI_put_17, sI_put_18, sI_put_19, sI_put_20, sI_put_21, sI_put_22, sI_put_23, sI_put_24, wI_put_0, wI_put_1, wI_put_2, wI_put_3, wI_put_4, wI_put_5, wI_put_6, wI_put_7, wI_put_8, wI_put_9, wI_put_14, wI_put_15, wI_put_16, wI_put_17, wI_put_18, wI_put_19, wI_put_20, wI_put_21, wI_put_22, wI_put_23, wI_put_24, wN_put_0, wN_put_1, wN_put_2, wN_put_3, wN_put_4, wN_put_5, wN_put_6, wN_put_7, wN_put_8, wN_put_9, wN_put_14, wN_put_15, wN_put_16, wN_put_17, wN_put_18, wN_put_19, wN_put_20, wN_put_21, wN_put_22, wN_put_23, wN_put_24, sL_put_0, sL_put_24, wL_put_0, wL_put_24, tm_0, tm_1, tm_2, tm_3, tm_4, tm_5, tm_6, tm_7, tm_8, tm_9, tm_10, tm_11, tm_12, tm_13, tm_14, tm_15, tm_16, tm_17, tm_18, tm_19, tm_20, tm_21, tm_22, tm_23, tm_24, at_11, at_12, at_13, at_14, at_15, at_16, at_17, at_18, at_19, at_20, at_21, at_22, at_23, at_24, al_14, al_15, al_16, al_17, al_18, al_19, al_20, al_21, al_22, al_23, al_24, al_m0, al_m1, al_m2, al_m3, al_m4, al_m5, al_m6, al_m7, al_m8, al_m9, al_m10, al_m11, al_m12, al_m13, al_m15, al_m16, al_m17, al_m18, al_m19, al_m20, al_m21, al_m22, al_m23, al_m24, al_m25, al_m26, al_m28, al_m29, al_m30, al_m31, al_m32, al_m33, al_m34, al_m35, al_m36, al_m37, al_m38, al_m39, al_m40, al_m42, al_m43, al_m44, al_m45, al_m46, al_m48, al_m49, al_m50, al_m51, al_m52, al_m53, al_m60, al_m61, mp_0, mp_1, mp_2, mp_3, mp_4, mp_5, mp_6, mp_7, mp_8, mp_9, mp_10, mp_11, mp_12, mp_13, mp_15, mp_16, mp_17, mp_18, mp_19, mp_20, mp_21, mp_22, mp_23, mp_24, mp_25, mp_26, mp_28, mp_29, mp_30, mp_31, mp_32, mp_33, mp_34, mp_35, mp_36, mp_37, mp_38, mp_39, mp_40, mp_42, mp_43, mp_44, mp_45, mp_46, mp_48, mp_49, mp_50, mp_51, mp_52, mp_53, mp_60, mp_61, row_14, row_15, row_16, row_17, row_18, row_19, row_20, ar_11, ar_12, ar_13, ar_14, ar_15, ar_16, ar_17, ar_18, ar_19, ar_20, ar_21, ar_22, ar_23, ar_24, cs_14, cs_15, cs_16, cs_17, cs_18, cs_19, cs_20, ex_ix, ex_0, b01_0, b01_1, KI_i, KI_x, KJ_j, KJ_x, KV_v, KV_x, KO_t, KO_n, KO_x, KO_rf, n4, n3, nI_add, nI_1, nI_leI, nI_ltI, nI_eq, gI_uI, gI_uL, gL_uI, gL_uL, sI_wI, sI_wP, sI_wL, sP_wI, sP_wP, sP_wL, sL_wI, sL_wP, sL_wL, forall_eq, exists_eq_left, exists_eq_left', Option.some.injEq, true_and, and_true, Nat.reduceAdd, Nat.reduceMul, Nat.reduceEqDiff, eq_self, tk_inj, and_self, false_and, and_false, if_true, if_false, forall_const, true_implies, ite_true, ite_false, reduceIte, reduceCtorEq, tk_ne9, i1e, i2e, i3e, i1_0, i2_0, i3_0, false_implies, false_or, or_false, true_or, or_true, String.reduceEq, Nat.reduceLT, Int32.le_refl, not_true_eq_false, not_false_eq_true, Nat.zero_lt_one, Bool.false_eq_true, Bool.true_eq_false]; done) | (simp (disch := omega) only [nI_clamp, r_px0 R, r_px1 R, r_px2 R, r_pf0 R, r_pf1 R, r_pf3 R, r_ps0 R, r_ps2 R, r_ps4 R, r_shm R, r_nB R, r_nM R, r_nP R, r_nO R, bi_0, idx4, g1, c, sI_putc, wI_putc, sI_put11, sI_put13, sI_putm, sL_put12, wI_put11, wI_put13, wI_putm, wL_put12, sP_put, sX_put, wP_put, sI_put_0, sI_put_1, sI_put_2, sI_put_3, sI_put_4, sI_put_5, sI_put_6, sI_put_7, sI_put_8, sI_put_9, sI_put_14, sI_put_15, sI_put_16, sI_put_17, sI_put_18, sI_put_19, sI_put_20, sI_put_21, sI_put_22, sI_put_23, sI_put_24, wI_put_0, wI_put_1, wI_put_2, wI_put_3, wI_put_4, wI_put_5, wI_put_6, wI_put_7, wI_put_8, wI_put_9, wI_put_14, wI_put_15, wI_put_16, wI_put_17, wI_put_18, wI_put_19, wI_put_20, wI_put_21, wI_put_22, wI_put_23, wI_put_24, wN_put_0, wN_put_1, wN_put_2, wN_put_3, wN_put_4, wN_put_5, wN_put_6, wN_put_7, wN_put_8, wN_put_9, wN_put_14, wN_put_15, wN_put_16, wN_put_17, wN_put_18, wN_put_19, wN_put_20, wN_put_21, wN_put_22, wN_put_23, wN_put_24, sL_put_0, sL_put_24, wL_put_0, wL_put_24, tm_0, tm_1, tm_2, tm_3, tm_4, tm_5, tm_6, tm_7, tm_8, tm_9, tm_10, tm_11, tm_12, tm_13, tm_14, tm_15, tm_16, tm_17, tm_18, tm_19, tm_20, tm_21, tm_22, tm_23, tm_24, at_11, at_12, at_13, at_14, at_15, at_16, at_17, at_18, at_19, at_20, at_21, at_22, at_23, at_24, al_14, al_15, al_16, al_17, al_18, al_19, al_20, al_21, al_22, al_23, al_24, al_m0, al_m1, al_m2, al_m3, al_m4, al_m5, al_m6, al_m7, al_m8, al_m9, al_m10, al_m11, al_m12, al_m13, al_m15, al_m16, al_m17, al_m18, al_m19, al_m20, al_m21, al_m22, al_m23, al_m24, al_m25, al_m26, al_m28, al_m29, al_m30, al_m31, al_m32, al_m33, al_m34, al_m35, al_m36, al_m37, al_m38, al_m39, al_m40, al_m42, al_m43, al_m44, al_m45, al_m46, al_m48, al_m49, al_m50, al_m51, al_m52, al_m53, al_m60, al_m61, mp_0, mp_1, mp_2, mp_3, mp_4, mp_5, mp_6, mp_7, mp_8, mp_9, mp_10, mp_11, mp_12, mp_13, mp_15, mp_16, mp_17, mp_18, mp_19, mp_20, mp_21, mp_22, mp_23, mp_24, mp_25, mp_26, mp_28, mp_29, mp_30, mp_31, mp_32, mp_33, mp_34, mp_35, mp_36, mp_37, mp_38, mp_39, mp_40, mp_42, mp_43, mp_44, mp_45, mp_46, mp_48, mp_49, mp_50, mp_51, mp_52, mp_53, mp_60, mp_61, row_14, row_15, row_16, row_17, row_18, row_19, row_20, ar_11, ar_12, ar_13, ar_14, ar_15, ar_16, ar_17, ar_18, ar_19, ar_20, ar_21, ar_22, ar_23, ar_24, cs_14, cs_15, cs_16, cs_17, cs_18, cs_19, cs_20, ex_ix, ex_0, b01_0, b01_1, KI_i, KI_x, KJ_j, KJ_x, KV_v, KV_x, KO_t, KO_n, KO_x, KO_rf, n4, n3, nI_add, nI_1, nI_leI, nI_ltI, gI_uI, gI_uL, gL_uI, gL_uL, sI_wI, sI_wP, sI_wL, sP_wI, sP_wP, sP_wL, sL_wI, sL_wP, sL_wL, forall_eq, exists_eq_left, exists_eq_left', Option.some.injEq, true_and, and_true, Nat.reduceAdd, Nat.reduceMul, Nat.reduceEqDiff, eq_self, tk_inj, and_self, false_and, and_false, if_true, if_false, forall_const, true_implies, ite_true, ite_false, reduceIte, reduceCtorEq, tk_ne9, i1e, i2e, i3e, i1_0, i2_0, i3_0, false_implies, false_or, or_false, true_or, or_true, String.reduceEq, Nat.reduceLT, Int32.le_refl, not_true_eq_false, not_false_eq_true, Nat.zero_lt_one, Bool.false_eq_true, Bool.true_eq_false]; with_reducible rfl) | fail "no") only [↓dO1, ↓dO0, ↓KI_i, ↓KI_x, ↓KJ_j, ↓KJ_x, ↓KV_v, ↓KV_x, ↓KO_t, ↓KO_n, ↓KO_x, ↓KO_rf, ↓dT, ↓dAt, ↓dX, ↓dX0, ↓dE, ↓dS, ↓dR, ↓dAr, ↓dCs, ↓dB, ↓forall_eq, ↓dI1, ↓dI2, ↓dI3, ↓dI4, ↓dF1, ↓dF2, ↓wI_putm, ↓wI_put11, ↓wI_put13, ↓wL_put12, ↓wP_put, ↓wI_put_0, ↓wI_put_1, ↓wI_put_2, ↓wI_put_3, ↓wI_put_4, ↓wI_put_5, ↓wI_put_6, ↓wI_put_7, ↓wI_put_8, ↓wI_put_9, ↓wI_put_14, ↓wI_put_15, ↓wI_put_16, ↓wI_put_17, ↓wI_put_18, ↓wI_put_19, ↓wI_put_20, ↓wI_put_21, ↓wI_put_22, ↓wI_put_23, ↓wI_put_24, ↓wN_put_0, ↓wN_put_1, ↓wN_put_2, ↓wN_put_3, ↓wN_put_4, ↓wN_put_5, ↓wN_put_6, ↓wN_put_7, ↓wN_put_8, ↓wN_put_9, ↓wN_put_14, ↓wN_put_15, ↓wN_put_16, ↓wN_put_17, ↓wN_put_18, ↓wN_put_19, ↓wN_put_20, ↓wN_put_21, ↓wN_put_22, ↓wN_put_23, ↓wN_put_24, ↓wL_put_0, ↓wL_put_24]
set_option maxHeartbeats 8000000 in
theorem mp_nb (hS : ∀ k, sP b (tk 10 0) k = mp k) {n k p : Nat} {s : Int32} (hn : gI M 214 0 = nI n) (h60 : n < 60) {x y z : Int32} (hx : x = nI k) (hy : y = nI p) (hz : z = s) (Post : Rs → Sg → Prop) : wp_X10_newBatch (tk 10 0) x y z (put b M) Post ↔ Post (.inl (some (.int (nI n)))) (put b (mNB M n k p s)) := by
  subst hx
  subst hy
  subst hz
  unfold wp_X10_newBatch
  simp (disch := first | (with_reducible exact rfl) | (with_reducible assumption) | omega | decide | (simp only [al_14, al_15, al_16, al_17, al_18, al_19, al_20, al_21, al_22, al_23, al_24, al_m0, al_m1, al_m2, al_m3, al_m4, al_m5, al_m6, al_m7, al_m8, al_m9, al_m10, al_m11, al_m12, al_m13, al_m15, al_m16, al_m17, al_m18, al_m19, al_m20, al_m21, al_m22, al_m23, al_m24, al_m25, al_m26, al_m28, al_m29, al_m30, al_m31, al_m32, al_m33, al_m34, al_m35, al_m36, al_m37, al_m38, al_m39, al_m40, al_m42, al_m43, al_m44, al_m45, al_m46, al_m48, al_m49, al_m50, al_m51, al_m52, al_m53, al_m60, al_m61]; omega) | (simp (disch := omega) only [hS, hn, h60, sP_put, mp_0, mp_1, mp_2, mp_3, mp_4, mp_5, mp_6, mp_7, mp_8, mp_9, mp_10, mp_11, mp_12, mp_13, mp_15, mp_16, mp_17, mp_18, mp_19, mp_20, mp_21, mp_22, mp_23, mp_24, mp_25, mp_26, mp_28, mp_29, mp_30, mp_31, mp_32, mp_33, mp_34, mp_35, mp_36, mp_37, mp_38, mp_39, mp_40, mp_42, mp_43, mp_44, mp_45, mp_46, mp_48, mp_49, mp_50, mp_51, mp_52, mp_53, mp_60, mp_61, sP_wI, sP_wP, sP_wL, true_and, and_true, tk_inj, false_and, and_false, if_true, if_false, tk_ne9]; with_reducible rfl) | (simp (disch := omega) only [hS, hn, h60, sI_putc, wI_putc, sI_put11, sI_put13, sI_putm, sL_put12, wI_put11, wI_put13, wI_putm, wL_put12, sP_put, sX_put, wP_put, sI_put_0, sI_put_1, sI_put_2, sI_put_3, sI_put_4, sI_put_5, sI_put_6, sI_put_7, sI_put_8, sI_put_9, sI_put_14, sI_put_15, sI_put_16, sI_put_17, sI_put_18, sI_put_19, sI_put_20, sI_put_21, sI_put_22, sI_put_23, sI_put_24, wI_put_0, wI_put_1, wI_put_2, wI_put_3, wI_put_4, wI_put_5, wI_put_6, wI_put_7, wI_put_8, wI_put_9, wI_put_14, wI_put_15, wI_put_16, wI_put_17, wI_put_18, wI_put_19, wI_put_20, wI_put_21, wI_put_22, wI_put_23, wI_put_24, wN_put_0, wN_put_1, wN_put_2, wN_put_3, wN_put_4, wN_put_5, wN_put_6, wN_put_7, wN_put_8, wN_put_9, wN_put_14, wN_put_15, wN_put_16, wN_put_17, wN_put_18, wN_put_19, wN_put_20, wN_put_21, wN_put_22, wN_put_23, wN_put_24, sL_put_0, sL_put_24, wL_put_0, wL_put_24, tm_0, tm_1, tm_2, tm_3, tm_4, tm_5, tm_6, tm_7, tm_8, tm_9, tm_10, tm_11, tm_12, tm_13, tm_14, tm_15, tm_16, tm_17, tm_18, tm_19, tm_20, tm_21, tm_22, tm_23, tm_24, at_11, at_12, at_13, at_14, at_15, at_16, at_17, at_18, at_19, at_20, at_21, at_22, at_23, at_24, al_14, al_15, al_16, al_17, al_18, al_19, al_20, al_21, al_22, al_23, al_24, al_m0, al_m1, al_m2, al_m3, al_m4, al_m5, al_m6, al_m7, al_m8, al_m9, al_m10, al_m11, al_m12, al_m13, al_m15, al_m16, al_m17, al_m18, al_m19, al_m20, al_m21, al_m22, al_m23, al_m24, al_m25, al_m26, al_m28, al_m29, al_m30, al_m31, al_m32, al_m33, al_m34, al_m35, al_m36, al_m37, al_m38, al_m39, al_m40, al_m42, al_m43, al_m44, al_m45, al_m46, al_m48, al_m49, al_m50, al_m51, al_m52, al_m53, al_m60, al_m61, mp_0, mp_1, mp_2, mp_3, mp_4, mp_5, mp_6, mp_7, mp_8, mp_9, mp_10, mp_11, mp_12, mp_13, mp_15, mp_16, mp_17, mp_18, mp_19, mp_20, mp_21, mp_22, mp_23, mp_24, mp_25, mp_26, mp_28, mp_29, mp_30, mp_31, mp_32, mp_33, mp_34, mp_35, mp_36, mp_37, mp_38, mp_39, mp_40, mp_42, mp_43, mp_44, mp_45, mp_46, mp_48, mp_49, mp_50, mp_51, mp_52, mp_53, mp_60, mp_61, row_14, row_15, row_16, row_17, row_18, row_19, row_20, ar_11, ar_12, ar_13, ar_14, ar_15, ar_16, ar_17, ar_18, ar_19, ar_20, ar_21, ar_22, ar_23, ar_24, cs_14, cs_15, cs_16, cs_17, cs_18, cs_19, cs_20, ex_ix, ex_0, b01_0, b01_1, KI_i, KI_x, KJ_j, KJ_x, KV_v, KV_x, KO_t, KO_n, KO_x, KO_rf, n4, n3, nI_add, nI_1, nI_leI, nI_ltI, nI_eq, gI_uI, gI_uL, gL_uI, gL_uL, sI_wI, sI_wP, sI_wL, sP_wI, sP_wP, sP_wL, sL_wI, sL_wP, sL_wL, forall_eq, exists_eq_left, exists_eq_left', Option.some.injEq, true_and, and_true, Nat.reduceAdd, Nat.reduceMul, Nat.reduceEqDiff, eq_self, tk_inj, and_self, false_and, and_false, if_true, if_false, forall_const, true_implies, ite_true, ite_false, reduceIte, reduceCtorEq, tk_ne9, i1e, i2e, i3e, i1_0, i2_0, i3_0, false_implies, false_or, or_false, true_or, or_true, String.reduceEq, Nat.reduceLT, Int32.le_refl, not_true_eq_false, not_false_eq_true, Nat.zero_lt_one, Bool.false_eq_true, Bool.true_eq_false]; done) | (simp (disch := omega) only [hS, hn, h60, sI_putc, wI_putc, sI_put11, sI_put13, sI_putm, sL_put12, wI_put11, wI_put13, wI_putm, wL_put12, sP_put, sX_put, wP_put, sI_put_0, sI_put_1, sI_put_2, sI_put_3, sI_put_4, sI_put_5, sI_put_6, sI_put_7, sI_put_8, sI_put_9, sI_put_14, sI_put_15, sI_put_16, sI_put_17, sI_put_18, sI_put_19, sI_put_20, sI_put_21, sI_put_22, sI_put_23, sI_put_24, wI_put_0, wI_put_1, wI_put_2, wI_put_3, wI_put_4, wI_put_5, wI_put_6, wI_put_7, wI_put_8, wI_put_9, wI_put_14, wI_put_15, wI_put_16, wI_put_17, wI_put_18, wI_put_19, wI_put_20, wI_put_21, wI_put_22, wI_put_23, wI_put_24, wN_put_0, wN_put_1, wN_put_2, wN_put_3, wN_put_4, wN_put_5, wN_put_6, wN_put_7, wN_put_8, wN_put_9, wN_put_14, wN_put_15, wN_put_16, wN_put_17, wN_put_18, wN_put_19, wN_put_20, wN_put_21, wN_put_22, wN_put_23, wN_put_24, sL_put_0, sL_put_24, wL_put_0, wL_put_24, tm_0, tm_1, tm_2, tm_3, tm_4, tm_5, tm_6, tm_7, tm_8, tm_9, tm_10, tm_11, tm_12, tm_13, tm_14, tm_15, tm_16, tm_17, tm_18, tm_19, tm_20, tm_21, tm_22, tm_23, tm_24, at_11, at_12, at_13, at_14, at_15, at_16, at_17, at_18, at_19, at_20, at_21, at_22, at_23, at_24, al_14, al_15, al_16, al_17, al_18, al_19, al_20, al_21, al_22, al_23, al_24, al_m0, al_m1, al_m2, al_m3, al_m4, al_m5, al_m6, al_m7, al_m8, al_m9, al_m10, al_m11, al_m12, al_m13, al_m15, al_m16, al_m17, al_m18, al_m19, al_m20, al_m21, al_m22, al_m23, al_m24, al_m25, al_m26, al_m28, al_m29, al_m30, al_m31, al_m32, al_m33, al_m34, al_m35, al_m36, al_m37, al_m38, al_m39, al_m40, al_m42, al_m43, al_m44, al_m45, al_m46, al_m48, al_m49, al_m50, al_m51, al_m52, al_m53, al_m60, al_m61, mp_0, mp_1, mp_2, mp_3, mp_4, mp_5, mp_6, mp_7, mp_8, mp_9, mp_10, mp_11, mp_12, mp_13, mp_15, mp_16, mp_17, mp_18, mp_19, mp_20, mp_21, mp_22, mp_23, mp_24, mp_25, mp_26, mp_28, mp_29, mp_30, mp_31, mp_32, mp_33, mp_34, mp_35, mp_36, mp_37, mp_38, mp_39, mp_40, mp_42, mp_43, mp_44, mp_45, mp_46, mp_48, mp_49, mp_50, mp_51, mp_52, mp_53, mp_60, mp_61, row_14, row_15, row_16, row_17, row_18, row_19, row_20, ar_11, ar_12, ar_13, ar_14, ar_15, ar_16, ar_17, ar_18, ar_19, ar_20, ar_21, ar_22, ar_23, ar_24, cs_14, cs_15, cs_16, cs_17, cs_18, cs_19, cs_20, ex_ix, ex_0, b01_0, b01_1, KI_i, KI_x, KJ_j, KJ_x, KV_v, KV_x, KO_t, KO_n, KO_x, KO_rf, n4, n3, nI_add, nI_1, nI_leI, nI_ltI, gI_uI, gI_uL, gL_uI, gL_uL, sI_wI, sI_wP, sI_wL, sP_wI, sP_wP, sP_wL, sL_wI, sL_wP, sL_wL, forall_eq, exists_eq_left, exists_eq_left', Option.some.injEq, true_and, and_true, Nat.reduceAdd, Nat.reduceMul, Nat.reduceEqDiff, eq_self, tk_inj, and_self, false_and, and_false, if_true, if_false, forall_const, true_implies, ite_true, ite_false, reduceIte, reduceCtorEq, tk_ne9, i1e, i2e, i3e, i1_0, i2_0, i3_0, false_implies, false_or, or_false, true_or, or_true, String.reduceEq, Nat.reduceLT, Int32.le_refl, not_true_eq_false, not_false_eq_true, Nat.zero_lt_one, Bool.false_eq_true, Bool.true_eq_false]; with_reducible rfl) | fail "no") only [↓dO1, ↓dO0, ↓KI_i, ↓KI_x, ↓KJ_j, ↓KJ_x, ↓KV_v, ↓KV_x, ↓KO_t, ↓KO_n, ↓KO_x, ↓KO_rf, ↓dT, ↓dAt, ↓dX, ↓dX0, ↓dE, ↓dS, ↓dR, ↓dAr, ↓dCs, ↓dB, ↓forall_eq, ↓dI1, ↓dI2, ↓dI3, ↓dI4, ↓dF1, ↓dF2, ↓wI_putm, ↓wI_put11, ↓wI_put13, ↓wL_put12, ↓wP_put, ↓wI_put_0, ↓wI_put_1, ↓wI_put_2, ↓wI_put_3, ↓wI_put_4, ↓wI_put_5, ↓wI_put_6, ↓wI_put_7, ↓wI_put_8, ↓wI_put_9, ↓wI_put_14, ↓wI_put_15, ↓wI_put_16, ↓wI_put_17, ↓wI_put_18, ↓wI_put_19, ↓wI_put_20, ↓wI_put_21, ↓wI_put_22, ↓wI_put_23, ↓wI_put_24, ↓wN_put_0, ↓wN_put_1, ↓wN_put_2, ↓wN_put_3, ↓wN_put_4, ↓wN_put_5, ↓wN_put_6, ↓wN_put_7, ↓wN_put_8, ↓wN_put_9, ↓wN_put_14, ↓wN_put_15, ↓wN_put_16, ↓wN_put_17, ↓wN_put_18, ↓wN_put_19, ↓wN_put_20, ↓wN_put_21, ↓wN_put_22, ↓wN_put_23, ↓wN_put_24, ↓wL_put_0, ↓wL_put_24]
  simp (disch := omega) only [hn, sI_putc, wI_putc, sI_put11, sI_put13, sI_putm, sL_put12, wI_put11, wI_put13, wI_putm, wL_put12, sP_put, sX_put, wP_put, sI_put_0, sI_put_1, sI_put_2, sI_put_3, sI_put_4, sI_put_5, sI_put_6, sI_put_7, sI_put_8, sI_put_9, sI_put_14, sI_put_15, sI_put_16, sI_put_17, sI_put_18, sI_put_19, sI_put_20, sI_put_21, sI_put_22, sI_put_23, sI_put_24, wI_put_0, wI_put_1, wI_put_2, wI_put_3, wI_put_4, wI_put_5, wI_put_6, wI_put_7, wI_put_8, wI_put_9, wI_put_14, wI_put_15, wI_put_16, wI_put_17, wI_put_18, wI_put_19, wI_put_20, wI_put_21, wI_put_22, wI_put_23, wI_put_24, wN_put_0, wN_put_1, wN_put_2, wN_put_3, wN_put_4, wN_put_5, wN_put_6, wN_put_7, wN_put_8, wN_put_9, wN_put_14, wN_put_15, wN_put_16, wN_put_17, wN_put_18, wN_put_19, wN_put_20, wN_put_21, wN_put_22, wN_put_23, wN_put_24, sL_put_0, sL_put_24, wL_put_0, wL_put_24, tm_0, tm_1, tm_2, tm_3, tm_4, tm_5, tm_6, tm_7, tm_8, tm_9, tm_10, tm_11, tm_12, tm_13, tm_14, tm_15, tm_16, tm_17, tm_18, tm_19, tm_20, tm_21, tm_22, tm_23, tm_24, at_11, at_12, at_13, at_14, at_15, at_16, at_17, at_18, at_19, at_20, at_21, at_22, at_23, at_24, al_14, al_15, al_16, al_17, al_18, al_19, al_20, al_21, al_22, al_23, al_24, al_m0, al_m1, al_m2, al_m3, al_m4, al_m5, al_m6, al_m7, al_m8, al_m9, al_m10, al_m11, al_m12, al_m13, al_m15, al_m16, al_m17, al_m18, al_m19, al_m20, al_m21, al_m22, al_m23, al_m24, al_m25, al_m26, al_m28, al_m29, al_m30, al_m31, al_m32, al_m33, al_m34, al_m35, al_m36, al_m37, al_m38, al_m39, al_m40, al_m42, al_m43, al_m44, al_m45, al_m46, al_m48, al_m49, al_m50, al_m51, al_m52, al_m53, al_m60, al_m61, mp_0, mp_1, mp_2, mp_3, mp_4, mp_5, mp_6, mp_7, mp_8, mp_9, mp_10, mp_11, mp_12, mp_13, mp_15, mp_16, mp_17, mp_18, mp_19, mp_20, mp_21, mp_22, mp_23, mp_24, mp_25, mp_26, mp_28, mp_29, mp_30, mp_31, mp_32, mp_33, mp_34, mp_35, mp_36, mp_37, mp_38, mp_39, mp_40, mp_42, mp_43, mp_44, mp_45, mp_46, mp_48, mp_49, mp_50, mp_51, mp_52, mp_53, mp_60, mp_61, row_14, row_15, row_16, row_17, row_18, row_19, row_20, ar_11, ar_12, ar_13, ar_14, ar_15, ar_16, ar_17, ar_18, ar_19, ar_20, ar_21, ar_22, ar_23, ar_24, cs_14, cs_15, cs_16, cs_17, cs_18, cs_19, cs_20, ex_ix, ex_0, b01_0, b01_1, KI_i, KI_x, KJ_j, KJ_x, KV_v, KV_x, KO_t, KO_n, KO_x, KO_rf, n4, n3, nI_add, nI_1, nI_leI, nI_ltI, nI_eq, gI_uI, gI_uL, gL_uI, gL_uL, sI_wI, sI_wP, sI_wL, sP_wI, sP_wP, sP_wL, sL_wI, sL_wP, sL_wL, forall_eq, exists_eq_left, exists_eq_left', Option.some.injEq, true_and, and_true, Nat.reduceAdd, Nat.reduceMul, Nat.reduceEqDiff, eq_self, tk_inj, and_self, false_and, and_false, if_true, if_false, forall_const, true_implies, ite_true, ite_false, reduceIte, reduceCtorEq, tk_ne9, i1e, i2e, i3e, i1_0, i2_0, i3_0, false_implies, false_or, or_false, true_or, or_true, String.reduceEq, Nat.reduceLT, Int32.le_refl, not_true_eq_false, not_false_eq_true, Nat.zero_lt_one, Bool.false_eq_true, Bool.true_eq_false]
  rfl
end RR
