/-! Rows for buy, make, promise, ship, recall. -/
section RR
variable {e : Nat} {a b : Sg} {M : MS}
theorem nB_nb (M : MS) {n k p : Nat} {s : Int32} (h : n < 60) (i : Nat) (v : Int32) : nB (uI (mNB M n k p s) 113 i v) = n + 1 := by
  unfold nB mNB
  rw [gI_ne (by decide), gI_uI, if_pos ⟨rfl, rfl⟩, nI_clamp (by omega)]
theorem g17_nb (M : MS) {n k p : Nat} {s : Int32} (i : Nat) (v : Int32) : gI (uI (mNB M n k p s) 113 i v) 17 n = 0 := by
  unfold mNB
  simp [gI_uI, gI_uL]
theorem tot_nb (M : MS) {n k p : Nat} {s : Int32} (i : Nat) (v : Int32) : tot (uI (mNB M n k p s) 113 i v) (n + 1) = tot M n := by
  rw [tot_1, g17_nb]
  unfold mNB
  simp (disch := first | decide | omega) only [tot_u, tot_l, tot_ge]
  rw [show ((0 : Int32)).toInt = 0 by decide, Int.add_zero]
theorem hN_nb (M : MS) {n k p : Nat} {s : Int32} (i : Nat) (v : Int32) : hN (uI (mNB M n k p s) 113 i v) = hN M := by
  unfold mNB
  simp (disch := decide) only [hN_u, hN_l]
theorem rel_nbc (R : Rel e a M) (k p : Nat) (s : Int32) (c : Nat) (h60 : nB M < 60) (hk : k < 12) (hp : 1 ≤ p) (hp2 : p ≤ 1200) (htq : totp M (nB M) + p ≤ 20 * (nB M + 1)) (hs3 : s ≠ 3) (hs4 : s ≠ 4) (hs1 : s = 1 ∨ s = 2 → 0 < nOp M k) (hs6 : ∃ q : Nat, s = nI q ∧ q ≤ 6) (hc : tot M (nB M) + (c : Int) ≤ 1980 * ((nB M : Int) + 1) + 108 * (hN M : Int) + 18 * ((e % 7 : Nat) : Int)) (hc2 : c < 2 ^ 31) : Rel e (wI (nbA a (nB M) k p s) (tk 0 (nB M)) 3 (nI c)) (uI (uI (mNB M (nB M) k p s) 113 k 1) 17 (nB M) (nI c)) := by
  have R1 := rel_nb R k p s h60 hk hp hp2 htq hs3 hs4 hs1 hs6
  refine rel_cost R1 (nB M) (by rw [nB_nb M h60]; omega) (nI c) (by rw [nI_toInt hc2]; omega) ?_
  rw [nB_nb M h60, tot_nb, g17_nb, hN_nb, nI_toInt hc2, show ((0 : Int32)).toInt = 0 by decide]
  push_cast
  omega
theorem slack (R : Rel e a M) {p : Nat} (hp : p ≤ 20) : totp M (nB M) + p ≤ 20 * (nB M + 1) := by
  have := r_bq R
  omega
theorem slackc (R : Rel e a M) {c : Nat} (hc : c ≤ 1980) : tot M (nB M) + (c : Int) ≤ 1980 * ((nB M : Int) + 1) + 108 * (hN M : Int) + 18 * ((e % 7 : Nat) : Int) := by
  have := r_bc R
  omega
theorem mProm_51 {M : MS} {r n : Nat} (x v : Int32) (hr : r < n) : mProm (uI M 51 r v) x n = mProm M x n + (if gI M 48 r = x ∧ gI M 52 r = -1 then v - gI M 51 r else 0) := by
  have e := sumN_upd (f := fun j => if gI M 48 j = x ∧ gI M 52 j = -1 then gI M 51 j else 0) (g := fun j => if gI (uI M 51 r v) 48 j = x ∧ gI (uI M 51 r v) 52 j = -1 then gI (uI M 51 r v) 51 j else 0) hr (fun q hq => by simp [gI_uI, hq])
  unfold mProm
  simp [gI_uI] at e
  simp [gI_uI]
  grind
theorem nProm_51 {M : MS} {r n k q : Nat} (hq : q < 2 ^ 31) (hr : r < n) : nProm (uI M 51 r (nI q)) k n + (if gI M 48 r = nI k ∧ gI M 52 r = -1 then pr M r else 0) = nProm M k n + (if gI M 48 r = nI k ∧ gI M 52 r = -1 then q else 0) := by
  have e := sumT_upd (f := fun j => if gI M 48 j = nI k ∧ gI M 52 j = -1 then pr M j else 0) (g := fun j => if gI (uI M 51 r (nI q)) 48 j = nI k ∧ gI (uI M 51 r (nI q)) 52 j = -1 then pr (uI M 51 r (nI q)) j else 0) hr (fun z hz => by simp [gI_uI, pr, hz])
  unfold nProm
  simp [gI_uI, pr, nI_clamp hq] at e
  simp [gI_uI, pr]
  grind
end RR
set_option maxHeartbeats 8000000 in
theorem rel_promise {e : Nat} {a : Sg} {M : MS} (R : Rel e a M) (r k m : Nat) (hr : r < nO M) (hk : k < 12) (h48 : gI M 48 r = nI k) (h52 : gI M 52 r = -1) (hm : pr M r + m ≤ (gI M 49 r).toNatClampNeg) (hps : e < 7 → nProm M k (nO M) + m ≤ nInSt M k (nB M)) : Rel e (wI (wI a (tk 6 r) 3 (nI (pr M r + m))) (tk 2 k) 11 (sI a (tk 2 k) 11 + nI m)) (uI M 51 r (nI (pr M r + m))) := by
  have hq20 : (gI M 49 r).toNatClampNeg ≤ 20 := by obtain ⟨p, h1, h2, h3⟩ := r_rp R r hr; rw [h1, nI_clamp (by omega)]; exact h3
  have hpr : pr (uI M 51 r (nI (pr M r + m))) r = pr M r + m := by unfold pr; rw [gI_uI, if_pos ⟨rfl, rfl⟩, nI_clamp (by unfold pr at hm; omega)]
  unfold Rel
  refine ⟨?_, ?_, ?_, ?_, ?_, ?_, ?_, ?_, ?_, ?_, ?_, ?_, ?_, ?_, ?_, ?_, ?_, ?_, ?_, ?_, ?_, ?_, ?_, ?_, ?_, ?_, ?_, ?_, ?_, ?_, ?_, ?_, ?_, ?_, ?_, ?_, ?_, ?_, ?_, ?_, ?_, ?_, ?_, ?_, ?_, ?_, ?_, ?_, ?_, ?_, ?_, ?_, ?_, ?_, ?_, ?_, ?_, ?_, ?_, ?_, ?_, ?_, ?_, ?_, ?_, ?_, ?_, ?_, ?_, ?_, ?_, ?_, ?_, ?_, ?_, ?_, ?_, ?_, ?_, ?_, ?_, ?_, ?_, ?_, ?_, ?_, ?_, ?_, ?_, ?_, ?_, ?_, ?_, ?_, ?_, ?_, ?_, ?_, ?_, ?_, ?_, ?_, ?_, ?_, ?_, ?_, ?_, ?_, ?_, ?_, ?_, ?_, ?_, ?_, ?_, ?_, ?_, ?_, ?_, ?_, ?_, ?_, ?_, ?_, ?_, ?_, ?_, ?_, ?_, ?_, ?_, ?_, ?_, ?_, ?_, ?_, ?_, ?_, ?_, ?_, ?_, ?_, ?_, ?_, ?_, ?_, ?_, ?_, ?_⟩
  · have h9 := r_shm R
    exact h9
  · have h9 := r_px0 R
    exact h9
  · have h9 := r_px1 R
    exact h9
  · have h9 := r_px2 R
    exact h9
  · have h9 := r_pf0 R
    exact h9
  · have h9 := r_pf1 R
    exact h9
  · have h9 := r_pf3 R
    exact h9
  · have h9 := r_ps0 R
    exact h9
  · have h9 := r_ps2 R
    exact h9
  · have h9 := r_ps4 R
    exact h9
  · have h9 := r_pk R
    exact h9
  · have h9 := r_pkl R
    exact h9
  · have h9 := r_pko R
    exact h9
  · have h9 := r_ghour R
    unfold Cghour
    simpa (disch := omega) only [sI_wI, gI_uI, tk_ne9, tk_inj, if_false, if_true, false_and, and_false, Nat.reduceEqDiff, reduceIte, reduceCtorEq, and_true, true_and] using h9
  · have h9 := r_gstand R
    unfold Cgstand
    simpa (disch := omega) only [sI_wI, gI_uI, tk_ne9, tk_inj, if_false, if_true, false_and, and_false, Nat.reduceEqDiff, reduceIte, reduceCtorEq, and_true, true_and] using h9
  · have h9 := r_gbought R
    unfold Cgbought
    simpa (disch := omega) only [sI_wI, gI_uI, tk_ne9, tk_inj, if_false, if_true, false_and, and_false, Nat.reduceEqDiff, reduceIte, reduceCtorEq, and_true, true_and] using h9
  · have h9 := r_gmach R
    unfold Cgmach
    simpa (disch := omega) only [sI_wI, gI_uI, tk_ne9, tk_inj, if_false, if_true, false_and, and_false, Nat.reduceEqDiff, reduceIte, reduceCtorEq, and_true, true_and] using h9
  · have h9 := r_gpers R
    unfold Cgpers
    simpa (disch := omega) only [sI_wI, gI_uI, tk_ne9, tk_inj, if_false, if_true, false_and, and_false, Nat.reduceEqDiff, reduceIte, reduceCtorEq, and_true, true_and] using h9
  · have h9 := r_gworked R
    unfold Cgworked
    simpa (disch := omega) only [sI_wI, gI_uI, tk_ne9, tk_inj, if_false, if_true, false_and, and_false, Nat.reduceEqDiff, reduceIte, reduceCtorEq, and_true, true_and] using h9
  · have h9 := r_grep R
    unfold Cgrep
    simpa (disch := omega) only [sI_wI, gI_uI, tk_ne9, tk_inj, if_false, if_true, false_and, and_false, Nat.reduceEqDiff, reduceIte, reduceCtorEq, and_true, true_and] using h9
  · have h9 := r_gbat R
    unfold Cgbat
    simpa (disch := omega) only [sI_wI, gI_uI, tk_ne9, tk_inj, if_false, if_true, false_and, and_false, Nat.reduceEqDiff, reduceIte, reduceCtorEq, and_true, true_and] using h9
  · have h9 := r_gord R
    unfold Cgord
    simpa (disch := omega) only [sI_wI, gI_uI, tk_ne9, tk_inj, if_false, if_true, false_and, and_false, Nat.reduceEqDiff, reduceIte, reduceCtorEq, and_true, true_and] using h9
  · have h9 := r_gq R
    unfold Cgq
    simpa (disch := omega) only [sI_wI, gI_uI, tk_ne9, tk_inj, if_false, if_true, false_and, and_false, Nat.reduceEqDiff, reduceIte, reduceCtorEq, and_true, true_and] using h9
  · have h9 := r_nB R
    unfold CnB
    simpa (disch := omega) only [gI_uI, nB_u, tk_ne9, tk_inj, if_false, if_true, false_and, and_false, Nat.reduceEqDiff, reduceIte, reduceCtorEq, and_true, true_and] using h9
  · have h9 := r_nBx R
    unfold CnBx
    simpa (disch := omega) only [nB_u, tk_ne9, tk_inj, if_false, if_true, false_and, and_false, Nat.reduceEqDiff, reduceIte, reduceCtorEq, and_true, true_and] using h9
  · have h9 := r_nM R
    unfold CnM
    simpa (disch := omega) only [gI_uI, nM_u, tk_ne9, tk_inj, if_false, if_true, false_and, and_false, Nat.reduceEqDiff, reduceIte, reduceCtorEq, and_true, true_and] using h9
  · have h9 := r_nMx R
    unfold CnMx
    simpa (disch := omega) only [nM_u, tk_ne9, tk_inj, if_false, if_true, false_and, and_false, Nat.reduceEqDiff, reduceIte, reduceCtorEq, and_true, true_and] using h9
  · have h9 := r_nP R
    unfold CnP
    simpa (disch := omega) only [gI_uI, nP_u, tk_ne9, tk_inj, if_false, if_true, false_and, and_false, Nat.reduceEqDiff, reduceIte, reduceCtorEq, and_true, true_and] using h9
  · have h9 := r_nPx R
    unfold CnPx
    simpa (disch := omega) only [nP_u, tk_ne9, tk_inj, if_false, if_true, false_and, and_false, Nat.reduceEqDiff, reduceIte, reduceCtorEq, and_true, true_and] using h9
  · have h9 := r_nO R
    unfold CnO
    simpa (disch := omega) only [gI_uI, nO_u, tk_ne9, tk_inj, if_false, if_true, false_and, and_false, Nat.reduceEqDiff, reduceIte, reduceCtorEq, and_true, true_and] using h9
  · have h9 := r_nOx R
    unfold CnOx
    simpa (disch := omega) only [nO_u, tk_ne9, tk_inj, if_false, if_true, false_and, and_false, Nat.reduceEqDiff, reduceIte, reduceCtorEq, and_true, true_and] using h9
  · have h9 := r_hr R
    unfold Chr
    simpa (disch := omega) only [gI_uI, hN_u, tk_ne9, tk_inj, if_false, if_true, false_and, and_false, Nat.reduceEqDiff, reduceIte, reduceCtorEq, and_true, true_and] using h9
  · have h9 := r_hrx R
    unfold Chrx
    simpa (disch := omega) only [hN_u, tk_ne9, tk_inj, if_false, if_true, false_and, and_false, Nat.reduceEqDiff, reduceIte, reduceCtorEq, and_true, true_and] using h9
  · have h9 := r_stb R
    unfold Cstb
    simpa (disch := omega) only [gI_uI, tk_ne9, tk_inj, if_false, if_true, false_and, and_false, Nat.reduceEqDiff, reduceIte, reduceCtorEq, and_true, true_and] using h9
  · have h9 := r_ex R
    exact h9
  · have h9 := r_k0 R
    unfold Ck0
    simpa (disch := omega) only [sI_wI, tk_ne9, tk_inj, if_false, if_true, false_and, and_false, Nat.reduceEqDiff, reduceIte, reduceCtorEq, and_true, true_and] using h9
  · have h9 := r_k1 R
    unfold Ck1
    simpa (disch := omega) only [sI_wI, gI_uI, tk_ne9, tk_inj, if_false, if_true, false_and, and_false, Nat.reduceEqDiff, reduceIte, reduceCtorEq, and_true, true_and] using h9
  · have h9 := r_k2 R
    unfold Ck2
    simpa (disch := omega) only [sI_wI, gI_uI, tk_ne9, tk_inj, if_false, if_true, false_and, and_false, Nat.reduceEqDiff, reduceIte, reduceCtorEq, and_true, true_and] using h9
  · have h9 := r_k3 R
    unfold Ck3
    simpa (disch := omega) only [sI_wI, gI_uI, tk_ne9, tk_inj, if_false, if_true, false_and, and_false, Nat.reduceEqDiff, reduceIte, reduceCtorEq, and_true, true_and] using h9
  · have h9 := r_k5 R
    unfold Ck5
    simpa (disch := omega) only [sI_wI, gI_uI, tk_ne9, tk_inj, if_false, if_true, false_and, and_false, Nat.reduceEqDiff, reduceIte, reduceCtorEq, and_true, true_and] using h9
  · have h9 := r_k7 R
    unfold Ck7
    simpa (disch := omega) only [sI_wI, gI_uI, tk_ne9, tk_inj, if_false, if_true, false_and, and_false, Nat.reduceEqDiff, reduceIte, reduceCtorEq, and_true, true_and] using h9
  · have h9 := r_k8 R
    unfold Ck8
    simpa (disch := omega) only [sI_wI, gI_uI, tk_ne9, tk_inj, if_false, if_true, false_and, and_false, Nat.reduceEqDiff, reduceIte, reduceCtorEq, and_true, true_and] using h9
  · have h9 := r_k9 R
    unfold Ck9
    simpa (disch := omega) only [sI_wI, gI_uI, tk_ne9, tk_inj, if_false, if_true, false_and, and_false, Nat.reduceEqDiff, reduceIte, reduceCtorEq, and_true, true_and] using h9
  · have h9 := r_k10 R
    unfold Ck10
    simpa (disch := omega) only [sI_wI, nB_u, mInSt_u, tk_ne9, tk_inj, if_false, if_true, false_and, and_false, Nat.reduceEqDiff, reduceIte, reduceCtorEq, and_true, true_and] using h9
  · unfold Ck11
    intro i hi
    rw [nO_u _ _ _ _ (by decide), mProm_51 _ _ hr, h48]
    have h9 := r_k11 R i hi
    by_cases c : i = k
    · subst c
      rw [if_pos ⟨rfl, h52⟩, sI_wI, if_pos ⟨rfl, rfl⟩, h9, r_rq R r hr, ← nI_add]
      grind
    · rw [if_neg (fun z => c ((nI_eq (by omega) (by omega)).mp z.1).symm), Int32.add_zero]
      simp [sI_wI, tk_ne9, tk_inj, c]
      exact h9
  · have h9 := r_k12 R
    unfold Ck12
    simpa (disch := omega) only [sI_wI, tk_ne9, tk_inj, if_false, if_true, false_and, and_false, Nat.reduceEqDiff, reduceIte, reduceCtorEq, and_true, true_and] using h9
  · have h9 := r_ksa R
    unfold Cksa
    simpa (disch := omega) only [gI_uI, tk_ne9, tk_inj, if_false, if_true, false_and, and_false, Nat.reduceEqDiff, reduceIte, reduceCtorEq, and_true, true_and] using h9
  · have h9 := r_ksb R
    unfold Cksb
    simpa (disch := omega) only [gI_uI, nOp_u, tk_ne9, tk_inj, if_false, if_true, false_and, and_false, Nat.reduceEqDiff, reduceIte, reduceCtorEq, and_true, true_and] using h9
  · have h9 := r_ksc R
    unfold Cksc
    simpa (disch := omega) only [gI_uI, nLn_u, nOp_u, tk_ne9, tk_inj, if_false, if_true, false_and, and_false, Nat.reduceEqDiff, reduceIte, reduceCtorEq, and_true, true_and] using h9
  · have h9 := r_kw R
    unfold Ckw
    simpa (disch := omega) only [gI_uI, tk_ne9, tk_inj, if_false, if_true, false_and, and_false, Nat.reduceEqDiff, reduceIte, reduceCtorEq, and_true, true_and] using h9
  · have h9 := r_kl R
    unfold Ckl
    simpa (disch := omega) only [gI_uI, nLn_u, tk_ne9, tk_inj, if_false, if_true, false_and, and_false, Nat.reduceEqDiff, reduceIte, reduceCtorEq, and_true, true_and] using h9
  · have h9 := r_ko R
    unfold Cko
    simpa (disch := omega) only [gI_uI, nOp_u, tk_ne9, tk_inj, if_false, if_true, false_and, and_false, Nat.reduceEqDiff, reduceIte, reduceCtorEq, and_true, true_and] using h9
  · have h9 := r_kp R
    unfold Ckp
    simpa (disch := omega) only [gI_uI, tk_ne9, tk_inj, if_false, if_true, false_and, and_false, Nat.reduceEqDiff, reduceIte, reduceCtorEq, and_true, true_and] using h9
  · have h9 := r_l0 R
    unfold Cl0
    simpa (disch := omega) only [sP_wI, nLn_u, tk_ne9, tk_inj, if_false, if_true, false_and, and_false, Nat.reduceEqDiff, reduceIte, reduceCtorEq, and_true, true_and] using h9
  · have h9 := r_l1 R
    unfold Cl1
    simpa (disch := omega) only [sP_wI, nLn_u, lnP_u, tk_ne9, tk_inj, if_false, if_true, false_and, and_false, Nat.reduceEqDiff, reduceIte, reduceCtorEq, and_true, true_and] using h9
  · have h9 := r_l2 R
    unfold Cl2
    simpa (disch := omega) only [sI_wI, gI_uI, nLn_u, tk_ne9, tk_inj, if_false, if_true, false_and, and_false, Nat.reduceEqDiff, reduceIte, reduceCtorEq, and_true, true_and] using h9
  · have h9 := r_l3 R
    unfold Cl3
    simpa (disch := omega) only [sP_wI, gI_uI, nLn_u, tk_ne9, tk_inj, if_false, if_true, false_and, and_false, Nat.reduceEqDiff, reduceIte, reduceCtorEq, and_true, true_and] using h9
  · have h9 := r_lm R
    unfold Clm
    simpa (disch := omega) only [gI_uI, nLn_u, lnP_u, tk_ne9, tk_inj, if_false, if_true, false_and, and_false, Nat.reduceEqDiff, reduceIte, reduceCtorEq, and_true, true_and] using h9
  · have h9 := r_o0 R
    unfold Co0
    simpa (disch := omega) only [sP_wI, nOp_u, tk_ne9, tk_inj, if_false, if_true, false_and, and_false, Nat.reduceEqDiff, reduceIte, reduceCtorEq, and_true, true_and] using h9
  · have h9 := r_o1 R
    unfold Co1
    simpa (disch := omega) only [sI_wI, gI_uI, nOp_u, tk_ne9, tk_inj, if_false, if_true, false_and, and_false, Nat.reduceEqDiff, reduceIte, reduceCtorEq, and_true, true_and] using h9
  · have h9 := r_o2 R
    unfold Co2
    simpa (disch := omega) only [sI_wI, gI_uI, nOp_u, tk_ne9, tk_inj, if_false, if_true, false_and, and_false, Nat.reduceEqDiff, reduceIte, reduceCtorEq, and_true, true_and] using h9
  · have h9 := r_o3 R
    unfold Co3
    simpa (disch := omega) only [sI_wI, gI_uI, nOp_u, tk_ne9, tk_inj, if_false, if_true, false_and, and_false, Nat.reduceEqDiff, reduceIte, reduceCtorEq, and_true, true_and] using h9
  · have h9 := r_om R
    unfold Com
    simpa (disch := omega) only [gI_uI, nOp_u, tk_ne9, tk_inj, if_false, if_true, false_and, and_false, Nat.reduceEqDiff, reduceIte, reduceCtorEq, and_true, true_and] using h9
  · have h9 := r_b0 R
    unfold Cb0
    simpa (disch := omega) only [sP_wI, nB_u, tk_ne9, tk_inj, if_false, if_true, false_and, and_false, Nat.reduceEqDiff, reduceIte, reduceCtorEq, and_true, true_and] using h9
  · have h9 := r_bn R
    unfold Cbn
    simpa (disch := omega) only [sI_wI, nB_u, tk_ne9, tk_inj, if_false, if_true, false_and, and_false, Nat.reduceEqDiff, reduceIte, reduceCtorEq, and_true, true_and] using h9
  · have h9 := r_bk R
    unfold Cbk
    simpa (disch := omega) only [sP_wI, nB_u, kd_u, tk_ne9, tk_inj, if_false, if_true, false_and, and_false, Nat.reduceEqDiff, reduceIte, reduceCtorEq, and_true, true_and] using h9
  · have h9 := r_b2 R
    unfold Cb2
    simpa (disch := omega) only [sI_wI, gI_uI, nB_u, tk_ne9, tk_inj, if_false, if_true, false_and, and_false, Nat.reduceEqDiff, reduceIte, reduceCtorEq, and_true, true_and] using h9
  · have h9 := r_b3 R
    unfold Cb3
    simpa (disch := omega) only [sI_wI, gI_uI, nB_u, tk_ne9, tk_inj, if_false, if_true, false_and, and_false, Nat.reduceEqDiff, reduceIte, reduceCtorEq, and_true, true_and] using h9
  · have h9 := r_b4 R
    unfold Cb4
    simpa (disch := omega) only [sI_wI, gI_uI, nB_u, tk_ne9, tk_inj, if_false, if_true, false_and, and_false, Nat.reduceEqDiff, reduceIte, reduceCtorEq, and_true, true_and] using h9
  · have h9 := r_b5 R
    unfold Cb5
    simpa (disch := omega) only [sI_wI, gI_uI, nB_u, tk_ne9, tk_inj, if_false, if_true, false_and, and_false, Nat.reduceEqDiff, reduceIte, reduceCtorEq, and_true, true_and] using h9
  · have h9 := r_b6 R
    unfold Cb6
    simpa (disch := omega) only [sI_wI, gI_uI, nB_u, tk_ne9, tk_inj, if_false, if_true, false_and, and_false, Nat.reduceEqDiff, reduceIte, reduceCtorEq, and_true, true_and] using h9
  · have h9 := r_b7 R
    unfold Cb7
    simpa (disch := omega) only [sI_wI, gI_uI, nB_u, tk_ne9, tk_inj, if_false, if_true, false_and, and_false, Nat.reduceEqDiff, reduceIte, reduceCtorEq, and_true, true_and] using h9
  · have h9 := r_b8 R
    unfold Cb8
    simpa (disch := omega) only [sI_wI, gI_uI, nB_u, tk_ne9, tk_inj, if_false, if_true, false_and, and_false, Nat.reduceEqDiff, reduceIte, reduceCtorEq, and_true, true_and] using h9
  · have h9 := r_b9 R
    unfold Cb9
    simpa (disch := omega) only [sI_wI, gI_uI, nB_u, tk_ne9, tk_inj, if_false, if_true, false_and, and_false, Nat.reduceEqDiff, reduceIte, reduceCtorEq, and_true, true_and] using h9
  · have h9 := r_b10 R
    unfold Cb10
    simpa (disch := omega) only [sI_wI, gI_uI, nB_u, tk_ne9, tk_inj, if_false, if_true, false_and, and_false, Nat.reduceEqDiff, reduceIte, reduceCtorEq, and_true, true_and] using h9
  · have h9 := r_b11 R
    unfold Cb11
    simpa (disch := omega) only [sL_wI, gL_uI, nB_u, tk_ne9, tk_inj, if_false, if_true, false_and, and_false, Nat.reduceEqDiff, reduceIte, reduceCtorEq, and_true, true_and] using h9
  · have h9 := r_bK R
    unfold CbK
    simpa (disch := omega) only [gI_uI, nB_u, kd_u, tk_ne9, tk_inj, if_false, if_true, false_and, and_false, Nat.reduceEqDiff, reduceIte, reduceCtorEq, and_true, true_and] using h9
  · have h9 := r_bP R
    unfold CbP
    simpa (disch := omega) only [gI_uI, nB_u, pc_u, tk_ne9, tk_inj, if_false, if_true, false_and, and_false, Nat.reduceEqDiff, reduceIte, reduceCtorEq, and_true, true_and] using h9
  · have h9 := r_bO R
    unfold CbO
    simpa (disch := omega) only [gI_uI, nB_u, op_u, tk_ne9, tk_inj, if_false, if_true, false_and, and_false, Nat.reduceEqDiff, reduceIte, reduceCtorEq, and_true, true_and] using h9
  · have h9 := r_bW R
    unfold CbW
    simpa (disch := omega) only [gI_uI, nB_u, nOp_u, kd_u, op_u, tk_ne9, tk_inj, if_false, if_true, false_and, and_false, Nat.reduceEqDiff, reduceIte, reduceCtorEq, and_true, true_and] using h9
  · have h9 := r_bZ R
    unfold CbZ
    simpa (disch := omega) only [gI_uI, nB_u, pc_u, tk_ne9, tk_inj, if_false, if_true, false_and, and_false, Nat.reduceEqDiff, reduceIte, reduceCtorEq, and_true, true_and] using h9
  · have h9 := r_bF R
    unfold CbF
    simpa (disch := omega) only [gI_uI, nB_u, tk_ne9, tk_inj, if_false, if_true, false_and, and_false, Nat.reduceEqDiff, reduceIte, reduceCtorEq, and_true, true_and] using h9
  · have h9 := r_bS R
    unfold CbS
    simpa (disch := omega) only [gI_uI, nB_u, tk_ne9, tk_inj, if_false, if_true, false_and, and_false, Nat.reduceEqDiff, reduceIte, reduceCtorEq, and_true, true_and] using h9
  · have h9 := r_bC R
    unfold CbC
    simpa (disch := omega) only [gI_uI, nB_u, tk_ne9, tk_inj, if_false, if_true, false_and, and_false, Nat.reduceEqDiff, reduceIte, reduceCtorEq, and_true, true_and] using h9
  · have h9 := r_bT R
    unfold CbT
    simpa (disch := omega) only [gI_uI, nB_u, tk_ne9, tk_inj, if_false, if_true, false_and, and_false, Nat.reduceEqDiff, reduceIte, reduceCtorEq, and_true, true_and] using h9
  · have h9 := r_bU R
    unfold CbU
    simpa (disch := omega) only [gI_uI, nB_u, kd_u, tk_ne9, tk_inj, if_false, if_true, false_and, and_false, Nat.reduceEqDiff, reduceIte, reduceCtorEq, and_true, true_and] using h9
  · have h9 := r_bq R
    unfold Cbq
    simpa (disch := omega) only [nB_u, totp_u, tk_ne9, tk_inj, if_false, if_true, false_and, and_false, Nat.reduceEqDiff, reduceIte, reduceCtorEq, and_true, true_and] using h9
  · unfold Cps
    intro he i hi
    rw [nO_u _ _ _ _ (by decide), nB_u _ _ _ _ (by decide), nInSt_u _ _ _ _ _ _ (by decide) (by decide) (by decide)]
    have h9 := r_ps R he i hi
    have h8 := nProm_51 (M := M) (r := r) (n := nO M) (k := i) (q := pr M r + m) (by omega) hr
    rw [h48] at h8
    by_cases c : i = k
    · subst c; rw [if_pos ⟨rfl, h52⟩, if_pos ⟨rfl, h52⟩] at h8; have := hps he; omega
    · rw [if_neg (fun z => c ((nI_eq (by omega) (by omega)).mp z.1).symm), if_neg (fun z => c ((nI_eq (by omega) (by omega)).mp z.1).symm)] at h8; omega
  · have h9 := r_bp R
    unfold Cbp
    simpa (disch := omega) only [gL_uI, nB_u, tk_ne9, tk_inj, if_false, if_true, false_and, and_false, Nat.reduceEqDiff, reduceIte, reduceCtorEq, and_true, true_and] using h9
  · have h9 := r_bc R
    unfold Cbc
    simpa (disch := omega) only [nB_u, hN_u, tot_u, tk_ne9, tk_inj, if_false, if_true, false_and, and_false, Nat.reduceEqDiff, reduceIte, reduceCtorEq, and_true, true_and] using h9
  · have h9 := r_fB R
    unfold CfB
    simpa (disch := omega) only [sX_wI, nB_u, tk_ne9, tk_inj, if_false, if_true, false_and, and_false, Nat.reduceEqDiff, reduceIte, reduceCtorEq, and_true, true_and] using h9
  · have h9 := r_fL R
    unfold CfL
    simpa (disch := omega) only [sX_wI, nLn_u, tk_ne9, tk_inj, if_false, if_true, false_and, and_false, Nat.reduceEqDiff, reduceIte, reduceCtorEq, and_true, true_and] using h9
  · have h9 := r_fO R
    unfold CfO
    simpa (disch := omega) only [sX_wI, nOp_u, tk_ne9, tk_inj, if_false, if_true, false_and, and_false, Nat.reduceEqDiff, reduceIte, reduceCtorEq, and_true, true_and] using h9
  · have h9 := r_fM R
    unfold CfM
    simpa (disch := omega) only [sX_wI, nM_u, tk_ne9, tk_inj, if_false, if_true, false_and, and_false, Nat.reduceEqDiff, reduceIte, reduceCtorEq, and_true, true_and] using h9
  · have h9 := r_fP R
    unfold CfP
    simpa (disch := omega) only [sX_wI, nP_u, tk_ne9, tk_inj, if_false, if_true, false_and, and_false, Nat.reduceEqDiff, reduceIte, reduceCtorEq, and_true, true_and] using h9
  · have h9 := r_fR R
    unfold CfR
    simpa (disch := omega) only [sX_wI, nO_u, tk_ne9, tk_inj, if_false, if_true, false_and, and_false, Nat.reduceEqDiff, reduceIte, reduceCtorEq, and_true, true_and] using h9
  · have h9 := r_fG R
    exact h9
  · have h9 := r_m0 R
    unfold Cm0
    simpa (disch := omega) only [sP_wI, nM_u, tk_ne9, tk_inj, if_false, if_true, false_and, and_false, Nat.reduceEqDiff, reduceIte, reduceCtorEq, and_true, true_and] using h9
  · have h9 := r_mn R
    unfold Cmn
    simpa (disch := omega) only [sI_wI, nM_u, tk_ne9, tk_inj, if_false, if_true, false_and, and_false, Nat.reduceEqDiff, reduceIte, reduceCtorEq, and_true, true_and] using h9
  · have h9 := r_m1 R
    unfold Cm1
    simpa (disch := omega) only [sI_wI, gI_uI, nM_u, tk_ne9, tk_inj, if_false, if_true, false_and, and_false, Nat.reduceEqDiff, reduceIte, reduceCtorEq, and_true, true_and] using h9
  · have h9 := r_m2 R
    unfold Cm2
    simpa (disch := omega) only [sI_wI, gI_uI, nM_u, tk_ne9, tk_inj, if_false, if_true, false_and, and_false, Nat.reduceEqDiff, reduceIte, reduceCtorEq, and_true, true_and] using h9
  · have h9 := r_m3 R
    unfold Cm3
    simpa (disch := omega) only [sI_wI, gI_uI, nM_u, tk_ne9, tk_inj, if_false, if_true, false_and, and_false, Nat.reduceEqDiff, reduceIte, reduceCtorEq, and_true, true_and] using h9
  · have h9 := r_m4 R
    unfold Cm4
    simpa (disch := omega) only [sI_wI, gI_uI, nM_u, tk_ne9, tk_inj, if_false, if_true, false_and, and_false, Nat.reduceEqDiff, reduceIte, reduceCtorEq, and_true, true_and] using h9
  · have h9 := r_m5 R
    unfold Cm5
    simpa (disch := omega) only [sI_wI, gI_uI, nM_u, tk_ne9, tk_inj, if_false, if_true, false_and, and_false, Nat.reduceEqDiff, reduceIte, reduceCtorEq, and_true, true_and] using h9
  · have h9 := r_m9 R
    unfold Cm9
    simpa (disch := omega) only [sI_wI, gI_uI, nM_u, tk_ne9, tk_inj, if_false, if_true, false_and, and_false, Nat.reduceEqDiff, reduceIte, reduceCtorEq, and_true, true_and] using h9
  · have h9 := r_m11 R
    unfold Cm11
    simpa (disch := omega) only [sI_wI, gI_uI, nM_u, tk_ne9, tk_inj, if_false, if_true, false_and, and_false, Nat.reduceEqDiff, reduceIte, reduceCtorEq, and_true, true_and] using h9
  · have h9 := r_m13 R
    unfold Cm13
    simpa (disch := omega) only [sI_wI, gI_uI, nM_u, tk_ne9, tk_inj, if_false, if_true, false_and, and_false, Nat.reduceEqDiff, reduceIte, reduceCtorEq, and_true, true_and] using h9
  · have h9 := r_m14 R
    unfold Cm14
    simpa (disch := omega) only [sI_wI, gI_uI, nM_u, tk_ne9, tk_inj, if_false, if_true, false_and, and_false, Nat.reduceEqDiff, reduceIte, reduceCtorEq, and_true, true_and] using h9
  · have h9 := r_m6 R
    unfold Cm6
    simpa (disch := omega) only [sP_wI, gI_uI, nM_u, tk_ne9, tk_inj, if_false, if_true, false_and, and_false, Nat.reduceEqDiff, reduceIte, reduceCtorEq, and_true, true_and] using h9
  · have h9 := r_m7 R
    unfold Cm7
    simpa (disch := omega) only [sP_wI, gI_uI, nM_u, tk_ne9, tk_inj, if_false, if_true, false_and, and_false, Nat.reduceEqDiff, reduceIte, reduceCtorEq, and_true, true_and] using h9
  · have h9 := r_m8 R
    unfold Cm8
    simpa (disch := omega) only [sP_wI, gI_uI, nM_u, tk_ne9, tk_inj, if_false, if_true, false_and, and_false, Nat.reduceEqDiff, reduceIte, reduceCtorEq, and_true, true_and] using h9
  · have h9 := r_m12 R
    unfold Cm12
    simpa (disch := omega) only [sP_wI, gI_uI, nM_u, tk_ne9, tk_inj, if_false, if_true, false_and, and_false, Nat.reduceEqDiff, reduceIte, reduceCtorEq, and_true, true_and] using h9
  · have h9 := r_m10 R
    unfold Cm10
    simpa (disch := omega) only [sI_wI, gI_uI, nB_u, nM_u, tk_ne9, tk_inj, if_false, if_true, false_and, and_false, Nat.reduceEqDiff, reduceIte, reduceCtorEq, and_true, true_and] using h9
  · have h9 := r_mma R
    unfold Cmma
    simpa (disch := omega) only [gI_uI, nM_u, tk_ne9, tk_inj, if_false, if_true, false_and, and_false, Nat.reduceEqDiff, reduceIte, reduceCtorEq, and_true, true_and] using h9
  · have h9 := r_mmb R
    unfold Cmmb
    simpa (disch := omega) only [gI_uI, nB_u, nM_u, nP_u, tk_ne9, tk_inj, if_false, if_true, false_and, and_false, Nat.reduceEqDiff, reduceIte, reduceCtorEq, and_true, true_and] using h9
  · have h9 := r_mmc R
    unfold Cmmc
    simpa (disch := omega) only [gI_uI, nM_u, tk_ne9, tk_inj, if_false, if_true, false_and, and_false, Nat.reduceEqDiff, reduceIte, reduceCtorEq, and_true, true_and] using h9
  · have h9 := r_mr29 R
    unfold Cmr29
    simpa (disch := omega) only [gI_uI, nM_u, tk_ne9, tk_inj, if_false, if_true, false_and, and_false, Nat.reduceEqDiff, reduceIte, reduceCtorEq, and_true, true_and] using h9
  · have h9 := r_mr30 R
    unfold Cmr30
    simpa (disch := omega) only [gI_uI, nM_u, tk_ne9, tk_inj, if_false, if_true, false_and, and_false, Nat.reduceEqDiff, reduceIte, reduceCtorEq, and_true, true_and] using h9
  · have h9 := r_mr31 R
    unfold Cmr31
    simpa (disch := omega) only [gI_uI, nM_u, tk_ne9, tk_inj, if_false, if_true, false_and, and_false, Nat.reduceEqDiff, reduceIte, reduceCtorEq, and_true, true_and] using h9
  · have h9 := r_mr32 R
    unfold Cmr32
    simpa (disch := omega) only [gI_uI, nM_u, tk_ne9, tk_inj, if_false, if_true, false_and, and_false, Nat.reduceEqDiff, reduceIte, reduceCtorEq, and_true, true_and] using h9
  · have h9 := r_mr35 R
    unfold Cmr35
    simpa (disch := omega) only [gI_uI, nM_u, tk_ne9, tk_inj, if_false, if_true, false_and, and_false, Nat.reduceEqDiff, reduceIte, reduceCtorEq, and_true, true_and] using h9
  · have h9 := r_mr39 R
    unfold Cmr39
    simpa (disch := omega) only [gI_uI, nM_u, tk_ne9, tk_inj, if_false, if_true, false_and, and_false, Nat.reduceEqDiff, reduceIte, reduceCtorEq, and_true, true_and] using h9
  · have h9 := r_mr40 R
    unfold Cmr40
    simpa (disch := omega) only [gI_uI, nM_u, tk_ne9, tk_inj, if_false, if_true, false_and, and_false, Nat.reduceEqDiff, reduceIte, reduceCtorEq, and_true, true_and] using h9
  · have h9 := r_md R
    unfold Cmd
    simpa (disch := omega) only [gI_uI, nM_u, tk_ne9, tk_inj, if_false, if_true, false_and, and_false, Nat.reduceEqDiff, reduceIte, reduceCtorEq, and_true, true_and] using h9
  · have h9 := r_mw R
    unfold Cmw
    simpa (disch := omega) only [gI_uI, nM_u, tk_ne9, tk_inj, if_false, if_true, false_and, and_false, Nat.reduceEqDiff, reduceIte, reduceCtorEq, and_true, true_and] using h9
  · have h9 := r_q0 R
    unfold Cq0
    simpa (disch := omega) only [sP_wI, nP_u, tk_ne9, tk_inj, if_false, if_true, false_and, and_false, Nat.reduceEqDiff, reduceIte, reduceCtorEq, and_true, true_and] using h9
  · have h9 := r_qn R
    unfold Cqn
    simpa (disch := omega) only [sI_wI, nP_u, tk_ne9, tk_inj, if_false, if_true, false_and, and_false, Nat.reduceEqDiff, reduceIte, reduceCtorEq, and_true, true_and] using h9
  · have h9 := r_q1 R
    unfold Cq1
    simpa (disch := omega) only [sI_wI, gI_uI, nP_u, tk_ne9, tk_inj, if_false, if_true, false_and, and_false, Nat.reduceEqDiff, reduceIte, reduceCtorEq, and_true, true_and] using h9
  · have h9 := r_q2 R
    unfold Cq2
    simpa (disch := omega) only [sI_wI, gI_uI, nP_u, tk_ne9, tk_inj, if_false, if_true, false_and, and_false, Nat.reduceEqDiff, reduceIte, reduceCtorEq, and_true, true_and] using h9
  · have h9 := r_q3 R
    unfold Cq3
    simpa (disch := omega) only [sI_wI, gI_uI, nP_u, tk_ne9, tk_inj, if_false, if_true, false_and, and_false, Nat.reduceEqDiff, reduceIte, reduceCtorEq, and_true, true_and] using h9
  · have h9 := r_q4 R
    unfold Cq4
    simpa (disch := omega) only [sP_wI, nP_u, tk_ne9, tk_inj, if_false, if_true, false_and, and_false, Nat.reduceEqDiff, reduceIte, reduceCtorEq, and_true, true_and] using h9
  · have h9 := r_q5 R
    unfold Cq5
    simpa (disch := omega) only [sP_wI, nP_u, tk_ne9, tk_inj, if_false, if_true, false_and, and_false, Nat.reduceEqDiff, reduceIte, reduceCtorEq, and_true, true_and] using h9
  · have h9 := r_q6 R
    unfold Cq6
    simpa (disch := omega) only [sI_wI, gI_uI, nM_u, nP_u, tk_ne9, tk_inj, if_false, if_true, false_and, and_false, Nat.reduceEqDiff, reduceIte, reduceCtorEq, and_true, true_and] using h9
  · have h9 := r_ql R
    unfold Cql
    simpa (disch := omega) only [sI_wI, gI_uI, nP_u, tk_ne9, tk_inj, if_false, if_true, false_and, and_false, Nat.reduceEqDiff, reduceIte, reduceCtorEq, and_true, true_and] using h9
  · have h9 := r_qw R
    unfold Cqw
    simpa (disch := omega) only [sI_wI, gI_uI, nP_u, tk_ne9, tk_inj, if_false, if_true, false_and, and_false, Nat.reduceEqDiff, reduceIte, reduceCtorEq, and_true, true_and] using h9
  · have h9 := r_qm R
    unfold Cqm
    simpa (disch := omega) only [gI_uI, nP_u, tk_ne9, tk_inj, if_false, if_true, false_and, and_false, Nat.reduceEqDiff, reduceIte, reduceCtorEq, and_true, true_and] using h9
  · have h9 := r_qr R
    unfold Cqr
    simpa (disch := omega) only [gI_uI, nP_u, tk_ne9, tk_inj, if_false, if_true, false_and, and_false, Nat.reduceEqDiff, reduceIte, reduceCtorEq, and_true, true_and] using h9
  · have h9 := r_r0 R
    unfold Cr0
    simpa (disch := omega) only [sP_wI, nO_u, tk_ne9, tk_inj, if_false, if_true, false_and, and_false, Nat.reduceEqDiff, reduceIte, reduceCtorEq, and_true, true_and] using h9
  · have h9 := r_r1 R
    unfold Cr1
    simpa (disch := omega) only [sP_wI, gI_uI, nO_u, tk_ne9, tk_inj, if_false, if_true, false_and, and_false, Nat.reduceEqDiff, reduceIte, reduceCtorEq, and_true, true_and] using h9
  · have h9 := r_r2 R
    unfold Cr2
    simpa (disch := omega) only [sI_wI, gI_uI, nO_u, tk_ne9, tk_inj, if_false, if_true, false_and, and_false, Nat.reduceEqDiff, reduceIte, reduceCtorEq, and_true, true_and] using h9
  · have h9 := r_r3 R
    unfold Cr3
    simpa (disch := omega) only [sI_wI, gI_uI, nO_u, tk_ne9, tk_inj, if_false, if_true, false_and, and_false, Nat.reduceEqDiff, reduceIte, reduceCtorEq, and_true, true_and] using h9
  · unfold Cr4
    intro x0_ h0
    have h9 := r_r4 R x0_ h0
    by_cases e1 : x0_ = r
    · subst e1
      (try simp (disch := omega) [sI_wI, sI_wP, sI_wL, sI_wN, sP_wI, sP_wP, sP_wL, sP_wN, sL_wI, sL_wP, sL_wL, sL_wN, sX_wI, sX_wP, sX_wL, sX_wN, gI_uI, gI_uL, gL_uI, gL_uL, tk_ne9, tk_inj, nB_u, nM_u, nP_u, nO_u, hN_u, nLn_u, nOp_u, lnP_u, pc_u, kd_u, op_u, pr_u, mInSt_u, mProm_u, nInSt_u, nProm_u, totp_u, tot_u, nB_l, nM_l, nP_l, nO_l, hN_l, nLn_l, nOp_l, lnP_l, pc_l, kd_l, op_l, pr_l, mInSt_l, mProm_l, nInSt_l, nProm_l, totp_l, tot_l, if_false, if_true, false_and, and_false, Nat.reduceEqDiff, reduceIte, reduceCtorEq, and_true, true_and]) <;> first | exact h9 | assumption | grind
    · (try simp (disch := omega) [sI_wI, sI_wP, sI_wL, sI_wN, sP_wI, sP_wP, sP_wL, sP_wN, sL_wI, sL_wP, sL_wL, sL_wN, sX_wI, sX_wP, sX_wL, sX_wN, gI_uI, gI_uL, gL_uI, gL_uL, tk_ne9, tk_inj, nB_u, nM_u, nP_u, nO_u, hN_u, nLn_u, nOp_u, lnP_u, pc_u, kd_u, op_u, pr_u, mInSt_u, mProm_u, nInSt_u, nProm_u, totp_u, tot_u, nB_l, nM_l, nP_l, nO_l, hN_l, nLn_l, nOp_l, lnP_l, pc_l, kd_l, op_l, pr_l, mInSt_l, mProm_l, nInSt_l, nProm_l, totp_l, tot_l, if_false, if_true, false_and, and_false, Nat.reduceEqDiff, reduceIte, reduceCtorEq, and_true, true_and, e1]) <;> first | exact h9 | assumption | grind
  · have h9 := r_r5 R
    unfold Cr5
    simpa (disch := omega) only [sP_wI, gI_uI, nO_u, tk_ne9, tk_inj, if_false, if_true, false_and, and_false, Nat.reduceEqDiff, reduceIte, reduceCtorEq, and_true, true_and] using h9
  · have h9 := r_r6 R
    unfold Cr6
    simpa (disch := omega) only [sI_wI, gI_uI, nO_u, tk_ne9, tk_inj, if_false, if_true, false_and, and_false, Nat.reduceEqDiff, reduceIte, reduceCtorEq, and_true, true_and] using h9
  · have h9 := r_rk R
    unfold Crk
    simpa (disch := omega) only [gI_uI, nO_u, tk_ne9, tk_inj, if_false, if_true, false_and, and_false, Nat.reduceEqDiff, reduceIte, reduceCtorEq, and_true, true_and] using h9
  · have h9 := r_rp R
    unfold Crp
    simpa (disch := omega) only [gI_uI, nO_u, tk_ne9, tk_inj, if_false, if_true, false_and, and_false, Nat.reduceEqDiff, reduceIte, reduceCtorEq, and_true, true_and] using h9
  · unfold Crq
    intro j hj
    rw [nO_u _ _ _ _ (by decide)] at hj
    by_cases c : j = r
    · subst c; rw [hpr, gI_uI, if_pos ⟨rfl, rfl⟩]
    · rw [gI_nj c, show pr (uI M 51 r (nI (pr M r + m))) j = pr M j by unfold pr; rw [gI_nj c]]; exact r_rq R j hj
  · unfold Crr
    intro j hj
    rw [nO_u _ _ _ _ (by decide)] at hj
    rw [gI_ne (by decide)]
    by_cases c : j = r
    · subst c; rw [hpr]; exact hm
    · rw [show pr (uI M 51 r (nI (pr M r + m))) j = pr M j by unfold pr; rw [gI_nj c]]; exact r_rr R j hj
  · have h9 := r_rs R
    unfold Crs
    simpa (disch := omega) only [gI_uI, nB_u, nO_u, tk_ne9, tk_inj, if_false, if_true, false_and, and_false, Nat.reduceEqDiff, reduceIte, reduceCtorEq, and_true, true_and] using h9
set_option maxHeartbeats 8000000 in
theorem rel_unprom {e : Nat} {a : Sg} {M : MS} (R : Rel e a M) (r k m : Nat) (hr : r < nO M) (hk : k < 12) (h48 : gI M 48 r = nI k) (h52 : gI M 52 r = -1) (hm : m ≤ pr M r) (he7 : e = 7) : Rel e (wI (wI a (tk 6 r) 3 (nI (pr M r - m))) (tk 2 k) 11 (sI a (tk 2 k) 11 - nI m)) (uI M 51 r (nI (pr M r - m))) := by
  have hq20 : (gI M 49 r).toNatClampNeg ≤ 20 := by obtain ⟨p, h1, h2, h3⟩ := r_rp R r hr; rw [h1, nI_clamp (by omega)]; exact h3
  have hpx := r_rr R r hr
  have hpr : pr (uI M 51 r (nI (pr M r - m))) r = pr M r - m := by unfold pr; rw [gI_uI, if_pos ⟨rfl, rfl⟩, nI_clamp (by unfold pr at hpx; omega)]
  unfold Rel
  refine ⟨?_, ?_, ?_, ?_, ?_, ?_, ?_, ?_, ?_, ?_, ?_, ?_, ?_, ?_, ?_, ?_, ?_, ?_, ?_, ?_, ?_, ?_, ?_, ?_, ?_, ?_, ?_, ?_, ?_, ?_, ?_, ?_, ?_, ?_, ?_, ?_, ?_, ?_, ?_, ?_, ?_, ?_, ?_, ?_, ?_, ?_, ?_, ?_, ?_, ?_, ?_, ?_, ?_, ?_, ?_, ?_, ?_, ?_, ?_, ?_, ?_, ?_, ?_, ?_, ?_, ?_, ?_, ?_, ?_, ?_, ?_, ?_, ?_, ?_, ?_, ?_, ?_, ?_, ?_, ?_, ?_, ?_, ?_, ?_, ?_, ?_, ?_, ?_, ?_, ?_, ?_, ?_, ?_, ?_, ?_, ?_, ?_, ?_, ?_, ?_, ?_, ?_, ?_, ?_, ?_, ?_, ?_, ?_, ?_, ?_, ?_, ?_, ?_, ?_, ?_, ?_, ?_, ?_, ?_, ?_, ?_, ?_, ?_, ?_, ?_, ?_, ?_, ?_, ?_, ?_, ?_, ?_, ?_, ?_, ?_, ?_, ?_, ?_, ?_, ?_, ?_, ?_, ?_, ?_, ?_, ?_, ?_, ?_, ?_⟩
  · have h9 := r_shm R
    exact h9
  · have h9 := r_px0 R
    exact h9
  · have h9 := r_px1 R
    exact h9
  · have h9 := r_px2 R
    exact h9
  · have h9 := r_pf0 R
    exact h9
  · have h9 := r_pf1 R
    exact h9
  · have h9 := r_pf3 R
    exact h9
  · have h9 := r_ps0 R
    exact h9
  · have h9 := r_ps2 R
    exact h9
  · have h9 := r_ps4 R
    exact h9
  · have h9 := r_pk R
    exact h9
  · have h9 := r_pkl R
    exact h9
  · have h9 := r_pko R
    exact h9
  · have h9 := r_ghour R
    unfold Cghour
    simpa (disch := omega) only [sI_wI, gI_uI, tk_ne9, tk_inj, if_false, if_true, false_and, and_false, Nat.reduceEqDiff, reduceIte, reduceCtorEq, and_true, true_and] using h9
  · have h9 := r_gstand R
    unfold Cgstand
    simpa (disch := omega) only [sI_wI, gI_uI, tk_ne9, tk_inj, if_false, if_true, false_and, and_false, Nat.reduceEqDiff, reduceIte, reduceCtorEq, and_true, true_and] using h9
  · have h9 := r_gbought R
    unfold Cgbought
    simpa (disch := omega) only [sI_wI, gI_uI, tk_ne9, tk_inj, if_false, if_true, false_and, and_false, Nat.reduceEqDiff, reduceIte, reduceCtorEq, and_true, true_and] using h9
  · have h9 := r_gmach R
    unfold Cgmach
    simpa (disch := omega) only [sI_wI, gI_uI, tk_ne9, tk_inj, if_false, if_true, false_and, and_false, Nat.reduceEqDiff, reduceIte, reduceCtorEq, and_true, true_and] using h9
  · have h9 := r_gpers R
    unfold Cgpers
    simpa (disch := omega) only [sI_wI, gI_uI, tk_ne9, tk_inj, if_false, if_true, false_and, and_false, Nat.reduceEqDiff, reduceIte, reduceCtorEq, and_true, true_and] using h9
  · have h9 := r_gworked R
    unfold Cgworked
    simpa (disch := omega) only [sI_wI, gI_uI, tk_ne9, tk_inj, if_false, if_true, false_and, and_false, Nat.reduceEqDiff, reduceIte, reduceCtorEq, and_true, true_and] using h9
  · have h9 := r_grep R
    unfold Cgrep
    simpa (disch := omega) only [sI_wI, gI_uI, tk_ne9, tk_inj, if_false, if_true, false_and, and_false, Nat.reduceEqDiff, reduceIte, reduceCtorEq, and_true, true_and] using h9
  · have h9 := r_gbat R
    unfold Cgbat
    simpa (disch := omega) only [sI_wI, gI_uI, tk_ne9, tk_inj, if_false, if_true, false_and, and_false, Nat.reduceEqDiff, reduceIte, reduceCtorEq, and_true, true_and] using h9
  · have h9 := r_gord R
    unfold Cgord
    simpa (disch := omega) only [sI_wI, gI_uI, tk_ne9, tk_inj, if_false, if_true, false_and, and_false, Nat.reduceEqDiff, reduceIte, reduceCtorEq, and_true, true_and] using h9
  · have h9 := r_gq R
    unfold Cgq
    simpa (disch := omega) only [sI_wI, gI_uI, tk_ne9, tk_inj, if_false, if_true, false_and, and_false, Nat.reduceEqDiff, reduceIte, reduceCtorEq, and_true, true_and] using h9
  · have h9 := r_nB R
    unfold CnB
    simpa (disch := omega) only [gI_uI, nB_u, tk_ne9, tk_inj, if_false, if_true, false_and, and_false, Nat.reduceEqDiff, reduceIte, reduceCtorEq, and_true, true_and] using h9
  · have h9 := r_nBx R
    unfold CnBx
    simpa (disch := omega) only [nB_u, tk_ne9, tk_inj, if_false, if_true, false_and, and_false, Nat.reduceEqDiff, reduceIte, reduceCtorEq, and_true, true_and] using h9
  · have h9 := r_nM R
    unfold CnM
    simpa (disch := omega) only [gI_uI, nM_u, tk_ne9, tk_inj, if_false, if_true, false_and, and_false, Nat.reduceEqDiff, reduceIte, reduceCtorEq, and_true, true_and] using h9
  · have h9 := r_nMx R
    unfold CnMx
    simpa (disch := omega) only [nM_u, tk_ne9, tk_inj, if_false, if_true, false_and, and_false, Nat.reduceEqDiff, reduceIte, reduceCtorEq, and_true, true_and] using h9
  · have h9 := r_nP R
    unfold CnP
    simpa (disch := omega) only [gI_uI, nP_u, tk_ne9, tk_inj, if_false, if_true, false_and, and_false, Nat.reduceEqDiff, reduceIte, reduceCtorEq, and_true, true_and] using h9
  · have h9 := r_nPx R
    unfold CnPx
    simpa (disch := omega) only [nP_u, tk_ne9, tk_inj, if_false, if_true, false_and, and_false, Nat.reduceEqDiff, reduceIte, reduceCtorEq, and_true, true_and] using h9
  · have h9 := r_nO R
    unfold CnO
    simpa (disch := omega) only [gI_uI, nO_u, tk_ne9, tk_inj, if_false, if_true, false_and, and_false, Nat.reduceEqDiff, reduceIte, reduceCtorEq, and_true, true_and] using h9
  · have h9 := r_nOx R
    unfold CnOx
    simpa (disch := omega) only [nO_u, tk_ne9, tk_inj, if_false, if_true, false_and, and_false, Nat.reduceEqDiff, reduceIte, reduceCtorEq, and_true, true_and] using h9
  · have h9 := r_hr R
    unfold Chr
    simpa (disch := omega) only [gI_uI, hN_u, tk_ne9, tk_inj, if_false, if_true, false_and, and_false, Nat.reduceEqDiff, reduceIte, reduceCtorEq, and_true, true_and] using h9
  · have h9 := r_hrx R
    unfold Chrx
    simpa (disch := omega) only [hN_u, tk_ne9, tk_inj, if_false, if_true, false_and, and_false, Nat.reduceEqDiff, reduceIte, reduceCtorEq, and_true, true_and] using h9
  · have h9 := r_stb R
    unfold Cstb
    simpa (disch := omega) only [gI_uI, tk_ne9, tk_inj, if_false, if_true, false_and, and_false, Nat.reduceEqDiff, reduceIte, reduceCtorEq, and_true, true_and] using h9
  · have h9 := r_ex R
    exact h9
  · have h9 := r_k0 R
    unfold Ck0
    simpa (disch := omega) only [sI_wI, tk_ne9, tk_inj, if_false, if_true, false_and, and_false, Nat.reduceEqDiff, reduceIte, reduceCtorEq, and_true, true_and] using h9
  · have h9 := r_k1 R
    unfold Ck1
    simpa (disch := omega) only [sI_wI, gI_uI, tk_ne9, tk_inj, if_false, if_true, false_and, and_false, Nat.reduceEqDiff, reduceIte, reduceCtorEq, and_true, true_and] using h9
  · have h9 := r_k2 R
    unfold Ck2
    simpa (disch := omega) only [sI_wI, gI_uI, tk_ne9, tk_inj, if_false, if_true, false_and, and_false, Nat.reduceEqDiff, reduceIte, reduceCtorEq, and_true, true_and] using h9
  · have h9 := r_k3 R
    unfold Ck3
    simpa (disch := omega) only [sI_wI, gI_uI, tk_ne9, tk_inj, if_false, if_true, false_and, and_false, Nat.reduceEqDiff, reduceIte, reduceCtorEq, and_true, true_and] using h9
  · have h9 := r_k5 R
    unfold Ck5
    simpa (disch := omega) only [sI_wI, gI_uI, tk_ne9, tk_inj, if_false, if_true, false_and, and_false, Nat.reduceEqDiff, reduceIte, reduceCtorEq, and_true, true_and] using h9
  · have h9 := r_k7 R
    unfold Ck7
    simpa (disch := omega) only [sI_wI, gI_uI, tk_ne9, tk_inj, if_false, if_true, false_and, and_false, Nat.reduceEqDiff, reduceIte, reduceCtorEq, and_true, true_and] using h9
  · have h9 := r_k8 R
    unfold Ck8
    simpa (disch := omega) only [sI_wI, gI_uI, tk_ne9, tk_inj, if_false, if_true, false_and, and_false, Nat.reduceEqDiff, reduceIte, reduceCtorEq, and_true, true_and] using h9
  · have h9 := r_k9 R
    unfold Ck9
    simpa (disch := omega) only [sI_wI, gI_uI, tk_ne9, tk_inj, if_false, if_true, false_and, and_false, Nat.reduceEqDiff, reduceIte, reduceCtorEq, and_true, true_and] using h9
  · have h9 := r_k10 R
    unfold Ck10
    simpa (disch := omega) only [sI_wI, nB_u, mInSt_u, tk_ne9, tk_inj, if_false, if_true, false_and, and_false, Nat.reduceEqDiff, reduceIte, reduceCtorEq, and_true, true_and] using h9
  · unfold Ck11
    intro i hi
    rw [nO_u _ _ _ _ (by decide), mProm_51 _ _ hr, h48]
    have h9 := r_k11 R i hi
    by_cases c : i = k
    · subst c
      rw [if_pos ⟨rfl, h52⟩, sI_wI, if_pos ⟨rfl, rfl⟩, h9, r_rq R r hr, ← nI_sub hm]
      grind
    · rw [if_neg (fun z => c ((nI_eq (by omega) (by omega)).mp z.1).symm), Int32.add_zero]
      simp [sI_wI, tk_ne9, tk_inj, c]
      exact h9
  · have h9 := r_k12 R
    unfold Ck12
    simpa (disch := omega) only [sI_wI, tk_ne9, tk_inj, if_false, if_true, false_and, and_false, Nat.reduceEqDiff, reduceIte, reduceCtorEq, and_true, true_and] using h9
  · have h9 := r_ksa R
    unfold Cksa
    simpa (disch := omega) only [gI_uI, tk_ne9, tk_inj, if_false, if_true, false_and, and_false, Nat.reduceEqDiff, reduceIte, reduceCtorEq, and_true, true_and] using h9
  · have h9 := r_ksb R
    unfold Cksb
    simpa (disch := omega) only [gI_uI, nOp_u, tk_ne9, tk_inj, if_false, if_true, false_and, and_false, Nat.reduceEqDiff, reduceIte, reduceCtorEq, and_true, true_and] using h9
  · have h9 := r_ksc R
    unfold Cksc
    simpa (disch := omega) only [gI_uI, nLn_u, nOp_u, tk_ne9, tk_inj, if_false, if_true, false_and, and_false, Nat.reduceEqDiff, reduceIte, reduceCtorEq, and_true, true_and] using h9
  · have h9 := r_kw R
    unfold Ckw
    simpa (disch := omega) only [gI_uI, tk_ne9, tk_inj, if_false, if_true, false_and, and_false, Nat.reduceEqDiff, reduceIte, reduceCtorEq, and_true, true_and] using h9
  · have h9 := r_kl R
    unfold Ckl
    simpa (disch := omega) only [gI_uI, nLn_u, tk_ne9, tk_inj, if_false, if_true, false_and, and_false, Nat.reduceEqDiff, reduceIte, reduceCtorEq, and_true, true_and] using h9
  · have h9 := r_ko R
    unfold Cko
    simpa (disch := omega) only [gI_uI, nOp_u, tk_ne9, tk_inj, if_false, if_true, false_and, and_false, Nat.reduceEqDiff, reduceIte, reduceCtorEq, and_true, true_and] using h9
  · have h9 := r_kp R
    unfold Ckp
    simpa (disch := omega) only [gI_uI, tk_ne9, tk_inj, if_false, if_true, false_and, and_false, Nat.reduceEqDiff, reduceIte, reduceCtorEq, and_true, true_and] using h9
  · have h9 := r_l0 R
    unfold Cl0
    simpa (disch := omega) only [sP_wI, nLn_u, tk_ne9, tk_inj, if_false, if_true, false_and, and_false, Nat.reduceEqDiff, reduceIte, reduceCtorEq, and_true, true_and] using h9
  · have h9 := r_l1 R
    unfold Cl1
    simpa (disch := omega) only [sP_wI, nLn_u, lnP_u, tk_ne9, tk_inj, if_false, if_true, false_and, and_false, Nat.reduceEqDiff, reduceIte, reduceCtorEq, and_true, true_and] using h9
  · have h9 := r_l2 R
    unfold Cl2
    simpa (disch := omega) only [sI_wI, gI_uI, nLn_u, tk_ne9, tk_inj, if_false, if_true, false_and, and_false, Nat.reduceEqDiff, reduceIte, reduceCtorEq, and_true, true_and] using h9
  · have h9 := r_l3 R
    unfold Cl3
    simpa (disch := omega) only [sP_wI, gI_uI, nLn_u, tk_ne9, tk_inj, if_false, if_true, false_and, and_false, Nat.reduceEqDiff, reduceIte, reduceCtorEq, and_true, true_and] using h9
  · have h9 := r_lm R
    unfold Clm
    simpa (disch := omega) only [gI_uI, nLn_u, lnP_u, tk_ne9, tk_inj, if_false, if_true, false_and, and_false, Nat.reduceEqDiff, reduceIte, reduceCtorEq, and_true, true_and] using h9
  · have h9 := r_o0 R
    unfold Co0
    simpa (disch := omega) only [sP_wI, nOp_u, tk_ne9, tk_inj, if_false, if_true, false_and, and_false, Nat.reduceEqDiff, reduceIte, reduceCtorEq, and_true, true_and] using h9
  · have h9 := r_o1 R
    unfold Co1
    simpa (disch := omega) only [sI_wI, gI_uI, nOp_u, tk_ne9, tk_inj, if_false, if_true, false_and, and_false, Nat.reduceEqDiff, reduceIte, reduceCtorEq, and_true, true_and] using h9
  · have h9 := r_o2 R
    unfold Co2
    simpa (disch := omega) only [sI_wI, gI_uI, nOp_u, tk_ne9, tk_inj, if_false, if_true, false_and, and_false, Nat.reduceEqDiff, reduceIte, reduceCtorEq, and_true, true_and] using h9
  · have h9 := r_o3 R
    unfold Co3
    simpa (disch := omega) only [sI_wI, gI_uI, nOp_u, tk_ne9, tk_inj, if_false, if_true, false_and, and_false, Nat.reduceEqDiff, reduceIte, reduceCtorEq, and_true, true_and] using h9
  · have h9 := r_om R
    unfold Com
    simpa (disch := omega) only [gI_uI, nOp_u, tk_ne9, tk_inj, if_false, if_true, false_and, and_false, Nat.reduceEqDiff, reduceIte, reduceCtorEq, and_true, true_and] using h9
  · have h9 := r_b0 R
    unfold Cb0
    simpa (disch := omega) only [sP_wI, nB_u, tk_ne9, tk_inj, if_false, if_true, false_and, and_false, Nat.reduceEqDiff, reduceIte, reduceCtorEq, and_true, true_and] using h9
  · have h9 := r_bn R
    unfold Cbn
    simpa (disch := omega) only [sI_wI, nB_u, tk_ne9, tk_inj, if_false, if_true, false_and, and_false, Nat.reduceEqDiff, reduceIte, reduceCtorEq, and_true, true_and] using h9
  · have h9 := r_bk R
    unfold Cbk
    simpa (disch := omega) only [sP_wI, nB_u, kd_u, tk_ne9, tk_inj, if_false, if_true, false_and, and_false, Nat.reduceEqDiff, reduceIte, reduceCtorEq, and_true, true_and] using h9
  · have h9 := r_b2 R
    unfold Cb2
    simpa (disch := omega) only [sI_wI, gI_uI, nB_u, tk_ne9, tk_inj, if_false, if_true, false_and, and_false, Nat.reduceEqDiff, reduceIte, reduceCtorEq, and_true, true_and] using h9
  · have h9 := r_b3 R
    unfold Cb3
    simpa (disch := omega) only [sI_wI, gI_uI, nB_u, tk_ne9, tk_inj, if_false, if_true, false_and, and_false, Nat.reduceEqDiff, reduceIte, reduceCtorEq, and_true, true_and] using h9
  · have h9 := r_b4 R
    unfold Cb4
    simpa (disch := omega) only [sI_wI, gI_uI, nB_u, tk_ne9, tk_inj, if_false, if_true, false_and, and_false, Nat.reduceEqDiff, reduceIte, reduceCtorEq, and_true, true_and] using h9
  · have h9 := r_b5 R
    unfold Cb5
    simpa (disch := omega) only [sI_wI, gI_uI, nB_u, tk_ne9, tk_inj, if_false, if_true, false_and, and_false, Nat.reduceEqDiff, reduceIte, reduceCtorEq, and_true, true_and] using h9
  · have h9 := r_b6 R
    unfold Cb6
    simpa (disch := omega) only [sI_wI, gI_uI, nB_u, tk_ne9, tk_inj, if_false, if_true, false_and, and_false, Nat.reduceEqDiff, reduceIte, reduceCtorEq, and_true, true_and] using h9
  · have h9 := r_b7 R
    unfold Cb7
    simpa (disch := omega) only [sI_wI, gI_uI, nB_u, tk_ne9, tk_inj, if_false, if_true, false_and, and_false, Nat.reduceEqDiff, reduceIte, reduceCtorEq, and_true, true_and] using h9
  · have h9 := r_b8 R
    unfold Cb8
    simpa (disch := omega) only [sI_wI, gI_uI, nB_u, tk_ne9, tk_inj, if_false, if_true, false_and, and_false, Nat.reduceEqDiff, reduceIte, reduceCtorEq, and_true, true_and] using h9
  · have h9 := r_b9 R
    unfold Cb9
    simpa (disch := omega) only [sI_wI, gI_uI, nB_u, tk_ne9, tk_inj, if_false, if_true, false_and, and_false, Nat.reduceEqDiff, reduceIte, reduceCtorEq, and_true, true_and] using h9
  · have h9 := r_b10 R
    unfold Cb10
    simpa (disch := omega) only [sI_wI, gI_uI, nB_u, tk_ne9, tk_inj, if_false, if_true, false_and, and_false, Nat.reduceEqDiff, reduceIte, reduceCtorEq, and_true, true_and] using h9
  · have h9 := r_b11 R
    unfold Cb11
    simpa (disch := omega) only [sL_wI, gL_uI, nB_u, tk_ne9, tk_inj, if_false, if_true, false_and, and_false, Nat.reduceEqDiff, reduceIte, reduceCtorEq, and_true, true_and] using h9
  · have h9 := r_bK R
    unfold CbK
    simpa (disch := omega) only [gI_uI, nB_u, kd_u, tk_ne9, tk_inj, if_false, if_true, false_and, and_false, Nat.reduceEqDiff, reduceIte, reduceCtorEq, and_true, true_and] using h9
  · have h9 := r_bP R
    unfold CbP
    simpa (disch := omega) only [gI_uI, nB_u, pc_u, tk_ne9, tk_inj, if_false, if_true, false_and, and_false, Nat.reduceEqDiff, reduceIte, reduceCtorEq, and_true, true_and] using h9
  · have h9 := r_bO R
    unfold CbO
    simpa (disch := omega) only [gI_uI, nB_u, op_u, tk_ne9, tk_inj, if_false, if_true, false_and, and_false, Nat.reduceEqDiff, reduceIte, reduceCtorEq, and_true, true_and] using h9
  · have h9 := r_bW R
    unfold CbW
    simpa (disch := omega) only [gI_uI, nB_u, nOp_u, kd_u, op_u, tk_ne9, tk_inj, if_false, if_true, false_and, and_false, Nat.reduceEqDiff, reduceIte, reduceCtorEq, and_true, true_and] using h9
  · have h9 := r_bZ R
    unfold CbZ
    simpa (disch := omega) only [gI_uI, nB_u, pc_u, tk_ne9, tk_inj, if_false, if_true, false_and, and_false, Nat.reduceEqDiff, reduceIte, reduceCtorEq, and_true, true_and] using h9
  · have h9 := r_bF R
    unfold CbF
    simpa (disch := omega) only [gI_uI, nB_u, tk_ne9, tk_inj, if_false, if_true, false_and, and_false, Nat.reduceEqDiff, reduceIte, reduceCtorEq, and_true, true_and] using h9
  · have h9 := r_bS R
    unfold CbS
    simpa (disch := omega) only [gI_uI, nB_u, tk_ne9, tk_inj, if_false, if_true, false_and, and_false, Nat.reduceEqDiff, reduceIte, reduceCtorEq, and_true, true_and] using h9
  · have h9 := r_bC R
    unfold CbC
    simpa (disch := omega) only [gI_uI, nB_u, tk_ne9, tk_inj, if_false, if_true, false_and, and_false, Nat.reduceEqDiff, reduceIte, reduceCtorEq, and_true, true_and] using h9
  · have h9 := r_bT R
    unfold CbT
    simpa (disch := omega) only [gI_uI, nB_u, tk_ne9, tk_inj, if_false, if_true, false_and, and_false, Nat.reduceEqDiff, reduceIte, reduceCtorEq, and_true, true_and] using h9
  · have h9 := r_bU R
    unfold CbU
    simpa (disch := omega) only [gI_uI, nB_u, kd_u, tk_ne9, tk_inj, if_false, if_true, false_and, and_false, Nat.reduceEqDiff, reduceIte, reduceCtorEq, and_true, true_and] using h9
  · have h9 := r_bq R
    unfold Cbq
    simpa (disch := omega) only [nB_u, totp_u, tk_ne9, tk_inj, if_false, if_true, false_and, and_false, Nat.reduceEqDiff, reduceIte, reduceCtorEq, and_true, true_and] using h9
  · unfold Cps
    intro he
    omega
  · have h9 := r_bp R
    unfold Cbp
    simpa (disch := omega) only [gL_uI, nB_u, tk_ne9, tk_inj, if_false, if_true, false_and, and_false, Nat.reduceEqDiff, reduceIte, reduceCtorEq, and_true, true_and] using h9
  · have h9 := r_bc R
    unfold Cbc
    simpa (disch := omega) only [nB_u, hN_u, tot_u, tk_ne9, tk_inj, if_false, if_true, false_and, and_false, Nat.reduceEqDiff, reduceIte, reduceCtorEq, and_true, true_and] using h9
  · have h9 := r_fB R
    unfold CfB
    simpa (disch := omega) only [sX_wI, nB_u, tk_ne9, tk_inj, if_false, if_true, false_and, and_false, Nat.reduceEqDiff, reduceIte, reduceCtorEq, and_true, true_and] using h9
  · have h9 := r_fL R
    unfold CfL
    simpa (disch := omega) only [sX_wI, nLn_u, tk_ne9, tk_inj, if_false, if_true, false_and, and_false, Nat.reduceEqDiff, reduceIte, reduceCtorEq, and_true, true_and] using h9
  · have h9 := r_fO R
    unfold CfO
    simpa (disch := omega) only [sX_wI, nOp_u, tk_ne9, tk_inj, if_false, if_true, false_and, and_false, Nat.reduceEqDiff, reduceIte, reduceCtorEq, and_true, true_and] using h9
  · have h9 := r_fM R
    unfold CfM
    simpa (disch := omega) only [sX_wI, nM_u, tk_ne9, tk_inj, if_false, if_true, false_and, and_false, Nat.reduceEqDiff, reduceIte, reduceCtorEq, and_true, true_and] using h9
  · have h9 := r_fP R
    unfold CfP
    simpa (disch := omega) only [sX_wI, nP_u, tk_ne9, tk_inj, if_false, if_true, false_and, and_false, Nat.reduceEqDiff, reduceIte, reduceCtorEq, and_true, true_and] using h9
  · have h9 := r_fR R
    unfold CfR
    simpa (disch := omega) only [sX_wI, nO_u, tk_ne9, tk_inj, if_false, if_true, false_and, and_false, Nat.reduceEqDiff, reduceIte, reduceCtorEq, and_true, true_and] using h9
  · have h9 := r_fG R
    exact h9
  · have h9 := r_m0 R
    unfold Cm0
    simpa (disch := omega) only [sP_wI, nM_u, tk_ne9, tk_inj, if_false, if_true, false_and, and_false, Nat.reduceEqDiff, reduceIte, reduceCtorEq, and_true, true_and] using h9
  · have h9 := r_mn R
    unfold Cmn
    simpa (disch := omega) only [sI_wI, nM_u, tk_ne9, tk_inj, if_false, if_true, false_and, and_false, Nat.reduceEqDiff, reduceIte, reduceCtorEq, and_true, true_and] using h9
  · have h9 := r_m1 R
    unfold Cm1
    simpa (disch := omega) only [sI_wI, gI_uI, nM_u, tk_ne9, tk_inj, if_false, if_true, false_and, and_false, Nat.reduceEqDiff, reduceIte, reduceCtorEq, and_true, true_and] using h9
  · have h9 := r_m2 R
    unfold Cm2
    simpa (disch := omega) only [sI_wI, gI_uI, nM_u, tk_ne9, tk_inj, if_false, if_true, false_and, and_false, Nat.reduceEqDiff, reduceIte, reduceCtorEq, and_true, true_and] using h9
  · have h9 := r_m3 R
    unfold Cm3
    simpa (disch := omega) only [sI_wI, gI_uI, nM_u, tk_ne9, tk_inj, if_false, if_true, false_and, and_false, Nat.reduceEqDiff, reduceIte, reduceCtorEq, and_true, true_and] using h9
  · have h9 := r_m4 R
    unfold Cm4
    simpa (disch := omega) only [sI_wI, gI_uI, nM_u, tk_ne9, tk_inj, if_false, if_true, false_and, and_false, Nat.reduceEqDiff, reduceIte, reduceCtorEq, and_true, true_and] using h9
  · have h9 := r_m5 R
    unfold Cm5
    simpa (disch := omega) only [sI_wI, gI_uI, nM_u, tk_ne9, tk_inj, if_false, if_true, false_and, and_false, Nat.reduceEqDiff, reduceIte, reduceCtorEq, and_true, true_and] using h9
  · have h9 := r_m9 R
    unfold Cm9
    simpa (disch := omega) only [sI_wI, gI_uI, nM_u, tk_ne9, tk_inj, if_false, if_true, false_and, and_false, Nat.reduceEqDiff, reduceIte, reduceCtorEq, and_true, true_and] using h9
  · have h9 := r_m11 R
    unfold Cm11
    simpa (disch := omega) only [sI_wI, gI_uI, nM_u, tk_ne9, tk_inj, if_false, if_true, false_and, and_false, Nat.reduceEqDiff, reduceIte, reduceCtorEq, and_true, true_and] using h9
  · have h9 := r_m13 R
    unfold Cm13
    simpa (disch := omega) only [sI_wI, gI_uI, nM_u, tk_ne9, tk_inj, if_false, if_true, false_and, and_false, Nat.reduceEqDiff, reduceIte, reduceCtorEq, and_true, true_and] using h9
  · have h9 := r_m14 R
    unfold Cm14
    simpa (disch := omega) only [sI_wI, gI_uI, nM_u, tk_ne9, tk_inj, if_false, if_true, false_and, and_false, Nat.reduceEqDiff, reduceIte, reduceCtorEq, and_true, true_and] using h9
  · have h9 := r_m6 R
    unfold Cm6
    simpa (disch := omega) only [sP_wI, gI_uI, nM_u, tk_ne9, tk_inj, if_false, if_true, false_and, and_false, Nat.reduceEqDiff, reduceIte, reduceCtorEq, and_true, true_and] using h9
  · have h9 := r_m7 R
    unfold Cm7
    simpa (disch := omega) only [sP_wI, gI_uI, nM_u, tk_ne9, tk_inj, if_false, if_true, false_and, and_false, Nat.reduceEqDiff, reduceIte, reduceCtorEq, and_true, true_and] using h9
  · have h9 := r_m8 R
    unfold Cm8
    simpa (disch := omega) only [sP_wI, gI_uI, nM_u, tk_ne9, tk_inj, if_false, if_true, false_and, and_false, Nat.reduceEqDiff, reduceIte, reduceCtorEq, and_true, true_and] using h9
  · have h9 := r_m12 R
    unfold Cm12
    simpa (disch := omega) only [sP_wI, gI_uI, nM_u, tk_ne9, tk_inj, if_false, if_true, false_and, and_false, Nat.reduceEqDiff, reduceIte, reduceCtorEq, and_true, true_and] using h9
  · have h9 := r_m10 R
    unfold Cm10
    simpa (disch := omega) only [sI_wI, gI_uI, nB_u, nM_u, tk_ne9, tk_inj, if_false, if_true, false_and, and_false, Nat.reduceEqDiff, reduceIte, reduceCtorEq, and_true, true_and] using h9
  · have h9 := r_mma R
    unfold Cmma
    simpa (disch := omega) only [gI_uI, nM_u, tk_ne9, tk_inj, if_false, if_true, false_and, and_false, Nat.reduceEqDiff, reduceIte, reduceCtorEq, and_true, true_and] using h9
  · have h9 := r_mmb R
    unfold Cmmb
    simpa (disch := omega) only [gI_uI, nB_u, nM_u, nP_u, tk_ne9, tk_inj, if_false, if_true, false_and, and_false, Nat.reduceEqDiff, reduceIte, reduceCtorEq, and_true, true_and] using h9
  · have h9 := r_mmc R
    unfold Cmmc
    simpa (disch := omega) only [gI_uI, nM_u, tk_ne9, tk_inj, if_false, if_true, false_and, and_false, Nat.reduceEqDiff, reduceIte, reduceCtorEq, and_true, true_and] using h9
  · have h9 := r_mr29 R
    unfold Cmr29
    simpa (disch := omega) only [gI_uI, nM_u, tk_ne9, tk_inj, if_false, if_true, false_and, and_false, Nat.reduceEqDiff, reduceIte, reduceCtorEq, and_true, true_and] using h9
  · have h9 := r_mr30 R
    unfold Cmr30
    simpa (disch := omega) only [gI_uI, nM_u, tk_ne9, tk_inj, if_false, if_true, false_and, and_false, Nat.reduceEqDiff, reduceIte, reduceCtorEq, and_true, true_and] using h9
  · have h9 := r_mr31 R
    unfold Cmr31
    simpa (disch := omega) only [gI_uI, nM_u, tk_ne9, tk_inj, if_false, if_true, false_and, and_false, Nat.reduceEqDiff, reduceIte, reduceCtorEq, and_true, true_and] using h9
  · have h9 := r_mr32 R
    unfold Cmr32
    simpa (disch := omega) only [gI_uI, nM_u, tk_ne9, tk_inj, if_false, if_true, false_and, and_false, Nat.reduceEqDiff, reduceIte, reduceCtorEq, and_true, true_and] using h9
  · have h9 := r_mr35 R
    unfold Cmr35
    simpa (disch := omega) only [gI_uI, nM_u, tk_ne9, tk_inj, if_false, if_true, false_and, and_false, Nat.reduceEqDiff, reduceIte, reduceCtorEq, and_true, true_and] using h9
  · have h9 := r_mr39 R
    unfold Cmr39
    simpa (disch := omega) only [gI_uI, nM_u, tk_ne9, tk_inj, if_false, if_true, false_and, and_false, Nat.reduceEqDiff, reduceIte, reduceCtorEq, and_true, true_and] using h9
  · have h9 := r_mr40 R
    unfold Cmr40
    simpa (disch := omega) only [gI_uI, nM_u, tk_ne9, tk_inj, if_false, if_true, false_and, and_false, Nat.reduceEqDiff, reduceIte, reduceCtorEq, and_true, true_and] using h9
  · have h9 := r_md R
    unfold Cmd
    simpa (disch := omega) only [gI_uI, nM_u, tk_ne9, tk_inj, if_false, if_true, false_and, and_false, Nat.reduceEqDiff, reduceIte, reduceCtorEq, and_true, true_and] using h9
  · have h9 := r_mw R
    unfold Cmw
    simpa (disch := omega) only [gI_uI, nM_u, tk_ne9, tk_inj, if_false, if_true, false_and, and_false, Nat.reduceEqDiff, reduceIte, reduceCtorEq, and_true, true_and] using h9
  · have h9 := r_q0 R
    unfold Cq0
    simpa (disch := omega) only [sP_wI, nP_u, tk_ne9, tk_inj, if_false, if_true, false_and, and_false, Nat.reduceEqDiff, reduceIte, reduceCtorEq, and_true, true_and] using h9
  · have h9 := r_qn R
    unfold Cqn
    simpa (disch := omega) only [sI_wI, nP_u, tk_ne9, tk_inj, if_false, if_true, false_and, and_false, Nat.reduceEqDiff, reduceIte, reduceCtorEq, and_true, true_and] using h9
  · have h9 := r_q1 R
    unfold Cq1
    simpa (disch := omega) only [sI_wI, gI_uI, nP_u, tk_ne9, tk_inj, if_false, if_true, false_and, and_false, Nat.reduceEqDiff, reduceIte, reduceCtorEq, and_true, true_and] using h9
  · have h9 := r_q2 R
    unfold Cq2
    simpa (disch := omega) only [sI_wI, gI_uI, nP_u, tk_ne9, tk_inj, if_false, if_true, false_and, and_false, Nat.reduceEqDiff, reduceIte, reduceCtorEq, and_true, true_and] using h9
  · have h9 := r_q3 R
    unfold Cq3
    simpa (disch := omega) only [sI_wI, gI_uI, nP_u, tk_ne9, tk_inj, if_false, if_true, false_and, and_false, Nat.reduceEqDiff, reduceIte, reduceCtorEq, and_true, true_and] using h9
  · have h9 := r_q4 R
    unfold Cq4
    simpa (disch := omega) only [sP_wI, nP_u, tk_ne9, tk_inj, if_false, if_true, false_and, and_false, Nat.reduceEqDiff, reduceIte, reduceCtorEq, and_true, true_and] using h9
  · have h9 := r_q5 R
    unfold Cq5
    simpa (disch := omega) only [sP_wI, nP_u, tk_ne9, tk_inj, if_false, if_true, false_and, and_false, Nat.reduceEqDiff, reduceIte, reduceCtorEq, and_true, true_and] using h9
  · have h9 := r_q6 R
    unfold Cq6
    simpa (disch := omega) only [sI_wI, gI_uI, nM_u, nP_u, tk_ne9, tk_inj, if_false, if_true, false_and, and_false, Nat.reduceEqDiff, reduceIte, reduceCtorEq, and_true, true_and] using h9
  · have h9 := r_ql R
    unfold Cql
    simpa (disch := omega) only [sI_wI, gI_uI, nP_u, tk_ne9, tk_inj, if_false, if_true, false_and, and_false, Nat.reduceEqDiff, reduceIte, reduceCtorEq, and_true, true_and] using h9
  · have h9 := r_qw R
    unfold Cqw
    simpa (disch := omega) only [sI_wI, gI_uI, nP_u, tk_ne9, tk_inj, if_false, if_true, false_and, and_false, Nat.reduceEqDiff, reduceIte, reduceCtorEq, and_true, true_and] using h9
  · have h9 := r_qm R
    unfold Cqm
    simpa (disch := omega) only [gI_uI, nP_u, tk_ne9, tk_inj, if_false, if_true, false_and, and_false, Nat.reduceEqDiff, reduceIte, reduceCtorEq, and_true, true_and] using h9
  · have h9 := r_qr R
    unfold Cqr
    simpa (disch := omega) only [gI_uI, nP_u, tk_ne9, tk_inj, if_false, if_true, false_and, and_false, Nat.reduceEqDiff, reduceIte, reduceCtorEq, and_true, true_and] using h9
  · have h9 := r_r0 R
    unfold Cr0
    simpa (disch := omega) only [sP_wI, nO_u, tk_ne9, tk_inj, if_false, if_true, false_and, and_false, Nat.reduceEqDiff, reduceIte, reduceCtorEq, and_true, true_and] using h9
  · have h9 := r_r1 R
    unfold Cr1
    simpa (disch := omega) only [sP_wI, gI_uI, nO_u, tk_ne9, tk_inj, if_false, if_true, false_and, and_false, Nat.reduceEqDiff, reduceIte, reduceCtorEq, and_true, true_and] using h9
  · have h9 := r_r2 R
    unfold Cr2
    simpa (disch := omega) only [sI_wI, gI_uI, nO_u, tk_ne9, tk_inj, if_false, if_true, false_and, and_false, Nat.reduceEqDiff, reduceIte, reduceCtorEq, and_true, true_and] using h9
  · have h9 := r_r3 R
    unfold Cr3
    simpa (disch := omega) only [sI_wI, gI_uI, nO_u, tk_ne9, tk_inj, if_false, if_true, false_and, and_false, Nat.reduceEqDiff, reduceIte, reduceCtorEq, and_true, true_and] using h9
  · unfold Cr4
    intro x0_ h0
    have h9 := r_r4 R x0_ h0
    by_cases e1 : x0_ = r
    · subst e1
      (try simp (disch := omega) [sI_wI, sI_wP, sI_wL, sI_wN, sP_wI, sP_wP, sP_wL, sP_wN, sL_wI, sL_wP, sL_wL, sL_wN, sX_wI, sX_wP, sX_wL, sX_wN, gI_uI, gI_uL, gL_uI, gL_uL, tk_ne9, tk_inj, nB_u, nM_u, nP_u, nO_u, hN_u, nLn_u, nOp_u, lnP_u, pc_u, kd_u, op_u, pr_u, mInSt_u, mProm_u, nInSt_u, nProm_u, totp_u, tot_u, nB_l, nM_l, nP_l, nO_l, hN_l, nLn_l, nOp_l, lnP_l, pc_l, kd_l, op_l, pr_l, mInSt_l, mProm_l, nInSt_l, nProm_l, totp_l, tot_l, if_false, if_true, false_and, and_false, Nat.reduceEqDiff, reduceIte, reduceCtorEq, and_true, true_and]) <;> first | exact h9 | assumption | grind
    · (try simp (disch := omega) [sI_wI, sI_wP, sI_wL, sI_wN, sP_wI, sP_wP, sP_wL, sP_wN, sL_wI, sL_wP, sL_wL, sL_wN, sX_wI, sX_wP, sX_wL, sX_wN, gI_uI, gI_uL, gL_uI, gL_uL, tk_ne9, tk_inj, nB_u, nM_u, nP_u, nO_u, hN_u, nLn_u, nOp_u, lnP_u, pc_u, kd_u, op_u, pr_u, mInSt_u, mProm_u, nInSt_u, nProm_u, totp_u, tot_u, nB_l, nM_l, nP_l, nO_l, hN_l, nLn_l, nOp_l, lnP_l, pc_l, kd_l, op_l, pr_l, mInSt_l, mProm_l, nInSt_l, nProm_l, totp_l, tot_l, if_false, if_true, false_and, and_false, Nat.reduceEqDiff, reduceIte, reduceCtorEq, and_true, true_and, e1]) <;> first | exact h9 | assumption | grind
  · have h9 := r_r5 R
    unfold Cr5
    simpa (disch := omega) only [sP_wI, gI_uI, nO_u, tk_ne9, tk_inj, if_false, if_true, false_and, and_false, Nat.reduceEqDiff, reduceIte, reduceCtorEq, and_true, true_and] using h9
  · have h9 := r_r6 R
    unfold Cr6
    simpa (disch := omega) only [sI_wI, gI_uI, nO_u, tk_ne9, tk_inj, if_false, if_true, false_and, and_false, Nat.reduceEqDiff, reduceIte, reduceCtorEq, and_true, true_and] using h9
  · have h9 := r_rk R
    unfold Crk
    simpa (disch := omega) only [gI_uI, nO_u, tk_ne9, tk_inj, if_false, if_true, false_and, and_false, Nat.reduceEqDiff, reduceIte, reduceCtorEq, and_true, true_and] using h9
  · have h9 := r_rp R
    unfold Crp
    simpa (disch := omega) only [gI_uI, nO_u, tk_ne9, tk_inj, if_false, if_true, false_and, and_false, Nat.reduceEqDiff, reduceIte, reduceCtorEq, and_true, true_and] using h9
  · unfold Crq
    intro j hj
    rw [nO_u _ _ _ _ (by decide)] at hj
    by_cases c : j = r
    · subst c; rw [hpr, gI_uI, if_pos ⟨rfl, rfl⟩]
    · rw [gI_nj c, show pr (uI M 51 r (nI (pr M r - m))) j = pr M j by unfold pr; rw [gI_nj c]]; exact r_rq R j hj
  · unfold Crr
    intro j hj
    rw [nO_u _ _ _ _ (by decide)] at hj
    rw [gI_ne (by decide)]
    by_cases c : j = r
    · subst c; rw [hpr]; have := r_rr R j hr; omega
    · rw [show pr (uI M 51 r (nI (pr M r - m))) j = pr M j by unfold pr; rw [gI_nj c]]; exact r_rr R j hj
  · have h9 := r_rs R
    unfold Crs
    simpa (disch := omega) only [gI_uI, nB_u, nO_u, tk_ne9, tk_inj, if_false, if_true, false_and, and_false, Nat.reduceEqDiff, reduceIte, reduceCtorEq, and_true, true_and] using h9
set_option maxHeartbeats 8000000 in
theorem rel_ship {e : Nat} {a : Sg} {M : MS} (R : Rel e a M) (r k j : Nat) (hr : r < nO M) (hj : j < nB M) (hk : k < 12) (h48 : gI M 48 r = nI k) (h52 : gI M 52 r = -1) (he7 : e = 7) : Rel e (wI (wP (wI a (tk 2 k) 11 (sI a (tk 2 k) 11 - sI a (tk 6 r) 3)) (tk 6 r) 4 (some (tk 0 j))) (tk 6 r) 5 (gI M 255 0)) (uI (uI M 52 r (nI j)) 53 r (gI M 255 0)) := by
  have hB := r_nBx R
  unfold Rel
  refine ⟨?_, ?_, ?_, ?_, ?_, ?_, ?_, ?_, ?_, ?_, ?_, ?_, ?_, ?_, ?_, ?_, ?_, ?_, ?_, ?_, ?_, ?_, ?_, ?_, ?_, ?_, ?_, ?_, ?_, ?_, ?_, ?_, ?_, ?_, ?_, ?_, ?_, ?_, ?_, ?_, ?_, ?_, ?_, ?_, ?_, ?_, ?_, ?_, ?_, ?_, ?_, ?_, ?_, ?_, ?_, ?_, ?_, ?_, ?_, ?_, ?_, ?_, ?_, ?_, ?_, ?_, ?_, ?_, ?_, ?_, ?_, ?_, ?_, ?_, ?_, ?_, ?_, ?_, ?_, ?_, ?_, ?_, ?_, ?_, ?_, ?_, ?_, ?_, ?_, ?_, ?_, ?_, ?_, ?_, ?_, ?_, ?_, ?_, ?_, ?_, ?_, ?_, ?_, ?_, ?_, ?_, ?_, ?_, ?_, ?_, ?_, ?_, ?_, ?_, ?_, ?_, ?_, ?_, ?_, ?_, ?_, ?_, ?_, ?_, ?_, ?_, ?_, ?_, ?_, ?_, ?_, ?_, ?_, ?_, ?_, ?_, ?_, ?_, ?_, ?_, ?_, ?_, ?_, ?_, ?_, ?_, ?_, ?_, ?_⟩
  · have h9 := r_shm R
    unfold Cshm
    simpa (disch := omega) only [sP_wI, sP_wP, tk_ne9, tk_inj, if_false, if_true, false_and, and_false, Nat.reduceEqDiff, reduceIte, reduceCtorEq, and_true, true_and] using h9
  · have h9 := r_px0 R
    unfold Cpx0
    simpa (disch := omega) only [sP_wI, sP_wP, tk_ne9, tk_inj, if_false, if_true, false_and, and_false, Nat.reduceEqDiff, reduceIte, reduceCtorEq, and_true, true_and] using h9
  · have h9 := r_px1 R
    unfold Cpx1
    simpa (disch := omega) only [sP_wI, sP_wP, tk_ne9, tk_inj, if_false, if_true, false_and, and_false, Nat.reduceEqDiff, reduceIte, reduceCtorEq, and_true, true_and] using h9
  · have h9 := r_px2 R
    unfold Cpx2
    simpa (disch := omega) only [sP_wI, sP_wP, tk_ne9, tk_inj, if_false, if_true, false_and, and_false, Nat.reduceEqDiff, reduceIte, reduceCtorEq, and_true, true_and] using h9
  · have h9 := r_pf0 R
    unfold Cpf0
    simpa (disch := omega) only [sP_wI, sP_wP, tk_ne9, tk_inj, if_false, if_true, false_and, and_false, Nat.reduceEqDiff, reduceIte, reduceCtorEq, and_true, true_and] using h9
  · have h9 := r_pf1 R
    unfold Cpf1
    simpa (disch := omega) only [sP_wI, sP_wP, tk_ne9, tk_inj, if_false, if_true, false_and, and_false, Nat.reduceEqDiff, reduceIte, reduceCtorEq, and_true, true_and] using h9
  · have h9 := r_pf3 R
    unfold Cpf3
    simpa (disch := omega) only [sP_wI, sP_wP, tk_ne9, tk_inj, if_false, if_true, false_and, and_false, Nat.reduceEqDiff, reduceIte, reduceCtorEq, and_true, true_and] using h9
  · have h9 := r_ps0 R
    unfold Cps0
    simpa (disch := omega) only [sP_wI, sP_wP, tk_ne9, tk_inj, if_false, if_true, false_and, and_false, Nat.reduceEqDiff, reduceIte, reduceCtorEq, and_true, true_and] using h9
  · have h9 := r_ps2 R
    unfold Cps2
    simpa (disch := omega) only [sP_wI, sP_wP, tk_ne9, tk_inj, if_false, if_true, false_and, and_false, Nat.reduceEqDiff, reduceIte, reduceCtorEq, and_true, true_and] using h9
  · have h9 := r_ps4 R
    unfold Cps4
    simpa (disch := omega) only [sP_wI, sP_wP, tk_ne9, tk_inj, if_false, if_true, false_and, and_false, Nat.reduceEqDiff, reduceIte, reduceCtorEq, and_true, true_and] using h9
  · have h9 := r_pk R
    unfold Cpk
    simpa (disch := omega) only [sP_wI, sP_wP, tk_ne9, tk_inj, if_false, if_true, false_and, and_false, Nat.reduceEqDiff, reduceIte, reduceCtorEq, and_true, true_and] using h9
  · have h9 := r_pkl R
    unfold Cpkl
    simpa (disch := omega) only [sP_wI, sP_wP, tk_ne9, tk_inj, if_false, if_true, false_and, and_false, Nat.reduceEqDiff, reduceIte, reduceCtorEq, and_true, true_and] using h9
  · have h9 := r_pko R
    unfold Cpko
    simpa (disch := omega) only [sP_wI, sP_wP, tk_ne9, tk_inj, if_false, if_true, false_and, and_false, Nat.reduceEqDiff, reduceIte, reduceCtorEq, and_true, true_and] using h9
  · have h9 := r_ghour R
    unfold Cghour
    simpa (disch := omega) only [sI_wI, sI_wP, gI_uI, tk_ne9, tk_inj, if_false, if_true, false_and, and_false, Nat.reduceEqDiff, reduceIte, reduceCtorEq, and_true, true_and] using h9
  · have h9 := r_gstand R
    unfold Cgstand
    simpa (disch := omega) only [sI_wI, sI_wP, gI_uI, tk_ne9, tk_inj, if_false, if_true, false_and, and_false, Nat.reduceEqDiff, reduceIte, reduceCtorEq, and_true, true_and] using h9
  · have h9 := r_gbought R
    unfold Cgbought
    simpa (disch := omega) only [sI_wI, sI_wP, gI_uI, tk_ne9, tk_inj, if_false, if_true, false_and, and_false, Nat.reduceEqDiff, reduceIte, reduceCtorEq, and_true, true_and] using h9
  · have h9 := r_gmach R
    unfold Cgmach
    simpa (disch := omega) only [sI_wI, sI_wP, gI_uI, tk_ne9, tk_inj, if_false, if_true, false_and, and_false, Nat.reduceEqDiff, reduceIte, reduceCtorEq, and_true, true_and] using h9
  · have h9 := r_gpers R
    unfold Cgpers
    simpa (disch := omega) only [sI_wI, sI_wP, gI_uI, tk_ne9, tk_inj, if_false, if_true, false_and, and_false, Nat.reduceEqDiff, reduceIte, reduceCtorEq, and_true, true_and] using h9
  · have h9 := r_gworked R
    unfold Cgworked
    simpa (disch := omega) only [sI_wI, sI_wP, gI_uI, tk_ne9, tk_inj, if_false, if_true, false_and, and_false, Nat.reduceEqDiff, reduceIte, reduceCtorEq, and_true, true_and] using h9
  · have h9 := r_grep R
    unfold Cgrep
    simpa (disch := omega) only [sI_wI, sI_wP, gI_uI, tk_ne9, tk_inj, if_false, if_true, false_and, and_false, Nat.reduceEqDiff, reduceIte, reduceCtorEq, and_true, true_and] using h9
  · have h9 := r_gbat R
    unfold Cgbat
    simpa (disch := omega) only [sI_wI, sI_wP, gI_uI, tk_ne9, tk_inj, if_false, if_true, false_and, and_false, Nat.reduceEqDiff, reduceIte, reduceCtorEq, and_true, true_and] using h9
  · have h9 := r_gord R
    unfold Cgord
    simpa (disch := omega) only [sI_wI, sI_wP, gI_uI, tk_ne9, tk_inj, if_false, if_true, false_and, and_false, Nat.reduceEqDiff, reduceIte, reduceCtorEq, and_true, true_and] using h9
  · have h9 := r_gq R
    unfold Cgq
    simpa (disch := omega) only [sI_wI, sI_wP, gI_uI, tk_ne9, tk_inj, if_false, if_true, false_and, and_false, Nat.reduceEqDiff, reduceIte, reduceCtorEq, and_true, true_and] using h9
  · have h9 := r_nB R
    unfold CnB
    simpa (disch := omega) only [gI_uI, nB_u, tk_ne9, tk_inj, if_false, if_true, false_and, and_false, Nat.reduceEqDiff, reduceIte, reduceCtorEq, and_true, true_and] using h9
  · have h9 := r_nBx R
    unfold CnBx
    simpa (disch := omega) only [nB_u, tk_ne9, tk_inj, if_false, if_true, false_and, and_false, Nat.reduceEqDiff, reduceIte, reduceCtorEq, and_true, true_and] using h9
  · have h9 := r_nM R
    unfold CnM
    simpa (disch := omega) only [gI_uI, nM_u, tk_ne9, tk_inj, if_false, if_true, false_and, and_false, Nat.reduceEqDiff, reduceIte, reduceCtorEq, and_true, true_and] using h9
  · have h9 := r_nMx R
    unfold CnMx
    simpa (disch := omega) only [nM_u, tk_ne9, tk_inj, if_false, if_true, false_and, and_false, Nat.reduceEqDiff, reduceIte, reduceCtorEq, and_true, true_and] using h9
  · have h9 := r_nP R
    unfold CnP
    simpa (disch := omega) only [gI_uI, nP_u, tk_ne9, tk_inj, if_false, if_true, false_and, and_false, Nat.reduceEqDiff, reduceIte, reduceCtorEq, and_true, true_and] using h9
  · have h9 := r_nPx R
    unfold CnPx
    simpa (disch := omega) only [nP_u, tk_ne9, tk_inj, if_false, if_true, false_and, and_false, Nat.reduceEqDiff, reduceIte, reduceCtorEq, and_true, true_and] using h9
  · have h9 := r_nO R
    unfold CnO
    simpa (disch := omega) only [gI_uI, nO_u, tk_ne9, tk_inj, if_false, if_true, false_and, and_false, Nat.reduceEqDiff, reduceIte, reduceCtorEq, and_true, true_and] using h9
  · have h9 := r_nOx R
    unfold CnOx
    simpa (disch := omega) only [nO_u, tk_ne9, tk_inj, if_false, if_true, false_and, and_false, Nat.reduceEqDiff, reduceIte, reduceCtorEq, and_true, true_and] using h9
  · have h9 := r_hr R
    unfold Chr
    simpa (disch := omega) only [gI_uI, hN_u, tk_ne9, tk_inj, if_false, if_true, false_and, and_false, Nat.reduceEqDiff, reduceIte, reduceCtorEq, and_true, true_and] using h9
  · have h9 := r_hrx R
    unfold Chrx
    simpa (disch := omega) only [hN_u, tk_ne9, tk_inj, if_false, if_true, false_and, and_false, Nat.reduceEqDiff, reduceIte, reduceCtorEq, and_true, true_and] using h9
  · have h9 := r_stb R
    unfold Cstb
    simpa (disch := omega) only [gI_uI, tk_ne9, tk_inj, if_false, if_true, false_and, and_false, Nat.reduceEqDiff, reduceIte, reduceCtorEq, and_true, true_and] using h9
  · have h9 := r_ex R
    exact h9
  · have h9 := r_k0 R
    unfold Ck0
    simpa (disch := omega) only [sI_wI, sI_wP, tk_ne9, tk_inj, if_false, if_true, false_and, and_false, Nat.reduceEqDiff, reduceIte, reduceCtorEq, and_true, true_and] using h9
  · have h9 := r_k1 R
    unfold Ck1
    simpa (disch := omega) only [sI_wI, sI_wP, gI_uI, tk_ne9, tk_inj, if_false, if_true, false_and, and_false, Nat.reduceEqDiff, reduceIte, reduceCtorEq, and_true, true_and] using h9
  · have h9 := r_k2 R
    unfold Ck2
    simpa (disch := omega) only [sI_wI, sI_wP, gI_uI, tk_ne9, tk_inj, if_false, if_true, false_and, and_false, Nat.reduceEqDiff, reduceIte, reduceCtorEq, and_true, true_and] using h9
  · have h9 := r_k3 R
    unfold Ck3
    simpa (disch := omega) only [sI_wI, sI_wP, gI_uI, tk_ne9, tk_inj, if_false, if_true, false_and, and_false, Nat.reduceEqDiff, reduceIte, reduceCtorEq, and_true, true_and] using h9
  · have h9 := r_k5 R
    unfold Ck5
    simpa (disch := omega) only [sI_wI, sI_wP, gI_uI, tk_ne9, tk_inj, if_false, if_true, false_and, and_false, Nat.reduceEqDiff, reduceIte, reduceCtorEq, and_true, true_and] using h9
  · have h9 := r_k7 R
    unfold Ck7
    simpa (disch := omega) only [sI_wI, sI_wP, gI_uI, tk_ne9, tk_inj, if_false, if_true, false_and, and_false, Nat.reduceEqDiff, reduceIte, reduceCtorEq, and_true, true_and] using h9
  · have h9 := r_k8 R
    unfold Ck8
    simpa (disch := omega) only [sI_wI, sI_wP, gI_uI, tk_ne9, tk_inj, if_false, if_true, false_and, and_false, Nat.reduceEqDiff, reduceIte, reduceCtorEq, and_true, true_and] using h9
  · have h9 := r_k9 R
    unfold Ck9
    simpa (disch := omega) only [sI_wI, sI_wP, gI_uI, tk_ne9, tk_inj, if_false, if_true, false_and, and_false, Nat.reduceEqDiff, reduceIte, reduceCtorEq, and_true, true_and] using h9
  · have h9 := r_k10 R
    unfold Ck10
    simpa (disch := omega) only [sI_wI, sI_wP, nB_u, mInSt_u, tk_ne9, tk_inj, if_false, if_true, false_and, and_false, Nat.reduceEqDiff, reduceIte, reduceCtorEq, and_true, true_and] using h9
  · unfold Ck11
    intro i hi
    have h9 := r_k11 R i hi
    have g4 := r_r4 R r hr
    rw [nO_u _ _ _ _ (by decide), nO_u _ _ _ _ (by decide), mProm_u _ _ _ _ _ _ (by decide) (by decide) (by decide), mProm_52 _ _ hr (nI_ne1 (by omega)) h52, h48]
    by_cases c : i = k
    · subst c
      rw [if_pos rfl]
      simp [sI_wI, sI_wP, tk_ne9]
      rw [h9, g4]
    · rw [if_neg (fun z => c ((nI_eq (by omega) (by omega)).mp z).symm), Int32.sub_zero]
      simp [sI_wI, sI_wP, tk_ne9, tk_inj, c]
      exact h9
  · have h9 := r_k12 R
    unfold Ck12
    simpa (disch := omega) only [sI_wI, sI_wP, tk_ne9, tk_inj, if_false, if_true, false_and, and_false, Nat.reduceEqDiff, reduceIte, reduceCtorEq, and_true, true_and] using h9
  · have h9 := r_ksa R
    unfold Cksa
    simpa (disch := omega) only [gI_uI, tk_ne9, tk_inj, if_false, if_true, false_and, and_false, Nat.reduceEqDiff, reduceIte, reduceCtorEq, and_true, true_and] using h9
  · have h9 := r_ksb R
    unfold Cksb
    simpa (disch := omega) only [gI_uI, nOp_u, tk_ne9, tk_inj, if_false, if_true, false_and, and_false, Nat.reduceEqDiff, reduceIte, reduceCtorEq, and_true, true_and] using h9
  · have h9 := r_ksc R
    unfold Cksc
    simpa (disch := omega) only [gI_uI, nLn_u, nOp_u, tk_ne9, tk_inj, if_false, if_true, false_and, and_false, Nat.reduceEqDiff, reduceIte, reduceCtorEq, and_true, true_and] using h9
  · have h9 := r_kw R
    unfold Ckw
    simpa (disch := omega) only [gI_uI, tk_ne9, tk_inj, if_false, if_true, false_and, and_false, Nat.reduceEqDiff, reduceIte, reduceCtorEq, and_true, true_and] using h9
  · have h9 := r_kl R
    unfold Ckl
    simpa (disch := omega) only [gI_uI, nLn_u, tk_ne9, tk_inj, if_false, if_true, false_and, and_false, Nat.reduceEqDiff, reduceIte, reduceCtorEq, and_true, true_and] using h9
  · have h9 := r_ko R
    unfold Cko
    simpa (disch := omega) only [gI_uI, nOp_u, tk_ne9, tk_inj, if_false, if_true, false_and, and_false, Nat.reduceEqDiff, reduceIte, reduceCtorEq, and_true, true_and] using h9
  · have h9 := r_kp R
    unfold Ckp
    simpa (disch := omega) only [gI_uI, tk_ne9, tk_inj, if_false, if_true, false_and, and_false, Nat.reduceEqDiff, reduceIte, reduceCtorEq, and_true, true_and] using h9
  · have h9 := r_l0 R
    unfold Cl0
    simpa (disch := omega) only [sP_wI, sP_wP, nLn_u, tk_ne9, tk_inj, if_false, if_true, false_and, and_false, Nat.reduceEqDiff, reduceIte, reduceCtorEq, and_true, true_and] using h9
  · have h9 := r_l1 R
    unfold Cl1
    simpa (disch := omega) only [sP_wI, sP_wP, nLn_u, lnP_u, tk_ne9, tk_inj, if_false, if_true, false_and, and_false, Nat.reduceEqDiff, reduceIte, reduceCtorEq, and_true, true_and] using h9
  · have h9 := r_l2 R
    unfold Cl2
    simpa (disch := omega) only [sI_wI, sI_wP, gI_uI, nLn_u, tk_ne9, tk_inj, if_false, if_true, false_and, and_false, Nat.reduceEqDiff, reduceIte, reduceCtorEq, and_true, true_and] using h9
  · have h9 := r_l3 R
    unfold Cl3
    simpa (disch := omega) only [sP_wI, sP_wP, gI_uI, nLn_u, tk_ne9, tk_inj, if_false, if_true, false_and, and_false, Nat.reduceEqDiff, reduceIte, reduceCtorEq, and_true, true_and] using h9
  · have h9 := r_lm R
    unfold Clm
    simpa (disch := omega) only [gI_uI, nLn_u, lnP_u, tk_ne9, tk_inj, if_false, if_true, false_and, and_false, Nat.reduceEqDiff, reduceIte, reduceCtorEq, and_true, true_and] using h9
  · have h9 := r_o0 R
    unfold Co0
    simpa (disch := omega) only [sP_wI, sP_wP, nOp_u, tk_ne9, tk_inj, if_false, if_true, false_and, and_false, Nat.reduceEqDiff, reduceIte, reduceCtorEq, and_true, true_and] using h9
  · have h9 := r_o1 R
    unfold Co1
    simpa (disch := omega) only [sI_wI, sI_wP, gI_uI, nOp_u, tk_ne9, tk_inj, if_false, if_true, false_and, and_false, Nat.reduceEqDiff, reduceIte, reduceCtorEq, and_true, true_and] using h9
  · have h9 := r_o2 R
    unfold Co2
    simpa (disch := omega) only [sI_wI, sI_wP, gI_uI, nOp_u, tk_ne9, tk_inj, if_false, if_true, false_and, and_false, Nat.reduceEqDiff, reduceIte, reduceCtorEq, and_true, true_and] using h9
  · have h9 := r_o3 R
    unfold Co3
    simpa (disch := omega) only [sI_wI, sI_wP, gI_uI, nOp_u, tk_ne9, tk_inj, if_false, if_true, false_and, and_false, Nat.reduceEqDiff, reduceIte, reduceCtorEq, and_true, true_and] using h9
  · have h9 := r_om R
    unfold Com
    simpa (disch := omega) only [gI_uI, nOp_u, tk_ne9, tk_inj, if_false, if_true, false_and, and_false, Nat.reduceEqDiff, reduceIte, reduceCtorEq, and_true, true_and] using h9
  · have h9 := r_b0 R
    unfold Cb0
    simpa (disch := omega) only [sP_wI, sP_wP, nB_u, tk_ne9, tk_inj, if_false, if_true, false_and, and_false, Nat.reduceEqDiff, reduceIte, reduceCtorEq, and_true, true_and] using h9
  · have h9 := r_bn R
    unfold Cbn
    simpa (disch := omega) only [sI_wI, sI_wP, nB_u, tk_ne9, tk_inj, if_false, if_true, false_and, and_false, Nat.reduceEqDiff, reduceIte, reduceCtorEq, and_true, true_and] using h9
  · have h9 := r_bk R
    unfold Cbk
    simpa (disch := omega) only [sP_wI, sP_wP, nB_u, kd_u, tk_ne9, tk_inj, if_false, if_true, false_and, and_false, Nat.reduceEqDiff, reduceIte, reduceCtorEq, and_true, true_and] using h9
  · have h9 := r_b2 R
    unfold Cb2
    simpa (disch := omega) only [sI_wI, sI_wP, gI_uI, nB_u, tk_ne9, tk_inj, if_false, if_true, false_and, and_false, Nat.reduceEqDiff, reduceIte, reduceCtorEq, and_true, true_and] using h9
  · have h9 := r_b3 R
    unfold Cb3
    simpa (disch := omega) only [sI_wI, sI_wP, gI_uI, nB_u, tk_ne9, tk_inj, if_false, if_true, false_and, and_false, Nat.reduceEqDiff, reduceIte, reduceCtorEq, and_true, true_and] using h9
  · have h9 := r_b4 R
    unfold Cb4
    simpa (disch := omega) only [sI_wI, sI_wP, gI_uI, nB_u, tk_ne9, tk_inj, if_false, if_true, false_and, and_false, Nat.reduceEqDiff, reduceIte, reduceCtorEq, and_true, true_and] using h9
  · have h9 := r_b5 R
    unfold Cb5
    simpa (disch := omega) only [sI_wI, sI_wP, gI_uI, nB_u, tk_ne9, tk_inj, if_false, if_true, false_and, and_false, Nat.reduceEqDiff, reduceIte, reduceCtorEq, and_true, true_and] using h9
  · have h9 := r_b6 R
    unfold Cb6
    simpa (disch := omega) only [sI_wI, sI_wP, gI_uI, nB_u, tk_ne9, tk_inj, if_false, if_true, false_and, and_false, Nat.reduceEqDiff, reduceIte, reduceCtorEq, and_true, true_and] using h9
  · have h9 := r_b7 R
    unfold Cb7
    simpa (disch := omega) only [sI_wI, sI_wP, gI_uI, nB_u, tk_ne9, tk_inj, if_false, if_true, false_and, and_false, Nat.reduceEqDiff, reduceIte, reduceCtorEq, and_true, true_and] using h9
  · have h9 := r_b8 R
    unfold Cb8
    simpa (disch := omega) only [sI_wI, sI_wP, gI_uI, nB_u, tk_ne9, tk_inj, if_false, if_true, false_and, and_false, Nat.reduceEqDiff, reduceIte, reduceCtorEq, and_true, true_and] using h9
  · have h9 := r_b9 R
    unfold Cb9
    simpa (disch := omega) only [sI_wI, sI_wP, gI_uI, nB_u, tk_ne9, tk_inj, if_false, if_true, false_and, and_false, Nat.reduceEqDiff, reduceIte, reduceCtorEq, and_true, true_and] using h9
  · have h9 := r_b10 R
    unfold Cb10
    simpa (disch := omega) only [sI_wI, sI_wP, gI_uI, nB_u, tk_ne9, tk_inj, if_false, if_true, false_and, and_false, Nat.reduceEqDiff, reduceIte, reduceCtorEq, and_true, true_and] using h9
  · have h9 := r_b11 R
    unfold Cb11
    simpa (disch := omega) only [sL_wI, sL_wP, gL_uI, nB_u, tk_ne9, tk_inj, if_false, if_true, false_and, and_false, Nat.reduceEqDiff, reduceIte, reduceCtorEq, and_true, true_and] using h9
  · have h9 := r_bK R
    unfold CbK
    simpa (disch := omega) only [gI_uI, nB_u, kd_u, tk_ne9, tk_inj, if_false, if_true, false_and, and_false, Nat.reduceEqDiff, reduceIte, reduceCtorEq, and_true, true_and] using h9
  · have h9 := r_bP R
    unfold CbP
    simpa (disch := omega) only [gI_uI, nB_u, pc_u, tk_ne9, tk_inj, if_false, if_true, false_and, and_false, Nat.reduceEqDiff, reduceIte, reduceCtorEq, and_true, true_and] using h9
  · have h9 := r_bO R
    unfold CbO
    simpa (disch := omega) only [gI_uI, nB_u, op_u, tk_ne9, tk_inj, if_false, if_true, false_and, and_false, Nat.reduceEqDiff, reduceIte, reduceCtorEq, and_true, true_and] using h9
  · have h9 := r_bW R
    unfold CbW
    simpa (disch := omega) only [gI_uI, nB_u, nOp_u, kd_u, op_u, tk_ne9, tk_inj, if_false, if_true, false_and, and_false, Nat.reduceEqDiff, reduceIte, reduceCtorEq, and_true, true_and] using h9
  · have h9 := r_bZ R
    unfold CbZ
    simpa (disch := omega) only [gI_uI, nB_u, pc_u, tk_ne9, tk_inj, if_false, if_true, false_and, and_false, Nat.reduceEqDiff, reduceIte, reduceCtorEq, and_true, true_and] using h9
  · have h9 := r_bF R
    unfold CbF
    simpa (disch := omega) only [gI_uI, nB_u, tk_ne9, tk_inj, if_false, if_true, false_and, and_false, Nat.reduceEqDiff, reduceIte, reduceCtorEq, and_true, true_and] using h9
  · have h9 := r_bS R
    unfold CbS
    simpa (disch := omega) only [gI_uI, nB_u, tk_ne9, tk_inj, if_false, if_true, false_and, and_false, Nat.reduceEqDiff, reduceIte, reduceCtorEq, and_true, true_and] using h9
  · have h9 := r_bC R
    unfold CbC
    simpa (disch := omega) only [gI_uI, nB_u, tk_ne9, tk_inj, if_false, if_true, false_and, and_false, Nat.reduceEqDiff, reduceIte, reduceCtorEq, and_true, true_and] using h9
  · have h9 := r_bT R
    unfold CbT
    simpa (disch := omega) only [gI_uI, nB_u, tk_ne9, tk_inj, if_false, if_true, false_and, and_false, Nat.reduceEqDiff, reduceIte, reduceCtorEq, and_true, true_and] using h9
  · have h9 := r_bU R
    unfold CbU
    simpa (disch := omega) only [gI_uI, nB_u, kd_u, tk_ne9, tk_inj, if_false, if_true, false_and, and_false, Nat.reduceEqDiff, reduceIte, reduceCtorEq, and_true, true_and] using h9
  · have h9 := r_bq R
    unfold Cbq
    simpa (disch := omega) only [nB_u, totp_u, tk_ne9, tk_inj, if_false, if_true, false_and, and_false, Nat.reduceEqDiff, reduceIte, reduceCtorEq, and_true, true_and] using h9
  · unfold Cps
    intro he
    omega
  · have h9 := r_bp R
    unfold Cbp
    simpa (disch := omega) only [gL_uI, nB_u, tk_ne9, tk_inj, if_false, if_true, false_and, and_false, Nat.reduceEqDiff, reduceIte, reduceCtorEq, and_true, true_and] using h9
  · have h9 := r_bc R
    unfold Cbc
    simpa (disch := omega) only [nB_u, hN_u, tot_u, tk_ne9, tk_inj, if_false, if_true, false_and, and_false, Nat.reduceEqDiff, reduceIte, reduceCtorEq, and_true, true_and] using h9
  · have h9 := r_fB R
    unfold CfB
    simpa (disch := omega) only [sX_wI, sX_wP, nB_u, tk_ne9, tk_inj, if_false, if_true, false_and, and_false, Nat.reduceEqDiff, reduceIte, reduceCtorEq, and_true, true_and] using h9
  · have h9 := r_fL R
    unfold CfL
    simpa (disch := omega) only [sX_wI, sX_wP, nLn_u, tk_ne9, tk_inj, if_false, if_true, false_and, and_false, Nat.reduceEqDiff, reduceIte, reduceCtorEq, and_true, true_and] using h9
  · have h9 := r_fO R
    unfold CfO
    simpa (disch := omega) only [sX_wI, sX_wP, nOp_u, tk_ne9, tk_inj, if_false, if_true, false_and, and_false, Nat.reduceEqDiff, reduceIte, reduceCtorEq, and_true, true_and] using h9
  · have h9 := r_fM R
    unfold CfM
    simpa (disch := omega) only [sX_wI, sX_wP, nM_u, tk_ne9, tk_inj, if_false, if_true, false_and, and_false, Nat.reduceEqDiff, reduceIte, reduceCtorEq, and_true, true_and] using h9
  · have h9 := r_fP R
    unfold CfP
    simpa (disch := omega) only [sX_wI, sX_wP, nP_u, tk_ne9, tk_inj, if_false, if_true, false_and, and_false, Nat.reduceEqDiff, reduceIte, reduceCtorEq, and_true, true_and] using h9
  · have h9 := r_fR R
    unfold CfR
    simpa (disch := omega) only [sX_wI, sX_wP, nO_u, tk_ne9, tk_inj, if_false, if_true, false_and, and_false, Nat.reduceEqDiff, reduceIte, reduceCtorEq, and_true, true_and] using h9
  · have h9 := r_fG R
    exact h9
  · have h9 := r_m0 R
    unfold Cm0
    simpa (disch := omega) only [sP_wI, sP_wP, nM_u, tk_ne9, tk_inj, if_false, if_true, false_and, and_false, Nat.reduceEqDiff, reduceIte, reduceCtorEq, and_true, true_and] using h9
  · have h9 := r_mn R
    unfold Cmn
    simpa (disch := omega) only [sI_wI, sI_wP, nM_u, tk_ne9, tk_inj, if_false, if_true, false_and, and_false, Nat.reduceEqDiff, reduceIte, reduceCtorEq, and_true, true_and] using h9
  · have h9 := r_m1 R
    unfold Cm1
    simpa (disch := omega) only [sI_wI, sI_wP, gI_uI, nM_u, tk_ne9, tk_inj, if_false, if_true, false_and, and_false, Nat.reduceEqDiff, reduceIte, reduceCtorEq, and_true, true_and] using h9
  · have h9 := r_m2 R
    unfold Cm2
    simpa (disch := omega) only [sI_wI, sI_wP, gI_uI, nM_u, tk_ne9, tk_inj, if_false, if_true, false_and, and_false, Nat.reduceEqDiff, reduceIte, reduceCtorEq, and_true, true_and] using h9
  · have h9 := r_m3 R
    unfold Cm3
    simpa (disch := omega) only [sI_wI, sI_wP, gI_uI, nM_u, tk_ne9, tk_inj, if_false, if_true, false_and, and_false, Nat.reduceEqDiff, reduceIte, reduceCtorEq, and_true, true_and] using h9
  · have h9 := r_m4 R
    unfold Cm4
    simpa (disch := omega) only [sI_wI, sI_wP, gI_uI, nM_u, tk_ne9, tk_inj, if_false, if_true, false_and, and_false, Nat.reduceEqDiff, reduceIte, reduceCtorEq, and_true, true_and] using h9
  · have h9 := r_m5 R
    unfold Cm5
    simpa (disch := omega) only [sI_wI, sI_wP, gI_uI, nM_u, tk_ne9, tk_inj, if_false, if_true, false_and, and_false, Nat.reduceEqDiff, reduceIte, reduceCtorEq, and_true, true_and] using h9
  · have h9 := r_m9 R
    unfold Cm9
    simpa (disch := omega) only [sI_wI, sI_wP, gI_uI, nM_u, tk_ne9, tk_inj, if_false, if_true, false_and, and_false, Nat.reduceEqDiff, reduceIte, reduceCtorEq, and_true, true_and] using h9
  · have h9 := r_m11 R
    unfold Cm11
    simpa (disch := omega) only [sI_wI, sI_wP, gI_uI, nM_u, tk_ne9, tk_inj, if_false, if_true, false_and, and_false, Nat.reduceEqDiff, reduceIte, reduceCtorEq, and_true, true_and] using h9
  · have h9 := r_m13 R
    unfold Cm13
    simpa (disch := omega) only [sI_wI, sI_wP, gI_uI, nM_u, tk_ne9, tk_inj, if_false, if_true, false_and, and_false, Nat.reduceEqDiff, reduceIte, reduceCtorEq, and_true, true_and] using h9
  · have h9 := r_m14 R
    unfold Cm14
    simpa (disch := omega) only [sI_wI, sI_wP, gI_uI, nM_u, tk_ne9, tk_inj, if_false, if_true, false_and, and_false, Nat.reduceEqDiff, reduceIte, reduceCtorEq, and_true, true_and] using h9
  · have h9 := r_m6 R
    unfold Cm6
    simpa (disch := omega) only [sP_wI, sP_wP, gI_uI, nM_u, tk_ne9, tk_inj, if_false, if_true, false_and, and_false, Nat.reduceEqDiff, reduceIte, reduceCtorEq, and_true, true_and] using h9
  · have h9 := r_m7 R
    unfold Cm7
    simpa (disch := omega) only [sP_wI, sP_wP, gI_uI, nM_u, tk_ne9, tk_inj, if_false, if_true, false_and, and_false, Nat.reduceEqDiff, reduceIte, reduceCtorEq, and_true, true_and] using h9
  · have h9 := r_m8 R
    unfold Cm8
    simpa (disch := omega) only [sP_wI, sP_wP, gI_uI, nM_u, tk_ne9, tk_inj, if_false, if_true, false_and, and_false, Nat.reduceEqDiff, reduceIte, reduceCtorEq, and_true, true_and] using h9
  · have h9 := r_m12 R
    unfold Cm12
    simpa (disch := omega) only [sP_wI, sP_wP, gI_uI, nM_u, tk_ne9, tk_inj, if_false, if_true, false_and, and_false, Nat.reduceEqDiff, reduceIte, reduceCtorEq, and_true, true_and] using h9
  · have h9 := r_m10 R
    unfold Cm10
    simpa (disch := omega) only [sI_wI, sI_wP, gI_uI, nB_u, nM_u, tk_ne9, tk_inj, if_false, if_true, false_and, and_false, Nat.reduceEqDiff, reduceIte, reduceCtorEq, and_true, true_and] using h9
  · have h9 := r_mma R
    unfold Cmma
    simpa (disch := omega) only [gI_uI, nM_u, tk_ne9, tk_inj, if_false, if_true, false_and, and_false, Nat.reduceEqDiff, reduceIte, reduceCtorEq, and_true, true_and] using h9
  · have h9 := r_mmb R
    unfold Cmmb
    simpa (disch := omega) only [gI_uI, nB_u, nM_u, nP_u, tk_ne9, tk_inj, if_false, if_true, false_and, and_false, Nat.reduceEqDiff, reduceIte, reduceCtorEq, and_true, true_and] using h9
  · have h9 := r_mmc R
    unfold Cmmc
    simpa (disch := omega) only [gI_uI, nM_u, tk_ne9, tk_inj, if_false, if_true, false_and, and_false, Nat.reduceEqDiff, reduceIte, reduceCtorEq, and_true, true_and] using h9
  · have h9 := r_mr29 R
    unfold Cmr29
    simpa (disch := omega) only [gI_uI, nM_u, tk_ne9, tk_inj, if_false, if_true, false_and, and_false, Nat.reduceEqDiff, reduceIte, reduceCtorEq, and_true, true_and] using h9
  · have h9 := r_mr30 R
    unfold Cmr30
    simpa (disch := omega) only [gI_uI, nM_u, tk_ne9, tk_inj, if_false, if_true, false_and, and_false, Nat.reduceEqDiff, reduceIte, reduceCtorEq, and_true, true_and] using h9
  · have h9 := r_mr31 R
    unfold Cmr31
    simpa (disch := omega) only [gI_uI, nM_u, tk_ne9, tk_inj, if_false, if_true, false_and, and_false, Nat.reduceEqDiff, reduceIte, reduceCtorEq, and_true, true_and] using h9
  · have h9 := r_mr32 R
    unfold Cmr32
    simpa (disch := omega) only [gI_uI, nM_u, tk_ne9, tk_inj, if_false, if_true, false_and, and_false, Nat.reduceEqDiff, reduceIte, reduceCtorEq, and_true, true_and] using h9
  · have h9 := r_mr35 R
    unfold Cmr35
    simpa (disch := omega) only [gI_uI, nM_u, tk_ne9, tk_inj, if_false, if_true, false_and, and_false, Nat.reduceEqDiff, reduceIte, reduceCtorEq, and_true, true_and] using h9
  · have h9 := r_mr39 R
    unfold Cmr39
    simpa (disch := omega) only [gI_uI, nM_u, tk_ne9, tk_inj, if_false, if_true, false_and, and_false, Nat.reduceEqDiff, reduceIte, reduceCtorEq, and_true, true_and] using h9
  · have h9 := r_mr40 R
    unfold Cmr40
    simpa (disch := omega) only [gI_uI, nM_u, tk_ne9, tk_inj, if_false, if_true, false_and, and_false, Nat.reduceEqDiff, reduceIte, reduceCtorEq, and_true, true_and] using h9
  · have h9 := r_md R
    unfold Cmd
    simpa (disch := omega) only [gI_uI, nM_u, tk_ne9, tk_inj, if_false, if_true, false_and, and_false, Nat.reduceEqDiff, reduceIte, reduceCtorEq, and_true, true_and] using h9
  · have h9 := r_mw R
    unfold Cmw
    simpa (disch := omega) only [gI_uI, nM_u, tk_ne9, tk_inj, if_false, if_true, false_and, and_false, Nat.reduceEqDiff, reduceIte, reduceCtorEq, and_true, true_and] using h9
  · have h9 := r_q0 R
    unfold Cq0
    simpa (disch := omega) only [sP_wI, sP_wP, nP_u, tk_ne9, tk_inj, if_false, if_true, false_and, and_false, Nat.reduceEqDiff, reduceIte, reduceCtorEq, and_true, true_and] using h9
  · have h9 := r_qn R
    unfold Cqn
    simpa (disch := omega) only [sI_wI, sI_wP, nP_u, tk_ne9, tk_inj, if_false, if_true, false_and, and_false, Nat.reduceEqDiff, reduceIte, reduceCtorEq, and_true, true_and] using h9
  · have h9 := r_q1 R
    unfold Cq1
    simpa (disch := omega) only [sI_wI, sI_wP, gI_uI, nP_u, tk_ne9, tk_inj, if_false, if_true, false_and, and_false, Nat.reduceEqDiff, reduceIte, reduceCtorEq, and_true, true_and] using h9
  · have h9 := r_q2 R
    unfold Cq2
    simpa (disch := omega) only [sI_wI, sI_wP, gI_uI, nP_u, tk_ne9, tk_inj, if_false, if_true, false_and, and_false, Nat.reduceEqDiff, reduceIte, reduceCtorEq, and_true, true_and] using h9
  · have h9 := r_q3 R
    unfold Cq3
    simpa (disch := omega) only [sI_wI, sI_wP, gI_uI, nP_u, tk_ne9, tk_inj, if_false, if_true, false_and, and_false, Nat.reduceEqDiff, reduceIte, reduceCtorEq, and_true, true_and] using h9
  · have h9 := r_q4 R
    unfold Cq4
    simpa (disch := omega) only [sP_wI, sP_wP, nP_u, tk_ne9, tk_inj, if_false, if_true, false_and, and_false, Nat.reduceEqDiff, reduceIte, reduceCtorEq, and_true, true_and] using h9
  · have h9 := r_q5 R
    unfold Cq5
    simpa (disch := omega) only [sP_wI, sP_wP, nP_u, tk_ne9, tk_inj, if_false, if_true, false_and, and_false, Nat.reduceEqDiff, reduceIte, reduceCtorEq, and_true, true_and] using h9
  · have h9 := r_q6 R
    unfold Cq6
    simpa (disch := omega) only [sI_wI, sI_wP, gI_uI, nM_u, nP_u, tk_ne9, tk_inj, if_false, if_true, false_and, and_false, Nat.reduceEqDiff, reduceIte, reduceCtorEq, and_true, true_and] using h9
  · have h9 := r_ql R
    unfold Cql
    simpa (disch := omega) only [sI_wI, sI_wP, gI_uI, nP_u, tk_ne9, tk_inj, if_false, if_true, false_and, and_false, Nat.reduceEqDiff, reduceIte, reduceCtorEq, and_true, true_and] using h9
  · have h9 := r_qw R
    unfold Cqw
    simpa (disch := omega) only [sI_wI, sI_wP, gI_uI, nP_u, tk_ne9, tk_inj, if_false, if_true, false_and, and_false, Nat.reduceEqDiff, reduceIte, reduceCtorEq, and_true, true_and] using h9
  · have h9 := r_qm R
    unfold Cqm
    simpa (disch := omega) only [gI_uI, nP_u, tk_ne9, tk_inj, if_false, if_true, false_and, and_false, Nat.reduceEqDiff, reduceIte, reduceCtorEq, and_true, true_and] using h9
  · have h9 := r_qr R
    unfold Cqr
    simpa (disch := omega) only [gI_uI, nP_u, tk_ne9, tk_inj, if_false, if_true, false_and, and_false, Nat.reduceEqDiff, reduceIte, reduceCtorEq, and_true, true_and] using h9
  · have h9 := r_r0 R
    unfold Cr0
    simpa (disch := omega) only [sP_wI, sP_wP, nO_u, tk_ne9, tk_inj, if_false, if_true, false_and, and_false, Nat.reduceEqDiff, reduceIte, reduceCtorEq, and_true, true_and] using h9
  · have h9 := r_r1 R
    unfold Cr1
    simpa (disch := omega) only [sP_wI, sP_wP, gI_uI, nO_u, tk_ne9, tk_inj, if_false, if_true, false_and, and_false, Nat.reduceEqDiff, reduceIte, reduceCtorEq, and_true, true_and] using h9
  · have h9 := r_r2 R
    unfold Cr2
    simpa (disch := omega) only [sI_wI, sI_wP, gI_uI, nO_u, tk_ne9, tk_inj, if_false, if_true, false_and, and_false, Nat.reduceEqDiff, reduceIte, reduceCtorEq, and_true, true_and] using h9
  · have h9 := r_r3 R
    unfold Cr3
    simpa (disch := omega) only [sI_wI, sI_wP, gI_uI, nO_u, tk_ne9, tk_inj, if_false, if_true, false_and, and_false, Nat.reduceEqDiff, reduceIte, reduceCtorEq, and_true, true_and] using h9
  · have h9 := r_r4 R
    unfold Cr4
    simpa (disch := omega) only [sI_wI, sI_wP, gI_uI, nO_u, tk_ne9, tk_inj, if_false, if_true, false_and, and_false, Nat.reduceEqDiff, reduceIte, reduceCtorEq, and_true, true_and] using h9
  · unfold Cr5
    intro q hq
    rw [nO_u _ _ _ _ (by decide), nO_u _ _ _ _ (by decide)] at hq
    rw [gI_ne (by decide)]
    by_cases c : q = r
    · subst c
      rw [gI_uI, if_pos ⟨rfl, rfl⟩, tp_nI (by omega)]
      simp [sP_wI, sP_wP]
    · rw [gI_nj c]
      have h9 := r_r5 R q hq
      simp [sP_wI, sP_wP, tk_inj, c]
      exact h9
  · unfold Cr6
    intro q hq h9
    rw [nO_u _ _ _ _ (by decide), nO_u _ _ _ _ (by decide)] at hq
    by_cases c : q = r
    · subst c
      simp [sI_wI, gI_uI]
    · rw [gI_ne (by decide), gI_nj c] at h9
      have h8 := r_r6 R q hq h9
      rw [gI_nj c, gI_ne (by decide)]
      simp [sI_wI, sI_wP, tk_inj, tk_ne9, c]
      exact h8
  · have h9 := r_rk R
    unfold Crk
    simpa (disch := omega) only [gI_uI, nO_u, tk_ne9, tk_inj, if_false, if_true, false_and, and_false, Nat.reduceEqDiff, reduceIte, reduceCtorEq, and_true, true_and] using h9
  · have h9 := r_rp R
    unfold Crp
    simpa (disch := omega) only [gI_uI, nO_u, tk_ne9, tk_inj, if_false, if_true, false_and, and_false, Nat.reduceEqDiff, reduceIte, reduceCtorEq, and_true, true_and] using h9
  · have h9 := r_rq R
    unfold Crq
    simpa (disch := omega) only [gI_uI, nO_u, pr_u, tk_ne9, tk_inj, if_false, if_true, false_and, and_false, Nat.reduceEqDiff, reduceIte, reduceCtorEq, and_true, true_and] using h9
  · have h9 := r_rr R
    unfold Crr
    simpa (disch := omega) only [gI_uI, nO_u, pr_u, tk_ne9, tk_inj, if_false, if_true, false_and, and_false, Nat.reduceEqDiff, reduceIte, reduceCtorEq, and_true, true_and] using h9
  · unfold Crs
    intro q hq
    rw [nO_u _ _ _ _ (by decide), nO_u _ _ _ _ (by decide)] at hq
    rw [gI_ne (by decide), nB_u _ _ _ _ (by decide), nB_u _ _ _ _ (by decide)]
    by_cases c : q = r
    · subst c
      rw [gI_uI, if_pos ⟨rfl, rfl⟩]
      exact Or.inr ⟨j, rfl, hj⟩
    · rw [gI_nj c]
      exact r_rs R q hq
/-- a call that throws, on both sides, and may leave a store of its own: leads of the class, scratch rows of the model -/
theorem bad5s {e : Nat} {a b : Sg} {M : MS} {x y : Int32} {K : Sg → Prop} (R : Rel e a M) (hS : Sc a b) (hK : ∀ a' M', Rel e a' M' → (Zr M → Zr M') → K (put a' M')) (h : x ≠ 0) : Pair x y K (put b (uI M 259 0 x)) :=
  bad5 (rel_same R hS.1 hS.2.1 hS.2.2.1 hS.2.2.2) hK h
theorem sc_t {a b c : Sg} (h : Sc a b) (k : Sc b c) : Sc a c := ⟨fun x i q h1 h2 => (k.1 x i q h1 h2).trans (h.1 x i q h1 h2), fun t q => (k.2.1 t q).trans (h.2.1 t q), fun t q => (k.2.2.1 t q).trans (h.2.2.1 t q), fun t => (k.2.2.2 t).trans (h.2.2.2 t)⟩
theorem sc_w {a : Sg} (i k : Nat) (v : Int32) : Sc a (wI a (tk 11 i) k v) := ⟨fun c j q h1 h2 => by rw [sI_wI, if_neg (fun z => tk_ne h1 (by decide) h2 z.1)], fun _ _ => rfl, fun _ _ => rfl, fun _ => rfl⟩
theorem nbA_b (a : Sg) {n k p j q : Nat} {s : Int32} (h : ¬ j = n) : sI (nbA a n k p s) (tk 0 j) q = sI a (tk 0 j) q := by
  unfold nbA
  simp [sI_wI, sI_wP, sI_wN, tk_ne9, tk_inj, h]
theorem nbA_n (a : Sg) {n k p : Nat} {s : Int32} : sI (nbA a n k p s) (tk 0 n) 0 = nI n := by
  unfold nbA
  simp [sI_wI, sI_wP, sI_wN, tk_ne9, tk_inj]
theorem nbA_Pb (a : Sg) {n k p j q : Nat} {s : Int32} (h : ¬ j = n) : sP (nbA a n k p s) (tk 0 j) q = sP a (tk 0 j) q := by
  unfold nbA
  simp [sP_wI, sP_wP, sP_wN, tk_ne9, tk_inj, h]
theorem nbA_P (a : Sg) {n k p c i q : Nat} {s : Int32} (h : c < 32) (h0 : c ≠ 0) (h1 : c ≠ 14) : sP (nbA a n k p s) (tk c i) q = sP a (tk c i) q := by
  unfold nbA
  simp (disch := omega) [sP_wI, sP_wP, sP_wN, tk_ne9]
theorem nbA_I (a : Sg) {n k p c i q : Nat} {s : Int32} (h : c < 32) (h0 : c ≠ 0) (h1 : c ≠ 2) (h2 : c ≠ 8) : sI (nbA a n k p s) (tk c i) q = sI a (tk c i) q := by
  unfold nbA
  simp (disch := omega) [sI_wI, sI_wP, sI_wN, tk_ne9]
theorem nbA_2 (a : Sg) {n k p i q : Nat} {s : Int32} (h : q ≠ 9) : sI (nbA a n k p s) (tk 2 i) q = sI a (tk 2 i) q := by
  unfold nbA
  simp [sI_wI, sI_wP, sI_wN, tk_ne9, h]
theorem mNB_o (M : MS) {n k p t j : Nat} {s : Int32} (h : ¬ j = n) (h2 : t ≠ 214) : gI (mNB M n k p s) t j = gI M t j := by
  unfold mNB
  simp [gI_uI, gI_uL, h, h2]
theorem mNB_z (M : MS) {n k p t j : Nat} {s : Int32} (h : zb t = true) : gI (mNB M n k p s) t j = gI M t j := by
  have h : t ≠ 15 ∧ t ≠ 16 ∧ t ≠ 17 ∧ t ≠ 18 ∧ t ≠ 19 ∧ t ≠ 20 ∧ t ≠ 121 ∧ t ≠ 122 ∧ t ≠ 23 ∧ t ≠ 124 ∧ t ≠ 25 ∧ t ≠ 214 ∧ t ≠ 113 := by unfold zb at h; simp only [Bool.and_eq_true, bne_iff_ne] at h; omega
  unfold mNB
  simp (disch := omega) only [gI_ne, gI_uL]
theorem nI_dle2 {p q : Nat} (hp : p < 2 ^ 30) (hq : q < 2 ^ 30) : nI p - nI q ≤ 0 ↔ p ≤ q := by
  rcases Nat.lt_or_ge q p with c | c
  · rw [nI_sub (Nat.le_of_lt c), show (0 : Int32) = nI 0 from rfl, nI_leI (by omega) (by omega)]
    omega
  · exact ⟨fun _ => c, fun _ => nI_dle c hq⟩
