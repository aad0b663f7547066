/-! A new batch with all it can have; split. -/
set_option maxHeartbeats 4000000 in
theorem rel_newN {e : Nat} {a b : Sg} {M N : MS} (R : Rel e a M) (k p c q : Nat) (py sb fa : Int32) (pa : Int64) (h60 : nB M < 60) (hk : k < 12) (hp : 1 ≤ p) (hp2 : p ≤ 1200) (htq : totp M (nB M) + p ≤ 20 * (nB M + 1)) (hc0 : c < 2 ^ 31) (htc : tot M (nB M) + (c : Int) ≤ 1980 * ((nB M : Int) + 1) + 108 * (hN M : Int) + 18 * ((e % 7 : Nat) : Int)) (hq4 : q ≤ 4) (hs1 : q < nOp M k) (hsb : b01 sb) (hpa : ∀ i, nB M + 1 ≤ i → i < 64 → bt pa i = false) (gO : ∀ t j, zb t = true → gI N t j = gI M t j) (gJ : ∀ t j, ¬ j = nB M → t ≠ 214 → t ≠ 113 → gI N t j = gI M t j) (gC : gI N 214 0 = nI (nB M + 1)) (gW : ∀ i, gI N 113 i = if i = k then 1 else gI M 113 i) (g15 : gI N 15 (nB M) = nI k) (g16 : gI N 16 (nB M) = nI p) (g17 : gI N 17 (nB M) = nI c) (g18 : gI N 18 (nB M) = 1) (g19 : gI N 19 (nB M) = nI q) (g20 : gI N 20 (nB M) = py) (g121 : gI N 121 (nB M) = 0) (g122 : gI N 122 (nB M) = sb) (g23 : gI N 23 (nB M) = fa) (g124 : gI N 124 (nB M) = 0) (g25 : gI N 25 (nB M) = -1) (gLj : ∀ j, ¬ j = nB M → gL N j = gL M j) (gLn : gL N (nB M) = pa) (bI : ∀ c i q, c < 32 → zc c = true → sI b (tk c i) q = sI a (tk c i) q) (bI2 : ∀ i q, q ≠ 9 → sI b (tk 2 i) q = sI a (tk 2 i) q) (bI29 : ∀ i, sI b (tk 2 i) 9 = if i = k then 1 else sI a (tk 2 i) 9) (bI8 : ∀ q, q ≠ 1 → sI b (tk 8 0) q = sI a (tk 8 0) q) (bI81 : sI b (tk 8 0) 1 = nI (nB M + 1)) (bI0 : ∀ j q, ¬ j = nB M → sI b (tk 0 j) q = sI a (tk 0 j) q) (v0 : sI b (tk 0 (nB M)) 0 = nI (nB M)) (v2 : sI b (tk 0 (nB M)) 2 = nI p) (v3 : sI b (tk 0 (nB M)) 3 = nI c) (v4 : sI b (tk 0 (nB M)) 4 = 1) (v5 : sI b (tk 0 (nB M)) 5 = nI q) (v6 : sI b (tk 0 (nB M)) 6 = py) (v7 : sI b (tk 0 (nB M)) 7 = 0) (v8 : sI b (tk 0 (nB M)) 8 = sb) (v10 : sI b (tk 0 (nB M)) 10 = fa) (v9 : sI b (tk 0 (nB M)) 9 = -1) (v11 : sL b (tk 0 (nB M)) 11 = pa) (bP : ∀ c i q, c < 32 → c ≠ 0 → c ≠ 14 → sP b (tk c i) q = sP a (tk c i) q) (bP0 : ∀ j q, ¬ j = nB M → sP b (tk 0 j) q = sP a (tk 0 j) q) (bPk : sP b (tk 0 (nB M)) 1 = some (tk 2 k)) (bP14 : ∀ j, sP b (tk 14 0) j = if j = nB M then some (tk 0 (nB M)) else sP a (tk 14 0) j) (bL0 : ∀ j, ¬ j = nB M → sL b (tk 0 j) 11 = sL a (tk 0 j) 11) (bX : ∀ t, t ≠ tk 0 (nB M) → sX b t = sX a t) : Rel e b N := by
  have hB := r_nBx R
  have e1 : nB N = nB M + 1 := by unfold nB at gC ⊢; rw [gC, nI_clamp (by unfold nB at h60; omega)]
  have hnM : nM N = nM M := by unfold nM; rw [gO _ _ rfl]
  have hnP : nP N = nP M := by unfold nP; rw [gO _ _ rfl]
  have hnO : nO N = nO M := by unfold nO; rw [gO _ _ rfl]
  have hhN : hN N = hN M := by unfold hN; rw [gO _ _ rfl]
  have hnOp : ∀ i, nOp N i = nOp M i := fun i => by unfold nOp; rw [gO _ _ rfl]
  have hnLn : ∀ i, nLn N i = nLn M i := fun i => by unfold nLn; rw [gO _ _ rfl]
  have hlnP : ∀ i, lnP N i = lnP M i := fun i => by unfold lnP; rw [gO _ _ rfl]
  have hpr : ∀ i, pr N i = pr M i := fun i => by unfold pr; rw [gO _ _ rfl]
  have hkd : ∀ j, ¬ j = nB M → kd N j = kd M j := fun j c => by unfold kd; rw [gJ _ _ c (by decide) (by decide)]
  have hkn : kd N (nB M) = k := by unfold kd; rw [g15, nI_clamp (by omega)]
  have hop : ∀ j, ¬ j = nB M → op N j = op M j := fun j c => by unfold op; rw [gJ _ _ c (by decide) (by decide)]
  have hon : op N (nB M) = q := by unfold op; rw [g19, nI_clamp (by omega)]
  have hpc : ∀ j, ¬ j = nB M → pc N j = pc M j := fun j c => by unfold pc; rw [gJ _ _ c (by decide) (by decide)]
  have hpn : pc N (nB M) = p := by unfold pc; rw [g16, nI_clamp (by omega)]
  have hin : ∀ i, mInSt N i (nB M + 1) = mInSt M i (nB M) := fun i => by
    unfold mInSt
    rw [sumN_1, if_neg (by rw [g18]; exact fun z => absurd z.1 (by decide)), Int32.add_zero]
    refine sumN_congr fun j hj => ?_
    have c : ¬ j = nB M := by omega
    rw [gJ _ _ c (by decide) (by decide), gJ _ _ c (by decide) (by decide), gJ _ _ c (by decide) (by decide)]
  have hnin : ∀ i, nInSt N i (nB M + 1) = nInSt M i (nB M) := fun i => by
    unfold nInSt
    rw [sumT_1, if_neg (by rw [g18]; exact fun z => absurd z.1 (by decide)), Nat.add_zero]
    refine sumT_congr fun j hj => ?_
    have c : ¬ j = nB M := by omega
    rw [gJ _ _ c (by decide) (by decide), gJ _ _ c (by decide) (by decide), hpc _ c]
  have hnpr : ∀ i m, nProm N i m = nProm M i m := fun i m => by
    unfold nProm
    refine sumT_congr fun j hj => ?_
    rw [gO _ _ rfl, gO _ _ rfl, hpr]
  have hmpr : ∀ i m, mProm N i m = mProm M i m := fun i m => by
    unfold mProm
    refine sumN_congr fun j hj => ?_
    rw [gO _ _ rfl, gO _ _ rfl, gO _ _ rfl]
  have htp : totp N (nB M + 1) = totp M (nB M) + p := by
    unfold totp
    rw [sumT_1, hpn, sumT_congr (h := pc M) fun j hj => hpc j (by omega)]
  have htt : ∀ m, m ≤ nB M → tot N m = tot M m := by
    intro m
    induction m with
    | zero => intro _; rfl
    | succ m ih =>
      intro hm
      rw [tot_1, tot_1, ih (by omega), gJ 17 m (by omega) (by decide) (by decide)]
  have hb0 : b01 (0 : Int32) := b01_0.mpr trivial
  unfold Rel
  refine ⟨?_, ?_, ?_, ?_, ?_, ?_, ?_, ?_, ?_, ?_, ?_, ?_, ?_, ?_, ?_, ?_, ?_, ?_, ?_, ?_, ?_, ?_, ?_, ?_, ?_, ?_, ?_, ?_, ?_, ?_, ?_, ?_, ?_, ?_, ?_, ?_, ?_, ?_, ?_, ?_, ?_, ?_, ?_, ?_, ?_, ?_, ?_, ?_, ?_, ?_, ?_, ?_, ?_, ?_, ?_, ?_, ?_, ?_, ?_, ?_, ?_, ?_, ?_, ?_, ?_, ?_, ?_, ?_, ?_, ?_, ?_, ?_, ?_, ?_, ?_, ?_, ?_, ?_, ?_, ?_, ?_, ?_, ?_, ?_, ?_, ?_, ?_, ?_, ?_, ?_, ?_, ?_, ?_, ?_, ?_, ?_, ?_, ?_, ?_, ?_, ?_, ?_, ?_, ?_, ?_, ?_, ?_, ?_, ?_, ?_, ?_, ?_, ?_, ?_, ?_, ?_, ?_, ?_, ?_, ?_, ?_, ?_, ?_, ?_, ?_, ?_, ?_, ?_, ?_, ?_, ?_, ?_, ?_, ?_, ?_, ?_, ?_, ?_, ?_, ?_, ?_, ?_, ?_, ?_, ?_, ?_, ?_, ?_, ?_⟩
  · unfold Cshm
    have h9 := r_shm R
    simpa (disch := decide) only [gO, hnM, hnP, hnO, hhN, hnOp, hnLn, hlnP, hpr, bI, bI2, bI8, bP] using h9
  · unfold Cpx0
    have h9 := r_px0 R
    simpa (disch := decide) only [gO, hnM, hnP, hnO, hhN, hnOp, hnLn, hlnP, hpr, bI, bI2, bI8, bP] using h9
  · unfold Cpx1
    have h9 := r_px1 R
    simpa (disch := decide) only [gO, hnM, hnP, hnO, hhN, hnOp, hnLn, hlnP, hpr, bI, bI2, bI8, bP] using h9
  · unfold Cpx2
    have h9 := r_px2 R
    simpa (disch := decide) only [gO, hnM, hnP, hnO, hhN, hnOp, hnLn, hlnP, hpr, bI, bI2, bI8, bP] using h9
  · unfold Cpf0
    have h9 := r_pf0 R
    simpa (disch := decide) only [gO, hnM, hnP, hnO, hhN, hnOp, hnLn, hlnP, hpr, bI, bI2, bI8, bP] using h9
  · unfold Cpf1
    have h9 := r_pf1 R
    simpa (disch := decide) only [gO, hnM, hnP, hnO, hhN, hnOp, hnLn, hlnP, hpr, bI, bI2, bI8, bP] using h9
  · unfold Cpf3
    have h9 := r_pf3 R
    simpa (disch := decide) only [gO, hnM, hnP, hnO, hhN, hnOp, hnLn, hlnP, hpr, bI, bI2, bI8, bP] using h9
  · unfold Cps0
    have h9 := r_ps0 R
    simpa (disch := decide) only [gO, hnM, hnP, hnO, hhN, hnOp, hnLn, hlnP, hpr, bI, bI2, bI8, bP] using h9
  · unfold Cps2
    have h9 := r_ps2 R
    simpa (disch := decide) only [gO, hnM, hnP, hnO, hhN, hnOp, hnLn, hlnP, hpr, bI, bI2, bI8, bP] using h9
  · unfold Cps4
    have h9 := r_ps4 R
    simpa (disch := decide) only [gO, hnM, hnP, hnO, hhN, hnOp, hnLn, hlnP, hpr, bI, bI2, bI8, bP] using h9
  · unfold Cpk
    have h9 := r_pk R
    simpa (disch := decide) only [gO, hnM, hnP, hnO, hhN, hnOp, hnLn, hlnP, hpr, bI, bI2, bI8, bP] using h9
  · unfold Cpkl
    have h9 := r_pkl R
    simpa (disch := decide) only [gO, hnM, hnP, hnO, hhN, hnOp, hnLn, hlnP, hpr, bI, bI2, bI8, bP] using h9
  · unfold Cpko
    have h9 := r_pko R
    simpa (disch := decide) only [gO, hnM, hnP, hnO, hhN, hnOp, hnLn, hlnP, hpr, bI, bI2, bI8, bP] using h9
  · unfold Cghour
    have h9 := r_ghour R
    simpa (disch := decide) only [gO, hnM, hnP, hnO, hhN, hnOp, hnLn, hlnP, hpr, bI, bI2, bI8, bP] using h9
  · unfold Cgstand
    have h9 := r_gstand R
    simpa (disch := decide) only [gO, hnM, hnP, hnO, hhN, hnOp, hnLn, hlnP, hpr, bI, bI2, bI8, bP] using h9
  · unfold Cgbought
    have h9 := r_gbought R
    simpa (disch := decide) only [gO, hnM, hnP, hnO, hhN, hnOp, hnLn, hlnP, hpr, bI, bI2, bI8, bP] using h9
  · unfold Cgmach
    have h9 := r_gmach R
    simpa (disch := decide) only [gO, hnM, hnP, hnO, hhN, hnOp, hnLn, hlnP, hpr, bI, bI2, bI8, bP] using h9
  · unfold Cgpers
    have h9 := r_gpers R
    simpa (disch := decide) only [gO, hnM, hnP, hnO, hhN, hnOp, hnLn, hlnP, hpr, bI, bI2, bI8, bP] using h9
  · unfold Cgworked
    have h9 := r_gworked R
    simpa (disch := decide) only [gO, hnM, hnP, hnO, hhN, hnOp, hnLn, hlnP, hpr, bI, bI2, bI8, bP] using h9
  · unfold Cgrep
    have h9 := r_grep R
    simpa (disch := decide) only [gO, hnM, hnP, hnO, hhN, hnOp, hnLn, hlnP, hpr, bI, bI2, bI8, bP] using h9
  · unfold Cgbat
    rw [bI81, gC]
  · unfold Cgord
    have h9 := r_gord R
    simpa (disch := decide) only [gO, hnM, hnP, hnO, hhN, hnOp, hnLn, hlnP, hpr, bI, bI2, bI8, bP] using h9
  · unfold Cgq
    have h9 := r_gq R
    simpa (disch := decide) only [gO, hnM, hnP, hnO, hhN, hnOp, hnLn, hlnP, hpr, bI, bI2, bI8, bP] using h9
  · unfold CnB
    rw [e1]; exact gC
  · unfold CnBx
    rw [e1]; omega
  · unfold CnM
    have h9 := r_nM R
    simpa (disch := decide) only [gO, hnM, hnP, hnO, hhN, hnOp, hnLn, hlnP, hpr, bI, bI2, bI8, bP] using h9
  · unfold CnMx
    have h9 := r_nMx R
    simpa (disch := decide) only [gO, hnM, hnP, hnO, hhN, hnOp, hnLn, hlnP, hpr, bI, bI2, bI8, bP] using h9
  · unfold CnP
    have h9 := r_nP R
    simpa (disch := decide) only [gO, hnM, hnP, hnO, hhN, hnOp, hnLn, hlnP, hpr, bI, bI2, bI8, bP] using h9
  · unfold CnPx
    have h9 := r_nPx R
    simpa (disch := decide) only [gO, hnM, hnP, hnO, hhN, hnOp, hnLn, hlnP, hpr, bI, bI2, bI8, bP] using h9
  · unfold CnO
    have h9 := r_nO R
    simpa (disch := decide) only [gO, hnM, hnP, hnO, hhN, hnOp, hnLn, hlnP, hpr, bI, bI2, bI8, bP] using h9
  · unfold CnOx
    have h9 := r_nOx R
    simpa (disch := decide) only [gO, hnM, hnP, hnO, hhN, hnOp, hnLn, hlnP, hpr, bI, bI2, bI8, bP] using h9
  · unfold Chr
    have h9 := r_hr R
    simpa (disch := decide) only [gO, hnM, hnP, hnO, hhN, hnOp, hnLn, hlnP, hpr, bI, bI2, bI8, bP] using h9
  · unfold Chrx
    have h9 := r_hrx R
    simpa (disch := decide) only [gO, hnM, hnP, hnO, hhN, hnOp, hnLn, hlnP, hpr, bI, bI2, bI8, bP] using h9
  · unfold Cstb
    have h9 := r_stb R
    simpa (disch := decide) only [gO, hnM, hnP, hnO, hhN, hnOp, hnLn, hlnP, hpr, bI, bI2, bI8, bP] using h9
  · unfold Cex
    have h9 := r_ex R
    simpa (disch := decide) only [gO, hnM, hnP, hnO, hhN, hnOp, hnLn, hlnP, hpr, bI, bI2, bI8, bP] using h9
  · unfold Ck0
    have h9 := r_k0 R
    simpa (disch := decide) only [gO, hnM, hnP, hnO, hhN, hnOp, hnLn, hlnP, hpr, bI, bI2, bI8, bP] using h9
  · unfold Ck1
    have h9 := r_k1 R
    simpa (disch := decide) only [gO, hnM, hnP, hnO, hhN, hnOp, hnLn, hlnP, hpr, bI, bI2, bI8, bP] using h9
  · unfold Ck2
    have h9 := r_k2 R
    simpa (disch := decide) only [gO, hnM, hnP, hnO, hhN, hnOp, hnLn, hlnP, hpr, bI, bI2, bI8, bP] using h9
  · unfold Ck3
    have h9 := r_k3 R
    simpa (disch := decide) only [gO, hnM, hnP, hnO, hhN, hnOp, hnLn, hlnP, hpr, bI, bI2, bI8, bP] using h9
  · unfold Ck5
    have h9 := r_k5 R
    simpa (disch := decide) only [gO, hnM, hnP, hnO, hhN, hnOp, hnLn, hlnP, hpr, bI, bI2, bI8, bP] using h9
  · unfold Ck7
    have h9 := r_k7 R
    simpa (disch := decide) only [gO, hnM, hnP, hnO, hhN, hnOp, hnLn, hlnP, hpr, bI, bI2, bI8, bP] using h9
  · unfold Ck8
    have h9 := r_k8 R
    simpa (disch := decide) only [gO, hnM, hnP, hnO, hhN, hnOp, hnLn, hlnP, hpr, bI, bI2, bI8, bP] using h9
  · unfold Ck9
    intro i hi
    rw [bI29, gW, r_k9 R i hi]
  · unfold Ck10
    intro i hi
    rw [e1, hin, bI2 _ _ (by decide)]
    exact r_k10 R i hi
  · unfold Ck11
    intro i hi
    rw [hnO, hmpr, bI2 _ _ (by decide)]
    exact r_k11 R i hi
  · unfold Ck12
    have h9 := r_k12 R
    simpa (disch := decide) only [gO, hnM, hnP, hnO, hhN, hnOp, hnLn, hlnP, hpr, bI, bI2, bI8, bP] using h9
  · unfold Cksa
    have h9 := r_ksa R
    simpa (disch := decide) only [gO, hnM, hnP, hnO, hhN, hnOp, hnLn, hlnP, hpr, bI, bI2, bI8, bP] using h9
  · unfold Cksb
    have h9 := r_ksb R
    simpa (disch := decide) only [gO, hnM, hnP, hnO, hhN, hnOp, hnLn, hlnP, hpr, bI, bI2, bI8, bP] using h9
  · unfold Cksc
    have h9 := r_ksc R
    simpa (disch := decide) only [gO, hnM, hnP, hnO, hhN, hnOp, hnLn, hlnP, hpr, bI, bI2, bI8, bP] using h9
  · unfold Ckw
    intro i hi
    rw [gW]
    split
    · exact b01_1.mpr trivial
    · exact r_kw R i hi
  · unfold Ckl
    have h9 := r_kl R
    simpa (disch := decide) only [gO, hnM, hnP, hnO, hhN, hnOp, hnLn, hlnP, hpr, bI, bI2, bI8, bP] using h9
  · unfold Cko
    have h9 := r_ko R
    simpa (disch := decide) only [gO, hnM, hnP, hnO, hhN, hnOp, hnLn, hlnP, hpr, bI, bI2, bI8, bP] using h9
  · unfold Ckp
    have h9 := r_kp R
    simpa (disch := decide) only [gO, hnM, hnP, hnO, hhN, hnOp, hnLn, hlnP, hpr, bI, bI2, bI8, bP] using h9
  · unfold Cl0
    have h9 := r_l0 R
    simpa (disch := decide) only [gO, hnM, hnP, hnO, hhN, hnOp, hnLn, hlnP, hpr, bI, bI2, bI8, bP] using h9
  · unfold Cl1
    have h9 := r_l1 R
    simpa (disch := decide) only [gO, hnM, hnP, hnO, hhN, hnOp, hnLn, hlnP, hpr, bI, bI2, bI8, bP] using h9
  · unfold Cl2
    have h9 := r_l2 R
    simpa (disch := decide) only [gO, hnM, hnP, hnO, hhN, hnOp, hnLn, hlnP, hpr, bI, bI2, bI8, bP] using h9
  · unfold Cl3
    have h9 := r_l3 R
    simpa (disch := decide) only [gO, hnM, hnP, hnO, hhN, hnOp, hnLn, hlnP, hpr, bI, bI2, bI8, bP] using h9
  · unfold Clm
    have h9 := r_lm R
    simpa (disch := decide) only [gO, hnM, hnP, hnO, hhN, hnOp, hnLn, hlnP, hpr, bI, bI2, bI8, bP] using h9
  · unfold Co0
    have h9 := r_o0 R
    simpa (disch := decide) only [gO, hnM, hnP, hnO, hhN, hnOp, hnLn, hlnP, hpr, bI, bI2, bI8, bP] using h9
  · unfold Co1
    have h9 := r_o1 R
    simpa (disch := decide) only [gO, hnM, hnP, hnO, hhN, hnOp, hnLn, hlnP, hpr, bI, bI2, bI8, bP] using h9
  · unfold Co2
    have h9 := r_o2 R
    simpa (disch := decide) only [gO, hnM, hnP, hnO, hhN, hnOp, hnLn, hlnP, hpr, bI, bI2, bI8, bP] using h9
  · unfold Co3
    have h9 := r_o3 R
    simpa (disch := decide) only [gO, hnM, hnP, hnO, hhN, hnOp, hnLn, hlnP, hpr, bI, bI2, bI8, bP] using h9
  · unfold Com
    have h9 := r_om R
    simpa (disch := decide) only [gO, hnM, hnP, hnO, hhN, hnOp, hnLn, hlnP, hpr, bI, bI2, bI8, bP] using h9
  · unfold Cb0
    intro j hj
    rw [e1] at hj
    by_cases c : j = nB M
    · subst c
      rw [bP14, if_pos rfl]
    · have hj2 : j < nB M := by omega
      have h9 := r_b0 R j hj2
      simpa (disch := decide) only [gJ _ _ c, gLj _ c, bI0 _ _ c, bP0 _ _ c, bL0 _ c, hkd _ c, hop _ c, hpc _ c, hnOp, bP14, if_neg c] using h9
  · unfold Cbn
    intro j hj
    rw [e1] at hj
    by_cases c : j = nB M
    · subst c
      exact v0
    · have hj2 : j < nB M := by omega
      have h9 := r_bn R j hj2
      simpa (disch := decide) only [gJ _ _ c, gLj _ c, bI0 _ _ c, bP0 _ _ c, bL0 _ c, hkd _ c, hop _ c, hpc _ c, hnOp, bP14, if_neg c] using h9
  · unfold Cbk
    intro j hj
    rw [e1] at hj
    by_cases c : j = nB M
    · subst c
      rw [hkn]; exact bPk
    · have hj2 : j < nB M := by omega
      have h9 := r_bk R j hj2
      simpa (disch := decide) only [gJ _ _ c, gLj _ c, bI0 _ _ c, bP0 _ _ c, bL0 _ c, hkd _ c, hop _ c, hpc _ c, hnOp, bP14, if_neg c] using h9
  · unfold Cb2
    intro j hj
    rw [e1] at hj
    by_cases c : j = nB M
    · subst c
      rw [v2, g16]
    · have hj2 : j < nB M := by omega
      have h9 := r_b2 R j hj2
      simpa (disch := decide) only [gJ _ _ c, gLj _ c, bI0 _ _ c, bP0 _ _ c, bL0 _ c, hkd _ c, hop _ c, hpc _ c, hnOp, bP14, if_neg c] using h9
  · unfold Cb3
    intro j hj
    rw [e1] at hj
    by_cases c : j = nB M
    · subst c
      rw [v3, g17]
    · have hj2 : j < nB M := by omega
      have h9 := r_b3 R j hj2
      simpa (disch := decide) only [gJ _ _ c, gLj _ c, bI0 _ _ c, bP0 _ _ c, bL0 _ c, hkd _ c, hop _ c, hpc _ c, hnOp, bP14, if_neg c] using h9
  · unfold Cb4
    intro j hj
    rw [e1] at hj
    by_cases c : j = nB M
    · subst c
      rw [v4, g18]
    · have hj2 : j < nB M := by omega
      have h9 := r_b4 R j hj2
      simpa (disch := decide) only [gJ _ _ c, gLj _ c, bI0 _ _ c, bP0 _ _ c, bL0 _ c, hkd _ c, hop _ c, hpc _ c, hnOp, bP14, if_neg c] using h9
  · unfold Cb5
    intro j hj
    rw [e1] at hj
    by_cases c : j = nB M
    · subst c
      rw [v5, g19]
    · have hj2 : j < nB M := by omega
      have h9 := r_b5 R j hj2
      simpa (disch := decide) only [gJ _ _ c, gLj _ c, bI0 _ _ c, bP0 _ _ c, bL0 _ c, hkd _ c, hop _ c, hpc _ c, hnOp, bP14, if_neg c] using h9
  · unfold Cb6
    intro j hj
    rw [e1] at hj
    by_cases c : j = nB M
    · subst c
      rw [v6, g20]
    · have hj2 : j < nB M := by omega
      have h9 := r_b6 R j hj2
      simpa (disch := decide) only [gJ _ _ c, gLj _ c, bI0 _ _ c, bP0 _ _ c, bL0 _ c, hkd _ c, hop _ c, hpc _ c, hnOp, bP14, if_neg c] using h9
  · unfold Cb7
    intro j hj
    rw [e1] at hj
    by_cases c : j = nB M
    · subst c
      rw [v7, g121]
    · have hj2 : j < nB M := by omega
      have h9 := r_b7 R j hj2
      simpa (disch := decide) only [gJ _ _ c, gLj _ c, bI0 _ _ c, bP0 _ _ c, bL0 _ c, hkd _ c, hop _ c, hpc _ c, hnOp, bP14, if_neg c] using h9
  · unfold Cb8
    intro j hj
    rw [e1] at hj
    by_cases c : j = nB M
    · subst c
      rw [v8, g122]
    · have hj2 : j < nB M := by omega
      have h9 := r_b8 R j hj2
      simpa (disch := decide) only [gJ _ _ c, gLj _ c, bI0 _ _ c, bP0 _ _ c, bL0 _ c, hkd _ c, hop _ c, hpc _ c, hnOp, bP14, if_neg c] using h9
  · unfold Cb9
    intro j hj
    rw [e1] at hj
    by_cases c : j = nB M
    · subst c
      rw [v9, g25]
    · have hj2 : j < nB M := by omega
      have h9 := r_b9 R j hj2
      simpa (disch := decide) only [gJ _ _ c, gLj _ c, bI0 _ _ c, bP0 _ _ c, bL0 _ c, hkd _ c, hop _ c, hpc _ c, hnOp, bP14, if_neg c] using h9
  · unfold Cb10
    intro j hj
    rw [e1] at hj
    by_cases c : j = nB M
    · subst c
      rw [v10, g23]
    · have hj2 : j < nB M := by omega
      have h9 := r_b10 R j hj2
      simpa (disch := decide) only [gJ _ _ c, gLj _ c, bI0 _ _ c, bP0 _ _ c, bL0 _ c, hkd _ c, hop _ c, hpc _ c, hnOp, bP14, if_neg c] using h9
  · unfold Cb11
    intro j hj
    rw [e1] at hj
    by_cases c : j = nB M
    · subst c
      rw [v11, gLn]
    · have hj2 : j < nB M := by omega
      have h9 := r_b11 R j hj2
      simpa (disch := decide) only [gJ _ _ c, gLj _ c, bI0 _ _ c, bP0 _ _ c, bL0 _ c, hkd _ c, hop _ c, hpc _ c, hnOp, bP14, if_neg c] using h9
  · unfold CbK
    intro j hj
    rw [e1] at hj
    by_cases c : j = nB M
    · subst c
      rw [hkn]; exact ⟨g15, hk⟩
    · have hj2 : j < nB M := by omega
      have h9 := r_bK R j hj2
      simpa (disch := decide) only [gJ _ _ c, gLj _ c, bI0 _ _ c, bP0 _ _ c, bL0 _ c, hkd _ c, hop _ c, hpc _ c, hnOp, bP14, if_neg c] using h9
  · unfold CbP
    intro j hj
    rw [e1] at hj
    by_cases c : j = nB M
    · subst c
      rw [hpn]; exact g16
    · have hj2 : j < nB M := by omega
      have h9 := r_bP R j hj2
      simpa (disch := decide) only [gJ _ _ c, gLj _ c, bI0 _ _ c, bP0 _ _ c, bL0 _ c, hkd _ c, hop _ c, hpc _ c, hnOp, bP14, if_neg c] using h9
  · unfold CbO
    intro j hj
    rw [e1] at hj
    by_cases c : j = nB M
    · subst c
      rw [hon]; exact ⟨g19, hq4⟩
    · have hj2 : j < nB M := by omega
      have h9 := r_bO R j hj2
      simpa (disch := decide) only [gJ _ _ c, gLj _ c, bI0 _ _ c, bP0 _ _ c, bL0 _ c, hkd _ c, hop _ c, hpc _ c, hnOp, bP14, if_neg c] using h9
  · unfold CbW
    intro j hj
    rw [e1] at hj
    by_cases c : j = nB M
    · subst c
      rw [hkn, hon, hnOp]; exact fun _ => hs1
    · have hj2 : j < nB M := by omega
      have h9 := r_bW R j hj2
      simpa (disch := decide) only [gJ _ _ c, gLj _ c, bI0 _ _ c, bP0 _ _ c, bL0 _ c, hkd _ c, hop _ c, hpc _ c, hnOp, bP14, if_neg c] using h9
  · unfold CbZ
    intro j hj
    rw [e1] at hj
    by_cases c : j = nB M
    · subst c
      rw [hpn, g18]; exact ⟨fun z => absurd z (by decide), fun z => by omega⟩
    · have hj2 : j < nB M := by omega
      have h9 := r_bZ R j hj2
      simpa (disch := decide) only [gJ _ _ c, gLj _ c, bI0 _ _ c, bP0 _ _ c, bL0 _ c, hkd _ c, hop _ c, hpc _ c, hnOp, bP14, if_neg c] using h9
  · unfold CbF
    intro j hj
    rw [e1] at hj
    by_cases c : j = nB M
    · subst c
      rw [g121]; exact hb0
    · have hj2 : j < nB M := by omega
      have h9 := r_bF R j hj2
      simpa (disch := decide) only [gJ _ _ c, gLj _ c, bI0 _ _ c, bP0 _ _ c, bL0 _ c, hkd _ c, hop _ c, hpc _ c, hnOp, bP14, if_neg c] using h9
  · unfold CbS
    intro j hj
    rw [e1] at hj
    by_cases c : j = nB M
    · subst c
      rw [g122]; exact hsb
    · have hj2 : j < nB M := by omega
      have h9 := r_bS R j hj2
      simpa (disch := decide) only [gJ _ _ c, gLj _ c, bI0 _ _ c, bP0 _ _ c, bL0 _ c, hkd _ c, hop _ c, hpc _ c, hnOp, bP14, if_neg c] using h9
  · unfold CbC
    intro j hj
    rw [e1] at hj
    by_cases c : j = nB M
    · subst c
      rw [g17, nI_toInt hc0]; omega
    · have hj2 : j < nB M := by omega
      have h9 := r_bC R j hj2
      simpa (disch := decide) only [gJ _ _ c, gLj _ c, bI0 _ _ c, bP0 _ _ c, bL0 _ c, hkd _ c, hop _ c, hpc _ c, hnOp, bP14, if_neg c] using h9
  · unfold CbT
    intro j hj
    rw [e1] at hj
    by_cases c : j = nB M
    · subst c
      rw [g18]; exact ⟨1, rfl, by omega⟩
    · have hj2 : j < nB M := by omega
      have h9 := r_bT R j hj2
      simpa (disch := decide) only [gJ _ _ c, gLj _ c, bI0 _ _ c, bP0 _ _ c, bL0 _ c, hkd _ c, hop _ c, hpc _ c, hnOp, bP14, if_neg c] using h9
  · unfold CbU
    intro j hj
    rw [e1] at hj
    by_cases c : j = nB M
    · subst c
      rw [hkn, gW, if_pos rfl]
    · have hj2 : j < nB M := by omega
      have h9 := r_bU R j hj2
      rw [hkd _ c, gW]; split; rfl; exact h9
  · unfold Cbq
    rw [e1, htp]
    omega
  · unfold Cps
    intro he i hi
    rw [e1, hnin, hnO, hnpr]
    exact r_ps R he i hi
  · unfold Cbp
    intro j i hj hb h64
    rw [e1] at hj hb
    by_cases c : j = nB M
    · subst c; rw [gLn]; exact hpa i (by omega) h64
    · rw [gLj _ c]; exact r_bp R j i (by omega) (by omega) h64
  · unfold Cbc
    rw [e1, tot_1, htt _ (Nat.le_refl _), g17, hhN, nI_toInt hc0]
    push_cast
    omega
  · unfold CfB
    intro j hj h60
    rw [e1] at hj
    rw [bX _ (fun q => by have := tk_inj.mp q; omega)]
    exact r_fB R j (by omega) h60
  · unfold CfL
    intro i q h1 h2 h3
    rw [hnLn] at h3
    rw [bX _ (tk_ne (by decide) (by decide) (by decide) : tk 3 _ ≠ tk 0 _)]
    exact r_fL R i q h1 h2 h3
  · unfold CfO
    intro i q h1 h2 h3
    rw [hnOp] at h3
    rw [bX _ (tk_ne (by decide) (by decide) (by decide) : tk 5 _ ≠ tk 0 _)]
    exact r_fO R i q h1 h2 h3
  · unfold CfM
    intro m h1 h2
    rw [hnM] at h1
    rw [bX _ (tk_ne (by decide) (by decide) (by decide) : tk 4 _ ≠ tk 0 _)]
    exact r_fM R m h1 h2
  · unfold CfP
    intro m h1 h2
    rw [hnP] at h1
    rw [bX _ (tk_ne (by decide) (by decide) (by decide) : tk 7 _ ≠ tk 0 _), bX _ (tk_ne (by decide) (by decide) (by decide) : tk 21 _ ≠ tk 0 _), bX _ (tk_ne (by decide) (by decide) (by decide) : tk 22 _ ≠ tk 0 _)]
    exact r_fP R m h1 h2
  · unfold CfR
    intro m h1 h2
    rw [hnO] at h1
    rw [bX _ (tk_ne (by decide) (by decide) (by decide) : tk 6 _ ≠ tk 0 _)]
    exact r_fR R m h1 h2
  · unfold CfG
    obtain ⟨Q, h1, h2⟩ := r_fG R
    refine ⟨Q, h1, fun c i hi => ?_⟩
    rw [bX _ (by unfold tk; omega)]
    exact h2 c i hi
  · unfold Cm0
    have h9 := r_m0 R
    simpa (disch := decide) only [gO, hnM, hnP, hnO, hhN, hnOp, hnLn, hlnP, hpr, bI, bI2, bI8, bP] using h9
  · unfold Cmn
    have h9 := r_mn R
    simpa (disch := decide) only [gO, hnM, hnP, hnO, hhN, hnOp, hnLn, hlnP, hpr, bI, bI2, bI8, bP] using h9
  · unfold Cm1
    have h9 := r_m1 R
    simpa (disch := decide) only [gO, hnM, hnP, hnO, hhN, hnOp, hnLn, hlnP, hpr, bI, bI2, bI8, bP] using h9
  · unfold Cm2
    have h9 := r_m2 R
    simpa (disch := decide) only [gO, hnM, hnP, hnO, hhN, hnOp, hnLn, hlnP, hpr, bI, bI2, bI8, bP] using h9
  · unfold Cm3
    have h9 := r_m3 R
    simpa (disch := decide) only [gO, hnM, hnP, hnO, hhN, hnOp, hnLn, hlnP, hpr, bI, bI2, bI8, bP] using h9
  · unfold Cm4
    have h9 := r_m4 R
    simpa (disch := decide) only [gO, hnM, hnP, hnO, hhN, hnOp, hnLn, hlnP, hpr, bI, bI2, bI8, bP] using h9
  · unfold Cm5
    have h9 := r_m5 R
    simpa (disch := decide) only [gO, hnM, hnP, hnO, hhN, hnOp, hnLn, hlnP, hpr, bI, bI2, bI8, bP] using h9
  · unfold Cm9
    have h9 := r_m9 R
    simpa (disch := decide) only [gO, hnM, hnP, hnO, hhN, hnOp, hnLn, hlnP, hpr, bI, bI2, bI8, bP] using h9
  · unfold Cm11
    have h9 := r_m11 R
    simpa (disch := decide) only [gO, hnM, hnP, hnO, hhN, hnOp, hnLn, hlnP, hpr, bI, bI2, bI8, bP] using h9
  · unfold Cm13
    have h9 := r_m13 R
    simpa (disch := decide) only [gO, hnM, hnP, hnO, hhN, hnOp, hnLn, hlnP, hpr, bI, bI2, bI8, bP] using h9
  · unfold Cm14
    have h9 := r_m14 R
    simpa (disch := decide) only [gO, hnM, hnP, hnO, hhN, hnOp, hnLn, hlnP, hpr, bI, bI2, bI8, bP] using h9
  · unfold Cm6
    have h9 := r_m6 R
    simpa (disch := decide) only [gO, hnM, hnP, hnO, hhN, hnOp, hnLn, hlnP, hpr, bI, bI2, bI8, bP] using h9
  · unfold Cm7
    have h9 := r_m7 R
    simpa (disch := decide) only [gO, hnM, hnP, hnO, hhN, hnOp, hnLn, hlnP, hpr, bI, bI2, bI8, bP] using h9
  · unfold Cm8
    have h9 := r_m8 R
    simpa (disch := decide) only [gO, hnM, hnP, hnO, hhN, hnOp, hnLn, hlnP, hpr, bI, bI2, bI8, bP] using h9
  · unfold Cm12
    have h9 := r_m12 R
    simpa (disch := decide) only [gO, hnM, hnP, hnO, hhN, hnOp, hnLn, hlnP, hpr, bI, bI2, bI8, bP] using h9
  · unfold Cm10
    intro m j hm hj hl
    rw [hnM] at hm
    have hl2 : gI M 34 m = nI j := by rw [← gO _ _ rfl]; exact hl
    have hj2 : j < nB M := ldlt R hm hl2 (by omega)
    have c : ¬ j = nB M := by omega
    rw [bI _ _ _ (by decide) rfl, gJ _ _ c (by decide) (by decide)]
    exact r_m10 R m j hm hj2 hl2
  · unfold Cmma
    have h9 := r_mma R
    simpa (disch := decide) only [gO, hnM, hnP, hnO, hhN, hnOp, hnLn, hlnP, hpr, bI, bI2, bI8, bP] using h9
  · unfold Cmmb
    intro m hm
    rw [hnM] at hm
    rw [gO _ _ rfl, gO _ _ rfl, gO _ _ rfl]
    rcases r_mmb R m hm with h9 | ⟨j, q, h1, h2, h3, h4, h5⟩
    · exact Or.inl h9
    · have c : ¬ j = nB M := by omega
      exact Or.inr ⟨j, q, h1, by omega, by rw [gJ _ _ c (by decide) (by decide)]; exact h3, h4, by rw [hnP]; exact h5⟩
  · unfold Cmmc
    have h9 := r_mmc R
    simpa (disch := decide) only [gO, hnM, hnP, hnO, hhN, hnOp, hnLn, hlnP, hpr, bI, bI2, bI8, bP] using h9
  · unfold Cmr29
    have h9 := r_mr29 R
    simpa (disch := decide) only [gO, hnM, hnP, hnO, hhN, hnOp, hnLn, hlnP, hpr, bI, bI2, bI8, bP] using h9
  · unfold Cmr30
    have h9 := r_mr30 R
    simpa (disch := decide) only [gO, hnM, hnP, hnO, hhN, hnOp, hnLn, hlnP, hpr, bI, bI2, bI8, bP] using h9
  · unfold Cmr31
    have h9 := r_mr31 R
    simpa (disch := decide) only [gO, hnM, hnP, hnO, hhN, hnOp, hnLn, hlnP, hpr, bI, bI2, bI8, bP] using h9
  · unfold Cmr32
    have h9 := r_mr32 R
    simpa (disch := decide) only [gO, hnM, hnP, hnO, hhN, hnOp, hnLn, hlnP, hpr, bI, bI2, bI8, bP] using h9
  · unfold Cmr35
    have h9 := r_mr35 R
    simpa (disch := decide) only [gO, hnM, hnP, hnO, hhN, hnOp, hnLn, hlnP, hpr, bI, bI2, bI8, bP] using h9
  · unfold Cmr39
    have h9 := r_mr39 R
    simpa (disch := decide) only [gO, hnM, hnP, hnO, hhN, hnOp, hnLn, hlnP, hpr, bI, bI2, bI8, bP] using h9
  · unfold Cmr40
    have h9 := r_mr40 R
    simpa (disch := decide) only [gO, hnM, hnP, hnO, hhN, hnOp, hnLn, hlnP, hpr, bI, bI2, bI8, bP] using h9
  · unfold Cmd
    have h9 := r_md R
    simpa (disch := decide) only [gO, hnM, hnP, hnO, hhN, hnOp, hnLn, hlnP, hpr, bI, bI2, bI8, bP] using h9
  · unfold Cmw
    have h9 := r_mw R
    simpa (disch := decide) only [gO, hnM, hnP, hnO, hhN, hnOp, hnLn, hlnP, hpr, bI, bI2, bI8, bP] using h9
  · unfold Cq0
    have h9 := r_q0 R
    simpa (disch := decide) only [gO, hnM, hnP, hnO, hhN, hnOp, hnLn, hlnP, hpr, bI, bI2, bI8, bP] using h9
  · unfold Cqn
    have h9 := r_qn R
    simpa (disch := decide) only [gO, hnM, hnP, hnO, hhN, hnOp, hnLn, hlnP, hpr, bI, bI2, bI8, bP] using h9
  · unfold Cq1
    have h9 := r_q1 R
    simpa (disch := decide) only [gO, hnM, hnP, hnO, hhN, hnOp, hnLn, hlnP, hpr, bI, bI2, bI8, bP] using h9
  · unfold Cq2
    have h9 := r_q2 R
    simpa (disch := decide) only [gO, hnM, hnP, hnO, hhN, hnOp, hnLn, hlnP, hpr, bI, bI2, bI8, bP] using h9
  · unfold Cq3
    have h9 := r_q3 R
    simpa (disch := decide) only [gO, hnM, hnP, hnO, hhN, hnOp, hnLn, hlnP, hpr, bI, bI2, bI8, bP] using h9
  · unfold Cq4
    have h9 := r_q4 R
    simpa (disch := decide) only [gO, hnM, hnP, hnO, hhN, hnOp, hnLn, hlnP, hpr, bI, bI2, bI8, bP] using h9
  · unfold Cq5
    have h9 := r_q5 R
    simpa (disch := decide) only [gO, hnM, hnP, hnO, hhN, hnOp, hnLn, hlnP, hpr, bI, bI2, bI8, bP] using h9
  · unfold Cq6
    have h9 := r_q6 R
    simpa (disch := decide) only [gO, hnM, hnP, hnO, hhN, hnOp, hnLn, hlnP, hpr, bI, bI2, bI8, bP] using h9
  · unfold Cql
    have h9 := r_ql R
    simpa (disch := decide) only [gO, hnM, hnP, hnO, hhN, hnOp, hnLn, hlnP, hpr, bI, bI2, bI8, bP] using h9
  · unfold Cqw
    have h9 := r_qw R
    simpa (disch := decide) only [gO, hnM, hnP, hnO, hhN, hnOp, hnLn, hlnP, hpr, bI, bI2, bI8, bP] using h9
  · unfold Cqm
    have h9 := r_qm R
    simpa (disch := decide) only [gO, hnM, hnP, hnO, hhN, hnOp, hnLn, hlnP, hpr, bI, bI2, bI8, bP] using h9
  · unfold Cqr
    have h9 := r_qr R
    simpa (disch := decide) only [gO, hnM, hnP, hnO, hhN, hnOp, hnLn, hlnP, hpr, bI, bI2, bI8, bP] using h9
  · unfold Cr0
    have h9 := r_r0 R
    simpa (disch := decide) only [gO, hnM, hnP, hnO, hhN, hnOp, hnLn, hlnP, hpr, bI, bI2, bI8, bP] using h9
  · unfold Cr1
    have h9 := r_r1 R
    simpa (disch := decide) only [gO, hnM, hnP, hnO, hhN, hnOp, hnLn, hlnP, hpr, bI, bI2, bI8, bP] using h9
  · unfold Cr2
    have h9 := r_r2 R
    simpa (disch := decide) only [gO, hnM, hnP, hnO, hhN, hnOp, hnLn, hlnP, hpr, bI, bI2, bI8, bP] using h9
  · unfold Cr3
    have h9 := r_r3 R
    simpa (disch := decide) only [gO, hnM, hnP, hnO, hhN, hnOp, hnLn, hlnP, hpr, bI, bI2, bI8, bP] using h9
  · unfold Cr4
    have h9 := r_r4 R
    simpa (disch := decide) only [gO, hnM, hnP, hnO, hhN, hnOp, hnLn, hlnP, hpr, bI, bI2, bI8, bP] using h9
  · unfold Cr5
    have h9 := r_r5 R
    simpa (disch := decide) only [gO, hnM, hnP, hnO, hhN, hnOp, hnLn, hlnP, hpr, bI, bI2, bI8, bP] using h9
  · unfold Cr6
    have h9 := r_r6 R
    simpa (disch := decide) only [gO, hnM, hnP, hnO, hhN, hnOp, hnLn, hlnP, hpr, bI, bI2, bI8, bP] using h9
  · unfold Crk
    have h9 := r_rk R
    simpa (disch := decide) only [gO, hnM, hnP, hnO, hhN, hnOp, hnLn, hlnP, hpr, bI, bI2, bI8, bP] using h9
  · unfold Crp
    have h9 := r_rp R
    simpa (disch := decide) only [gO, hnM, hnP, hnO, hhN, hnOp, hnLn, hlnP, hpr, bI, bI2, bI8, bP] using h9
  · unfold Crq
    have h9 := r_rq R
    simpa (disch := decide) only [gO, hnM, hnP, hnO, hhN, hnOp, hnLn, hlnP, hpr, bI, bI2, bI8, bP] using h9
  · unfold Crr
    have h9 := r_rr R
    simpa (disch := decide) only [gO, hnM, hnP, hnO, hhN, hnOp, hnLn, hlnP, hpr, bI, bI2, bI8, bP] using h9
  · unfold Crs
    intro r hr
    rw [hnO] at hr
    rw [gO _ _ rfl]
    rcases r_rs R r hr with h9 | ⟨j, h1, h2⟩
    · exact Or.inl h9
    · exact Or.inr ⟨j, h1, by omega⟩
section RR
variable {e : Nat} {a b : Sg} {M : MS}
def gvS (a : Sg) (j c p t : Nat) : Sg := wI (wI a (tk 0 j) 3 (nI (c - c * t / p))) (tk 0 j) 2 (nI (p - t))
theorem gv_S (a : Sg) {j c p t : Nat} (h : p - t ≠ 0) : gv a j c p t = gvS a j c p t := by unfold gv gvS; rw [if_neg h]
def gvG (a : Sg) (j c p t : Nat) : Sg := wI (wI (wI a (tk 0 j) 3 (nI (c - c * t / p))) (tk 0 j) 2 0) (tk 0 j) 4 4
theorem gv_G (a : Sg) {j c p t : Nat} (h : p - t = 0) : gv a j c p t = gvG a j c p t := by unfold gv gvG; rw [if_pos h]
def spA (a : Sg) (n k v : Nat) (o y s f : Int32) : Sg := wI (wI (wI (wI (nbA a n k v 1) (tk 0 n) 5 o) (tk 0 n) 6 y) (tk 0 n) 8 s) (tk 0 n) 10 f
def spM (M : MS) (n k v : Nat) (o y s f : Int32) : MS := uI (uI (uI (uI (mNB M n k v 1) 19 n o) 20 n y) 122 n s) 23 n f
theorem spM_o (M : MS) {n k v : Nat} {o y s f : Int32} (t j : Nat) (h : ¬ j = n) (h2 : t ≠ 214) : gI (spM M n k v o y s f) t j = gI M t j := by
  unfold spM mNB
  simp [gI_uI, gI_uL, h, h2]
theorem spM_z (M : MS) {n k v : Nat} {o y s f : Int32} (t j : Nat) (h : zb t = true) : gI (spM M n k v o y s f) t j = gI M t j := by
  have h : t ≠ 15 ∧ t ≠ 16 ∧ t ≠ 17 ∧ t ≠ 18 ∧ t ≠ 19 ∧ t ≠ 20 ∧ t ≠ 121 ∧ t ≠ 122 ∧ t ≠ 23 ∧ t ≠ 124 ∧ t ≠ 25 ∧ t ≠ 214 ∧ t ≠ 113 := by unfold zb at h; simp only [Bool.and_eq_true, bne_iff_ne] at h; omega
  unfold spM mNB
  simp (disch := omega) only [gI_ne, gI_uL]
theorem spM_n (M : MS) {n k v : Nat} {o y s f : Int32} : gI (spM M n k v o y s f) 15 n = nI k ∧ gI (spM M n k v o y s f) 16 n = nI v ∧ gI (spM M n k v o y s f) 17 n = 0 ∧ gI (spM M n k v o y s f) 18 n = 1 ∧ gI (spM M n k v o y s f) 19 n = o ∧ gI (spM M n k v o y s f) 20 n = y ∧ gI (spM M n k v o y s f) 121 n = 0 ∧ gI (spM M n k v o y s f) 122 n = s ∧ gI (spM M n k v o y s f) 23 n = f ∧ gI (spM M n k v o y s f) 124 n = 0 ∧ gI (spM M n k v o y s f) 25 n = -1 ∧ gI (spM M n k v o y s f) 214 0 = nI (n + 1) ∧ gL (spM M n k v o y s f) n = 0 ∧ (∀ i, gI (spM M n k v o y s f) 113 i = gI M 113 i) ∧ (∀ j, ¬ j = n → gL (spM M n k v o y s f) j = gL M j) := by
  unfold spM mNB
  refine ⟨?_, ?_, ?_, ?_, ?_, ?_, ?_, ?_, ?_, ?_, ?_, ?_, ?_, ?_, ?_⟩
  all_goals first | (intro i h; simp [gL_uI, gL_uL, h]; done) | (intro i; simp [gI_uI, gI_uL]; done) | (simp [gI_uI, gI_uL, gL_uI, gL_uL]; done)
theorem tkC_cg {M N : MS} {j : Nat} (t : Int32) (h1 : gI N 17 j = gI M 17 j) (h2 : gI N 16 j = gI M 16 j) : tkC N j t = tkC M j t := by unfold tkC; rw [h1, h2]
theorem tk1_cg {M N : MS} {j : Nat} (t : Int32) (s i : Nat) (h : ∀ s, gI N s j = gI M s j) (h3 : i ≠ j → gI N s i = gI M s i) : gI (tk1 N j t) s i = gI (tk1 M j t) s i := by
  by_cases c : i = j
  · subst c
    unfold tk1
    rw [tkC_cg t (h 17) (h 16)]
    simp only [gI_uI, h]
  · rw [tk1_o _ _ _ _ _ c, tk1_o _ _ _ _ _ c, h3 c]
end RR
section RR
variable {e : Nat} {a b : Sg} {M : MS}
theorem tk1_c {M N : MS} {j : Nat} (t : Int32) (s i : Nat) (h : gI N 16 j = gI M 16 j) (h7 : gI N 17 j = gI M 17 j) (h8 : gI N 18 j = gI M 18 j) (h3 : gI N s i = gI M s i) : gI (tk1 N j t) s i = gI (tk1 M j t) s i := by
  unfold tk1
  rw [tkC_cg t h7 h]
  simp only [gI_uI, h, h7, h8, h3]
theorem tk1_tp (R : Rel e a M) {j t : Nat} (hj : j < nB M) (ht : t ≤ pc M j) (hp : 0 < pc M j) : totp (tk1 M j (nI t)) (nB M) + t = totp M (nB M) := by
  have hx := pc_le R hj
  rw [(tk1_e R hj ht hp).2, totp_u _ _ _ _ _ (by decide)]
  have h := totp_pc (M := uI M 17 j (nI (cN M j - cN M j * t / pc M j))) (j := j) (n := nB M) (p := pc M j - t) _ rfl (by omega) hj
  have e2 : totp (uI M 17 j (nI (cN M j - cN M j * t / pc M j))) (nB M) = totp M (nB M) := totp_u _ _ _ _ _ (by decide)
  rw [pc_u _ _ _ _ _ (by decide), e2] at h
  omega
theorem pc_pos (R : Rel e a M) {j : Nat} (hj : j < nB M) (h : gI M 18 j = 1) : 0 < pc M j := by
  rcases Nat.eq_zero_or_pos (pc M j) with z | z
  · have q := (r_bZ R j hj).mpr z
    rw [h] at q
    exact absurd q (by decide)
  · exact z
theorem M9_f (M : MS) (j : Nat) : cN (uI M 259 0 0) j = cN M j ∧ pc (uI M 259 0 0) j = pc M j ∧ kd (uI M 259 0 0) j = kd M j ∧ op (uI M 259 0 0) j = op M j ∧ (∀ i, nOp (uI M 259 0 0) i = nOp M i) ∧ nB (uI M 259 0 0) = nB M ∧ hN (uI M 259 0 0) = hN M ∧ tot (uI M 259 0 0) (nB M) = tot M (nB M) ∧ totp (uI M 259 0 0) (nB M) = totp M (nB M) :=
  ⟨by unfold cN; rw [gI_ne (by decide)], pc_u _ _ _ _ _ (by decide), kd_u _ _ _ _ _ (by decide), op_u _ _ _ _ _ (by decide), fun i => nOp_u _ _ _ _ _ (by decide), nB_u _ _ _ _ (by decide), hN_u _ _ _ _ (by decide), tot_u _ _ _ _ _ (by decide), totp_u _ _ _ _ _ (by decide)⟩
def slM (M : MS) (n k v j : Nat) (o y s f : Int32) : MS := uL (uI (tk1 (spM M n k v o y s f) j (nI v)) 17 n (gI (tk1 (spM M n k v o y s f) j (nI v)) 17 n + tkC (spM M n k v o y s f) j (nI v))) n (gL (spM M n k v o y s f) n ||| bit j)
def slA (a : Sg) (n k v j c p : Nat) (o y s f : Int32) : Sg := wI (gvS (wL (spA a n k v o y s f) (tk 0 n) 11 (bit j)) j c p v) (tk 0 n) 3 (nI (c * v / p))
set_option maxHeartbeats 8000000 in
theorem rel_split (R : Rel e a M) {j v : Nat} (hj : j < nB M) (h60 : nB M < 60) (st : gI M 18 j = 1) (hv1 : 1 ≤ v) (hvp : v < pc M j) : Rel e (slA a (nB M) (kd M j) v j (cN M j) (pc M j) (gI M 19 j) (gI M 20 j) (gI M 122 j) (gI M 23 j)) (slM (uI M 259 0 0) (nB M) (kd M j) v j (gI M 19 j) (gI M 20 j) (gI M 122 j) (gI M 23 j)) := by
  have R1 := rel_thrown R 0
  obtain ⟨f1, f2, f3, f4, f5, f6, f7, f8, f9⟩ := M9_f M j
  have hpp : 0 < pc M j := by omega
  have hpx := pc_le R hj
  have hcx := (cN_e R hj).2
  have hK := r_bK R j hj
  have hO := r_bO R j hj
  have hW := r_bW R j hj (Or.inl st)
  have hU := r_bU R j hj
  have hjn : ¬ j = nB M := by omega
  have hnj : ¬ nB M = j := by omega
  have hsl := share_le (c := cN M j) (t := v) (p := pc M j) (by omega)
  have R2 := rel_giveW R1 (j := j) (t := v) (by rw [f6]; exact hj) (by rw [gI_ne (by decide)]; exact st) (by rw [f2]; omega)
  rw [f1, f2, gv_S _ (by omega)] at R2
  have hn : nB (tk1 (uI M 259 0 0) j (nI v)) = nB M := (tk1_n _ _ _).1.trans f6
  have hh : hN (tk1 (uI M 259 0 0) j (nI v)) = hN M := (tk1_n _ _ _).2.2.2.2.trans f7
  have ht := tk1_tot R1 (j := j) (t := v) (n := nB M) (by rw [f6]; exact hj) hj (by rw [f2]; omega) (by rw [f2]; exact hpp)
  rw [f1, f2, f8] at ht
  have hq := tk1_tp R1 (j := j) (t := v) (by rw [f6]; exact hj) (by rw [f2]; omega) (by rw [f2]; exact hpp)
  rw [f6, f9] at hq
  have hC := (tk1_e R1 (j := j) (t := v) (by rw [f6]; exact hj) (by rw [f2]; omega) (by rw [f2]; exact hpp)).1
  rw [f1, f2] at hC
  have hbq := r_bq R
  have hbc := r_bc R
  obtain ⟨s15, s16, s17, s18, s19, s20, s121, s122, s23, s124, s25, s214, sL, s113, sLj⟩ := spM_n (uI M 259 0 0) (n := nB M) (k := kd M j) (v := v) (o := gI M 19 j) (y := gI M 20 j) (s := gI M 122 j) (f := gI M 23 j)
  have so := fun t (h : t ≠ 214) => spM_o (uI M 259 0 0) (n := nB M) (k := kd M j) (v := v) (o := gI M 19 j) (y := gI M 20 j) (s := gI M 122 j) (f := gI M 23 j) t j hjn h
  have hop5 : nOp (tk1 (uI M 259 0 0) j (nI v)) (kd M j) = nOp M (kd M j) := by unfold nOp; rw [tk1_g _ _ _ _ _ (by decide) (by decide) (by decide), gI_ne (by decide)]
  refine rel_newN R2 (kd M j) v (cN M j * v / pc M j) (op M j) (gI M 20 j) (gI M 122 j) (gI M 23 j) (bit j) ?_ ?_ ?_ ?_ ?_ ?_ ?_ ?_ ?_ ?_ ?_ ?_ ?_ ?_ ?_ ?_ ?_ ?_ ?_ ?_ ?_ ?_ ?_ ?_ ?_ ?_ ?_ ?_ ?_ ?_ ?_ ?_ ?_ ?_ ?_ ?_ ?_ ?_ ?_ ?_ ?_ ?_ ?_ ?_ ?_ ?_ ?_ ?_ ?_ ?_ ?_
  all_goals try rw [hn]
  · exact h60
  · exact hK.2
  · exact hv1
  · omega
  · omega
  · omega
  · rw [hh]; omega
  · exact hO.2
  · rw [hop5]; exact hW
  · exact r_bS R j hj
  · exact fun i h1 h2 => by rw [bt_bit (by omega) h2]; exact decide_eq_false (by omega)
  · intro t i h
    have h2 := h
    have h : t ≠ 15 ∧ t ≠ 16 ∧ t ≠ 17 ∧ t ≠ 18 ∧ t ≠ 19 ∧ t ≠ 20 ∧ t ≠ 121 ∧ t ≠ 122 ∧ t ≠ 23 ∧ t ≠ 124 ∧ t ≠ 25 ∧ t ≠ 214 ∧ t ≠ 113 := by unfold zb at h; simp only [Bool.and_eq_true, bne_iff_ne] at h; omega
    unfold slM
    rw [gI_uL, gI_ne (by omega), tk1_g _ _ _ _ _ (by omega) (by omega) (by omega), tk1_g _ _ _ _ _ (by omega) (by omega) (by omega), spM_z _ _ _ h2]
  · intro t i h h1 h2
    unfold slM
    rw [gI_uL, gI_nj h]
    exact tk1_c _ _ _ (so 16 (by decide)) (so 17 (by decide)) (so 18 (by decide)) (spM_o _ _ _ h h1)
  · unfold slM
    rw [gI_uL, gI_ne (by decide), tk1_g _ _ _ _ _ (by decide) (by decide) (by decide), s214]
  · intro i
    unfold slM
    rw [gI_uL, gI_ne (by decide), tk1_g _ _ _ _ _ (by decide) (by decide) (by decide), s113, tk1_g _ _ _ _ _ (by decide) (by decide) (by decide)]
    split
    · rename_i c; subst c; rw [gI_ne (by decide)]; exact hU
    · rfl
  · unfold slM; rw [gI_uL, gI_ne (by decide), tk1_o _ _ _ _ _ hnj, s15]
  · unfold slM; rw [gI_uL, gI_ne (by decide), tk1_o _ _ _ _ _ hnj, s16]
  · unfold slM; rw [gI_uL, gI_uI, if_pos ⟨rfl, rfl⟩, tk1_o _ _ _ _ _ hnj, s17, tkC_cg _ (so 17 (by decide)) (so 16 (by decide)), hC, Int32.zero_add]
  · unfold slM; rw [gI_uL, gI_ne (by decide), tk1_o _ _ _ _ _ hnj, s18]
  · unfold slM; rw [gI_uL, gI_ne (by decide), tk1_o _ _ _ _ _ hnj, s19]; exact hO.1
  · unfold slM; rw [gI_uL, gI_ne (by decide), tk1_o _ _ _ _ _ hnj, s20]
  · unfold slM; rw [gI_uL, gI_ne (by decide), tk1_o _ _ _ _ _ hnj, s121]
  · unfold slM; rw [gI_uL, gI_ne (by decide), tk1_o _ _ _ _ _ hnj, s122]
  · unfold slM; rw [gI_uL, gI_ne (by decide), tk1_o _ _ _ _ _ hnj, s23]
  · unfold slM; rw [gI_uL, gI_ne (by decide), tk1_o _ _ _ _ _ hnj, s124]
  · unfold slM; rw [gI_uL, gI_ne (by decide), tk1_o _ _ _ _ _ hnj, s25]
  · intro i h
    unfold slM
    rw [gL_uL]
    split
    · rename_i q; first | exact absurd q h | exact absurd q.symm h
    · exact sLj i h
  · unfold slM
    show (if nB M = nB M then gL (spM _ _ _ _ _ _ _ _) (nB M) ||| bit j else _) = bit j
    rw [if_pos rfl, sL]
    exact bt_ext fun i _ => by rw [bt_or, bt_0, Bool.false_or]
  · intro c i q h1 h2; have h : c ≠ 0 ∧ c ≠ 2 ∧ c ≠ 8 := by unfold zc at h2; simp only [Bool.and_eq_true, bne_iff_ne] at h2; omega
    unfold slA gvS spA nbA; simp (disch := omega) [gI_uI, gI_uL, gL_uI, gL_uL, sI_wI, sI_wP, sI_wN, sI_wL, sP_wI, sP_wP, sP_wN, sP_wL, sL_wI, sL_wP, sL_wN, sL_wL, sX_wI, sX_wP, sX_wN, sX_wL, tk_ne9, tk_inj]
  · intro i q h; unfold slA gvS spA nbA; simp [gI_uI, gI_uL, gL_uI, gL_uL, sI_wI, sI_wP, sI_wN, sI_wL, sP_wI, sP_wP, sP_wN, sP_wL, sL_wI, sL_wP, sL_wN, sL_wL, sX_wI, sX_wP, sX_wN, sX_wL, tk_ne9, tk_inj, h]
  · intro i; unfold slA gvS spA nbA; simp [gI_uI, gI_uL, gL_uI, gL_uL, sI_wI, sI_wP, sI_wN, sI_wL, sP_wI, sP_wP, sP_wN, sP_wL, sL_wI, sL_wP, sL_wN, sL_wL, sX_wI, sX_wP, sX_wN, sX_wL, tk_ne9, tk_inj]
  · intro q h; unfold slA gvS spA nbA; simp [gI_uI, gI_uL, gL_uI, gL_uL, sI_wI, sI_wP, sI_wN, sI_wL, sP_wI, sP_wP, sP_wN, sP_wL, sL_wI, sL_wP, sL_wN, sL_wL, sX_wI, sX_wP, sX_wN, sX_wL, tk_ne9, tk_inj, h]
  · unfold slA gvS spA nbA; simp [gI_uI, gI_uL, gL_uI, gL_uL, sI_wI, sI_wP, sI_wN, sI_wL, sP_wI, sP_wP, sP_wN, sP_wL, sL_wI, sL_wP, sL_wN, sL_wL, sX_wI, sX_wP, sX_wN, sX_wL, tk_ne9, tk_inj]
  · intro i q h; unfold slA gvS spA nbA; simp [gI_uI, gI_uL, gL_uI, gL_uL, sI_wI, sI_wP, sI_wN, sI_wL, sP_wI, sP_wP, sP_wN, sP_wL, sL_wI, sL_wP, sL_wN, sL_wL, sX_wI, sX_wP, sX_wN, sX_wL, tk_ne9, tk_inj, h]
  · unfold slA gvS spA nbA; simp [gI_uI, gI_uL, gL_uI, gL_uL, sI_wI, sI_wP, sI_wN, sI_wL, sP_wI, sP_wP, sP_wN, sP_wL, sL_wI, sL_wP, sL_wN, sL_wL, sX_wI, sX_wP, sX_wN, sX_wL, tk_ne9, tk_inj, hjn, hnj]
  · unfold slA gvS spA nbA; simp [gI_uI, gI_uL, gL_uI, gL_uL, sI_wI, sI_wP, sI_wN, sI_wL, sP_wI, sP_wP, sP_wN, sP_wL, sL_wI, sL_wP, sL_wN, sL_wL, sX_wI, sX_wP, sX_wN, sX_wL, tk_ne9, tk_inj, hjn, hnj]
  · unfold slA gvS spA nbA; simp [gI_uI, gI_uL, gL_uI, gL_uL, sI_wI, sI_wP, sI_wN, sI_wL, sP_wI, sP_wP, sP_wN, sP_wL, sL_wI, sL_wP, sL_wN, sL_wL, sX_wI, sX_wP, sX_wN, sX_wL, tk_ne9, tk_inj, hjn, hnj]
  · unfold slA gvS spA nbA; simp [gI_uI, gI_uL, gL_uI, gL_uL, sI_wI, sI_wP, sI_wN, sI_wL, sP_wI, sP_wP, sP_wN, sP_wL, sL_wI, sL_wP, sL_wN, sL_wL, sX_wI, sX_wP, sX_wN, sX_wL, tk_ne9, tk_inj, hjn, hnj]
  · unfold slA gvS spA nbA; simp [gI_uI, gI_uL, gL_uI, gL_uL, sI_wI, sI_wP, sI_wN, sI_wL, sP_wI, sP_wP, sP_wN, sP_wL, sL_wI, sL_wP, sL_wN, sL_wL, sX_wI, sX_wP, sX_wN, sX_wL, tk_ne9, tk_inj, hjn, hnj]; exact hO.1
  · unfold slA gvS spA nbA; simp [gI_uI, gI_uL, gL_uI, gL_uL, sI_wI, sI_wP, sI_wN, sI_wL, sP_wI, sP_wP, sP_wN, sP_wL, sL_wI, sL_wP, sL_wN, sL_wL, sX_wI, sX_wP, sX_wN, sX_wL, tk_ne9, tk_inj, hjn, hnj]
  · unfold slA gvS spA nbA; simp [gI_uI, gI_uL, gL_uI, gL_uL, sI_wI, sI_wP, sI_wN, sI_wL, sP_wI, sP_wP, sP_wN, sP_wL, sL_wI, sL_wP, sL_wN, sL_wL, sX_wI, sX_wP, sX_wN, sX_wL, tk_ne9, tk_inj, hjn, hnj]
  · unfold slA gvS spA nbA; simp [gI_uI, gI_uL, gL_uI, gL_uL, sI_wI, sI_wP, sI_wN, sI_wL, sP_wI, sP_wP, sP_wN, sP_wL, sL_wI, sL_wP, sL_wN, sL_wL, sX_wI, sX_wP, sX_wN, sX_wL, tk_ne9, tk_inj, hjn, hnj]
  · unfold slA gvS spA nbA; simp [gI_uI, gI_uL, gL_uI, gL_uL, sI_wI, sI_wP, sI_wN, sI_wL, sP_wI, sP_wP, sP_wN, sP_wL, sL_wI, sL_wP, sL_wN, sL_wL, sX_wI, sX_wP, sX_wN, sX_wL, tk_ne9, tk_inj, hjn, hnj]
  · unfold slA gvS spA nbA; simp [gI_uI, gI_uL, gL_uI, gL_uL, sI_wI, sI_wP, sI_wN, sI_wL, sP_wI, sP_wP, sP_wN, sP_wL, sL_wI, sL_wP, sL_wN, sL_wL, sX_wI, sX_wP, sX_wN, sX_wL, tk_ne9, tk_inj, hjn, hnj]
  · unfold slA gvS spA nbA; simp [gI_uI, gI_uL, gL_uI, gL_uL, sI_wI, sI_wP, sI_wN, sI_wL, sP_wI, sP_wP, sP_wN, sP_wL, sL_wI, sL_wP, sL_wN, sL_wL, sX_wI, sX_wP, sX_wN, sX_wL, tk_ne9, tk_inj, hjn, hnj]
  · intro c i q h1 h2 h3; unfold slA gvS spA nbA; simp (disch := omega) [gI_uI, gI_uL, gL_uI, gL_uL, sI_wI, sI_wP, sI_wN, sI_wL, sP_wI, sP_wP, sP_wN, sP_wL, sL_wI, sL_wP, sL_wN, sL_wL, sX_wI, sX_wP, sX_wN, sX_wL, tk_ne9, tk_inj]
  · intro i q h; unfold slA gvS spA nbA; simp [gI_uI, gI_uL, gL_uI, gL_uL, sI_wI, sI_wP, sI_wN, sI_wL, sP_wI, sP_wP, sP_wN, sP_wL, sL_wI, sL_wP, sL_wN, sL_wL, sX_wI, sX_wP, sX_wN, sX_wL, tk_ne9, tk_inj, h]
  · unfold slA gvS spA nbA; simp [gI_uI, gI_uL, gL_uI, gL_uL, sI_wI, sI_wP, sI_wN, sI_wL, sP_wI, sP_wP, sP_wN, sP_wL, sL_wI, sL_wP, sL_wN, sL_wL, sX_wI, sX_wP, sX_wN, sX_wL, tk_ne9, tk_inj]
  · intro i; unfold slA gvS spA nbA; simp [gI_uI, gI_uL, gL_uI, gL_uL, sI_wI, sI_wP, sI_wN, sI_wL, sP_wI, sP_wP, sP_wN, sP_wL, sL_wI, sL_wP, sL_wN, sL_wL, sX_wI, sX_wP, sX_wN, sX_wL, tk_ne9, tk_inj]
  · intro i h; unfold slA gvS spA nbA; simp [gI_uI, gI_uL, gL_uI, gL_uL, sI_wI, sI_wP, sI_wN, sI_wL, sP_wI, sP_wP, sP_wN, sP_wL, sL_wI, sL_wP, sL_wN, sL_wL, sX_wI, sX_wP, sX_wN, sX_wL, tk_ne9, tk_inj, h]
  · intro t h; unfold slA gvS spA nbA; simp [gI_uI, gI_uL, gL_uI, gL_uL, sI_wI, sI_wP, sI_wN, sI_wL, sP_wI, sP_wP, sP_wN, sP_wL, sL_wI, sL_wP, sL_wN, sL_wL, sX_wI, sX_wP, sX_wN, sX_wL, tk_ne9, tk_inj, h]
end RR
