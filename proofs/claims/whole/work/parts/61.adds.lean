/-! What is added to a kind: frames. -/
def z_rel_addL (t : Nat) : Bool := t != 3 && t != 4 && t != 5 && t != 6
set_option maxHeartbeats 2000000 in
theorem rel_addLN {e : Nat} {a b : Sg} {M N : MS} (R : Rel e a M) (k : Nat) (p : Nat) (my ot : Int32) (hp : p < k) (hmy : ∃ q : Nat, my = nI q ∧ 1 ≤ q ∧ q ≤ 3) (hot : ot = -1 ∨ ∃ q : Nat, ot = nI q ∧ q < k ∧ q ≠ p) (hs : gI M 0 k ≠ 1) (hk : k < 12) (hlt : nLn M k < 3) (gO : ∀ t j, z_rel_addL t = true → gI N t j = gI M t j) (gJ : ∀ t j, ¬ j = (3 * k + nLn M k) → t ≠ 3 → gI N t j = gI M t j) (gC : ∀ i, gI N 3 i = if i = k then nI (nLn M k + 1) else gI M 3 i) (g4 : gI N 4 (3 * k + nLn M k) = nI p) (g5 : gI N 5 (3 * k + nLn M k) = my) (g6 : gI N 6 (3 * k + nLn M k) = ot) (gLo : ∀ j, gL N j = gL M j) (bI : ∀ c i q, c < 32 → c ≠ 3 → c ≠ 2 → sI b (tk c i) q = sI a (tk c i) q) (bI2 : ∀ i q, q ≠ 5 → sI b (tk 2 i) q = sI a (tk 2 i) q) (bIc : ∀ i, sI b (tk 2 i) 5 = if i = k then nI (nLn M k + 1) else sI a (tk 2 i) 5) (bJ : ∀ j q, ¬ j = (3 * k + nLn M k) → sI b (tk 3 j) q = sI a (tk 3 j) q) (v1 : sI b (tk 3 (3 * k + nLn M k)) 1 = my) (bP : ∀ c i q, c < 32 → c ≠ 3 → c ≠ 16 → sP b (tk c i) q = sP a (tk c i) q) (bPj : ∀ j q, ¬ j = (3 * k + nLn M k) → sP b (tk 3 j) q = sP a (tk 3 j) q) (bPa : ∀ i q, sP b (tk 16 i) q = if i = k ∧ q = nLn M k then some (tk 3 (3 * k + nLn M k)) else sP a (tk 16 i) q) (p0 : sP b (tk 3 (3 * k + nLn M k)) 0 = some (tk 2 p)) (p2 : sP b (tk 3 (3 * k + nLn M k)) 2 = kp ot) (bL : ∀ c i q, c < 32 → c ≠ 3 → sL b (tk c i) q = sL a (tk c i) q) (bX : ∀ t, t ≠ tk 3 (3 * k + nLn M k) → sX b t = sX a t) : Rel e b N := by
  have hB := r_nBx R
  have hcn : ∀ i, nLn N i = if i = k then nLn M k + 1 else nLn M i := fun i => by
    unfold nLn
    rw [gC]
    by_cases c : i = k
    · rw [if_pos c, if_pos c, nI_clamp (by omega)]; rfl
    · rw [if_neg c, if_neg c]
  have hnB : nB N = nB M := by unfold nB; rw [gO _ _ rfl]
  have hnM : nM N = nM M := by unfold nM; rw [gO _ _ rfl]
  have hnP : nP N = nP M := by unfold nP; rw [gO _ _ rfl]
  have hnO : nO N = nO M := by unfold nO; rw [gO _ _ rfl]
  have hhN : hN N = hN M := by unfold hN; rw [gO _ _ rfl]
  have hnOp : ∀ i, nOp N i = nOp M i := fun i => by unfold nOp; rw [gO _ _ rfl]
  have hpc : ∀ i, pc N i = pc M i := fun i => by unfold pc; rw [gO _ _ rfl]
  have hkd : ∀ i, kd N i = kd M i := fun i => by unfold kd; rw [gO _ _ rfl]
  have hop : ∀ i, op N i = op M i := fun i => by unfold op; rw [gO _ _ rfl]
  have hpr : ∀ i, pr N i = pr M i := fun i => by unfold pr; rw [gO _ _ rfl]
  have hin : ∀ i m, mInSt N i m = mInSt M i m := fun i m => by unfold mInSt; refine sumN_congr fun j hj => ?_; rw [gO _ _ rfl, gO _ _ rfl, gO _ _ rfl]
  have hnin : ∀ i m, nInSt N i m = nInSt M i m := fun i m => by unfold nInSt; refine sumT_congr fun j hj => ?_; rw [gO _ _ rfl, gO _ _ rfl, hpc]
  have htp : ∀ m, totp N m = totp M m := fun m => by unfold totp; exact sumT_congr fun j hj => hpc j
  have htt : ∀ m, tot N m = tot M m := by
    intro m
    induction m with
    | zero => rfl
    | succ m ih => rw [tot_1, tot_1, ih, gO _ _ rfl]
  have hnpr : ∀ i m, nProm N i m = nProm M i m := fun i m => by unfold nProm; refine sumT_congr fun j hj => ?_; rw [gO _ _ rfl, gO _ _ rfl, hpr]
  have hmpr : ∀ i m, mProm N i m = mProm M i m := fun i m => by unfold mProm; refine sumN_congr fun j hj => ?_; rw [gO _ _ rfl, gO _ _ rfl, gO _ _ rfl]
  unfold Rel
  refine ⟨?_, ?_, ?_, ?_, ?_, ?_, ?_, ?_, ?_, ?_, ?_, ?_, ?_, ?_, ?_, ?_, ?_, ?_, ?_, ?_, ?_, ?_, ?_, ?_, ?_, ?_, ?_, ?_, ?_, ?_, ?_, ?_, ?_, ?_, ?_, ?_, ?_, ?_, ?_, ?_, ?_, ?_, ?_, ?_, ?_, ?_, ?_, ?_, ?_, ?_, ?_, ?_, ?_, ?_, ?_, ?_, ?_, ?_, ?_, ?_, ?_, ?_, ?_, ?_, ?_, ?_, ?_, ?_, ?_, ?_, ?_, ?_, ?_, ?_, ?_, ?_, ?_, ?_, ?_, ?_, ?_, ?_, ?_, ?_, ?_, ?_, ?_, ?_, ?_, ?_, ?_, ?_, ?_, ?_, ?_, ?_, ?_, ?_, ?_, ?_, ?_, ?_, ?_, ?_, ?_, ?_, ?_, ?_, ?_, ?_, ?_, ?_, ?_, ?_, ?_, ?_, ?_, ?_, ?_, ?_, ?_, ?_, ?_, ?_, ?_, ?_, ?_, ?_, ?_, ?_, ?_, ?_, ?_, ?_, ?_, ?_, ?_, ?_, ?_, ?_, ?_, ?_, ?_, ?_, ?_, ?_, ?_, ?_, ?_⟩
  · unfold Cshm
    have h9 := r_shm R
    simpa (disch := decide) only [gO, gLo, hnB, hnM, hnP, hnO, hhN, hnOp, hpc, hkd, hop, hpr, hin, hnin, htp, htt, hnpr, hmpr, bI, bI2, bP, bL] using h9
  · unfold Cpx0
    have h9 := r_px0 R
    simpa (disch := decide) only [gO, gLo, hnB, hnM, hnP, hnO, hhN, hnOp, hpc, hkd, hop, hpr, hin, hnin, htp, htt, hnpr, hmpr, bI, bI2, bP, bL] using h9
  · unfold Cpx1
    have h9 := r_px1 R
    simpa (disch := decide) only [gO, gLo, hnB, hnM, hnP, hnO, hhN, hnOp, hpc, hkd, hop, hpr, hin, hnin, htp, htt, hnpr, hmpr, bI, bI2, bP, bL] using h9
  · unfold Cpx2
    have h9 := r_px2 R
    simpa (disch := decide) only [gO, gLo, hnB, hnM, hnP, hnO, hhN, hnOp, hpc, hkd, hop, hpr, hin, hnin, htp, htt, hnpr, hmpr, bI, bI2, bP, bL] using h9
  · unfold Cpf0
    have h9 := r_pf0 R
    simpa (disch := decide) only [gO, gLo, hnB, hnM, hnP, hnO, hhN, hnOp, hpc, hkd, hop, hpr, hin, hnin, htp, htt, hnpr, hmpr, bI, bI2, bP, bL] using h9
  · unfold Cpf1
    have h9 := r_pf1 R
    simpa (disch := decide) only [gO, gLo, hnB, hnM, hnP, hnO, hhN, hnOp, hpc, hkd, hop, hpr, hin, hnin, htp, htt, hnpr, hmpr, bI, bI2, bP, bL] using h9
  · unfold Cpf3
    have h9 := r_pf3 R
    simpa (disch := decide) only [gO, gLo, hnB, hnM, hnP, hnO, hhN, hnOp, hpc, hkd, hop, hpr, hin, hnin, htp, htt, hnpr, hmpr, bI, bI2, bP, bL] using h9
  · unfold Cps0
    have h9 := r_ps0 R
    simpa (disch := decide) only [gO, gLo, hnB, hnM, hnP, hnO, hhN, hnOp, hpc, hkd, hop, hpr, hin, hnin, htp, htt, hnpr, hmpr, bI, bI2, bP, bL] using h9
  · unfold Cps2
    have h9 := r_ps2 R
    simpa (disch := decide) only [gO, gLo, hnB, hnM, hnP, hnO, hhN, hnOp, hpc, hkd, hop, hpr, hin, hnin, htp, htt, hnpr, hmpr, bI, bI2, bP, bL] using h9
  · unfold Cps4
    have h9 := r_ps4 R
    simpa (disch := decide) only [gO, gLo, hnB, hnM, hnP, hnO, hhN, hnOp, hpc, hkd, hop, hpr, hin, hnin, htp, htt, hnpr, hmpr, bI, bI2, bP, bL] using h9
  · unfold Cpk
    have h9 := r_pk R
    simpa (disch := decide) only [gO, gLo, hnB, hnM, hnP, hnO, hhN, hnOp, hpc, hkd, hop, hpr, hin, hnin, htp, htt, hnpr, hmpr, bI, bI2, bP, bL] using h9
  · unfold Cpkl
    have h9 := r_pkl R
    simpa (disch := decide) only [gO, gLo, hnB, hnM, hnP, hnO, hhN, hnOp, hpc, hkd, hop, hpr, hin, hnin, htp, htt, hnpr, hmpr, bI, bI2, bP, bL] using h9
  · unfold Cpko
    have h9 := r_pko R
    simpa (disch := decide) only [gO, gLo, hnB, hnM, hnP, hnO, hhN, hnOp, hpc, hkd, hop, hpr, hin, hnin, htp, htt, hnpr, hmpr, bI, bI2, bP, bL] using h9
  · unfold Cghour
    have h9 := r_ghour R
    simpa (disch := decide) only [gO, gLo, hnB, hnM, hnP, hnO, hhN, hnOp, hpc, hkd, hop, hpr, hin, hnin, htp, htt, hnpr, hmpr, bI, bI2, bP, bL] using h9
  · unfold Cgstand
    have h9 := r_gstand R
    simpa (disch := decide) only [gO, gLo, hnB, hnM, hnP, hnO, hhN, hnOp, hpc, hkd, hop, hpr, hin, hnin, htp, htt, hnpr, hmpr, bI, bI2, bP, bL] using h9
  · unfold Cgbought
    have h9 := r_gbought R
    simpa (disch := decide) only [gO, gLo, hnB, hnM, hnP, hnO, hhN, hnOp, hpc, hkd, hop, hpr, hin, hnin, htp, htt, hnpr, hmpr, bI, bI2, bP, bL] using h9
  · unfold Cgmach
    have h9 := r_gmach R
    simpa (disch := decide) only [gO, gLo, hnB, hnM, hnP, hnO, hhN, hnOp, hpc, hkd, hop, hpr, hin, hnin, htp, htt, hnpr, hmpr, bI, bI2, bP, bL] using h9
  · unfold Cgpers
    have h9 := r_gpers R
    simpa (disch := decide) only [gO, gLo, hnB, hnM, hnP, hnO, hhN, hnOp, hpc, hkd, hop, hpr, hin, hnin, htp, htt, hnpr, hmpr, bI, bI2, bP, bL] using h9
  · unfold Cgworked
    have h9 := r_gworked R
    simpa (disch := decide) only [gO, gLo, hnB, hnM, hnP, hnO, hhN, hnOp, hpc, hkd, hop, hpr, hin, hnin, htp, htt, hnpr, hmpr, bI, bI2, bP, bL] using h9
  · unfold Cgrep
    have h9 := r_grep R
    simpa (disch := decide) only [gO, gLo, hnB, hnM, hnP, hnO, hhN, hnOp, hpc, hkd, hop, hpr, hin, hnin, htp, htt, hnpr, hmpr, bI, bI2, bP, bL] using h9
  · unfold Cgbat
    have h9 := r_gbat R
    simpa (disch := decide) only [gO, gLo, hnB, hnM, hnP, hnO, hhN, hnOp, hpc, hkd, hop, hpr, hin, hnin, htp, htt, hnpr, hmpr, bI, bI2, bP, bL] using h9
  · unfold Cgord
    have h9 := r_gord R
    simpa (disch := decide) only [gO, gLo, hnB, hnM, hnP, hnO, hhN, hnOp, hpc, hkd, hop, hpr, hin, hnin, htp, htt, hnpr, hmpr, bI, bI2, bP, bL] using h9
  · unfold Cgq
    have h9 := r_gq R
    simpa (disch := decide) only [gO, gLo, hnB, hnM, hnP, hnO, hhN, hnOp, hpc, hkd, hop, hpr, hin, hnin, htp, htt, hnpr, hmpr, bI, bI2, bP, bL] using h9
  · unfold CnB
    have h9 := r_nB R
    simpa (disch := decide) only [gO, gLo, hnB, hnM, hnP, hnO, hhN, hnOp, hpc, hkd, hop, hpr, hin, hnin, htp, htt, hnpr, hmpr, bI, bI2, bP, bL] using h9
  · unfold CnBx
    have h9 := r_nBx R
    simpa (disch := decide) only [gO, gLo, hnB, hnM, hnP, hnO, hhN, hnOp, hpc, hkd, hop, hpr, hin, hnin, htp, htt, hnpr, hmpr, bI, bI2, bP, bL] using h9
  · unfold CnM
    have h9 := r_nM R
    simpa (disch := decide) only [gO, gLo, hnB, hnM, hnP, hnO, hhN, hnOp, hpc, hkd, hop, hpr, hin, hnin, htp, htt, hnpr, hmpr, bI, bI2, bP, bL] using h9
  · unfold CnMx
    have h9 := r_nMx R
    simpa (disch := decide) only [gO, gLo, hnB, hnM, hnP, hnO, hhN, hnOp, hpc, hkd, hop, hpr, hin, hnin, htp, htt, hnpr, hmpr, bI, bI2, bP, bL] using h9
  · unfold CnP
    have h9 := r_nP R
    simpa (disch := decide) only [gO, gLo, hnB, hnM, hnP, hnO, hhN, hnOp, hpc, hkd, hop, hpr, hin, hnin, htp, htt, hnpr, hmpr, bI, bI2, bP, bL] using h9
  · unfold CnPx
    have h9 := r_nPx R
    simpa (disch := decide) only [gO, gLo, hnB, hnM, hnP, hnO, hhN, hnOp, hpc, hkd, hop, hpr, hin, hnin, htp, htt, hnpr, hmpr, bI, bI2, bP, bL] using h9
  · unfold CnO
    have h9 := r_nO R
    simpa (disch := decide) only [gO, gLo, hnB, hnM, hnP, hnO, hhN, hnOp, hpc, hkd, hop, hpr, hin, hnin, htp, htt, hnpr, hmpr, bI, bI2, bP, bL] using h9
  · unfold CnOx
    have h9 := r_nOx R
    simpa (disch := decide) only [gO, gLo, hnB, hnM, hnP, hnO, hhN, hnOp, hpc, hkd, hop, hpr, hin, hnin, htp, htt, hnpr, hmpr, bI, bI2, bP, bL] using h9
  · unfold Chr
    have h9 := r_hr R
    simpa (disch := decide) only [gO, gLo, hnB, hnM, hnP, hnO, hhN, hnOp, hpc, hkd, hop, hpr, hin, hnin, htp, htt, hnpr, hmpr, bI, bI2, bP, bL] using h9
  · unfold Chrx
    have h9 := r_hrx R
    simpa (disch := decide) only [gO, gLo, hnB, hnM, hnP, hnO, hhN, hnOp, hpc, hkd, hop, hpr, hin, hnin, htp, htt, hnpr, hmpr, bI, bI2, bP, bL] using h9
  · unfold Cstb
    have h9 := r_stb R
    simpa (disch := decide) only [gO, gLo, hnB, hnM, hnP, hnO, hhN, hnOp, hpc, hkd, hop, hpr, hin, hnin, htp, htt, hnpr, hmpr, bI, bI2, bP, bL] using h9
  · unfold Cex
    have h9 := r_ex R
    simpa (disch := decide) only [gO, gLo, hnB, hnM, hnP, hnO, hhN, hnOp, hpc, hkd, hop, hpr, hin, hnin, htp, htt, hnpr, hmpr, bI, bI2, bP, bL] using h9
  · unfold Ck0
    have h9 := r_k0 R
    simpa (disch := decide) only [gO, gLo, hnB, hnM, hnP, hnO, hhN, hnOp, hpc, hkd, hop, hpr, hin, hnin, htp, htt, hnpr, hmpr, bI, bI2, bP, bL] using h9
  · unfold Ck1
    intro i hi
    rw [bI2 _ _ (by decide), gO _ _ rfl]
    exact r_k1 R i hi
  · unfold Ck2
    have h9 := r_k2 R
    simpa (disch := decide) only [gO, gLo, hnB, hnM, hnP, hnO, hhN, hnOp, hpc, hkd, hop, hpr, hin, hnin, htp, htt, hnpr, hmpr, bI, bI2, bP, bL] using h9
  · unfold Ck3
    have h9 := r_k3 R
    simpa (disch := decide) only [gO, gLo, hnB, hnM, hnP, hnO, hhN, hnOp, hpc, hkd, hop, hpr, hin, hnin, htp, htt, hnpr, hmpr, bI, bI2, bP, bL] using h9
  · unfold Ck5
    intro i hi
    rw [bIc, gC]
    split
    · rfl
    · exact r_k5 R i hi
  · unfold Ck7
    have h9 := r_k7 R
    simpa (disch := decide) only [gO, gLo, hnB, hnM, hnP, hnO, hhN, hnOp, hpc, hkd, hop, hpr, hin, hnin, htp, htt, hnpr, hmpr, bI, bI2, bP, bL] using h9
  · unfold Ck8
    have h9 := r_k8 R
    simpa (disch := decide) only [gO, gLo, hnB, hnM, hnP, hnO, hhN, hnOp, hpc, hkd, hop, hpr, hin, hnin, htp, htt, hnpr, hmpr, bI, bI2, bP, bL] using h9
  · unfold Ck9
    have h9 := r_k9 R
    simpa (disch := decide) only [gO, gLo, hnB, hnM, hnP, hnO, hhN, hnOp, hpc, hkd, hop, hpr, hin, hnin, htp, htt, hnpr, hmpr, bI, bI2, bP, bL] using h9
  · unfold Ck10
    have h9 := r_k10 R
    simpa (disch := decide) only [gO, gLo, hnB, hnM, hnP, hnO, hhN, hnOp, hpc, hkd, hop, hpr, hin, hnin, htp, htt, hnpr, hmpr, bI, bI2, bP, bL] using h9
  · unfold Ck11
    have h9 := r_k11 R
    simpa (disch := decide) only [gO, gLo, hnB, hnM, hnP, hnO, hhN, hnOp, hpc, hkd, hop, hpr, hin, hnin, htp, htt, hnpr, hmpr, bI, bI2, bP, bL] using h9
  · unfold Ck12
    have h9 := r_k12 R
    simpa (disch := decide) only [gO, gLo, hnB, hnM, hnP, hnO, hhN, hnOp, hpc, hkd, hop, hpr, hin, hnin, htp, htt, hnpr, hmpr, bI, bI2, bP, bL] using h9
  · unfold Cksa
    have h9 := r_ksa R
    simpa (disch := decide) only [gO, gLo, hnB, hnM, hnP, hnO, hhN, hnOp, hpc, hkd, hop, hpr, hin, hnin, htp, htt, hnpr, hmpr, bI, bI2, bP, bL] using h9
  · unfold Cksb
    have h9 := r_ksb R
    simpa (disch := decide) only [gO, gLo, hnB, hnM, hnP, hnO, hhN, hnOp, hpc, hkd, hop, hpr, hin, hnin, htp, htt, hnpr, hmpr, bI, bI2, bP, bL] using h9
  · unfold Cksc
    intro i hi h1
    rw [gO _ _ rfl] at h1
    have h9 := r_ksc R i hi h1
    rw [hcn, hnOp]
    split
    · rename_i c; subst c; exact absurd h1 hs
    · exact h9
  · unfold Ckw
    have h9 := r_kw R
    simpa (disch := decide) only [gO, gLo, hnB, hnM, hnP, hnO, hhN, hnOp, hpc, hkd, hop, hpr, hin, hnin, htp, htt, hnpr, hmpr, bI, bI2, bP, bL] using h9
  · unfold Ckl
    intro i hi
    rw [gC, hcn]
    have h9 := r_kl R i hi
    split
    · exact ⟨rfl, by omega⟩
    · exact h9
  · unfold Cko
    have h9 := r_ko R
    simpa (disch := decide) only [gO, gLo, hnB, hnM, hnP, hnO, hhN, hnOp, hpc, hkd, hop, hpr, hin, hnin, htp, htt, hnpr, hmpr, bI, bI2, bP, bL] using h9
  · unfold Ckp
    have h9 := r_kp R
    simpa (disch := decide) only [gO, gLo, hnB, hnM, hnP, hnO, hhN, hnOp, hpc, hkd, hop, hpr, hin, hnin, htp, htt, hnpr, hmpr, bI, bI2, bP, bL] using h9
  · unfold Cl0
    intro i q hi hq
    have hmx := (r_kl R i hi).2
    rw [hcn] at hq
    by_cases c : i = k ∧ q = nLn M k
    · obtain ⟨rfl, rfl⟩ := c
      rw [bPa, if_pos ⟨rfl, rfl⟩]
    · have hq2 : q < nLn M i := by split at hq; rename_i c2; subst c2; omega; exact hq
      have d : ¬ 3 * i + q = (3 * k + nLn M k) := by omega
      have h9 := r_l0 R i q hi hq2
      simpa (disch := decide) only [gJ _ _ d, bJ _ _ d, bPj _ _ d, bPa, if_neg c] using h9
  · unfold Cl1
    intro i q hi hq
    have hmx := (r_kl R i hi).2
    rw [hcn] at hq
    by_cases c : i = k ∧ q = nLn M k
    · obtain ⟨rfl, rfl⟩ := c
      rw [p0]; unfold lnP; rw [g4, nI_clamp (by omega)]
    · have hq2 : q < nLn M i := by split at hq; rename_i c2; subst c2; omega; exact hq
      have d : ¬ 3 * i + q = (3 * k + nLn M k) := by omega
      have h9 := r_l1 R i q hi hq2
      rw [bPj _ _ d]; unfold lnP; rw [gJ _ _ d (by decide)]; exact h9
  · unfold Cl2
    intro i q hi hq
    have hmx := (r_kl R i hi).2
    rw [hcn] at hq
    by_cases c : i = k ∧ q = nLn M k
    · obtain ⟨rfl, rfl⟩ := c
      rw [v1, g5]
    · have hq2 : q < nLn M i := by split at hq; rename_i c2; subst c2; omega; exact hq
      have d : ¬ 3 * i + q = (3 * k + nLn M k) := by omega
      have h9 := r_l2 R i q hi hq2
      simpa (disch := decide) only [gJ _ _ d, bJ _ _ d, bPj _ _ d, bPa, if_neg c] using h9
  · unfold Cl3
    intro i q hi hq
    have hmx := (r_kl R i hi).2
    rw [hcn] at hq
    by_cases c : i = k ∧ q = nLn M k
    · obtain ⟨rfl, rfl⟩ := c
      rw [p2, g6]
    · have hq2 : q < nLn M i := by split at hq; rename_i c2; subst c2; omega; exact hq
      have d : ¬ 3 * i + q = (3 * k + nLn M k) := by omega
      have h9 := r_l3 R i q hi hq2
      simpa (disch := decide) only [gJ _ _ d, bJ _ _ d, bPj _ _ d, bPa, if_neg c] using h9
  · unfold Clm
    intro i q hi hq
    have hmx := (r_kl R i hi).2
    rw [hcn] at hq
    by_cases c : i = k ∧ q = nLn M k
    · obtain ⟨rfl, rfl⟩ := c
      have e4 : lnP N (3 * i + nLn M i) = p := by unfold lnP; rw [g4, nI_clamp (by omega)]
      rw [e4, g4, g5, g6]
      exact ⟨rfl, hp, hmy, hot⟩
    · have hq2 : q < nLn M i := by split at hq; rename_i c2; subst c2; omega; exact hq
      have d : ¬ 3 * i + q = (3 * k + nLn M k) := by omega
      have h9 := r_lm R i q hi hq2
      have e4 : lnP N (3 * i + q) = lnP M (3 * i + q) := by unfold lnP; rw [gJ _ _ d (by decide)]
      rw [e4, gJ _ _ d (by decide), gJ _ _ d (by decide), gJ _ _ d (by decide)]
      exact h9
  · unfold Co0
    have h9 := r_o0 R
    simpa (disch := decide) only [gO, gLo, hnB, hnM, hnP, hnO, hhN, hnOp, hpc, hkd, hop, hpr, hin, hnin, htp, htt, hnpr, hmpr, bI, bI2, bP, bL] using h9
  · unfold Co1
    have h9 := r_o1 R
    simpa (disch := decide) only [gO, gLo, hnB, hnM, hnP, hnO, hhN, hnOp, hpc, hkd, hop, hpr, hin, hnin, htp, htt, hnpr, hmpr, bI, bI2, bP, bL] using h9
  · unfold Co2
    have h9 := r_o2 R
    simpa (disch := decide) only [gO, gLo, hnB, hnM, hnP, hnO, hhN, hnOp, hpc, hkd, hop, hpr, hin, hnin, htp, htt, hnpr, hmpr, bI, bI2, bP, bL] using h9
  · unfold Co3
    have h9 := r_o3 R
    simpa (disch := decide) only [gO, gLo, hnB, hnM, hnP, hnO, hhN, hnOp, hpc, hkd, hop, hpr, hin, hnin, htp, htt, hnpr, hmpr, bI, bI2, bP, bL] using h9
  · unfold Com
    have h9 := r_om R
    simpa (disch := decide) only [gO, gLo, hnB, hnM, hnP, hnO, hhN, hnOp, hpc, hkd, hop, hpr, hin, hnin, htp, htt, hnpr, hmpr, bI, bI2, bP, bL] using h9
  · unfold Cb0
    have h9 := r_b0 R
    simpa (disch := decide) only [gO, gLo, hnB, hnM, hnP, hnO, hhN, hnOp, hpc, hkd, hop, hpr, hin, hnin, htp, htt, hnpr, hmpr, bI, bI2, bP, bL] using h9
  · unfold Cbn
    have h9 := r_bn R
    simpa (disch := decide) only [gO, gLo, hnB, hnM, hnP, hnO, hhN, hnOp, hpc, hkd, hop, hpr, hin, hnin, htp, htt, hnpr, hmpr, bI, bI2, bP, bL] using h9
  · unfold Cbk
    have h9 := r_bk R
    simpa (disch := decide) only [gO, gLo, hnB, hnM, hnP, hnO, hhN, hnOp, hpc, hkd, hop, hpr, hin, hnin, htp, htt, hnpr, hmpr, bI, bI2, bP, bL] using h9
  · unfold Cb2
    have h9 := r_b2 R
    simpa (disch := decide) only [gO, gLo, hnB, hnM, hnP, hnO, hhN, hnOp, hpc, hkd, hop, hpr, hin, hnin, htp, htt, hnpr, hmpr, bI, bI2, bP, bL] using h9
  · unfold Cb3
    have h9 := r_b3 R
    simpa (disch := decide) only [gO, gLo, hnB, hnM, hnP, hnO, hhN, hnOp, hpc, hkd, hop, hpr, hin, hnin, htp, htt, hnpr, hmpr, bI, bI2, bP, bL] using h9
  · unfold Cb4
    have h9 := r_b4 R
    simpa (disch := decide) only [gO, gLo, hnB, hnM, hnP, hnO, hhN, hnOp, hpc, hkd, hop, hpr, hin, hnin, htp, htt, hnpr, hmpr, bI, bI2, bP, bL] using h9
  · unfold Cb5
    have h9 := r_b5 R
    simpa (disch := decide) only [gO, gLo, hnB, hnM, hnP, hnO, hhN, hnOp, hpc, hkd, hop, hpr, hin, hnin, htp, htt, hnpr, hmpr, bI, bI2, bP, bL] using h9
  · unfold Cb6
    have h9 := r_b6 R
    simpa (disch := decide) only [gO, gLo, hnB, hnM, hnP, hnO, hhN, hnOp, hpc, hkd, hop, hpr, hin, hnin, htp, htt, hnpr, hmpr, bI, bI2, bP, bL] using h9
  · unfold Cb7
    have h9 := r_b7 R
    simpa (disch := decide) only [gO, gLo, hnB, hnM, hnP, hnO, hhN, hnOp, hpc, hkd, hop, hpr, hin, hnin, htp, htt, hnpr, hmpr, bI, bI2, bP, bL] using h9
  · unfold Cb8
    have h9 := r_b8 R
    simpa (disch := decide) only [gO, gLo, hnB, hnM, hnP, hnO, hhN, hnOp, hpc, hkd, hop, hpr, hin, hnin, htp, htt, hnpr, hmpr, bI, bI2, bP, bL] using h9
  · unfold Cb9
    have h9 := r_b9 R
    simpa (disch := decide) only [gO, gLo, hnB, hnM, hnP, hnO, hhN, hnOp, hpc, hkd, hop, hpr, hin, hnin, htp, htt, hnpr, hmpr, bI, bI2, bP, bL] using h9
  · unfold Cb10
    have h9 := r_b10 R
    simpa (disch := decide) only [gO, gLo, hnB, hnM, hnP, hnO, hhN, hnOp, hpc, hkd, hop, hpr, hin, hnin, htp, htt, hnpr, hmpr, bI, bI2, bP, bL] using h9
  · unfold Cb11
    have h9 := r_b11 R
    simpa (disch := decide) only [gO, gLo, hnB, hnM, hnP, hnO, hhN, hnOp, hpc, hkd, hop, hpr, hin, hnin, htp, htt, hnpr, hmpr, bI, bI2, bP, bL] using h9
  · unfold CbK
    have h9 := r_bK R
    simpa (disch := decide) only [gO, gLo, hnB, hnM, hnP, hnO, hhN, hnOp, hpc, hkd, hop, hpr, hin, hnin, htp, htt, hnpr, hmpr, bI, bI2, bP, bL] using h9
  · unfold CbP
    have h9 := r_bP R
    simpa (disch := decide) only [gO, gLo, hnB, hnM, hnP, hnO, hhN, hnOp, hpc, hkd, hop, hpr, hin, hnin, htp, htt, hnpr, hmpr, bI, bI2, bP, bL] using h9
  · unfold CbO
    have h9 := r_bO R
    simpa (disch := decide) only [gO, gLo, hnB, hnM, hnP, hnO, hhN, hnOp, hpc, hkd, hop, hpr, hin, hnin, htp, htt, hnpr, hmpr, bI, bI2, bP, bL] using h9
  · unfold CbW
    have h9 := r_bW R
    simpa (disch := decide) only [gO, gLo, hnB, hnM, hnP, hnO, hhN, hnOp, hpc, hkd, hop, hpr, hin, hnin, htp, htt, hnpr, hmpr, bI, bI2, bP, bL] using h9
  · unfold CbZ
    have h9 := r_bZ R
    simpa (disch := decide) only [gO, gLo, hnB, hnM, hnP, hnO, hhN, hnOp, hpc, hkd, hop, hpr, hin, hnin, htp, htt, hnpr, hmpr, bI, bI2, bP, bL] using h9
  · unfold CbF
    have h9 := r_bF R
    simpa (disch := decide) only [gO, gLo, hnB, hnM, hnP, hnO, hhN, hnOp, hpc, hkd, hop, hpr, hin, hnin, htp, htt, hnpr, hmpr, bI, bI2, bP, bL] using h9
  · unfold CbS
    have h9 := r_bS R
    simpa (disch := decide) only [gO, gLo, hnB, hnM, hnP, hnO, hhN, hnOp, hpc, hkd, hop, hpr, hin, hnin, htp, htt, hnpr, hmpr, bI, bI2, bP, bL] using h9
  · unfold CbC
    have h9 := r_bC R
    simpa (disch := decide) only [gO, gLo, hnB, hnM, hnP, hnO, hhN, hnOp, hpc, hkd, hop, hpr, hin, hnin, htp, htt, hnpr, hmpr, bI, bI2, bP, bL] using h9
  · unfold CbT
    have h9 := r_bT R
    simpa (disch := decide) only [gO, gLo, hnB, hnM, hnP, hnO, hhN, hnOp, hpc, hkd, hop, hpr, hin, hnin, htp, htt, hnpr, hmpr, bI, bI2, bP, bL] using h9
  · unfold CbU
    have h9 := r_bU R
    simpa (disch := decide) only [gO, gLo, hnB, hnM, hnP, hnO, hhN, hnOp, hpc, hkd, hop, hpr, hin, hnin, htp, htt, hnpr, hmpr, bI, bI2, bP, bL] using h9
  · unfold Cbq
    have h9 := r_bq R
    simpa (disch := decide) only [gO, gLo, hnB, hnM, hnP, hnO, hhN, hnOp, hpc, hkd, hop, hpr, hin, hnin, htp, htt, hnpr, hmpr, bI, bI2, bP, bL] using h9
  · unfold Cps
    have h9 := r_ps R
    simpa (disch := decide) only [gO, gLo, hnB, hnM, hnP, hnO, hhN, hnOp, hpc, hkd, hop, hpr, hin, hnin, htp, htt, hnpr, hmpr, bI, bI2, bP, bL] using h9
  · unfold Cbp
    have h9 := r_bp R
    simpa (disch := decide) only [gO, gLo, hnB, hnM, hnP, hnO, hhN, hnOp, hpc, hkd, hop, hpr, hin, hnin, htp, htt, hnpr, hmpr, bI, bI2, bP, bL] using h9
  · unfold Cbc
    have h9 := r_bc R
    simpa (disch := decide) only [gO, gLo, hnB, hnM, hnP, hnO, hhN, hnOp, hpc, hkd, hop, hpr, hin, hnin, htp, htt, hnpr, hmpr, bI, bI2, bP, bL] using h9
  · unfold CfB
    intro j h1 h2
    rw [hnB] at h1
    rw [bX _ (tk_ne (by decide) (by decide) (by decide) : tk 0 _ ≠ tk 3 _)]
    exact r_fB R j h1 h2
  · unfold CfL
    intro i q h1 h2 h3
    rw [hcn] at h3
    rw [bX _ (fun z => by have := tk_inj.mp z; split at h3 <;> omega)]
    exact r_fL R i q h1 h2 (by split at h3; rename_i c2; subst c2; omega; exact h3)
  · unfold CfO
    intro i q h1 h2 h3
    rw [hnOp] at h3
    rw [bX _ (tk_ne (by decide) (by decide) (by decide) : tk 5 _ ≠ tk 3 _)]
    exact r_fO R i q h1 h2 h3
  · unfold CfM
    intro j h1 h2
    rw [hnM] at h1
    rw [bX _ (tk_ne (by decide) (by decide) (by decide) : tk 4 _ ≠ tk 3 _)]
    exact r_fM R j h1 h2
  · unfold CfP
    intro j h1 h2
    rw [hnP] at h1
    rw [bX _ (tk_ne (by decide) (by decide) (by decide) : tk 7 _ ≠ tk 3 _), bX _ (tk_ne (by decide) (by decide) (by decide) : tk 21 _ ≠ tk 3 _), bX _ (tk_ne (by decide) (by decide) (by decide) : tk 22 _ ≠ tk 3 _)]
    exact r_fP R j h1 h2
  · unfold CfR
    intro j h1 h2
    rw [hnO] at h1
    rw [bX _ (tk_ne (by decide) (by decide) (by decide) : tk 6 _ ≠ tk 3 _)]
    exact r_fR R j h1 h2
  · unfold CfG
    obtain ⟨Q, h1, h2⟩ := r_fG R
    refine ⟨Q, h1, fun c i hi => ?_⟩
    rw [bX _ (by unfold tk; omega)]
    exact h2 c i hi
  · unfold Cm0
    have h9 := r_m0 R
    simpa (disch := decide) only [gO, gLo, hnB, hnM, hnP, hnO, hhN, hnOp, hpc, hkd, hop, hpr, hin, hnin, htp, htt, hnpr, hmpr, bI, bI2, bP, bL] using h9
  · unfold Cmn
    have h9 := r_mn R
    simpa (disch := decide) only [gO, gLo, hnB, hnM, hnP, hnO, hhN, hnOp, hpc, hkd, hop, hpr, hin, hnin, htp, htt, hnpr, hmpr, bI, bI2, bP, bL] using h9
  · unfold Cm1
    have h9 := r_m1 R
    simpa (disch := decide) only [gO, gLo, hnB, hnM, hnP, hnO, hhN, hnOp, hpc, hkd, hop, hpr, hin, hnin, htp, htt, hnpr, hmpr, bI, bI2, bP, bL] using h9
  · unfold Cm2
    have h9 := r_m2 R
    simpa (disch := decide) only [gO, gLo, hnB, hnM, hnP, hnO, hhN, hnOp, hpc, hkd, hop, hpr, hin, hnin, htp, htt, hnpr, hmpr, bI, bI2, bP, bL] using h9
  · unfold Cm3
    have h9 := r_m3 R
    simpa (disch := decide) only [gO, gLo, hnB, hnM, hnP, hnO, hhN, hnOp, hpc, hkd, hop, hpr, hin, hnin, htp, htt, hnpr, hmpr, bI, bI2, bP, bL] using h9
  · unfold Cm4
    have h9 := r_m4 R
    simpa (disch := decide) only [gO, gLo, hnB, hnM, hnP, hnO, hhN, hnOp, hpc, hkd, hop, hpr, hin, hnin, htp, htt, hnpr, hmpr, bI, bI2, bP, bL] using h9
  · unfold Cm5
    have h9 := r_m5 R
    simpa (disch := decide) only [gO, gLo, hnB, hnM, hnP, hnO, hhN, hnOp, hpc, hkd, hop, hpr, hin, hnin, htp, htt, hnpr, hmpr, bI, bI2, bP, bL] using h9
  · unfold Cm9
    have h9 := r_m9 R
    simpa (disch := decide) only [gO, gLo, hnB, hnM, hnP, hnO, hhN, hnOp, hpc, hkd, hop, hpr, hin, hnin, htp, htt, hnpr, hmpr, bI, bI2, bP, bL] using h9
  · unfold Cm11
    have h9 := r_m11 R
    simpa (disch := decide) only [gO, gLo, hnB, hnM, hnP, hnO, hhN, hnOp, hpc, hkd, hop, hpr, hin, hnin, htp, htt, hnpr, hmpr, bI, bI2, bP, bL] using h9
  · unfold Cm13
    have h9 := r_m13 R
    simpa (disch := decide) only [gO, gLo, hnB, hnM, hnP, hnO, hhN, hnOp, hpc, hkd, hop, hpr, hin, hnin, htp, htt, hnpr, hmpr, bI, bI2, bP, bL] using h9
  · unfold Cm14
    have h9 := r_m14 R
    simpa (disch := decide) only [gO, gLo, hnB, hnM, hnP, hnO, hhN, hnOp, hpc, hkd, hop, hpr, hin, hnin, htp, htt, hnpr, hmpr, bI, bI2, bP, bL] using h9
  · unfold Cm6
    have h9 := r_m6 R
    simpa (disch := decide) only [gO, gLo, hnB, hnM, hnP, hnO, hhN, hnOp, hpc, hkd, hop, hpr, hin, hnin, htp, htt, hnpr, hmpr, bI, bI2, bP, bL] using h9
  · unfold Cm7
    have h9 := r_m7 R
    simpa (disch := decide) only [gO, gLo, hnB, hnM, hnP, hnO, hhN, hnOp, hpc, hkd, hop, hpr, hin, hnin, htp, htt, hnpr, hmpr, bI, bI2, bP, bL] using h9
  · unfold Cm8
    have h9 := r_m8 R
    simpa (disch := decide) only [gO, gLo, hnB, hnM, hnP, hnO, hhN, hnOp, hpc, hkd, hop, hpr, hin, hnin, htp, htt, hnpr, hmpr, bI, bI2, bP, bL] using h9
  · unfold Cm12
    have h9 := r_m12 R
    simpa (disch := decide) only [gO, gLo, hnB, hnM, hnP, hnO, hhN, hnOp, hpc, hkd, hop, hpr, hin, hnin, htp, htt, hnpr, hmpr, bI, bI2, bP, bL] using h9
  · unfold Cm10
    have h9 := r_m10 R
    simpa (disch := decide) only [gO, gLo, hnB, hnM, hnP, hnO, hhN, hnOp, hpc, hkd, hop, hpr, hin, hnin, htp, htt, hnpr, hmpr, bI, bI2, bP, bL] using h9
  · unfold Cmma
    have h9 := r_mma R
    simpa (disch := decide) only [gO, gLo, hnB, hnM, hnP, hnO, hhN, hnOp, hpc, hkd, hop, hpr, hin, hnin, htp, htt, hnpr, hmpr, bI, bI2, bP, bL] using h9
  · unfold Cmmb
    have h9 := r_mmb R
    simpa (disch := decide) only [gO, gLo, hnB, hnM, hnP, hnO, hhN, hnOp, hpc, hkd, hop, hpr, hin, hnin, htp, htt, hnpr, hmpr, bI, bI2, bP, bL] using h9
  · unfold Cmmc
    have h9 := r_mmc R
    simpa (disch := decide) only [gO, gLo, hnB, hnM, hnP, hnO, hhN, hnOp, hpc, hkd, hop, hpr, hin, hnin, htp, htt, hnpr, hmpr, bI, bI2, bP, bL] using h9
  · unfold Cmr29
    have h9 := r_mr29 R
    simpa (disch := decide) only [gO, gLo, hnB, hnM, hnP, hnO, hhN, hnOp, hpc, hkd, hop, hpr, hin, hnin, htp, htt, hnpr, hmpr, bI, bI2, bP, bL] using h9
  · unfold Cmr30
    have h9 := r_mr30 R
    simpa (disch := decide) only [gO, gLo, hnB, hnM, hnP, hnO, hhN, hnOp, hpc, hkd, hop, hpr, hin, hnin, htp, htt, hnpr, hmpr, bI, bI2, bP, bL] using h9
  · unfold Cmr31
    have h9 := r_mr31 R
    simpa (disch := decide) only [gO, gLo, hnB, hnM, hnP, hnO, hhN, hnOp, hpc, hkd, hop, hpr, hin, hnin, htp, htt, hnpr, hmpr, bI, bI2, bP, bL] using h9
  · unfold Cmr32
    have h9 := r_mr32 R
    simpa (disch := decide) only [gO, gLo, hnB, hnM, hnP, hnO, hhN, hnOp, hpc, hkd, hop, hpr, hin, hnin, htp, htt, hnpr, hmpr, bI, bI2, bP, bL] using h9
  · unfold Cmr35
    have h9 := r_mr35 R
    simpa (disch := decide) only [gO, gLo, hnB, hnM, hnP, hnO, hhN, hnOp, hpc, hkd, hop, hpr, hin, hnin, htp, htt, hnpr, hmpr, bI, bI2, bP, bL] using h9
  · unfold Cmr39
    have h9 := r_mr39 R
    simpa (disch := decide) only [gO, gLo, hnB, hnM, hnP, hnO, hhN, hnOp, hpc, hkd, hop, hpr, hin, hnin, htp, htt, hnpr, hmpr, bI, bI2, bP, bL] using h9
  · unfold Cmr40
    have h9 := r_mr40 R
    simpa (disch := decide) only [gO, gLo, hnB, hnM, hnP, hnO, hhN, hnOp, hpc, hkd, hop, hpr, hin, hnin, htp, htt, hnpr, hmpr, bI, bI2, bP, bL] using h9
  · unfold Cmd
    have h9 := r_md R
    simpa (disch := decide) only [gO, gLo, hnB, hnM, hnP, hnO, hhN, hnOp, hpc, hkd, hop, hpr, hin, hnin, htp, htt, hnpr, hmpr, bI, bI2, bP, bL] using h9
  · unfold Cmw
    have h9 := r_mw R
    simpa (disch := decide) only [gO, gLo, hnB, hnM, hnP, hnO, hhN, hnOp, hpc, hkd, hop, hpr, hin, hnin, htp, htt, hnpr, hmpr, bI, bI2, bP, bL] using h9
  · unfold Cq0
    have h9 := r_q0 R
    simpa (disch := decide) only [gO, gLo, hnB, hnM, hnP, hnO, hhN, hnOp, hpc, hkd, hop, hpr, hin, hnin, htp, htt, hnpr, hmpr, bI, bI2, bP, bL] using h9
  · unfold Cqn
    have h9 := r_qn R
    simpa (disch := decide) only [gO, gLo, hnB, hnM, hnP, hnO, hhN, hnOp, hpc, hkd, hop, hpr, hin, hnin, htp, htt, hnpr, hmpr, bI, bI2, bP, bL] using h9
  · unfold Cq1
    have h9 := r_q1 R
    simpa (disch := decide) only [gO, gLo, hnB, hnM, hnP, hnO, hhN, hnOp, hpc, hkd, hop, hpr, hin, hnin, htp, htt, hnpr, hmpr, bI, bI2, bP, bL] using h9
  · unfold Cq2
    have h9 := r_q2 R
    simpa (disch := decide) only [gO, gLo, hnB, hnM, hnP, hnO, hhN, hnOp, hpc, hkd, hop, hpr, hin, hnin, htp, htt, hnpr, hmpr, bI, bI2, bP, bL] using h9
  · unfold Cq3
    have h9 := r_q3 R
    simpa (disch := decide) only [gO, gLo, hnB, hnM, hnP, hnO, hhN, hnOp, hpc, hkd, hop, hpr, hin, hnin, htp, htt, hnpr, hmpr, bI, bI2, bP, bL] using h9
  · unfold Cq4
    have h9 := r_q4 R
    simpa (disch := decide) only [gO, gLo, hnB, hnM, hnP, hnO, hhN, hnOp, hpc, hkd, hop, hpr, hin, hnin, htp, htt, hnpr, hmpr, bI, bI2, bP, bL] using h9
  · unfold Cq5
    have h9 := r_q5 R
    simpa (disch := decide) only [gO, gLo, hnB, hnM, hnP, hnO, hhN, hnOp, hpc, hkd, hop, hpr, hin, hnin, htp, htt, hnpr, hmpr, bI, bI2, bP, bL] using h9
  · unfold Cq6
    have h9 := r_q6 R
    simpa (disch := decide) only [gO, gLo, hnB, hnM, hnP, hnO, hhN, hnOp, hpc, hkd, hop, hpr, hin, hnin, htp, htt, hnpr, hmpr, bI, bI2, bP, bL] using h9
  · unfold Cql
    have h9 := r_ql R
    simpa (disch := decide) only [gO, gLo, hnB, hnM, hnP, hnO, hhN, hnOp, hpc, hkd, hop, hpr, hin, hnin, htp, htt, hnpr, hmpr, bI, bI2, bP, bL] using h9
  · unfold Cqw
    have h9 := r_qw R
    simpa (disch := decide) only [gO, gLo, hnB, hnM, hnP, hnO, hhN, hnOp, hpc, hkd, hop, hpr, hin, hnin, htp, htt, hnpr, hmpr, bI, bI2, bP, bL] using h9
  · unfold Cqm
    have h9 := r_qm R
    simpa (disch := decide) only [gO, gLo, hnB, hnM, hnP, hnO, hhN, hnOp, hpc, hkd, hop, hpr, hin, hnin, htp, htt, hnpr, hmpr, bI, bI2, bP, bL] using h9
  · unfold Cqr
    have h9 := r_qr R
    simpa (disch := decide) only [gO, gLo, hnB, hnM, hnP, hnO, hhN, hnOp, hpc, hkd, hop, hpr, hin, hnin, htp, htt, hnpr, hmpr, bI, bI2, bP, bL] using h9
  · unfold Cr0
    have h9 := r_r0 R
    simpa (disch := decide) only [gO, gLo, hnB, hnM, hnP, hnO, hhN, hnOp, hpc, hkd, hop, hpr, hin, hnin, htp, htt, hnpr, hmpr, bI, bI2, bP, bL] using h9
  · unfold Cr1
    have h9 := r_r1 R
    simpa (disch := decide) only [gO, gLo, hnB, hnM, hnP, hnO, hhN, hnOp, hpc, hkd, hop, hpr, hin, hnin, htp, htt, hnpr, hmpr, bI, bI2, bP, bL] using h9
  · unfold Cr2
    have h9 := r_r2 R
    simpa (disch := decide) only [gO, gLo, hnB, hnM, hnP, hnO, hhN, hnOp, hpc, hkd, hop, hpr, hin, hnin, htp, htt, hnpr, hmpr, bI, bI2, bP, bL] using h9
  · unfold Cr3
    have h9 := r_r3 R
    simpa (disch := decide) only [gO, gLo, hnB, hnM, hnP, hnO, hhN, hnOp, hpc, hkd, hop, hpr, hin, hnin, htp, htt, hnpr, hmpr, bI, bI2, bP, bL] using h9
  · unfold Cr4
    have h9 := r_r4 R
    simpa (disch := decide) only [gO, gLo, hnB, hnM, hnP, hnO, hhN, hnOp, hpc, hkd, hop, hpr, hin, hnin, htp, htt, hnpr, hmpr, bI, bI2, bP, bL] using h9
  · unfold Cr5
    have h9 := r_r5 R
    simpa (disch := decide) only [gO, gLo, hnB, hnM, hnP, hnO, hhN, hnOp, hpc, hkd, hop, hpr, hin, hnin, htp, htt, hnpr, hmpr, bI, bI2, bP, bL] using h9
  · unfold Cr6
    have h9 := r_r6 R
    simpa (disch := decide) only [gO, gLo, hnB, hnM, hnP, hnO, hhN, hnOp, hpc, hkd, hop, hpr, hin, hnin, htp, htt, hnpr, hmpr, bI, bI2, bP, bL] using h9
  · unfold Crk
    have h9 := r_rk R
    simpa (disch := decide) only [gO, gLo, hnB, hnM, hnP, hnO, hhN, hnOp, hpc, hkd, hop, hpr, hin, hnin, htp, htt, hnpr, hmpr, bI, bI2, bP, bL] using h9
  · unfold Crp
    have h9 := r_rp R
    simpa (disch := decide) only [gO, gLo, hnB, hnM, hnP, hnO, hhN, hnOp, hpc, hkd, hop, hpr, hin, hnin, htp, htt, hnpr, hmpr, bI, bI2, bP, bL] using h9
  · unfold Crq
    have h9 := r_rq R
    simpa (disch := decide) only [gO, gLo, hnB, hnM, hnP, hnO, hhN, hnOp, hpc, hkd, hop, hpr, hin, hnin, htp, htt, hnpr, hmpr, bI, bI2, bP, bL] using h9
  · unfold Crr
    have h9 := r_rr R
    simpa (disch := decide) only [gO, gLo, hnB, hnM, hnP, hnO, hhN, hnOp, hpc, hkd, hop, hpr, hin, hnin, htp, htt, hnpr, hmpr, bI, bI2, bP, bL] using h9
  · unfold Crs
    have h9 := r_rs R
    simpa (disch := decide) only [gO, gLo, hnB, hnM, hnP, hnO, hhN, hnOp, hpc, hkd, hop, hpr, hin, hnin, htp, htt, hnpr, hmpr, bI, bI2, bP, bL] using h9
set_option maxHeartbeats 2000000 in
theorem rel_addL {e : Nat} {a : Sg} {M : MS} (R : Rel e a M) (k : Nat) (p : Nat) (my ot : Int32) (hp : p < k) (hmy : ∃ q : Nat, my = nI q ∧ 1 ≤ q ∧ q ≤ 3) (hot : ot = -1 ∨ ∃ q : Nat, ot = nI q ∧ q < k ∧ q ≠ p) (hs : gI M 0 k ≠ 1) (hk : k < 12) (hlt : nLn M k < 3) : Rel e (wI (wP (wP (wI (wP (wN a (tk 3 (3 * k + nLn M k))) (tk 3 (3 * k + nLn M k)) 0 (some (tk 2 p))) (tk 3 (3 * k + nLn M k)) 1 my) (tk 3 (3 * k + nLn M k)) 2 (kp ot)) (tk 16 k) (nLn M k) (some (tk 3 (3 * k + nLn M k)))) (tk 2 k) 5 (nI (nLn M k + 1))) (uI (uI (uI (uI M 4 (3 * k + nLn M k) (nI p)) 5 (3 * k + nLn M k) my) 6 (3 * k + nLn M k) ot) 3 k (nI (nLn M k + 1))) := by
  refine rel_addLN R k p my ot hp hmy hot hs hk hlt ?_ ?_ ?_ ?_ ?_ ?_ ?_ ?_ ?_ ?_ ?_ ?_ ?_ ?_ ?_ ?_ ?_ ?_ ?_
  · intro t j h; have h : t ≠ 3 ∧ t ≠ 4 ∧ t ≠ 5 ∧ t ≠ 6 := by unfold z_rel_addL at h; simp only [Bool.and_eq_true, bne_iff_ne] at h; omega
    simp (disch := omega) only [gI_ne]
  · intro t j h h0; simp (disch := omega) only [gI_nj, gI_ne]
  · intro i; simp [gI_uI]
  · simp [gI_uI]
  · simp [gI_uI]
  · simp [gI_uI]
  · intro j; simp [gL_uI]
  · intro c i q h0 h1 h2; simp (disch := omega) [gI_uI, gI_uL, gL_uI, gL_uL, sI_wI, sI_wP, sI_wN, sP_wI, sP_wP, sP_wN, sL_wI, sL_wP, sL_wN, sX_wI, sX_wP, sX_wN, tk_ne9, tk_inj]
  · intro i q h; simp [gI_uI, gI_uL, gL_uI, gL_uL, sI_wI, sI_wP, sI_wN, sP_wI, sP_wP, sP_wN, sL_wI, sL_wP, sL_wN, sX_wI, sX_wP, sX_wN, tk_ne9, tk_inj, h]
  · intro i; simp [gI_uI, gI_uL, gL_uI, gL_uL, sI_wI, sI_wP, sI_wN, sP_wI, sP_wP, sP_wN, sL_wI, sL_wP, sL_wN, sX_wI, sX_wP, sX_wN, tk_ne9, tk_inj]
  · intro j q h; simp [gI_uI, gI_uL, gL_uI, gL_uL, sI_wI, sI_wP, sI_wN, sP_wI, sP_wP, sP_wN, sL_wI, sL_wP, sL_wN, sX_wI, sX_wP, sX_wN, tk_ne9, tk_inj, h]
  · simp [gI_uI, gI_uL, gL_uI, gL_uL, sI_wI, sI_wP, sI_wN, sP_wI, sP_wP, sP_wN, sL_wI, sL_wP, sL_wN, sX_wI, sX_wP, sX_wN, tk_ne9, tk_inj]
  · intro c i q h0 h1 h2; simp (disch := omega) [gI_uI, gI_uL, gL_uI, gL_uL, sI_wI, sI_wP, sI_wN, sP_wI, sP_wP, sP_wN, sL_wI, sL_wP, sL_wN, sX_wI, sX_wP, sX_wN, tk_ne9, tk_inj]
  · intro j q h; simp [gI_uI, gI_uL, gL_uI, gL_uL, sI_wI, sI_wP, sI_wN, sP_wI, sP_wP, sP_wN, sL_wI, sL_wP, sL_wN, sX_wI, sX_wP, sX_wN, tk_ne9, tk_inj, h]
  · intro i q; simp [gI_uI, gI_uL, gL_uI, gL_uL, sI_wI, sI_wP, sI_wN, sP_wI, sP_wP, sP_wN, sL_wI, sL_wP, sL_wN, sX_wI, sX_wP, sX_wN, tk_ne9, tk_inj]
  · simp [gI_uI, gI_uL, gL_uI, gL_uL, sI_wI, sI_wP, sI_wN, sP_wI, sP_wP, sP_wN, sL_wI, sL_wP, sL_wN, sX_wI, sX_wP, sX_wN, tk_ne9, tk_inj]
  · simp [gI_uI, gI_uL, gL_uI, gL_uL, sI_wI, sI_wP, sI_wN, sP_wI, sP_wP, sP_wN, sL_wI, sL_wP, sL_wN, sX_wI, sX_wP, sX_wN, tk_ne9, tk_inj]
  · intro c i q h0 h1; simp (disch := omega) [gI_uI, gI_uL, gL_uI, gL_uL, sI_wI, sI_wP, sI_wN, sP_wI, sP_wP, sP_wN, sL_wI, sL_wP, sL_wN, sX_wI, sX_wP, sX_wN, tk_ne9, tk_inj]
  · intro t h; simp [gI_uI, gI_uL, gL_uI, gL_uL, sI_wI, sI_wP, sI_wN, sP_wI, sP_wP, sP_wN, sL_wI, sL_wP, sL_wN, sX_wI, sX_wP, sX_wN, tk_ne9, tk_inj, h]
def z_rel_addP4 (t : Nat) : Bool := t != 0 && t != 7 && t != 8 && t != 9 && t != 10
set_option maxHeartbeats 2000000 in
theorem rel_addP4N {e : Nat} {a b : Sg} {M N : MS} (R : Rel e a M) (k : Nat) (wo sk ho : Int32) (hom : ∃ w s h : Nat, wo = nI w ∧ w < 4 ∧ sk = nI s ∧ s < 4 ∧ ho = nI h ∧ 1 ≤ h ∧ h ≤ 9) (hs : gI M 0 k ≠ 1) (hk : k < 12) (hlt : nOp M k < 4) (gO : ∀ t j, z_rel_addP4 t = true → gI N t j = gI M t j) (gJ : ∀ t j, ¬ j = (4 * k + nOp M k) → t ≠ 7 → t ≠ 0 → gI N t j = gI M t j) (gC : ∀ i, gI N 7 i = if i = k then nI (nOp M k + 1) else gI M 7 i) (k0 : ∀ i, gI N 0 i = if i = k then 2 else gI M 0 i) (g8 : gI N 8 (4 * k + nOp M k) = wo) (g9 : gI N 9 (4 * k + nOp M k) = sk) (g10 : gI N 10 (4 * k + nOp M k) = ho) (gLo : ∀ j, gL N j = gL M j) (bI : ∀ c i q, c < 32 → c ≠ 5 → c ≠ 2 → sI b (tk c i) q = sI a (tk c i) q) (bI2 : ∀ i q, q ≠ 7 → sI b (tk 2 i) q = sI a (tk 2 i) q) (bIc : ∀ i, sI b (tk 2 i) 7 = if i = k then nI (nOp M k + 1) else sI a (tk 2 i) 7) (bJ : ∀ j q, ¬ j = (4 * k + nOp M k) → sI b (tk 5 j) q = sI a (tk 5 j) q) (v0 : sI b (tk 5 (4 * k + nOp M k)) 0 = wo) (v1 : sI b (tk 5 (4 * k + nOp M k)) 1 = sk) (v2 : sI b (tk 5 (4 * k + nOp M k)) 2 = ho) (bP : ∀ c i q, c < 32 → c ≠ 5 → c ≠ 18 → sP b (tk c i) q = sP a (tk c i) q) (bPj : ∀ j q, ¬ j = (4 * k + nOp M k) → sP b (tk 5 j) q = sP a (tk 5 j) q) (bPa : ∀ i q, sP b (tk 18 i) q = if i = k ∧ q = nOp M k then some (tk 5 (4 * k + nOp M k)) else sP a (tk 18 i) q) (bL : ∀ c i q, c < 32 → c ≠ 5 → sL b (tk c i) q = sL a (tk c i) q) (bX : ∀ t, t ≠ tk 5 (4 * k + nOp M k) → sX b t = sX a t) : Rel e b N := by
  have hB := r_nBx R
  have hcn : ∀ i, nOp N i = if i = k then nOp M k + 1 else nOp M i := fun i => by
    unfold nOp
    rw [gC]
    by_cases c : i = k
    · rw [if_pos c, if_pos c, nI_clamp (by omega)]; rfl
    · rw [if_neg c, if_neg c]
  have hnB : nB N = nB M := by unfold nB; rw [gO _ _ rfl]
  have hnM : nM N = nM M := by unfold nM; rw [gO _ _ rfl]
  have hnP : nP N = nP M := by unfold nP; rw [gO _ _ rfl]
  have hnO : nO N = nO M := by unfold nO; rw [gO _ _ rfl]
  have hhN : hN N = hN M := by unfold hN; rw [gO _ _ rfl]
  have hnLn : ∀ i, nLn N i = nLn M i := fun i => by unfold nLn; rw [gO _ _ rfl]
  have hpc : ∀ i, pc N i = pc M i := fun i => by unfold pc; rw [gO _ _ rfl]
  have hkd : ∀ i, kd N i = kd M i := fun i => by unfold kd; rw [gO _ _ rfl]
  have hop : ∀ i, op N i = op M i := fun i => by unfold op; rw [gO _ _ rfl]
  have hpr : ∀ i, pr N i = pr M i := fun i => by unfold pr; rw [gO _ _ rfl]
  have hlnP : ∀ i, lnP N i = lnP M i := fun i => by unfold lnP; rw [gO _ _ rfl]
  have hin : ∀ i m, mInSt N i m = mInSt M i m := fun i m => by unfold mInSt; refine sumN_congr fun j hj => ?_; rw [gO _ _ rfl, gO _ _ rfl, gO _ _ rfl]
  have hnin : ∀ i m, nInSt N i m = nInSt M i m := fun i m => by unfold nInSt; refine sumT_congr fun j hj => ?_; rw [gO _ _ rfl, gO _ _ rfl, hpc]
  have htp : ∀ m, totp N m = totp M m := fun m => by unfold totp; exact sumT_congr fun j hj => hpc j
  have htt : ∀ m, tot N m = tot M m := by
    intro m
    induction m with
    | zero => rfl
    | succ m ih => rw [tot_1, tot_1, ih, gO _ _ rfl]
  have hnpr : ∀ i m, nProm N i m = nProm M i m := fun i m => by unfold nProm; refine sumT_congr fun j hj => ?_; rw [gO _ _ rfl, gO _ _ rfl, hpr]
  have hmpr : ∀ i m, mProm N i m = mProm M i m := fun i m => by unfold mProm; refine sumN_congr fun j hj => ?_; rw [gO _ _ rfl, gO _ _ rfl, gO _ _ rfl]
  unfold Rel
  refine ⟨?_, ?_, ?_, ?_, ?_, ?_, ?_, ?_, ?_, ?_, ?_, ?_, ?_, ?_, ?_, ?_, ?_, ?_, ?_, ?_, ?_, ?_, ?_, ?_, ?_, ?_, ?_, ?_, ?_, ?_, ?_, ?_, ?_, ?_, ?_, ?_, ?_, ?_, ?_, ?_, ?_, ?_, ?_, ?_, ?_, ?_, ?_, ?_, ?_, ?_, ?_, ?_, ?_, ?_, ?_, ?_, ?_, ?_, ?_, ?_, ?_, ?_, ?_, ?_, ?_, ?_, ?_, ?_, ?_, ?_, ?_, ?_, ?_, ?_, ?_, ?_, ?_, ?_, ?_, ?_, ?_, ?_, ?_, ?_, ?_, ?_, ?_, ?_, ?_, ?_, ?_, ?_, ?_, ?_, ?_, ?_, ?_, ?_, ?_, ?_, ?_, ?_, ?_, ?_, ?_, ?_, ?_, ?_, ?_, ?_, ?_, ?_, ?_, ?_, ?_, ?_, ?_, ?_, ?_, ?_, ?_, ?_, ?_, ?_, ?_, ?_, ?_, ?_, ?_, ?_, ?_, ?_, ?_, ?_, ?_, ?_, ?_, ?_, ?_, ?_, ?_, ?_, ?_, ?_, ?_, ?_, ?_, ?_, ?_⟩
  · unfold Cshm
    have h9 := r_shm R
    simpa (disch := decide) only [gO, gLo, hnB, hnM, hnP, hnO, hhN, hnLn, hpc, hkd, hop, hpr, hin, hnin, htp, htt, hnpr, hmpr, bI, bI2, bP, bL, hlnP] using h9
  · unfold Cpx0
    have h9 := r_px0 R
    simpa (disch := decide) only [gO, gLo, hnB, hnM, hnP, hnO, hhN, hnLn, hpc, hkd, hop, hpr, hin, hnin, htp, htt, hnpr, hmpr, bI, bI2, bP, bL, hlnP] using h9
  · unfold Cpx1
    have h9 := r_px1 R
    simpa (disch := decide) only [gO, gLo, hnB, hnM, hnP, hnO, hhN, hnLn, hpc, hkd, hop, hpr, hin, hnin, htp, htt, hnpr, hmpr, bI, bI2, bP, bL, hlnP] using h9
  · unfold Cpx2
    have h9 := r_px2 R
    simpa (disch := decide) only [gO, gLo, hnB, hnM, hnP, hnO, hhN, hnLn, hpc, hkd, hop, hpr, hin, hnin, htp, htt, hnpr, hmpr, bI, bI2, bP, bL, hlnP] using h9
  · unfold Cpf0
    have h9 := r_pf0 R
    simpa (disch := decide) only [gO, gLo, hnB, hnM, hnP, hnO, hhN, hnLn, hpc, hkd, hop, hpr, hin, hnin, htp, htt, hnpr, hmpr, bI, bI2, bP, bL, hlnP] using h9
  · unfold Cpf1
    have h9 := r_pf1 R
    simpa (disch := decide) only [gO, gLo, hnB, hnM, hnP, hnO, hhN, hnLn, hpc, hkd, hop, hpr, hin, hnin, htp, htt, hnpr, hmpr, bI, bI2, bP, bL, hlnP] using h9
  · unfold Cpf3
    have h9 := r_pf3 R
    simpa (disch := decide) only [gO, gLo, hnB, hnM, hnP, hnO, hhN, hnLn, hpc, hkd, hop, hpr, hin, hnin, htp, htt, hnpr, hmpr, bI, bI2, bP, bL, hlnP] using h9
  · unfold Cps0
    have h9 := r_ps0 R
    simpa (disch := decide) only [gO, gLo, hnB, hnM, hnP, hnO, hhN, hnLn, hpc, hkd, hop, hpr, hin, hnin, htp, htt, hnpr, hmpr, bI, bI2, bP, bL, hlnP] using h9
  · unfold Cps2
    have h9 := r_ps2 R
    simpa (disch := decide) only [gO, gLo, hnB, hnM, hnP, hnO, hhN, hnLn, hpc, hkd, hop, hpr, hin, hnin, htp, htt, hnpr, hmpr, bI, bI2, bP, bL, hlnP] using h9
  · unfold Cps4
    have h9 := r_ps4 R
    simpa (disch := decide) only [gO, gLo, hnB, hnM, hnP, hnO, hhN, hnLn, hpc, hkd, hop, hpr, hin, hnin, htp, htt, hnpr, hmpr, bI, bI2, bP, bL, hlnP] using h9
  · unfold Cpk
    have h9 := r_pk R
    simpa (disch := decide) only [gO, gLo, hnB, hnM, hnP, hnO, hhN, hnLn, hpc, hkd, hop, hpr, hin, hnin, htp, htt, hnpr, hmpr, bI, bI2, bP, bL, hlnP] using h9
  · unfold Cpkl
    have h9 := r_pkl R
    simpa (disch := decide) only [gO, gLo, hnB, hnM, hnP, hnO, hhN, hnLn, hpc, hkd, hop, hpr, hin, hnin, htp, htt, hnpr, hmpr, bI, bI2, bP, bL, hlnP] using h9
  · unfold Cpko
    have h9 := r_pko R
    simpa (disch := decide) only [gO, gLo, hnB, hnM, hnP, hnO, hhN, hnLn, hpc, hkd, hop, hpr, hin, hnin, htp, htt, hnpr, hmpr, bI, bI2, bP, bL, hlnP] using h9
  · unfold Cghour
    have h9 := r_ghour R
    simpa (disch := decide) only [gO, gLo, hnB, hnM, hnP, hnO, hhN, hnLn, hpc, hkd, hop, hpr, hin, hnin, htp, htt, hnpr, hmpr, bI, bI2, bP, bL, hlnP] using h9
  · unfold Cgstand
    have h9 := r_gstand R
    simpa (disch := decide) only [gO, gLo, hnB, hnM, hnP, hnO, hhN, hnLn, hpc, hkd, hop, hpr, hin, hnin, htp, htt, hnpr, hmpr, bI, bI2, bP, bL, hlnP] using h9
  · unfold Cgbought
    have h9 := r_gbought R
    simpa (disch := decide) only [gO, gLo, hnB, hnM, hnP, hnO, hhN, hnLn, hpc, hkd, hop, hpr, hin, hnin, htp, htt, hnpr, hmpr, bI, bI2, bP, bL, hlnP] using h9
  · unfold Cgmach
    have h9 := r_gmach R
    simpa (disch := decide) only [gO, gLo, hnB, hnM, hnP, hnO, hhN, hnLn, hpc, hkd, hop, hpr, hin, hnin, htp, htt, hnpr, hmpr, bI, bI2, bP, bL, hlnP] using h9
  · unfold Cgpers
    have h9 := r_gpers R
    simpa (disch := decide) only [gO, gLo, hnB, hnM, hnP, hnO, hhN, hnLn, hpc, hkd, hop, hpr, hin, hnin, htp, htt, hnpr, hmpr, bI, bI2, bP, bL, hlnP] using h9
  · unfold Cgworked
    have h9 := r_gworked R
    simpa (disch := decide) only [gO, gLo, hnB, hnM, hnP, hnO, hhN, hnLn, hpc, hkd, hop, hpr, hin, hnin, htp, htt, hnpr, hmpr, bI, bI2, bP, bL, hlnP] using h9
  · unfold Cgrep
    have h9 := r_grep R
    simpa (disch := decide) only [gO, gLo, hnB, hnM, hnP, hnO, hhN, hnLn, hpc, hkd, hop, hpr, hin, hnin, htp, htt, hnpr, hmpr, bI, bI2, bP, bL, hlnP] using h9
  · unfold Cgbat
    have h9 := r_gbat R
    simpa (disch := decide) only [gO, gLo, hnB, hnM, hnP, hnO, hhN, hnLn, hpc, hkd, hop, hpr, hin, hnin, htp, htt, hnpr, hmpr, bI, bI2, bP, bL, hlnP] using h9
  · unfold Cgord
    have h9 := r_gord R
    simpa (disch := decide) only [gO, gLo, hnB, hnM, hnP, hnO, hhN, hnLn, hpc, hkd, hop, hpr, hin, hnin, htp, htt, hnpr, hmpr, bI, bI2, bP, bL, hlnP] using h9
  · unfold Cgq
    have h9 := r_gq R
    simpa (disch := decide) only [gO, gLo, hnB, hnM, hnP, hnO, hhN, hnLn, hpc, hkd, hop, hpr, hin, hnin, htp, htt, hnpr, hmpr, bI, bI2, bP, bL, hlnP] using h9
  · unfold CnB
    have h9 := r_nB R
    simpa (disch := decide) only [gO, gLo, hnB, hnM, hnP, hnO, hhN, hnLn, hpc, hkd, hop, hpr, hin, hnin, htp, htt, hnpr, hmpr, bI, bI2, bP, bL, hlnP] using h9
  · unfold CnBx
    have h9 := r_nBx R
    simpa (disch := decide) only [gO, gLo, hnB, hnM, hnP, hnO, hhN, hnLn, hpc, hkd, hop, hpr, hin, hnin, htp, htt, hnpr, hmpr, bI, bI2, bP, bL, hlnP] using h9
  · unfold CnM
    have h9 := r_nM R
    simpa (disch := decide) only [gO, gLo, hnB, hnM, hnP, hnO, hhN, hnLn, hpc, hkd, hop, hpr, hin, hnin, htp, htt, hnpr, hmpr, bI, bI2, bP, bL, hlnP] using h9
  · unfold CnMx
    have h9 := r_nMx R
    simpa (disch := decide) only [gO, gLo, hnB, hnM, hnP, hnO, hhN, hnLn, hpc, hkd, hop, hpr, hin, hnin, htp, htt, hnpr, hmpr, bI, bI2, bP, bL, hlnP] using h9
  · unfold CnP
    have h9 := r_nP R
    simpa (disch := decide) only [gO, gLo, hnB, hnM, hnP, hnO, hhN, hnLn, hpc, hkd, hop, hpr, hin, hnin, htp, htt, hnpr, hmpr, bI, bI2, bP, bL, hlnP] using h9
  · unfold CnPx
    have h9 := r_nPx R
    simpa (disch := decide) only [gO, gLo, hnB, hnM, hnP, hnO, hhN, hnLn, hpc, hkd, hop, hpr, hin, hnin, htp, htt, hnpr, hmpr, bI, bI2, bP, bL, hlnP] using h9
  · unfold CnO
    have h9 := r_nO R
    simpa (disch := decide) only [gO, gLo, hnB, hnM, hnP, hnO, hhN, hnLn, hpc, hkd, hop, hpr, hin, hnin, htp, htt, hnpr, hmpr, bI, bI2, bP, bL, hlnP] using h9
  · unfold CnOx
    have h9 := r_nOx R
    simpa (disch := decide) only [gO, gLo, hnB, hnM, hnP, hnO, hhN, hnLn, hpc, hkd, hop, hpr, hin, hnin, htp, htt, hnpr, hmpr, bI, bI2, bP, bL, hlnP] using h9
  · unfold Chr
    have h9 := r_hr R
    simpa (disch := decide) only [gO, gLo, hnB, hnM, hnP, hnO, hhN, hnLn, hpc, hkd, hop, hpr, hin, hnin, htp, htt, hnpr, hmpr, bI, bI2, bP, bL, hlnP] using h9
  · unfold Chrx
    have h9 := r_hrx R
    simpa (disch := decide) only [gO, gLo, hnB, hnM, hnP, hnO, hhN, hnLn, hpc, hkd, hop, hpr, hin, hnin, htp, htt, hnpr, hmpr, bI, bI2, bP, bL, hlnP] using h9
  · unfold Cstb
    have h9 := r_stb R
    simpa (disch := decide) only [gO, gLo, hnB, hnM, hnP, hnO, hhN, hnLn, hpc, hkd, hop, hpr, hin, hnin, htp, htt, hnpr, hmpr, bI, bI2, bP, bL, hlnP] using h9
  · unfold Cex
    have h9 := r_ex R
    simpa (disch := decide) only [gO, gLo, hnB, hnM, hnP, hnO, hhN, hnLn, hpc, hkd, hop, hpr, hin, hnin, htp, htt, hnpr, hmpr, bI, bI2, bP, bL, hlnP] using h9
  · unfold Ck0
    have h9 := r_k0 R
    simpa (disch := decide) only [gO, gLo, hnB, hnM, hnP, hnO, hhN, hnLn, hpc, hkd, hop, hpr, hin, hnin, htp, htt, hnpr, hmpr, bI, bI2, bP, bL, hlnP] using h9
  · unfold Ck1
    intro i hi
    rw [bI2 _ _ (by decide), k0, r_k1 R i hi]
    split
    · rename_i c; subst c; rw [decide_eq_false hs]; rfl
    · rfl
  · unfold Ck2
    have h9 := r_k2 R
    simpa (disch := decide) only [gO, gLo, hnB, hnM, hnP, hnO, hhN, hnLn, hpc, hkd, hop, hpr, hin, hnin, htp, htt, hnpr, hmpr, bI, bI2, bP, bL, hlnP] using h9
  · unfold Ck3
    have h9 := r_k3 R
    simpa (disch := decide) only [gO, gLo, hnB, hnM, hnP, hnO, hhN, hnLn, hpc, hkd, hop, hpr, hin, hnin, htp, htt, hnpr, hmpr, bI, bI2, bP, bL, hlnP] using h9
  · unfold Ck5
    have h9 := r_k5 R
    simpa (disch := decide) only [gO, gLo, hnB, hnM, hnP, hnO, hhN, hnLn, hpc, hkd, hop, hpr, hin, hnin, htp, htt, hnpr, hmpr, bI, bI2, bP, bL, hlnP] using h9
  · unfold Ck7
    intro i hi
    rw [bIc, gC]
    split
    · rfl
    · exact r_k7 R i hi
  · unfold Ck8
    have h9 := r_k8 R
    simpa (disch := decide) only [gO, gLo, hnB, hnM, hnP, hnO, hhN, hnLn, hpc, hkd, hop, hpr, hin, hnin, htp, htt, hnpr, hmpr, bI, bI2, bP, bL, hlnP] using h9
  · unfold Ck9
    have h9 := r_k9 R
    simpa (disch := decide) only [gO, gLo, hnB, hnM, hnP, hnO, hhN, hnLn, hpc, hkd, hop, hpr, hin, hnin, htp, htt, hnpr, hmpr, bI, bI2, bP, bL, hlnP] using h9
  · unfold Ck10
    have h9 := r_k10 R
    simpa (disch := decide) only [gO, gLo, hnB, hnM, hnP, hnO, hhN, hnLn, hpc, hkd, hop, hpr, hin, hnin, htp, htt, hnpr, hmpr, bI, bI2, bP, bL, hlnP] using h9
  · unfold Ck11
    have h9 := r_k11 R
    simpa (disch := decide) only [gO, gLo, hnB, hnM, hnP, hnO, hhN, hnLn, hpc, hkd, hop, hpr, hin, hnin, htp, htt, hnpr, hmpr, bI, bI2, bP, bL, hlnP] using h9
  · unfold Ck12
    have h9 := r_k12 R
    simpa (disch := decide) only [gO, gLo, hnB, hnM, hnP, hnO, hhN, hnLn, hpc, hkd, hop, hpr, hin, hnin, htp, htt, hnpr, hmpr, bI, bI2, bP, bL, hlnP] using h9
  · unfold Cksa
    intro i hi
    rw [k0]
    split
    · exact Or.inr (Or.inr rfl)
    · exact r_ksa R i hi
  · unfold Cksb
    intro i hi
    rw [k0, hcn]
    split
    · exact ⟨fun _ => by omega, fun _ => rfl⟩
    · exact r_ksb R i hi
  · unfold Cksc
    intro i hi
    rw [k0, hcn, hnLn]
    split
    · exact fun h => absurd h (by decide)
    · exact r_ksc R i hi
  · unfold Ckw
    have h9 := r_kw R
    simpa (disch := decide) only [gO, gLo, hnB, hnM, hnP, hnO, hhN, hnLn, hpc, hkd, hop, hpr, hin, hnin, htp, htt, hnpr, hmpr, bI, bI2, bP, bL, hlnP] using h9
  · unfold Ckl
    have h9 := r_kl R
    simpa (disch := decide) only [gO, gLo, hnB, hnM, hnP, hnO, hhN, hnLn, hpc, hkd, hop, hpr, hin, hnin, htp, htt, hnpr, hmpr, bI, bI2, bP, bL, hlnP] using h9
  · unfold Cko
    intro i hi
    rw [gC, hcn]
    have h9 := r_ko R i hi
    split
    · exact ⟨rfl, by omega⟩
    · exact h9
  · unfold Ckp
    have h9 := r_kp R
    simpa (disch := decide) only [gO, gLo, hnB, hnM, hnP, hnO, hhN, hnLn, hpc, hkd, hop, hpr, hin, hnin, htp, htt, hnpr, hmpr, bI, bI2, bP, bL, hlnP] using h9
  · unfold Cl0
    have h9 := r_l0 R
    simpa (disch := decide) only [gO, gLo, hnB, hnM, hnP, hnO, hhN, hnLn, hpc, hkd, hop, hpr, hin, hnin, htp, htt, hnpr, hmpr, bI, bI2, bP, bL, hlnP] using h9
  · unfold Cl1
    have h9 := r_l1 R
    simpa (disch := decide) only [gO, gLo, hnB, hnM, hnP, hnO, hhN, hnLn, hpc, hkd, hop, hpr, hin, hnin, htp, htt, hnpr, hmpr, bI, bI2, bP, bL, hlnP] using h9
  · unfold Cl2
    have h9 := r_l2 R
    simpa (disch := decide) only [gO, gLo, hnB, hnM, hnP, hnO, hhN, hnLn, hpc, hkd, hop, hpr, hin, hnin, htp, htt, hnpr, hmpr, bI, bI2, bP, bL, hlnP] using h9
  · unfold Cl3
    have h9 := r_l3 R
    simpa (disch := decide) only [gO, gLo, hnB, hnM, hnP, hnO, hhN, hnLn, hpc, hkd, hop, hpr, hin, hnin, htp, htt, hnpr, hmpr, bI, bI2, bP, bL, hlnP] using h9
  · unfold Clm
    have h9 := r_lm R
    simpa (disch := decide) only [gO, gLo, hnB, hnM, hnP, hnO, hhN, hnLn, hpc, hkd, hop, hpr, hin, hnin, htp, htt, hnpr, hmpr, bI, bI2, bP, bL, hlnP] using h9
  · unfold Co0
    intro i q hi hq
    have hmx := (r_ko R i hi).2
    rw [hcn] at hq
    by_cases c : i = k ∧ q = nOp M k
    · obtain ⟨rfl, rfl⟩ := c
      rw [bPa, if_pos ⟨rfl, rfl⟩]
    · have hq2 : q < nOp M i := by split at hq; rename_i c2; subst c2; omega; exact hq
      have d : ¬ 4 * i + q = (4 * k + nOp M k) := by omega
      have h9 := r_o0 R i q hi hq2
      simpa (disch := decide) only [gJ _ _ d, bJ _ _ d, bPj _ _ d, bPa, if_neg c] using h9
  · unfold Co1
    intro i q hi hq
    have hmx := (r_ko R i hi).2
    rw [hcn] at hq
    by_cases c : i = k ∧ q = nOp M k
    · obtain ⟨rfl, rfl⟩ := c
      rw [v0, g8]
    · have hq2 : q < nOp M i := by split at hq; rename_i c2; subst c2; omega; exact hq
      have d : ¬ 4 * i + q = (4 * k + nOp M k) := by omega
      have h9 := r_o1 R i q hi hq2
      simpa (disch := decide) only [gJ _ _ d, bJ _ _ d, bPj _ _ d, bPa, if_neg c] using h9
  · unfold Co2
    intro i q hi hq
    have hmx := (r_ko R i hi).2
    rw [hcn] at hq
    by_cases c : i = k ∧ q = nOp M k
    · obtain ⟨rfl, rfl⟩ := c
      rw [v1, g9]
    · have hq2 : q < nOp M i := by split at hq; rename_i c2; subst c2; omega; exact hq
      have d : ¬ 4 * i + q = (4 * k + nOp M k) := by omega
      have h9 := r_o2 R i q hi hq2
      simpa (disch := decide) only [gJ _ _ d, bJ _ _ d, bPj _ _ d, bPa, if_neg c] using h9
  · unfold Co3
    intro i q hi hq
    have hmx := (r_ko R i hi).2
    rw [hcn] at hq
    by_cases c : i = k ∧ q = nOp M k
    · obtain ⟨rfl, rfl⟩ := c
      rw [v2, g10]
    · have hq2 : q < nOp M i := by split at hq; rename_i c2; subst c2; omega; exact hq
      have d : ¬ 4 * i + q = (4 * k + nOp M k) := by omega
      have h9 := r_o3 R i q hi hq2
      simpa (disch := decide) only [gJ _ _ d, bJ _ _ d, bPj _ _ d, bPa, if_neg c] using h9
  · unfold Com
    intro i q hi hq
    have hmx := (r_ko R i hi).2
    rw [hcn] at hq
    by_cases c : i = k ∧ q = nOp M k
    · obtain ⟨rfl, rfl⟩ := c
      rw [g8, g9, g10]; exact hom
    · have hq2 : q < nOp M i := by split at hq; rename_i c2; subst c2; omega; exact hq
      have d : ¬ 4 * i + q = (4 * k + nOp M k) := by omega
      have h9 := r_om R i q hi hq2
      simpa (disch := decide) only [gJ _ _ d, bJ _ _ d, bPj _ _ d, bPa, if_neg c] using h9
  · unfold Cb0
    have h9 := r_b0 R
    simpa (disch := decide) only [gO, gLo, hnB, hnM, hnP, hnO, hhN, hnLn, hpc, hkd, hop, hpr, hin, hnin, htp, htt, hnpr, hmpr, bI, bI2, bP, bL, hlnP] using h9
  · unfold Cbn
    have h9 := r_bn R
    simpa (disch := decide) only [gO, gLo, hnB, hnM, hnP, hnO, hhN, hnLn, hpc, hkd, hop, hpr, hin, hnin, htp, htt, hnpr, hmpr, bI, bI2, bP, bL, hlnP] using h9
  · unfold Cbk
    have h9 := r_bk R
    simpa (disch := decide) only [gO, gLo, hnB, hnM, hnP, hnO, hhN, hnLn, hpc, hkd, hop, hpr, hin, hnin, htp, htt, hnpr, hmpr, bI, bI2, bP, bL, hlnP] using h9
  · unfold Cb2
    have h9 := r_b2 R
    simpa (disch := decide) only [gO, gLo, hnB, hnM, hnP, hnO, hhN, hnLn, hpc, hkd, hop, hpr, hin, hnin, htp, htt, hnpr, hmpr, bI, bI2, bP, bL, hlnP] using h9
  · unfold Cb3
    have h9 := r_b3 R
    simpa (disch := decide) only [gO, gLo, hnB, hnM, hnP, hnO, hhN, hnLn, hpc, hkd, hop, hpr, hin, hnin, htp, htt, hnpr, hmpr, bI, bI2, bP, bL, hlnP] using h9
  · unfold Cb4
    have h9 := r_b4 R
    simpa (disch := decide) only [gO, gLo, hnB, hnM, hnP, hnO, hhN, hnLn, hpc, hkd, hop, hpr, hin, hnin, htp, htt, hnpr, hmpr, bI, bI2, bP, bL, hlnP] using h9
  · unfold Cb5
    have h9 := r_b5 R
    simpa (disch := decide) only [gO, gLo, hnB, hnM, hnP, hnO, hhN, hnLn, hpc, hkd, hop, hpr, hin, hnin, htp, htt, hnpr, hmpr, bI, bI2, bP, bL, hlnP] using h9
  · unfold Cb6
    have h9 := r_b6 R
    simpa (disch := decide) only [gO, gLo, hnB, hnM, hnP, hnO, hhN, hnLn, hpc, hkd, hop, hpr, hin, hnin, htp, htt, hnpr, hmpr, bI, bI2, bP, bL, hlnP] using h9
  · unfold Cb7
    have h9 := r_b7 R
    simpa (disch := decide) only [gO, gLo, hnB, hnM, hnP, hnO, hhN, hnLn, hpc, hkd, hop, hpr, hin, hnin, htp, htt, hnpr, hmpr, bI, bI2, bP, bL, hlnP] using h9
  · unfold Cb8
    have h9 := r_b8 R
    simpa (disch := decide) only [gO, gLo, hnB, hnM, hnP, hnO, hhN, hnLn, hpc, hkd, hop, hpr, hin, hnin, htp, htt, hnpr, hmpr, bI, bI2, bP, bL, hlnP] using h9
  · unfold Cb9
    have h9 := r_b9 R
    simpa (disch := decide) only [gO, gLo, hnB, hnM, hnP, hnO, hhN, hnLn, hpc, hkd, hop, hpr, hin, hnin, htp, htt, hnpr, hmpr, bI, bI2, bP, bL, hlnP] using h9
  · unfold Cb10
    have h9 := r_b10 R
    simpa (disch := decide) only [gO, gLo, hnB, hnM, hnP, hnO, hhN, hnLn, hpc, hkd, hop, hpr, hin, hnin, htp, htt, hnpr, hmpr, bI, bI2, bP, bL, hlnP] using h9
  · unfold Cb11
    have h9 := r_b11 R
    simpa (disch := decide) only [gO, gLo, hnB, hnM, hnP, hnO, hhN, hnLn, hpc, hkd, hop, hpr, hin, hnin, htp, htt, hnpr, hmpr, bI, bI2, bP, bL, hlnP] using h9
  · unfold CbK
    have h9 := r_bK R
    simpa (disch := decide) only [gO, gLo, hnB, hnM, hnP, hnO, hhN, hnLn, hpc, hkd, hop, hpr, hin, hnin, htp, htt, hnpr, hmpr, bI, bI2, bP, bL, hlnP] using h9
  · unfold CbP
    have h9 := r_bP R
    simpa (disch := decide) only [gO, gLo, hnB, hnM, hnP, hnO, hhN, hnLn, hpc, hkd, hop, hpr, hin, hnin, htp, htt, hnpr, hmpr, bI, bI2, bP, bL, hlnP] using h9
  · unfold CbO
    have h9 := r_bO R
    simpa (disch := decide) only [gO, gLo, hnB, hnM, hnP, hnO, hhN, hnLn, hpc, hkd, hop, hpr, hin, hnin, htp, htt, hnpr, hmpr, bI, bI2, bP, bL, hlnP] using h9
  · unfold CbW
    intro j hj hw
    rw [hnB] at hj
    rw [gO _ _ rfl] at hw
    have h9 := r_bW R j hj hw
    rw [hcn, hkd, hop]
    split
    · rename_i c; rw [c] at h9; omega
    · exact h9
  · unfold CbZ
    have h9 := r_bZ R
    simpa (disch := decide) only [gO, gLo, hnB, hnM, hnP, hnO, hhN, hnLn, hpc, hkd, hop, hpr, hin, hnin, htp, htt, hnpr, hmpr, bI, bI2, bP, bL, hlnP] using h9
  · unfold CbF
    have h9 := r_bF R
    simpa (disch := decide) only [gO, gLo, hnB, hnM, hnP, hnO, hhN, hnLn, hpc, hkd, hop, hpr, hin, hnin, htp, htt, hnpr, hmpr, bI, bI2, bP, bL, hlnP] using h9
  · unfold CbS
    have h9 := r_bS R
    simpa (disch := decide) only [gO, gLo, hnB, hnM, hnP, hnO, hhN, hnLn, hpc, hkd, hop, hpr, hin, hnin, htp, htt, hnpr, hmpr, bI, bI2, bP, bL, hlnP] using h9
  · unfold CbC
    have h9 := r_bC R
    simpa (disch := decide) only [gO, gLo, hnB, hnM, hnP, hnO, hhN, hnLn, hpc, hkd, hop, hpr, hin, hnin, htp, htt, hnpr, hmpr, bI, bI2, bP, bL, hlnP] using h9
  · unfold CbT
    have h9 := r_bT R
    simpa (disch := decide) only [gO, gLo, hnB, hnM, hnP, hnO, hhN, hnLn, hpc, hkd, hop, hpr, hin, hnin, htp, htt, hnpr, hmpr, bI, bI2, bP, bL, hlnP] using h9
  · unfold CbU
    have h9 := r_bU R
    simpa (disch := decide) only [gO, gLo, hnB, hnM, hnP, hnO, hhN, hnLn, hpc, hkd, hop, hpr, hin, hnin, htp, htt, hnpr, hmpr, bI, bI2, bP, bL, hlnP] using h9
  · unfold Cbq
    have h9 := r_bq R
    simpa (disch := decide) only [gO, gLo, hnB, hnM, hnP, hnO, hhN, hnLn, hpc, hkd, hop, hpr, hin, hnin, htp, htt, hnpr, hmpr, bI, bI2, bP, bL, hlnP] using h9
  · unfold Cps
    have h9 := r_ps R
    simpa (disch := decide) only [gO, gLo, hnB, hnM, hnP, hnO, hhN, hnLn, hpc, hkd, hop, hpr, hin, hnin, htp, htt, hnpr, hmpr, bI, bI2, bP, bL, hlnP] using h9
  · unfold Cbp
    have h9 := r_bp R
    simpa (disch := decide) only [gO, gLo, hnB, hnM, hnP, hnO, hhN, hnLn, hpc, hkd, hop, hpr, hin, hnin, htp, htt, hnpr, hmpr, bI, bI2, bP, bL, hlnP] using h9
  · unfold Cbc
    have h9 := r_bc R
    simpa (disch := decide) only [gO, gLo, hnB, hnM, hnP, hnO, hhN, hnLn, hpc, hkd, hop, hpr, hin, hnin, htp, htt, hnpr, hmpr, bI, bI2, bP, bL, hlnP] using h9
  · unfold CfB
    intro j h1 h2
    rw [hnB] at h1
    rw [bX _ (tk_ne (by decide) (by decide) (by decide) : tk 0 _ ≠ tk 5 _)]
    exact r_fB R j h1 h2
  · unfold CfL
    intro i q h1 h2 h3
    rw [hnLn] at h3
    rw [bX _ (tk_ne (by decide) (by decide) (by decide) : tk 3 _ ≠ tk 5 _)]
    exact r_fL R i q h1 h2 h3
  · unfold CfO
    intro i q h1 h2 h3
    rw [hcn] at h3
    rw [bX _ (fun z => by have := tk_inj.mp z; split at h3 <;> omega)]
    exact r_fO R i q h1 h2 (by split at h3; rename_i c2; subst c2; omega; exact h3)
  · unfold CfM
    intro j h1 h2
    rw [hnM] at h1
    rw [bX _ (tk_ne (by decide) (by decide) (by decide) : tk 4 _ ≠ tk 5 _)]
    exact r_fM R j h1 h2
  · unfold CfP
    intro j h1 h2
    rw [hnP] at h1
    rw [bX _ (tk_ne (by decide) (by decide) (by decide) : tk 7 _ ≠ tk 5 _), bX _ (tk_ne (by decide) (by decide) (by decide) : tk 21 _ ≠ tk 5 _), bX _ (tk_ne (by decide) (by decide) (by decide) : tk 22 _ ≠ tk 5 _)]
    exact r_fP R j h1 h2
  · unfold CfR
    intro j h1 h2
    rw [hnO] at h1
    rw [bX _ (tk_ne (by decide) (by decide) (by decide) : tk 6 _ ≠ tk 5 _)]
    exact r_fR R j h1 h2
  · unfold CfG
    obtain ⟨Q, h1, h2⟩ := r_fG R
    refine ⟨Q, h1, fun c i hi => ?_⟩
    rw [bX _ (by unfold tk; omega)]
    exact h2 c i hi
  · unfold Cm0
    have h9 := r_m0 R
    simpa (disch := decide) only [gO, gLo, hnB, hnM, hnP, hnO, hhN, hnLn, hpc, hkd, hop, hpr, hin, hnin, htp, htt, hnpr, hmpr, bI, bI2, bP, bL, hlnP] using h9
  · unfold Cmn
    have h9 := r_mn R
    simpa (disch := decide) only [gO, gLo, hnB, hnM, hnP, hnO, hhN, hnLn, hpc, hkd, hop, hpr, hin, hnin, htp, htt, hnpr, hmpr, bI, bI2, bP, bL, hlnP] using h9
  · unfold Cm1
    have h9 := r_m1 R
    simpa (disch := decide) only [gO, gLo, hnB, hnM, hnP, hnO, hhN, hnLn, hpc, hkd, hop, hpr, hin, hnin, htp, htt, hnpr, hmpr, bI, bI2, bP, bL, hlnP] using h9
  · unfold Cm2
    have h9 := r_m2 R
    simpa (disch := decide) only [gO, gLo, hnB, hnM, hnP, hnO, hhN, hnLn, hpc, hkd, hop, hpr, hin, hnin, htp, htt, hnpr, hmpr, bI, bI2, bP, bL, hlnP] using h9
  · unfold Cm3
    have h9 := r_m3 R
    simpa (disch := decide) only [gO, gLo, hnB, hnM, hnP, hnO, hhN, hnLn, hpc, hkd, hop, hpr, hin, hnin, htp, htt, hnpr, hmpr, bI, bI2, bP, bL, hlnP] using h9
  · unfold Cm4
    have h9 := r_m4 R
    simpa (disch := decide) only [gO, gLo, hnB, hnM, hnP, hnO, hhN, hnLn, hpc, hkd, hop, hpr, hin, hnin, htp, htt, hnpr, hmpr, bI, bI2, bP, bL, hlnP] using h9
  · unfold Cm5
    have h9 := r_m5 R
    simpa (disch := decide) only [gO, gLo, hnB, hnM, hnP, hnO, hhN, hnLn, hpc, hkd, hop, hpr, hin, hnin, htp, htt, hnpr, hmpr, bI, bI2, bP, bL, hlnP] using h9
  · unfold Cm9
    have h9 := r_m9 R
    simpa (disch := decide) only [gO, gLo, hnB, hnM, hnP, hnO, hhN, hnLn, hpc, hkd, hop, hpr, hin, hnin, htp, htt, hnpr, hmpr, bI, bI2, bP, bL, hlnP] using h9
  · unfold Cm11
    have h9 := r_m11 R
    simpa (disch := decide) only [gO, gLo, hnB, hnM, hnP, hnO, hhN, hnLn, hpc, hkd, hop, hpr, hin, hnin, htp, htt, hnpr, hmpr, bI, bI2, bP, bL, hlnP] using h9
  · unfold Cm13
    have h9 := r_m13 R
    simpa (disch := decide) only [gO, gLo, hnB, hnM, hnP, hnO, hhN, hnLn, hpc, hkd, hop, hpr, hin, hnin, htp, htt, hnpr, hmpr, bI, bI2, bP, bL, hlnP] using h9
  · unfold Cm14
    have h9 := r_m14 R
    simpa (disch := decide) only [gO, gLo, hnB, hnM, hnP, hnO, hhN, hnLn, hpc, hkd, hop, hpr, hin, hnin, htp, htt, hnpr, hmpr, bI, bI2, bP, bL, hlnP] using h9
  · unfold Cm6
    have h9 := r_m6 R
    simpa (disch := decide) only [gO, gLo, hnB, hnM, hnP, hnO, hhN, hnLn, hpc, hkd, hop, hpr, hin, hnin, htp, htt, hnpr, hmpr, bI, bI2, bP, bL, hlnP] using h9
  · unfold Cm7
    have h9 := r_m7 R
    simpa (disch := decide) only [gO, gLo, hnB, hnM, hnP, hnO, hhN, hnLn, hpc, hkd, hop, hpr, hin, hnin, htp, htt, hnpr, hmpr, bI, bI2, bP, bL, hlnP] using h9
  · unfold Cm8
    have h9 := r_m8 R
    simpa (disch := decide) only [gO, gLo, hnB, hnM, hnP, hnO, hhN, hnLn, hpc, hkd, hop, hpr, hin, hnin, htp, htt, hnpr, hmpr, bI, bI2, bP, bL, hlnP] using h9
  · unfold Cm12
    have h9 := r_m12 R
    simpa (disch := decide) only [gO, gLo, hnB, hnM, hnP, hnO, hhN, hnLn, hpc, hkd, hop, hpr, hin, hnin, htp, htt, hnpr, hmpr, bI, bI2, bP, bL, hlnP] using h9
  · unfold Cm10
    have h9 := r_m10 R
    simpa (disch := decide) only [gO, gLo, hnB, hnM, hnP, hnO, hhN, hnLn, hpc, hkd, hop, hpr, hin, hnin, htp, htt, hnpr, hmpr, bI, bI2, bP, bL, hlnP] using h9
  · unfold Cmma
    have h9 := r_mma R
    simpa (disch := decide) only [gO, gLo, hnB, hnM, hnP, hnO, hhN, hnLn, hpc, hkd, hop, hpr, hin, hnin, htp, htt, hnpr, hmpr, bI, bI2, bP, bL, hlnP] using h9
  · unfold Cmmb
    have h9 := r_mmb R
    simpa (disch := decide) only [gO, gLo, hnB, hnM, hnP, hnO, hhN, hnLn, hpc, hkd, hop, hpr, hin, hnin, htp, htt, hnpr, hmpr, bI, bI2, bP, bL, hlnP] using h9
  · unfold Cmmc
    have h9 := r_mmc R
    simpa (disch := decide) only [gO, gLo, hnB, hnM, hnP, hnO, hhN, hnLn, hpc, hkd, hop, hpr, hin, hnin, htp, htt, hnpr, hmpr, bI, bI2, bP, bL, hlnP] using h9
  · unfold Cmr29
    have h9 := r_mr29 R
    simpa (disch := decide) only [gO, gLo, hnB, hnM, hnP, hnO, hhN, hnLn, hpc, hkd, hop, hpr, hin, hnin, htp, htt, hnpr, hmpr, bI, bI2, bP, bL, hlnP] using h9
  · unfold Cmr30
    have h9 := r_mr30 R
    simpa (disch := decide) only [gO, gLo, hnB, hnM, hnP, hnO, hhN, hnLn, hpc, hkd, hop, hpr, hin, hnin, htp, htt, hnpr, hmpr, bI, bI2, bP, bL, hlnP] using h9
  · unfold Cmr31
    have h9 := r_mr31 R
    simpa (disch := decide) only [gO, gLo, hnB, hnM, hnP, hnO, hhN, hnLn, hpc, hkd, hop, hpr, hin, hnin, htp, htt, hnpr, hmpr, bI, bI2, bP, bL, hlnP] using h9
  · unfold Cmr32
    have h9 := r_mr32 R
    simpa (disch := decide) only [gO, gLo, hnB, hnM, hnP, hnO, hhN, hnLn, hpc, hkd, hop, hpr, hin, hnin, htp, htt, hnpr, hmpr, bI, bI2, bP, bL, hlnP] using h9
  · unfold Cmr35
    have h9 := r_mr35 R
    simpa (disch := decide) only [gO, gLo, hnB, hnM, hnP, hnO, hhN, hnLn, hpc, hkd, hop, hpr, hin, hnin, htp, htt, hnpr, hmpr, bI, bI2, bP, bL, hlnP] using h9
  · unfold Cmr39
    have h9 := r_mr39 R
    simpa (disch := decide) only [gO, gLo, hnB, hnM, hnP, hnO, hhN, hnLn, hpc, hkd, hop, hpr, hin, hnin, htp, htt, hnpr, hmpr, bI, bI2, bP, bL, hlnP] using h9
  · unfold Cmr40
    have h9 := r_mr40 R
    simpa (disch := decide) only [gO, gLo, hnB, hnM, hnP, hnO, hhN, hnLn, hpc, hkd, hop, hpr, hin, hnin, htp, htt, hnpr, hmpr, bI, bI2, bP, bL, hlnP] using h9
  · unfold Cmd
    have h9 := r_md R
    simpa (disch := decide) only [gO, gLo, hnB, hnM, hnP, hnO, hhN, hnLn, hpc, hkd, hop, hpr, hin, hnin, htp, htt, hnpr, hmpr, bI, bI2, bP, bL, hlnP] using h9
  · unfold Cmw
    have h9 := r_mw R
    simpa (disch := decide) only [gO, gLo, hnB, hnM, hnP, hnO, hhN, hnLn, hpc, hkd, hop, hpr, hin, hnin, htp, htt, hnpr, hmpr, bI, bI2, bP, bL, hlnP] using h9
  · unfold Cq0
    have h9 := r_q0 R
    simpa (disch := decide) only [gO, gLo, hnB, hnM, hnP, hnO, hhN, hnLn, hpc, hkd, hop, hpr, hin, hnin, htp, htt, hnpr, hmpr, bI, bI2, bP, bL, hlnP] using h9
  · unfold Cqn
    have h9 := r_qn R
    simpa (disch := decide) only [gO, gLo, hnB, hnM, hnP, hnO, hhN, hnLn, hpc, hkd, hop, hpr, hin, hnin, htp, htt, hnpr, hmpr, bI, bI2, bP, bL, hlnP] using h9
  · unfold Cq1
    have h9 := r_q1 R
    simpa (disch := decide) only [gO, gLo, hnB, hnM, hnP, hnO, hhN, hnLn, hpc, hkd, hop, hpr, hin, hnin, htp, htt, hnpr, hmpr, bI, bI2, bP, bL, hlnP] using h9
  · unfold Cq2
    have h9 := r_q2 R
    simpa (disch := decide) only [gO, gLo, hnB, hnM, hnP, hnO, hhN, hnLn, hpc, hkd, hop, hpr, hin, hnin, htp, htt, hnpr, hmpr, bI, bI2, bP, bL, hlnP] using h9
  · unfold Cq3
    have h9 := r_q3 R
    simpa (disch := decide) only [gO, gLo, hnB, hnM, hnP, hnO, hhN, hnLn, hpc, hkd, hop, hpr, hin, hnin, htp, htt, hnpr, hmpr, bI, bI2, bP, bL, hlnP] using h9
  · unfold Cq4
    have h9 := r_q4 R
    simpa (disch := decide) only [gO, gLo, hnB, hnM, hnP, hnO, hhN, hnLn, hpc, hkd, hop, hpr, hin, hnin, htp, htt, hnpr, hmpr, bI, bI2, bP, bL, hlnP] using h9
  · unfold Cq5
    have h9 := r_q5 R
    simpa (disch := decide) only [gO, gLo, hnB, hnM, hnP, hnO, hhN, hnLn, hpc, hkd, hop, hpr, hin, hnin, htp, htt, hnpr, hmpr, bI, bI2, bP, bL, hlnP] using h9
  · unfold Cq6
    have h9 := r_q6 R
    simpa (disch := decide) only [gO, gLo, hnB, hnM, hnP, hnO, hhN, hnLn, hpc, hkd, hop, hpr, hin, hnin, htp, htt, hnpr, hmpr, bI, bI2, bP, bL, hlnP] using h9
  · unfold Cql
    have h9 := r_ql R
    simpa (disch := decide) only [gO, gLo, hnB, hnM, hnP, hnO, hhN, hnLn, hpc, hkd, hop, hpr, hin, hnin, htp, htt, hnpr, hmpr, bI, bI2, bP, bL, hlnP] using h9
  · unfold Cqw
    have h9 := r_qw R
    simpa (disch := decide) only [gO, gLo, hnB, hnM, hnP, hnO, hhN, hnLn, hpc, hkd, hop, hpr, hin, hnin, htp, htt, hnpr, hmpr, bI, bI2, bP, bL, hlnP] using h9
  · unfold Cqm
    have h9 := r_qm R
    simpa (disch := decide) only [gO, gLo, hnB, hnM, hnP, hnO, hhN, hnLn, hpc, hkd, hop, hpr, hin, hnin, htp, htt, hnpr, hmpr, bI, bI2, bP, bL, hlnP] using h9
  · unfold Cqr
    have h9 := r_qr R
    simpa (disch := decide) only [gO, gLo, hnB, hnM, hnP, hnO, hhN, hnLn, hpc, hkd, hop, hpr, hin, hnin, htp, htt, hnpr, hmpr, bI, bI2, bP, bL, hlnP] using h9
  · unfold Cr0
    have h9 := r_r0 R
    simpa (disch := decide) only [gO, gLo, hnB, hnM, hnP, hnO, hhN, hnLn, hpc, hkd, hop, hpr, hin, hnin, htp, htt, hnpr, hmpr, bI, bI2, bP, bL, hlnP] using h9
  · unfold Cr1
    have h9 := r_r1 R
    simpa (disch := decide) only [gO, gLo, hnB, hnM, hnP, hnO, hhN, hnLn, hpc, hkd, hop, hpr, hin, hnin, htp, htt, hnpr, hmpr, bI, bI2, bP, bL, hlnP] using h9
  · unfold Cr2
    have h9 := r_r2 R
    simpa (disch := decide) only [gO, gLo, hnB, hnM, hnP, hnO, hhN, hnLn, hpc, hkd, hop, hpr, hin, hnin, htp, htt, hnpr, hmpr, bI, bI2, bP, bL, hlnP] using h9
  · unfold Cr3
    have h9 := r_r3 R
    simpa (disch := decide) only [gO, gLo, hnB, hnM, hnP, hnO, hhN, hnLn, hpc, hkd, hop, hpr, hin, hnin, htp, htt, hnpr, hmpr, bI, bI2, bP, bL, hlnP] using h9
  · unfold Cr4
    have h9 := r_r4 R
    simpa (disch := decide) only [gO, gLo, hnB, hnM, hnP, hnO, hhN, hnLn, hpc, hkd, hop, hpr, hin, hnin, htp, htt, hnpr, hmpr, bI, bI2, bP, bL, hlnP] using h9
  · unfold Cr5
    have h9 := r_r5 R
    simpa (disch := decide) only [gO, gLo, hnB, hnM, hnP, hnO, hhN, hnLn, hpc, hkd, hop, hpr, hin, hnin, htp, htt, hnpr, hmpr, bI, bI2, bP, bL, hlnP] using h9
  · unfold Cr6
    have h9 := r_r6 R
    simpa (disch := decide) only [gO, gLo, hnB, hnM, hnP, hnO, hhN, hnLn, hpc, hkd, hop, hpr, hin, hnin, htp, htt, hnpr, hmpr, bI, bI2, bP, bL, hlnP] using h9
  · unfold Crk
    have h9 := r_rk R
    simpa (disch := decide) only [gO, gLo, hnB, hnM, hnP, hnO, hhN, hnLn, hpc, hkd, hop, hpr, hin, hnin, htp, htt, hnpr, hmpr, bI, bI2, bP, bL, hlnP] using h9
  · unfold Crp
    have h9 := r_rp R
    simpa (disch := decide) only [gO, gLo, hnB, hnM, hnP, hnO, hhN, hnLn, hpc, hkd, hop, hpr, hin, hnin, htp, htt, hnpr, hmpr, bI, bI2, bP, bL, hlnP] using h9
  · unfold Crq
    have h9 := r_rq R
    simpa (disch := decide) only [gO, gLo, hnB, hnM, hnP, hnO, hhN, hnLn, hpc, hkd, hop, hpr, hin, hnin, htp, htt, hnpr, hmpr, bI, bI2, bP, bL, hlnP] using h9
  · unfold Crr
    have h9 := r_rr R
    simpa (disch := decide) only [gO, gLo, hnB, hnM, hnP, hnO, hhN, hnLn, hpc, hkd, hop, hpr, hin, hnin, htp, htt, hnpr, hmpr, bI, bI2, bP, bL, hlnP] using h9
  · unfold Crs
    have h9 := r_rs R
    simpa (disch := decide) only [gO, gLo, hnB, hnM, hnP, hnO, hhN, hnLn, hpc, hkd, hop, hpr, hin, hnin, htp, htt, hnpr, hmpr, bI, bI2, bP, bL, hlnP] using h9
set_option maxHeartbeats 2000000 in
theorem rel_addP4 {e : Nat} {a : Sg} {M : MS} (R : Rel e a M) (k : Nat) (wo sk ho : Int32) (hom : ∃ w s h : Nat, wo = nI w ∧ w < 4 ∧ sk = nI s ∧ s < 4 ∧ ho = nI h ∧ 1 ≤ h ∧ h ≤ 9) (hs : gI M 0 k ≠ 1) (hk : k < 12) (hlt : nOp M k < 4) : Rel e (wI (wP (wI (wI (wI (wN a (tk 5 (4 * k + nOp M k))) (tk 5 (4 * k + nOp M k)) 0 wo) (tk 5 (4 * k + nOp M k)) 1 sk) (tk 5 (4 * k + nOp M k)) 2 ho) (tk 18 k) (nOp M k) (some (tk 5 (4 * k + nOp M k)))) (tk 2 k) 7 (nI (nOp M k + 1))) (uI (uI (uI (uI (uI M 8 (4 * k + nOp M k) wo) 9 (4 * k + nOp M k) sk) 10 (4 * k + nOp M k) ho) 0 k 2) 7 k (nI (nOp M k + 1))) := by
  refine rel_addP4N R k wo sk ho hom hs hk hlt ?_ ?_ ?_ ?_ ?_ ?_ ?_ ?_ ?_ ?_ ?_ ?_ ?_ ?_ ?_ ?_ ?_ ?_ ?_ ?_
  · intro t j h; have h : t ≠ 0 ∧ t ≠ 7 ∧ t ≠ 8 ∧ t ≠ 9 ∧ t ≠ 10 := by unfold z_rel_addP4 at h; simp only [Bool.and_eq_true, bne_iff_ne] at h; omega
    simp (disch := omega) only [gI_ne]
  · intro t j h h0 h1; simp (disch := omega) only [gI_nj, gI_ne]
  · intro i; simp [gI_uI]
  · intro i; simp [gI_uI]
  · simp [gI_uI]
  · simp [gI_uI]
  · simp [gI_uI]
  · intro j; simp [gL_uI]
  · intro c i q h0 h1 h2; simp (disch := omega) [gI_uI, gI_uL, gL_uI, gL_uL, sI_wI, sI_wP, sI_wN, sP_wI, sP_wP, sP_wN, sL_wI, sL_wP, sL_wN, sX_wI, sX_wP, sX_wN, tk_ne9, tk_inj]
  · intro i q h; simp [gI_uI, gI_uL, gL_uI, gL_uL, sI_wI, sI_wP, sI_wN, sP_wI, sP_wP, sP_wN, sL_wI, sL_wP, sL_wN, sX_wI, sX_wP, sX_wN, tk_ne9, tk_inj, h]
  · intro i; simp [gI_uI, gI_uL, gL_uI, gL_uL, sI_wI, sI_wP, sI_wN, sP_wI, sP_wP, sP_wN, sL_wI, sL_wP, sL_wN, sX_wI, sX_wP, sX_wN, tk_ne9, tk_inj]
  · intro j q h; simp [gI_uI, gI_uL, gL_uI, gL_uL, sI_wI, sI_wP, sI_wN, sP_wI, sP_wP, sP_wN, sL_wI, sL_wP, sL_wN, sX_wI, sX_wP, sX_wN, tk_ne9, tk_inj, h]
  · simp [gI_uI, gI_uL, gL_uI, gL_uL, sI_wI, sI_wP, sI_wN, sP_wI, sP_wP, sP_wN, sL_wI, sL_wP, sL_wN, sX_wI, sX_wP, sX_wN, tk_ne9, tk_inj]
  · simp [gI_uI, gI_uL, gL_uI, gL_uL, sI_wI, sI_wP, sI_wN, sP_wI, sP_wP, sP_wN, sL_wI, sL_wP, sL_wN, sX_wI, sX_wP, sX_wN, tk_ne9, tk_inj]
  · simp [gI_uI, gI_uL, gL_uI, gL_uL, sI_wI, sI_wP, sI_wN, sP_wI, sP_wP, sP_wN, sL_wI, sL_wP, sL_wN, sX_wI, sX_wP, sX_wN, tk_ne9, tk_inj]
  · intro c i q h0 h1 h2; simp (disch := omega) [gI_uI, gI_uL, gL_uI, gL_uL, sI_wI, sI_wP, sI_wN, sP_wI, sP_wP, sP_wN, sL_wI, sL_wP, sL_wN, sX_wI, sX_wP, sX_wN, tk_ne9, tk_inj]
  · intro j q h; simp [gI_uI, gI_uL, gL_uI, gL_uL, sI_wI, sI_wP, sI_wN, sP_wI, sP_wP, sP_wN, sL_wI, sL_wP, sL_wN, sX_wI, sX_wP, sX_wN, tk_ne9, tk_inj, h]
  · intro i q; simp [gI_uI, gI_uL, gL_uI, gL_uL, sI_wI, sI_wP, sI_wN, sP_wI, sP_wP, sP_wN, sL_wI, sL_wP, sL_wN, sX_wI, sX_wP, sX_wN, tk_ne9, tk_inj]
  · intro c i q h0 h1; simp (disch := omega) [gI_uI, gI_uL, gL_uI, gL_uL, sI_wI, sI_wP, sI_wN, sP_wI, sP_wP, sP_wN, sL_wI, sL_wP, sL_wN, sX_wI, sX_wP, sX_wN, tk_ne9, tk_inj]
  · intro t h; simp [gI_uI, gI_uL, gL_uI, gL_uL, sI_wI, sI_wP, sI_wN, sP_wI, sP_wP, sP_wN, sL_wI, sL_wP, sL_wN, sX_wI, sX_wP, sX_wN, tk_ne9, tk_inj, h]
set_option maxHeartbeats 8000000 in
theorem rel_bought2 {e : Nat} {a : Sg} {M : MS} (R : Rel e a M) (k : Nat) (hk : k < 12) (p h : Nat) (hp : p ≤ 99) (hh : h ≤ 30) (hl : nLn M k = 0) (ho : nOp M k = 0) : Rel e (wI (wI (wI a (tk 2 k) 1 1) (tk 2 k) 2 (nI p)) (tk 2 k) 3 (nI h)) (uI (uI (uI M 0 k 1) 1 k (nI p)) 2 k (nI h)) := by
  unfold Rel
  refine ⟨?_, ?_, ?_, ?_, ?_, ?_, ?_, ?_, ?_, ?_, ?_, ?_, ?_, ?_, ?_, ?_, ?_, ?_, ?_, ?_, ?_, ?_, ?_, ?_, ?_, ?_, ?_, ?_, ?_, ?_, ?_, ?_, ?_, ?_, ?_, ?_, ?_, ?_, ?_, ?_, ?_, ?_, ?_, ?_, ?_, ?_, ?_, ?_, ?_, ?_, ?_, ?_, ?_, ?_, ?_, ?_, ?_, ?_, ?_, ?_, ?_, ?_, ?_, ?_, ?_, ?_, ?_, ?_, ?_, ?_, ?_, ?_, ?_, ?_, ?_, ?_, ?_, ?_, ?_, ?_, ?_, ?_, ?_, ?_, ?_, ?_, ?_, ?_, ?_, ?_, ?_, ?_, ?_, ?_, ?_, ?_, ?_, ?_, ?_, ?_, ?_, ?_, ?_, ?_, ?_, ?_, ?_, ?_, ?_, ?_, ?_, ?_, ?_, ?_, ?_, ?_, ?_, ?_, ?_, ?_, ?_, ?_, ?_, ?_, ?_, ?_, ?_, ?_, ?_, ?_, ?_, ?_, ?_, ?_, ?_, ?_, ?_, ?_, ?_, ?_, ?_, ?_, ?_, ?_, ?_, ?_, ?_, ?_, ?_⟩
  · have h9 := r_shm R
    exact h9
  · have h9 := r_px0 R
    exact h9
  · have h9 := r_px1 R
    exact h9
  · have h9 := r_px2 R
    exact h9
  · have h9 := r_pf0 R
    exact h9
  · have h9 := r_pf1 R
    exact h9
  · have h9 := r_pf3 R
    exact h9
  · have h9 := r_ps0 R
    exact h9
  · have h9 := r_ps2 R
    exact h9
  · have h9 := r_ps4 R
    exact h9
  · have h9 := r_pk R
    exact h9
  · have h9 := r_pkl R
    exact h9
  · have h9 := r_pko R
    exact h9
  · have h9 := r_ghour R
    unfold Cghour
    simpa (disch := omega) only [sI_wI, gI_uI, tk_ne9, tk_inj, if_false, if_true, false_and, and_false, Nat.reduceEqDiff, reduceIte, reduceCtorEq, and_true, true_and] using h9
  · have h9 := r_gstand R
    unfold Cgstand
    simpa (disch := omega) only [sI_wI, gI_uI, tk_ne9, tk_inj, if_false, if_true, false_and, and_false, Nat.reduceEqDiff, reduceIte, reduceCtorEq, and_true, true_and] using h9
  · have h9 := r_gbought R
    unfold Cgbought
    simpa (disch := omega) only [sI_wI, gI_uI, tk_ne9, tk_inj, if_false, if_true, false_and, and_false, Nat.reduceEqDiff, reduceIte, reduceCtorEq, and_true, true_and] using h9
  · have h9 := r_gmach R
    unfold Cgmach
    simpa (disch := omega) only [sI_wI, gI_uI, tk_ne9, tk_inj, if_false, if_true, false_and, and_false, Nat.reduceEqDiff, reduceIte, reduceCtorEq, and_true, true_and] using h9
  · have h9 := r_gpers R
    unfold Cgpers
    simpa (disch := omega) only [sI_wI, gI_uI, tk_ne9, tk_inj, if_false, if_true, false_and, and_false, Nat.reduceEqDiff, reduceIte, reduceCtorEq, and_true, true_and] using h9
  · have h9 := r_gworked R
    unfold Cgworked
    simpa (disch := omega) only [sI_wI, gI_uI, tk_ne9, tk_inj, if_false, if_true, false_and, and_false, Nat.reduceEqDiff, reduceIte, reduceCtorEq, and_true, true_and] using h9
  · have h9 := r_grep R
    unfold Cgrep
    simpa (disch := omega) only [sI_wI, gI_uI, tk_ne9, tk_inj, if_false, if_true, false_and, and_false, Nat.reduceEqDiff, reduceIte, reduceCtorEq, and_true, true_and] using h9
  · have h9 := r_gbat R
    unfold Cgbat
    simpa (disch := omega) only [sI_wI, gI_uI, tk_ne9, tk_inj, if_false, if_true, false_and, and_false, Nat.reduceEqDiff, reduceIte, reduceCtorEq, and_true, true_and] using h9
  · have h9 := r_gord R
    unfold Cgord
    simpa (disch := omega) only [sI_wI, gI_uI, tk_ne9, tk_inj, if_false, if_true, false_and, and_false, Nat.reduceEqDiff, reduceIte, reduceCtorEq, and_true, true_and] using h9
  · have h9 := r_gq R
    unfold Cgq
    simpa (disch := omega) only [sI_wI, gI_uI, tk_ne9, tk_inj, if_false, if_true, false_and, and_false, Nat.reduceEqDiff, reduceIte, reduceCtorEq, and_true, true_and] using h9
  · have h9 := r_nB R
    unfold CnB
    simpa (disch := omega) only [gI_uI, nB_u, tk_ne9, tk_inj, if_false, if_true, false_and, and_false, Nat.reduceEqDiff, reduceIte, reduceCtorEq, and_true, true_and] using h9
  · have h9 := r_nBx R
    unfold CnBx
    simpa (disch := omega) only [nB_u, tk_ne9, tk_inj, if_false, if_true, false_and, and_false, Nat.reduceEqDiff, reduceIte, reduceCtorEq, and_true, true_and] using h9
  · have h9 := r_nM R
    unfold CnM
    simpa (disch := omega) only [gI_uI, nM_u, tk_ne9, tk_inj, if_false, if_true, false_and, and_false, Nat.reduceEqDiff, reduceIte, reduceCtorEq, and_true, true_and] using h9
  · have h9 := r_nMx R
    unfold CnMx
    simpa (disch := omega) only [nM_u, tk_ne9, tk_inj, if_false, if_true, false_and, and_false, Nat.reduceEqDiff, reduceIte, reduceCtorEq, and_true, true_and] using h9
  · have h9 := r_nP R
    unfold CnP
    simpa (disch := omega) only [gI_uI, nP_u, tk_ne9, tk_inj, if_false, if_true, false_and, and_false, Nat.reduceEqDiff, reduceIte, reduceCtorEq, and_true, true_and] using h9
  · have h9 := r_nPx R
    unfold CnPx
    simpa (disch := omega) only [nP_u, tk_ne9, tk_inj, if_false, if_true, false_and, and_false, Nat.reduceEqDiff, reduceIte, reduceCtorEq, and_true, true_and] using h9
  · have h9 := r_nO R
    unfold CnO
    simpa (disch := omega) only [gI_uI, nO_u, tk_ne9, tk_inj, if_false, if_true, false_and, and_false, Nat.reduceEqDiff, reduceIte, reduceCtorEq, and_true, true_and] using h9
  · have h9 := r_nOx R
    unfold CnOx
    simpa (disch := omega) only [nO_u, tk_ne9, tk_inj, if_false, if_true, false_and, and_false, Nat.reduceEqDiff, reduceIte, reduceCtorEq, and_true, true_and] using h9
  · have h9 := r_hr R
    unfold Chr
    simpa (disch := omega) only [gI_uI, hN_u, tk_ne9, tk_inj, if_false, if_true, false_and, and_false, Nat.reduceEqDiff, reduceIte, reduceCtorEq, and_true, true_and] using h9
  · have h9 := r_hrx R
    unfold Chrx
    simpa (disch := omega) only [hN_u, tk_ne9, tk_inj, if_false, if_true, false_and, and_false, Nat.reduceEqDiff, reduceIte, reduceCtorEq, and_true, true_and] using h9
  · have h9 := r_stb R
    unfold Cstb
    simpa (disch := omega) only [gI_uI, tk_ne9, tk_inj, if_false, if_true, false_and, and_false, Nat.reduceEqDiff, reduceIte, reduceCtorEq, and_true, true_and] using h9
  · have h9 := r_ex R
    exact h9
  · have h9 := r_k0 R
    unfold Ck0
    simpa (disch := omega) only [sI_wI, tk_ne9, tk_inj, if_false, if_true, false_and, and_false, Nat.reduceEqDiff, reduceIte, reduceCtorEq, and_true, true_and] using h9
  · unfold Ck1
    intro i hi
    have h9 := r_k1 R i hi
    by_cases c : i = k
    · subst c
      simp [sI_wI, gI_uI, bi]
    · simp (disch := omega) [gI_uI, sI_wI, tk_inj, nOp_u, nLn_u, c]
      exact h9
  · unfold Ck2
    intro i hi
    have h9 := r_k2 R i hi
    by_cases c : i = k
    · subst c
      simp [sI_wI, gI_uI]
    · simp (disch := omega) [gI_uI, sI_wI, tk_inj, nOp_u, nLn_u, c]
      exact h9
  · unfold Ck3
    intro i hi
    have h9 := r_k3 R i hi
    by_cases c : i = k
    · subst c
      simp [sI_wI, gI_uI]
    · simp (disch := omega) [gI_uI, sI_wI, tk_inj, nOp_u, nLn_u, c]
      exact h9
  · have h9 := r_k5 R
    unfold Ck5
    simpa (disch := omega) only [sI_wI, gI_uI, tk_ne9, tk_inj, if_false, if_true, false_and, and_false, Nat.reduceEqDiff, reduceIte, reduceCtorEq, and_true, true_and] using h9
  · have h9 := r_k7 R
    unfold Ck7
    simpa (disch := omega) only [sI_wI, gI_uI, tk_ne9, tk_inj, if_false, if_true, false_and, and_false, Nat.reduceEqDiff, reduceIte, reduceCtorEq, and_true, true_and] using h9
  · have h9 := r_k8 R
    unfold Ck8
    simpa (disch := omega) only [sI_wI, gI_uI, tk_ne9, tk_inj, if_false, if_true, false_and, and_false, Nat.reduceEqDiff, reduceIte, reduceCtorEq, and_true, true_and] using h9
  · have h9 := r_k9 R
    unfold Ck9
    simpa (disch := omega) only [sI_wI, gI_uI, tk_ne9, tk_inj, if_false, if_true, false_and, and_false, Nat.reduceEqDiff, reduceIte, reduceCtorEq, and_true, true_and] using h9
  · have h9 := r_k10 R
    unfold Ck10
    simpa (disch := omega) only [sI_wI, nB_u, mInSt_u, tk_ne9, tk_inj, if_false, if_true, false_and, and_false, Nat.reduceEqDiff, reduceIte, reduceCtorEq, and_true, true_and] using h9
  · have h9 := r_k11 R
    unfold Ck11
    simpa (disch := omega) only [sI_wI, nO_u, mProm_u, tk_ne9, tk_inj, if_false, if_true, false_and, and_false, Nat.reduceEqDiff, reduceIte, reduceCtorEq, and_true, true_and] using h9
  · have h9 := r_k12 R
    unfold Ck12
    simpa (disch := omega) only [sI_wI, tk_ne9, tk_inj, if_false, if_true, false_and, and_false, Nat.reduceEqDiff, reduceIte, reduceCtorEq, and_true, true_and] using h9
  · unfold Cksa
    intro i hi
    have h9 := r_ksa R i hi
    by_cases c : i = k
    · subst c
      simp [gI_uI]
    · simp (disch := omega) [gI_uI, sI_wI, tk_inj, nOp_u, nLn_u, c]
      exact h9
  · unfold Cksb
    intro i hi
    have h9 := r_ksb R i hi
    by_cases c : i = k
    · subst c
      simp (disch := omega) [gI_uI, nOp_u, ho]
    · simp (disch := omega) [gI_uI, sI_wI, tk_inj, nOp_u, nLn_u, c]
      exact h9
  · unfold Cksc
    intro i hi
    have h9 := r_ksc R i hi
    by_cases c : i = k
    · subst c
      simp (disch := omega) [gI_uI, nOp_u, nLn_u, ho, hl]
    · simp (disch := omega) [gI_uI, sI_wI, tk_inj, nOp_u, nLn_u, c]
      exact h9
  · have h9 := r_kw R
    unfold Ckw
    simpa (disch := omega) only [gI_uI, tk_ne9, tk_inj, if_false, if_true, false_and, and_false, Nat.reduceEqDiff, reduceIte, reduceCtorEq, and_true, true_and] using h9
  · have h9 := r_kl R
    unfold Ckl
    simpa (disch := omega) only [gI_uI, nLn_u, tk_ne9, tk_inj, if_false, if_true, false_and, and_false, Nat.reduceEqDiff, reduceIte, reduceCtorEq, and_true, true_and] using h9
  · have h9 := r_ko R
    unfold Cko
    simpa (disch := omega) only [gI_uI, nOp_u, tk_ne9, tk_inj, if_false, if_true, false_and, and_false, Nat.reduceEqDiff, reduceIte, reduceCtorEq, and_true, true_and] using h9
  · unfold Ckp
    intro i hi
    obtain ⟨p1, h1, q1, q2, q3, q4⟩ := r_kp R i hi
    by_cases c : i = k
    · exact ⟨p, h, by simp [gI_uI, c], hp, by simp [gI_uI, c], hh⟩
    · exact ⟨p1, h1, by simp [gI_uI, c]; exact q1, q2, by simp [gI_uI, c]; exact q3, q4⟩
  · have h9 := r_l0 R
    unfold Cl0
    simpa (disch := omega) only [sP_wI, nLn_u, tk_ne9, tk_inj, if_false, if_true, false_and, and_false, Nat.reduceEqDiff, reduceIte, reduceCtorEq, and_true, true_and] using h9
  · have h9 := r_l1 R
    unfold Cl1
    simpa (disch := omega) only [sP_wI, nLn_u, lnP_u, tk_ne9, tk_inj, if_false, if_true, false_and, and_false, Nat.reduceEqDiff, reduceIte, reduceCtorEq, and_true, true_and] using h9
  · have h9 := r_l2 R
    unfold Cl2
    simpa (disch := omega) only [sI_wI, gI_uI, nLn_u, tk_ne9, tk_inj, if_false, if_true, false_and, and_false, Nat.reduceEqDiff, reduceIte, reduceCtorEq, and_true, true_and] using h9
  · have h9 := r_l3 R
    unfold Cl3
    simpa (disch := omega) only [sP_wI, gI_uI, nLn_u, tk_ne9, tk_inj, if_false, if_true, false_and, and_false, Nat.reduceEqDiff, reduceIte, reduceCtorEq, and_true, true_and] using h9
  · have h9 := r_lm R
    unfold Clm
    simpa (disch := omega) only [gI_uI, nLn_u, lnP_u, tk_ne9, tk_inj, if_false, if_true, false_and, and_false, Nat.reduceEqDiff, reduceIte, reduceCtorEq, and_true, true_and] using h9
  · have h9 := r_o0 R
    unfold Co0
    simpa (disch := omega) only [sP_wI, nOp_u, tk_ne9, tk_inj, if_false, if_true, false_and, and_false, Nat.reduceEqDiff, reduceIte, reduceCtorEq, and_true, true_and] using h9
  · have h9 := r_o1 R
    unfold Co1
    simpa (disch := omega) only [sI_wI, gI_uI, nOp_u, tk_ne9, tk_inj, if_false, if_true, false_and, and_false, Nat.reduceEqDiff, reduceIte, reduceCtorEq, and_true, true_and] using h9
  · have h9 := r_o2 R
    unfold Co2
    simpa (disch := omega) only [sI_wI, gI_uI, nOp_u, tk_ne9, tk_inj, if_false, if_true, false_and, and_false, Nat.reduceEqDiff, reduceIte, reduceCtorEq, and_true, true_and] using h9
  · have h9 := r_o3 R
    unfold Co3
    simpa (disch := omega) only [sI_wI, gI_uI, nOp_u, tk_ne9, tk_inj, if_false, if_true, false_and, and_false, Nat.reduceEqDiff, reduceIte, reduceCtorEq, and_true, true_and] using h9
  · have h9 := r_om R
    unfold Com
    simpa (disch := omega) only [gI_uI, nOp_u, tk_ne9, tk_inj, if_false, if_true, false_and, and_false, Nat.reduceEqDiff, reduceIte, reduceCtorEq, and_true, true_and] using h9
  · have h9 := r_b0 R
    unfold Cb0
    simpa (disch := omega) only [sP_wI, nB_u, tk_ne9, tk_inj, if_false, if_true, false_and, and_false, Nat.reduceEqDiff, reduceIte, reduceCtorEq, and_true, true_and] using h9
  · have h9 := r_bn R
    unfold Cbn
    simpa (disch := omega) only [sI_wI, nB_u, tk_ne9, tk_inj, if_false, if_true, false_and, and_false, Nat.reduceEqDiff, reduceIte, reduceCtorEq, and_true, true_and] using h9
  · have h9 := r_bk R
    unfold Cbk
    simpa (disch := omega) only [sP_wI, nB_u, kd_u, tk_ne9, tk_inj, if_false, if_true, false_and, and_false, Nat.reduceEqDiff, reduceIte, reduceCtorEq, and_true, true_and] using h9
  · have h9 := r_b2 R
    unfold Cb2
    simpa (disch := omega) only [sI_wI, gI_uI, nB_u, tk_ne9, tk_inj, if_false, if_true, false_and, and_false, Nat.reduceEqDiff, reduceIte, reduceCtorEq, and_true, true_and] using h9
  · have h9 := r_b3 R
    unfold Cb3
    simpa (disch := omega) only [sI_wI, gI_uI, nB_u, tk_ne9, tk_inj, if_false, if_true, false_and, and_false, Nat.reduceEqDiff, reduceIte, reduceCtorEq, and_true, true_and] using h9
  · have h9 := r_b4 R
    unfold Cb4
    simpa (disch := omega) only [sI_wI, gI_uI, nB_u, tk_ne9, tk_inj, if_false, if_true, false_and, and_false, Nat.reduceEqDiff, reduceIte, reduceCtorEq, and_true, true_and] using h9
  · have h9 := r_b5 R
    unfold Cb5
    simpa (disch := omega) only [sI_wI, gI_uI, nB_u, tk_ne9, tk_inj, if_false, if_true, false_and, and_false, Nat.reduceEqDiff, reduceIte, reduceCtorEq, and_true, true_and] using h9
  · have h9 := r_b6 R
    unfold Cb6
    simpa (disch := omega) only [sI_wI, gI_uI, nB_u, tk_ne9, tk_inj, if_false, if_true, false_and, and_false, Nat.reduceEqDiff, reduceIte, reduceCtorEq, and_true, true_and] using h9
  · have h9 := r_b7 R
    unfold Cb7
    simpa (disch := omega) only [sI_wI, gI_uI, nB_u, tk_ne9, tk_inj, if_false, if_true, false_and, and_false, Nat.reduceEqDiff, reduceIte, reduceCtorEq, and_true, true_and] using h9
  · have h9 := r_b8 R
    unfold Cb8
    simpa (disch := omega) only [sI_wI, gI_uI, nB_u, tk_ne9, tk_inj, if_false, if_true, false_and, and_false, Nat.reduceEqDiff, reduceIte, reduceCtorEq, and_true, true_and] using h9
  · have h9 := r_b9 R
    unfold Cb9
    simpa (disch := omega) only [sI_wI, gI_uI, nB_u, tk_ne9, tk_inj, if_false, if_true, false_and, and_false, Nat.reduceEqDiff, reduceIte, reduceCtorEq, and_true, true_and] using h9
  · have h9 := r_b10 R
    unfold Cb10
    simpa (disch := omega) only [sI_wI, gI_uI, nB_u, tk_ne9, tk_inj, if_false, if_true, false_and, and_false, Nat.reduceEqDiff, reduceIte, reduceCtorEq, and_true, true_and] using h9
  · have h9 := r_b11 R
    unfold Cb11
    simpa (disch := omega) only [sL_wI, gL_uI, nB_u, tk_ne9, tk_inj, if_false, if_true, false_and, and_false, Nat.reduceEqDiff, reduceIte, reduceCtorEq, and_true, true_and] using h9
  · have h9 := r_bK R
    unfold CbK
    simpa (disch := omega) only [gI_uI, nB_u, kd_u, tk_ne9, tk_inj, if_false, if_true, false_and, and_false, Nat.reduceEqDiff, reduceIte, reduceCtorEq, and_true, true_and] using h9
  · have h9 := r_bP R
    unfold CbP
    simpa (disch := omega) only [gI_uI, nB_u, pc_u, tk_ne9, tk_inj, if_false, if_true, false_and, and_false, Nat.reduceEqDiff, reduceIte, reduceCtorEq, and_true, true_and] using h9
  · have h9 := r_bO R
    unfold CbO
    simpa (disch := omega) only [gI_uI, nB_u, op_u, tk_ne9, tk_inj, if_false, if_true, false_and, and_false, Nat.reduceEqDiff, reduceIte, reduceCtorEq, and_true, true_and] using h9
  · have h9 := r_bW R
    unfold CbW
    simpa (disch := omega) only [gI_uI, nB_u, nOp_u, kd_u, op_u, tk_ne9, tk_inj, if_false, if_true, false_and, and_false, Nat.reduceEqDiff, reduceIte, reduceCtorEq, and_true, true_and] using h9
  · have h9 := r_bZ R
    unfold CbZ
    simpa (disch := omega) only [gI_uI, nB_u, pc_u, tk_ne9, tk_inj, if_false, if_true, false_and, and_false, Nat.reduceEqDiff, reduceIte, reduceCtorEq, and_true, true_and] using h9
  · have h9 := r_bF R
    unfold CbF
    simpa (disch := omega) only [gI_uI, nB_u, tk_ne9, tk_inj, if_false, if_true, false_and, and_false, Nat.reduceEqDiff, reduceIte, reduceCtorEq, and_true, true_and] using h9
  · have h9 := r_bS R
    unfold CbS
    simpa (disch := omega) only [gI_uI, nB_u, tk_ne9, tk_inj, if_false, if_true, false_and, and_false, Nat.reduceEqDiff, reduceIte, reduceCtorEq, and_true, true_and] using h9
  · have h9 := r_bC R
    unfold CbC
    simpa (disch := omega) only [gI_uI, nB_u, tk_ne9, tk_inj, if_false, if_true, false_and, and_false, Nat.reduceEqDiff, reduceIte, reduceCtorEq, and_true, true_and] using h9
  · have h9 := r_bT R
    unfold CbT
    simpa (disch := omega) only [gI_uI, nB_u, tk_ne9, tk_inj, if_false, if_true, false_and, and_false, Nat.reduceEqDiff, reduceIte, reduceCtorEq, and_true, true_and] using h9
  · have h9 := r_bU R
    unfold CbU
    simpa (disch := omega) only [gI_uI, nB_u, kd_u, tk_ne9, tk_inj, if_false, if_true, false_and, and_false, Nat.reduceEqDiff, reduceIte, reduceCtorEq, and_true, true_and] using h9
  · have h9 := r_bq R
    unfold Cbq
    simpa (disch := omega) only [nB_u, totp_u, tk_ne9, tk_inj, if_false, if_true, false_and, and_false, Nat.reduceEqDiff, reduceIte, reduceCtorEq, and_true, true_and] using h9
  · have h9 := r_ps R
    unfold Cps
    simpa (disch := omega) only [nB_u, nO_u, nInSt_u, nProm_u, tk_ne9, tk_inj, if_false, if_true, false_and, and_false, Nat.reduceEqDiff, reduceIte, reduceCtorEq, and_true, true_and] using h9
  · have h9 := r_bp R
    unfold Cbp
    simpa (disch := omega) only [gL_uI, nB_u, tk_ne9, tk_inj, if_false, if_true, false_and, and_false, Nat.reduceEqDiff, reduceIte, reduceCtorEq, and_true, true_and] using h9
  · have h9 := r_bc R
    unfold Cbc
    simpa (disch := omega) only [nB_u, hN_u, tot_u, tk_ne9, tk_inj, if_false, if_true, false_and, and_false, Nat.reduceEqDiff, reduceIte, reduceCtorEq, and_true, true_and] using h9
  · have h9 := r_fB R
    unfold CfB
    simpa (disch := omega) only [sX_wI, nB_u, tk_ne9, tk_inj, if_false, if_true, false_and, and_false, Nat.reduceEqDiff, reduceIte, reduceCtorEq, and_true, true_and] using h9
  · have h9 := r_fL R
    unfold CfL
    simpa (disch := omega) only [sX_wI, nLn_u, tk_ne9, tk_inj, if_false, if_true, false_and, and_false, Nat.reduceEqDiff, reduceIte, reduceCtorEq, and_true, true_and] using h9
  · have h9 := r_fO R
    unfold CfO
    simpa (disch := omega) only [sX_wI, nOp_u, tk_ne9, tk_inj, if_false, if_true, false_and, and_false, Nat.reduceEqDiff, reduceIte, reduceCtorEq, and_true, true_and] using h9
  · have h9 := r_fM R
    unfold CfM
    simpa (disch := omega) only [sX_wI, nM_u, tk_ne9, tk_inj, if_false, if_true, false_and, and_false, Nat.reduceEqDiff, reduceIte, reduceCtorEq, and_true, true_and] using h9
  · have h9 := r_fP R
    unfold CfP
    simpa (disch := omega) only [sX_wI, nP_u, tk_ne9, tk_inj, if_false, if_true, false_and, and_false, Nat.reduceEqDiff, reduceIte, reduceCtorEq, and_true, true_and] using h9
  · have h9 := r_fR R
    unfold CfR
    simpa (disch := omega) only [sX_wI, nO_u, tk_ne9, tk_inj, if_false, if_true, false_and, and_false, Nat.reduceEqDiff, reduceIte, reduceCtorEq, and_true, true_and] using h9
  · have h9 := r_fG R
    exact h9
  · have h9 := r_m0 R
    unfold Cm0
    simpa (disch := omega) only [sP_wI, nM_u, tk_ne9, tk_inj, if_false, if_true, false_and, and_false, Nat.reduceEqDiff, reduceIte, reduceCtorEq, and_true, true_and] using h9
  · have h9 := r_mn R
    unfold Cmn
    simpa (disch := omega) only [sI_wI, nM_u, tk_ne9, tk_inj, if_false, if_true, false_and, and_false, Nat.reduceEqDiff, reduceIte, reduceCtorEq, and_true, true_and] using h9
  · have h9 := r_m1 R
    unfold Cm1
    simpa (disch := omega) only [sI_wI, gI_uI, nM_u, tk_ne9, tk_inj, if_false, if_true, false_and, and_false, Nat.reduceEqDiff, reduceIte, reduceCtorEq, and_true, true_and] using h9
  · have h9 := r_m2 R
    unfold Cm2
    simpa (disch := omega) only [sI_wI, gI_uI, nM_u, tk_ne9, tk_inj, if_false, if_true, false_and, and_false, Nat.reduceEqDiff, reduceIte, reduceCtorEq, and_true, true_and] using h9
  · have h9 := r_m3 R
    unfold Cm3
    simpa (disch := omega) only [sI_wI, gI_uI, nM_u, tk_ne9, tk_inj, if_false, if_true, false_and, and_false, Nat.reduceEqDiff, reduceIte, reduceCtorEq, and_true, true_and] using h9
  · have h9 := r_m4 R
    unfold Cm4
    simpa (disch := omega) only [sI_wI, gI_uI, nM_u, tk_ne9, tk_inj, if_false, if_true, false_and, and_false, Nat.reduceEqDiff, reduceIte, reduceCtorEq, and_true, true_and] using h9
  · have h9 := r_m5 R
    unfold Cm5
    simpa (disch := omega) only [sI_wI, gI_uI, nM_u, tk_ne9, tk_inj, if_false, if_true, false_and, and_false, Nat.reduceEqDiff, reduceIte, reduceCtorEq, and_true, true_and] using h9
  · have h9 := r_m9 R
    unfold Cm9
    simpa (disch := omega) only [sI_wI, gI_uI, nM_u, tk_ne9, tk_inj, if_false, if_true, false_and, and_false, Nat.reduceEqDiff, reduceIte, reduceCtorEq, and_true, true_and] using h9
  · have h9 := r_m11 R
    unfold Cm11
    simpa (disch := omega) only [sI_wI, gI_uI, nM_u, tk_ne9, tk_inj, if_false, if_true, false_and, and_false, Nat.reduceEqDiff, reduceIte, reduceCtorEq, and_true, true_and] using h9
  · have h9 := r_m13 R
    unfold Cm13
    simpa (disch := omega) only [sI_wI, gI_uI, nM_u, tk_ne9, tk_inj, if_false, if_true, false_and, and_false, Nat.reduceEqDiff, reduceIte, reduceCtorEq, and_true, true_and] using h9
  · have h9 := r_m14 R
    unfold Cm14
    simpa (disch := omega) only [sI_wI, gI_uI, nM_u, tk_ne9, tk_inj, if_false, if_true, false_and, and_false, Nat.reduceEqDiff, reduceIte, reduceCtorEq, and_true, true_and] using h9
  · have h9 := r_m6 R
    unfold Cm6
    simpa (disch := omega) only [sP_wI, gI_uI, nM_u, tk_ne9, tk_inj, if_false, if_true, false_and, and_false, Nat.reduceEqDiff, reduceIte, reduceCtorEq, and_true, true_and] using h9
  · have h9 := r_m7 R
    unfold Cm7
    simpa (disch := omega) only [sP_wI, gI_uI, nM_u, tk_ne9, tk_inj, if_false, if_true, false_and, and_false, Nat.reduceEqDiff, reduceIte, reduceCtorEq, and_true, true_and] using h9
  · have h9 := r_m8 R
    unfold Cm8
    simpa (disch := omega) only [sP_wI, gI_uI, nM_u, tk_ne9, tk_inj, if_false, if_true, false_and, and_false, Nat.reduceEqDiff, reduceIte, reduceCtorEq, and_true, true_and] using h9
  · have h9 := r_m12 R
    unfold Cm12
    simpa (disch := omega) only [sP_wI, gI_uI, nM_u, tk_ne9, tk_inj, if_false, if_true, false_and, and_false, Nat.reduceEqDiff, reduceIte, reduceCtorEq, and_true, true_and] using h9
  · have h9 := r_m10 R
    unfold Cm10
    simpa (disch := omega) only [sI_wI, gI_uI, nB_u, nM_u, tk_ne9, tk_inj, if_false, if_true, false_and, and_false, Nat.reduceEqDiff, reduceIte, reduceCtorEq, and_true, true_and] using h9
  · have h9 := r_mma R
    unfold Cmma
    simpa (disch := omega) only [gI_uI, nM_u, tk_ne9, tk_inj, if_false, if_true, false_and, and_false, Nat.reduceEqDiff, reduceIte, reduceCtorEq, and_true, true_and] using h9
  · have h9 := r_mmb R
    unfold Cmmb
    simpa (disch := omega) only [gI_uI, nB_u, nM_u, nP_u, tk_ne9, tk_inj, if_false, if_true, false_and, and_false, Nat.reduceEqDiff, reduceIte, reduceCtorEq, and_true, true_and] using h9
  · have h9 := r_mmc R
    unfold Cmmc
    simpa (disch := omega) only [gI_uI, nM_u, tk_ne9, tk_inj, if_false, if_true, false_and, and_false, Nat.reduceEqDiff, reduceIte, reduceCtorEq, and_true, true_and] using h9
  · have h9 := r_mr29 R
    unfold Cmr29
    simpa (disch := omega) only [gI_uI, nM_u, tk_ne9, tk_inj, if_false, if_true, false_and, and_false, Nat.reduceEqDiff, reduceIte, reduceCtorEq, and_true, true_and] using h9
  · have h9 := r_mr30 R
    unfold Cmr30
    simpa (disch := omega) only [gI_uI, nM_u, tk_ne9, tk_inj, if_false, if_true, false_and, and_false, Nat.reduceEqDiff, reduceIte, reduceCtorEq, and_true, true_and] using h9
  · have h9 := r_mr31 R
    unfold Cmr31
    simpa (disch := omega) only [gI_uI, nM_u, tk_ne9, tk_inj, if_false, if_true, false_and, and_false, Nat.reduceEqDiff, reduceIte, reduceCtorEq, and_true, true_and] using h9
  · have h9 := r_mr32 R
    unfold Cmr32
    simpa (disch := omega) only [gI_uI, nM_u, tk_ne9, tk_inj, if_false, if_true, false_and, and_false, Nat.reduceEqDiff, reduceIte, reduceCtorEq, and_true, true_and] using h9
  · have h9 := r_mr35 R
    unfold Cmr35
    simpa (disch := omega) only [gI_uI, nM_u, tk_ne9, tk_inj, if_false, if_true, false_and, and_false, Nat.reduceEqDiff, reduceIte, reduceCtorEq, and_true, true_and] using h9
  · have h9 := r_mr39 R
    unfold Cmr39
    simpa (disch := omega) only [gI_uI, nM_u, tk_ne9, tk_inj, if_false, if_true, false_and, and_false, Nat.reduceEqDiff, reduceIte, reduceCtorEq, and_true, true_and] using h9
  · have h9 := r_mr40 R
    unfold Cmr40
    simpa (disch := omega) only [gI_uI, nM_u, tk_ne9, tk_inj, if_false, if_true, false_and, and_false, Nat.reduceEqDiff, reduceIte, reduceCtorEq, and_true, true_and] using h9
  · have h9 := r_md R
    unfold Cmd
    simpa (disch := omega) only [gI_uI, nM_u, tk_ne9, tk_inj, if_false, if_true, false_and, and_false, Nat.reduceEqDiff, reduceIte, reduceCtorEq, and_true, true_and] using h9
  · have h9 := r_mw R
    unfold Cmw
    simpa (disch := omega) only [gI_uI, nM_u, tk_ne9, tk_inj, if_false, if_true, false_and, and_false, Nat.reduceEqDiff, reduceIte, reduceCtorEq, and_true, true_and] using h9
  · have h9 := r_q0 R
    unfold Cq0
    simpa (disch := omega) only [sP_wI, nP_u, tk_ne9, tk_inj, if_false, if_true, false_and, and_false, Nat.reduceEqDiff, reduceIte, reduceCtorEq, and_true, true_and] using h9
  · have h9 := r_qn R
    unfold Cqn
    simpa (disch := omega) only [sI_wI, nP_u, tk_ne9, tk_inj, if_false, if_true, false_and, and_false, Nat.reduceEqDiff, reduceIte, reduceCtorEq, and_true, true_and] using h9
  · have h9 := r_q1 R
    unfold Cq1
    simpa (disch := omega) only [sI_wI, gI_uI, nP_u, tk_ne9, tk_inj, if_false, if_true, false_and, and_false, Nat.reduceEqDiff, reduceIte, reduceCtorEq, and_true, true_and] using h9
  · have h9 := r_q2 R
    unfold Cq2
    simpa (disch := omega) only [sI_wI, gI_uI, nP_u, tk_ne9, tk_inj, if_false, if_true, false_and, and_false, Nat.reduceEqDiff, reduceIte, reduceCtorEq, and_true, true_and] using h9
  · have h9 := r_q3 R
    unfold Cq3
    simpa (disch := omega) only [sI_wI, gI_uI, nP_u, tk_ne9, tk_inj, if_false, if_true, false_and, and_false, Nat.reduceEqDiff, reduceIte, reduceCtorEq, and_true, true_and] using h9
  · have h9 := r_q4 R
    unfold Cq4
    simpa (disch := omega) only [sP_wI, nP_u, tk_ne9, tk_inj, if_false, if_true, false_and, and_false, Nat.reduceEqDiff, reduceIte, reduceCtorEq, and_true, true_and] using h9
  · have h9 := r_q5 R
    unfold Cq5
    simpa (disch := omega) only [sP_wI, nP_u, tk_ne9, tk_inj, if_false, if_true, false_and, and_false, Nat.reduceEqDiff, reduceIte, reduceCtorEq, and_true, true_and] using h9
  · have h9 := r_q6 R
    unfold Cq6
    simpa (disch := omega) only [sI_wI, gI_uI, nM_u, nP_u, tk_ne9, tk_inj, if_false, if_true, false_and, and_false, Nat.reduceEqDiff, reduceIte, reduceCtorEq, and_true, true_and] using h9
  · have h9 := r_ql R
    unfold Cql
    simpa (disch := omega) only [sI_wI, gI_uI, nP_u, tk_ne9, tk_inj, if_false, if_true, false_and, and_false, Nat.reduceEqDiff, reduceIte, reduceCtorEq, and_true, true_and] using h9
  · have h9 := r_qw R
    unfold Cqw
    simpa (disch := omega) only [sI_wI, gI_uI, nP_u, tk_ne9, tk_inj, if_false, if_true, false_and, and_false, Nat.reduceEqDiff, reduceIte, reduceCtorEq, and_true, true_and] using h9
  · have h9 := r_qm R
    unfold Cqm
    simpa (disch := omega) only [gI_uI, nP_u, tk_ne9, tk_inj, if_false, if_true, false_and, and_false, Nat.reduceEqDiff, reduceIte, reduceCtorEq, and_true, true_and] using h9
  · have h9 := r_qr R
    unfold Cqr
    simpa (disch := omega) only [gI_uI, nP_u, tk_ne9, tk_inj, if_false, if_true, false_and, and_false, Nat.reduceEqDiff, reduceIte, reduceCtorEq, and_true, true_and] using h9
  · have h9 := r_r0 R
    unfold Cr0
    simpa (disch := omega) only [sP_wI, nO_u, tk_ne9, tk_inj, if_false, if_true, false_and, and_false, Nat.reduceEqDiff, reduceIte, reduceCtorEq, and_true, true_and] using h9
  · have h9 := r_r1 R
    unfold Cr1
    simpa (disch := omega) only [sP_wI, gI_uI, nO_u, tk_ne9, tk_inj, if_false, if_true, false_and, and_false, Nat.reduceEqDiff, reduceIte, reduceCtorEq, and_true, true_and] using h9
  · have h9 := r_r2 R
    unfold Cr2
    simpa (disch := omega) only [sI_wI, gI_uI, nO_u, tk_ne9, tk_inj, if_false, if_true, false_and, and_false, Nat.reduceEqDiff, reduceIte, reduceCtorEq, and_true, true_and] using h9
  · have h9 := r_r3 R
    unfold Cr3
    simpa (disch := omega) only [sI_wI, gI_uI, nO_u, tk_ne9, tk_inj, if_false, if_true, false_and, and_false, Nat.reduceEqDiff, reduceIte, reduceCtorEq, and_true, true_and] using h9
  · have h9 := r_r4 R
    unfold Cr4
    simpa (disch := omega) only [sI_wI, gI_uI, nO_u, tk_ne9, tk_inj, if_false, if_true, false_and, and_false, Nat.reduceEqDiff, reduceIte, reduceCtorEq, and_true, true_and] using h9
  · have h9 := r_r5 R
    unfold Cr5
    simpa (disch := omega) only [sP_wI, gI_uI, nO_u, tk_ne9, tk_inj, if_false, if_true, false_and, and_false, Nat.reduceEqDiff, reduceIte, reduceCtorEq, and_true, true_and] using h9
  · have h9 := r_r6 R
    unfold Cr6
    simpa (disch := omega) only [sI_wI, gI_uI, nO_u, tk_ne9, tk_inj, if_false, if_true, false_and, and_false, Nat.reduceEqDiff, reduceIte, reduceCtorEq, and_true, true_and] using h9
  · have h9 := r_rk R
    unfold Crk
    simpa (disch := omega) only [gI_uI, nO_u, tk_ne9, tk_inj, if_false, if_true, false_and, and_false, Nat.reduceEqDiff, reduceIte, reduceCtorEq, and_true, true_and] using h9
  · have h9 := r_rp R
    unfold Crp
    simpa (disch := omega) only [gI_uI, nO_u, tk_ne9, tk_inj, if_false, if_true, false_and, and_false, Nat.reduceEqDiff, reduceIte, reduceCtorEq, and_true, true_and] using h9
  · have h9 := r_rq R
    unfold Crq
    simpa (disch := omega) only [gI_uI, nO_u, pr_u, tk_ne9, tk_inj, if_false, if_true, false_and, and_false, Nat.reduceEqDiff, reduceIte, reduceCtorEq, and_true, true_and] using h9
  · have h9 := r_rr R
    unfold Crr
    simpa (disch := omega) only [gI_uI, nO_u, pr_u, tk_ne9, tk_inj, if_false, if_true, false_and, and_false, Nat.reduceEqDiff, reduceIte, reduceCtorEq, and_true, true_and] using h9
  · have h9 := r_rs R
    unfold Crs
    simpa (disch := omega) only [gI_uI, nB_u, nO_u, tk_ne9, tk_inj, if_false, if_true, false_and, and_false, Nat.reduceEqDiff, reduceIte, reduceCtorEq, and_true, true_and] using h9
