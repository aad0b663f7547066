/-! Steps of the class beside the model's. -/
theorem Sg_ext {A B : Sg} (h1 : ∀ t k, sI A t k = sI B t k) (h2 : ∀ t k, sP A t k = sP B t k) (h3 : ∀ t k, sL A t k = sL B t k) (h4 : ∀ t, sX A t = sX B t) : A = B :=
  Prod.ext (funext fun t => funext fun k => h1 t k) (Prod.ext (funext fun t => funext fun k => h2 t k) (Prod.ext (funext fun t => funext fun k => h3 t k) (funext fun t => h4 t)))
theorem MS_ext {A B : MS} (h1 : ∀ s j, gI A s j = gI B s j) (h2 : ∀ j, gL A j = gL B j) : A = B :=
  Prod.ext (funext fun s => funext fun j => h1 s j) (funext fun j => h2 j)
theorem put_eq {r : Rs} {M0 : MS} {Post : Rs → Sg → Prop} {A B : Sg} (h : Post r (put B M0)) (e : B = A) : Post r (put A M0) := e ▸ h
theorem wput_eq {M0 : MS} {W : Sg → Prop} {A B : Sg} (h : W (put B M0)) (e : B = A) : W (put A M0) := e ▸ h
theorem uI_self (M : MS) (s j : Nat) : uI M s j (gI M s j) = M := by
  refine MS_ext (fun a b => ?_) (fun b => rfl)
  rw [gI_uI]
  split
  · rename_i h; rw [h.1, h.2]
  · rfl
def Si (e : Nat) (M' : MS) (a : Sg) (r : Rs) (W : Sg → (Rs → Sg → Prop) → Prop) : Prop := ∃ a', Rel e a' M' ∧ ∀ M0 Post, Post r (put a' M0) → W (put a M0) Post
def mArr (M : MS) (j : Nat) : MS := if gI M 18 j = 0 ∧ ¬ gI M 255 0 < gI M 25 j ∧ ¬ gI M 11 (kd M j) < mInSt M (nI (kd M j)) (nB M) + gI M 16 j then uI (uI M 25 j (gI M 255 0)) 18 j 3 else M
def mLe (M : MS) (q : Nat) : MS := if gI M 46 q + 1 = 8 then uI (uI M 45 q (if gI M 45 q < 3 then gI M 45 q + 1 else gI M 45 q)) 46 q 0 else uI M 46 q (gI M 46 q + 1)
def ld (M : MS) (m : Nat) : Nat := (gI M 34 m).toNatClampNeg
def wk (M : MS) (m : Nat) : Nat := (gI M 36 m).toNatClampNeg
set_option maxHeartbeats 8000000 in
theorem rel_wkd {e : Nat} {a : Sg} {M : MS} (R : Rel e a M) (p s : Nat) (hp : p < nP M) (hs : s < 4) (w : Nat) (hw : w ≤ 7) (x : Int32) (hx : x = nI w ∨ gI M 45 (4 * p + s) = 3) : Rel e (wI a (tk 22 p) s x) (uI M 46 (4 * p + s) (nI w)) := by
  unfold Rel
  refine ⟨?_, ?_, ?_, ?_, ?_, ?_, ?_, ?_, ?_, ?_, ?_, ?_, ?_, ?_, ?_, ?_, ?_, ?_, ?_, ?_, ?_, ?_, ?_, ?_, ?_, ?_, ?_, ?_, ?_, ?_, ?_, ?_, ?_, ?_, ?_, ?_, ?_, ?_, ?_, ?_, ?_, ?_, ?_, ?_, ?_, ?_, ?_, ?_, ?_, ?_, ?_, ?_, ?_, ?_, ?_, ?_, ?_, ?_, ?_, ?_, ?_, ?_, ?_, ?_, ?_, ?_, ?_, ?_, ?_, ?_, ?_, ?_, ?_, ?_, ?_, ?_, ?_, ?_, ?_, ?_, ?_, ?_, ?_, ?_, ?_, ?_, ?_, ?_, ?_, ?_, ?_, ?_, ?_, ?_, ?_, ?_, ?_, ?_, ?_, ?_, ?_, ?_, ?_, ?_, ?_, ?_, ?_, ?_, ?_, ?_, ?_, ?_, ?_, ?_, ?_, ?_, ?_, ?_, ?_, ?_, ?_, ?_, ?_, ?_, ?_, ?_, ?_, ?_, ?_, ?_, ?_, ?_, ?_, ?_, ?_, ?_, ?_, ?_, ?_, ?_, ?_, ?_, ?_, ?_, ?_, ?_, ?_, ?_, ?_⟩
  · have h9 := r_shm R
    exact h9
  · have h9 := r_px0 R
    exact h9
  · have h9 := r_px1 R
    exact h9
  · have h9 := r_px2 R
    exact h9
  · have h9 := r_pf0 R
    exact h9
  · have h9 := r_pf1 R
    exact h9
  · have h9 := r_pf3 R
    exact h9
  · have h9 := r_ps0 R
    exact h9
  · have h9 := r_ps2 R
    exact h9
  · have h9 := r_ps4 R
    exact h9
  · have h9 := r_pk R
    exact h9
  · have h9 := r_pkl R
    exact h9
  · have h9 := r_pko R
    exact h9
  · have h9 := r_ghour R
    unfold Cghour
    simpa (disch := omega) only [sI_wI, gI_uI, tk_ne9, tk_inj, if_false, if_true, false_and, and_false, Nat.reduceEqDiff, reduceIte, reduceCtorEq, and_true, true_and] using h9
  · have h9 := r_gstand R
    unfold Cgstand
    simpa (disch := omega) only [sI_wI, gI_uI, tk_ne9, tk_inj, if_false, if_true, false_and, and_false, Nat.reduceEqDiff, reduceIte, reduceCtorEq, and_true, true_and] using h9
  · have h9 := r_gbought R
    unfold Cgbought
    simpa (disch := omega) only [sI_wI, gI_uI, tk_ne9, tk_inj, if_false, if_true, false_and, and_false, Nat.reduceEqDiff, reduceIte, reduceCtorEq, and_true, true_and] using h9
  · have h9 := r_gmach R
    unfold Cgmach
    simpa (disch := omega) only [sI_wI, gI_uI, tk_ne9, tk_inj, if_false, if_true, false_and, and_false, Nat.reduceEqDiff, reduceIte, reduceCtorEq, and_true, true_and] using h9
  · have h9 := r_gpers R
    unfold Cgpers
    simpa (disch := omega) only [sI_wI, gI_uI, tk_ne9, tk_inj, if_false, if_true, false_and, and_false, Nat.reduceEqDiff, reduceIte, reduceCtorEq, and_true, true_and] using h9
  · have h9 := r_gworked R
    unfold Cgworked
    simpa (disch := omega) only [sI_wI, gI_uI, tk_ne9, tk_inj, if_false, if_true, false_and, and_false, Nat.reduceEqDiff, reduceIte, reduceCtorEq, and_true, true_and] using h9
  · have h9 := r_grep R
    unfold Cgrep
    simpa (disch := omega) only [sI_wI, gI_uI, tk_ne9, tk_inj, if_false, if_true, false_and, and_false, Nat.reduceEqDiff, reduceIte, reduceCtorEq, and_true, true_and] using h9
  · have h9 := r_gbat R
    unfold Cgbat
    simpa (disch := omega) only [sI_wI, gI_uI, tk_ne9, tk_inj, if_false, if_true, false_and, and_false, Nat.reduceEqDiff, reduceIte, reduceCtorEq, and_true, true_and] using h9
  · have h9 := r_gord R
    unfold Cgord
    simpa (disch := omega) only [sI_wI, gI_uI, tk_ne9, tk_inj, if_false, if_true, false_and, and_false, Nat.reduceEqDiff, reduceIte, reduceCtorEq, and_true, true_and] using h9
  · have h9 := r_gq R
    unfold Cgq
    simpa (disch := omega) only [sI_wI, gI_uI, tk_ne9, tk_inj, if_false, if_true, false_and, and_false, Nat.reduceEqDiff, reduceIte, reduceCtorEq, and_true, true_and] using h9
  · have h9 := r_nB R
    unfold CnB
    simpa (disch := omega) only [gI_uI, nB_u, tk_ne9, tk_inj, if_false, if_true, false_and, and_false, Nat.reduceEqDiff, reduceIte, reduceCtorEq, and_true, true_and] using h9
  · have h9 := r_nBx R
    unfold CnBx
    simpa (disch := omega) only [nB_u, tk_ne9, tk_inj, if_false, if_true, false_and, and_false, Nat.reduceEqDiff, reduceIte, reduceCtorEq, and_true, true_and] using h9
  · have h9 := r_nM R
    unfold CnM
    simpa (disch := omega) only [gI_uI, nM_u, tk_ne9, tk_inj, if_false, if_true, false_and, and_false, Nat.reduceEqDiff, reduceIte, reduceCtorEq, and_true, true_and] using h9
  · have h9 := r_nMx R
    unfold CnMx
    simpa (disch := omega) only [nM_u, tk_ne9, tk_inj, if_false, if_true, false_and, and_false, Nat.reduceEqDiff, reduceIte, reduceCtorEq, and_true, true_and] using h9
  · have h9 := r_nP R
    unfold CnP
    simpa (disch := omega) only [gI_uI, nP_u, tk_ne9, tk_inj, if_false, if_true, false_and, and_false, Nat.reduceEqDiff, reduceIte, reduceCtorEq, and_true, true_and] using h9
  · have h9 := r_nPx R
    unfold CnPx
    simpa (disch := omega) only [nP_u, tk_ne9, tk_inj, if_false, if_true, false_and, and_false, Nat.reduceEqDiff, reduceIte, reduceCtorEq, and_true, true_and] using h9
  · have h9 := r_nO R
    unfold CnO
    simpa (disch := omega) only [gI_uI, nO_u, tk_ne9, tk_inj, if_false, if_true, false_and, and_false, Nat.reduceEqDiff, reduceIte, reduceCtorEq, and_true, true_and] using h9
  · have h9 := r_nOx R
    unfold CnOx
    simpa (disch := omega) only [nO_u, tk_ne9, tk_inj, if_false, if_true, false_and, and_false, Nat.reduceEqDiff, reduceIte, reduceCtorEq, and_true, true_and] using h9
  · have h9 := r_hr R
    unfold Chr
    simpa (disch := omega) only [gI_uI, hN_u, tk_ne9, tk_inj, if_false, if_true, false_and, and_false, Nat.reduceEqDiff, reduceIte, reduceCtorEq, and_true, true_and] using h9
  · have h9 := r_hrx R
    unfold Chrx
    simpa (disch := omega) only [hN_u, tk_ne9, tk_inj, if_false, if_true, false_and, and_false, Nat.reduceEqDiff, reduceIte, reduceCtorEq, and_true, true_and] using h9
  · have h9 := r_stb R
    unfold Cstb
    simpa (disch := omega) only [gI_uI, tk_ne9, tk_inj, if_false, if_true, false_and, and_false, Nat.reduceEqDiff, reduceIte, reduceCtorEq, and_true, true_and] using h9
  · have h9 := r_ex R
    exact h9
  · have h9 := r_k0 R
    unfold Ck0
    simpa (disch := omega) only [sI_wI, tk_ne9, tk_inj, if_false, if_true, false_and, and_false, Nat.reduceEqDiff, reduceIte, reduceCtorEq, and_true, true_and] using h9
  · have h9 := r_k1 R
    unfold Ck1
    simpa (disch := omega) only [sI_wI, gI_uI, tk_ne9, tk_inj, if_false, if_true, false_and, and_false, Nat.reduceEqDiff, reduceIte, reduceCtorEq, and_true, true_and] using h9
  · have h9 := r_k2 R
    unfold Ck2
    simpa (disch := omega) only [sI_wI, gI_uI, tk_ne9, tk_inj, if_false, if_true, false_and, and_false, Nat.reduceEqDiff, reduceIte, reduceCtorEq, and_true, true_and] using h9
  · have h9 := r_k3 R
    unfold Ck3
    simpa (disch := omega) only [sI_wI, gI_uI, tk_ne9, tk_inj, if_false, if_true, false_and, and_false, Nat.reduceEqDiff, reduceIte, reduceCtorEq, and_true, true_and] using h9
  · have h9 := r_k5 R
    unfold Ck5
    simpa (disch := omega) only [sI_wI, gI_uI, tk_ne9, tk_inj, if_false, if_true, false_and, and_false, Nat.reduceEqDiff, reduceIte, reduceCtorEq, and_true, true_and] using h9
  · have h9 := r_k7 R
    unfold Ck7
    simpa (disch := omega) only [sI_wI, gI_uI, tk_ne9, tk_inj, if_false, if_true, false_and, and_false, Nat.reduceEqDiff, reduceIte, reduceCtorEq, and_true, true_and] using h9
  · have h9 := r_k8 R
    unfold Ck8
    simpa (disch := omega) only [sI_wI, gI_uI, tk_ne9, tk_inj, if_false, if_true, false_and, and_false, Nat.reduceEqDiff, reduceIte, reduceCtorEq, and_true, true_and] using h9
  · have h9 := r_k9 R
    unfold Ck9
    simpa (disch := omega) only [sI_wI, gI_uI, tk_ne9, tk_inj, if_false, if_true, false_and, and_false, Nat.reduceEqDiff, reduceIte, reduceCtorEq, and_true, true_and] using h9
  · have h9 := r_k10 R
    unfold Ck10
    simpa (disch := omega) only [sI_wI, nB_u, mInSt_u, tk_ne9, tk_inj, if_false, if_true, false_and, and_false, Nat.reduceEqDiff, reduceIte, reduceCtorEq, and_true, true_and] using h9
  · have h9 := r_k11 R
    unfold Ck11
    simpa (disch := omega) only [sI_wI, nO_u, mProm_u, tk_ne9, tk_inj, if_false, if_true, false_and, and_false, Nat.reduceEqDiff, reduceIte, reduceCtorEq, and_true, true_and] using h9
  · have h9 := r_k12 R
    unfold Ck12
    simpa (disch := omega) only [sI_wI, tk_ne9, tk_inj, if_false, if_true, false_and, and_false, Nat.reduceEqDiff, reduceIte, reduceCtorEq, and_true, true_and] using h9
  · have h9 := r_ksa R
    unfold Cksa
    simpa (disch := omega) only [gI_uI, tk_ne9, tk_inj, if_false, if_true, false_and, and_false, Nat.reduceEqDiff, reduceIte, reduceCtorEq, and_true, true_and] using h9
  · have h9 := r_ksb R
    unfold Cksb
    simpa (disch := omega) only [gI_uI, nOp_u, tk_ne9, tk_inj, if_false, if_true, false_and, and_false, Nat.reduceEqDiff, reduceIte, reduceCtorEq, and_true, true_and] using h9
  · have h9 := r_ksc R
    unfold Cksc
    simpa (disch := omega) only [gI_uI, nLn_u, nOp_u, tk_ne9, tk_inj, if_false, if_true, false_and, and_false, Nat.reduceEqDiff, reduceIte, reduceCtorEq, and_true, true_and] using h9
  · have h9 := r_kw R
    unfold Ckw
    simpa (disch := omega) only [gI_uI, tk_ne9, tk_inj, if_false, if_true, false_and, and_false, Nat.reduceEqDiff, reduceIte, reduceCtorEq, and_true, true_and] using h9
  · have h9 := r_kl R
    unfold Ckl
    simpa (disch := omega) only [gI_uI, nLn_u, tk_ne9, tk_inj, if_false, if_true, false_and, and_false, Nat.reduceEqDiff, reduceIte, reduceCtorEq, and_true, true_and] using h9
  · have h9 := r_ko R
    unfold Cko
    simpa (disch := omega) only [gI_uI, nOp_u, tk_ne9, tk_inj, if_false, if_true, false_and, and_false, Nat.reduceEqDiff, reduceIte, reduceCtorEq, and_true, true_and] using h9
  · have h9 := r_kp R
    unfold Ckp
    simpa (disch := omega) only [gI_uI, tk_ne9, tk_inj, if_false, if_true, false_and, and_false, Nat.reduceEqDiff, reduceIte, reduceCtorEq, and_true, true_and] using h9
  · have h9 := r_l0 R
    unfold Cl0
    simpa (disch := omega) only [sP_wI, nLn_u, tk_ne9, tk_inj, if_false, if_true, false_and, and_false, Nat.reduceEqDiff, reduceIte, reduceCtorEq, and_true, true_and] using h9
  · have h9 := r_l1 R
    unfold Cl1
    simpa (disch := omega) only [sP_wI, nLn_u, lnP_u, tk_ne9, tk_inj, if_false, if_true, false_and, and_false, Nat.reduceEqDiff, reduceIte, reduceCtorEq, and_true, true_and] using h9
  · have h9 := r_l2 R
    unfold Cl2
    simpa (disch := omega) only [sI_wI, gI_uI, nLn_u, tk_ne9, tk_inj, if_false, if_true, false_and, and_false, Nat.reduceEqDiff, reduceIte, reduceCtorEq, and_true, true_and] using h9
  · have h9 := r_l3 R
    unfold Cl3
    simpa (disch := omega) only [sP_wI, gI_uI, nLn_u, tk_ne9, tk_inj, if_false, if_true, false_and, and_false, Nat.reduceEqDiff, reduceIte, reduceCtorEq, and_true, true_and] using h9
  · have h9 := r_lm R
    unfold Clm
    simpa (disch := omega) only [gI_uI, nLn_u, lnP_u, tk_ne9, tk_inj, if_false, if_true, false_and, and_false, Nat.reduceEqDiff, reduceIte, reduceCtorEq, and_true, true_and] using h9
  · have h9 := r_o0 R
    unfold Co0
    simpa (disch := omega) only [sP_wI, nOp_u, tk_ne9, tk_inj, if_false, if_true, false_and, and_false, Nat.reduceEqDiff, reduceIte, reduceCtorEq, and_true, true_and] using h9
  · have h9 := r_o1 R
    unfold Co1
    simpa (disch := omega) only [sI_wI, gI_uI, nOp_u, tk_ne9, tk_inj, if_false, if_true, false_and, and_false, Nat.reduceEqDiff, reduceIte, reduceCtorEq, and_true, true_and] using h9
  · have h9 := r_o2 R
    unfold Co2
    simpa (disch := omega) only [sI_wI, gI_uI, nOp_u, tk_ne9, tk_inj, if_false, if_true, false_and, and_false, Nat.reduceEqDiff, reduceIte, reduceCtorEq, and_true, true_and] using h9
  · have h9 := r_o3 R
    unfold Co3
    simpa (disch := omega) only [sI_wI, gI_uI, nOp_u, tk_ne9, tk_inj, if_false, if_true, false_and, and_false, Nat.reduceEqDiff, reduceIte, reduceCtorEq, and_true, true_and] using h9
  · have h9 := r_om R
    unfold Com
    simpa (disch := omega) only [gI_uI, nOp_u, tk_ne9, tk_inj, if_false, if_true, false_and, and_false, Nat.reduceEqDiff, reduceIte, reduceCtorEq, and_true, true_and] using h9
  · have h9 := r_b0 R
    unfold Cb0
    simpa (disch := omega) only [sP_wI, nB_u, tk_ne9, tk_inj, if_false, if_true, false_and, and_false, Nat.reduceEqDiff, reduceIte, reduceCtorEq, and_true, true_and] using h9
  · have h9 := r_bn R
    unfold Cbn
    simpa (disch := omega) only [sI_wI, nB_u, tk_ne9, tk_inj, if_false, if_true, false_and, and_false, Nat.reduceEqDiff, reduceIte, reduceCtorEq, and_true, true_and] using h9
  · have h9 := r_bk R
    unfold Cbk
    simpa (disch := omega) only [sP_wI, nB_u, kd_u, tk_ne9, tk_inj, if_false, if_true, false_and, and_false, Nat.reduceEqDiff, reduceIte, reduceCtorEq, and_true, true_and] using h9
  · have h9 := r_b2 R
    unfold Cb2
    simpa (disch := omega) only [sI_wI, gI_uI, nB_u, tk_ne9, tk_inj, if_false, if_true, false_and, and_false, Nat.reduceEqDiff, reduceIte, reduceCtorEq, and_true, true_and] using h9
  · have h9 := r_b3 R
    unfold Cb3
    simpa (disch := omega) only [sI_wI, gI_uI, nB_u, tk_ne9, tk_inj, if_false, if_true, false_and, and_false, Nat.reduceEqDiff, reduceIte, reduceCtorEq, and_true, true_and] using h9
  · have h9 := r_b4 R
    unfold Cb4
    simpa (disch := omega) only [sI_wI, gI_uI, nB_u, tk_ne9, tk_inj, if_false, if_true, false_and, and_false, Nat.reduceEqDiff, reduceIte, reduceCtorEq, and_true, true_and] using h9
  · have h9 := r_b5 R
    unfold Cb5
    simpa (disch := omega) only [sI_wI, gI_uI, nB_u, tk_ne9, tk_inj, if_false, if_true, false_and, and_false, Nat.reduceEqDiff, reduceIte, reduceCtorEq, and_true, true_and] using h9
  · have h9 := r_b6 R
    unfold Cb6
    simpa (disch := omega) only [sI_wI, gI_uI, nB_u, tk_ne9, tk_inj, if_false, if_true, false_and, and_false, Nat.reduceEqDiff, reduceIte, reduceCtorEq, and_true, true_and] using h9
  · have h9 := r_b7 R
    unfold Cb7
    simpa (disch := omega) only [sI_wI, gI_uI, nB_u, tk_ne9, tk_inj, if_false, if_true, false_and, and_false, Nat.reduceEqDiff, reduceIte, reduceCtorEq, and_true, true_and] using h9
  · have h9 := r_b8 R
    unfold Cb8
    simpa (disch := omega) only [sI_wI, gI_uI, nB_u, tk_ne9, tk_inj, if_false, if_true, false_and, and_false, Nat.reduceEqDiff, reduceIte, reduceCtorEq, and_true, true_and] using h9
  · have h9 := r_b9 R
    unfold Cb9
    simpa (disch := omega) only [sI_wI, gI_uI, nB_u, tk_ne9, tk_inj, if_false, if_true, false_and, and_false, Nat.reduceEqDiff, reduceIte, reduceCtorEq, and_true, true_and] using h9
  · have h9 := r_b10 R
    unfold Cb10
    simpa (disch := omega) only [sI_wI, gI_uI, nB_u, tk_ne9, tk_inj, if_false, if_true, false_and, and_false, Nat.reduceEqDiff, reduceIte, reduceCtorEq, and_true, true_and] using h9
  · have h9 := r_b11 R
    unfold Cb11
    simpa (disch := omega) only [sL_wI, gL_uI, nB_u, tk_ne9, tk_inj, if_false, if_true, false_and, and_false, Nat.reduceEqDiff, reduceIte, reduceCtorEq, and_true, true_and] using h9
  · have h9 := r_bK R
    unfold CbK
    simpa (disch := omega) only [gI_uI, nB_u, kd_u, tk_ne9, tk_inj, if_false, if_true, false_and, and_false, Nat.reduceEqDiff, reduceIte, reduceCtorEq, and_true, true_and] using h9
  · have h9 := r_bP R
    unfold CbP
    simpa (disch := omega) only [gI_uI, nB_u, pc_u, tk_ne9, tk_inj, if_false, if_true, false_and, and_false, Nat.reduceEqDiff, reduceIte, reduceCtorEq, and_true, true_and] using h9
  · have h9 := r_bO R
    unfold CbO
    simpa (disch := omega) only [gI_uI, nB_u, op_u, tk_ne9, tk_inj, if_false, if_true, false_and, and_false, Nat.reduceEqDiff, reduceIte, reduceCtorEq, and_true, true_and] using h9
  · have h9 := r_bW R
    unfold CbW
    simpa (disch := omega) only [gI_uI, nB_u, nOp_u, kd_u, op_u, tk_ne9, tk_inj, if_false, if_true, false_and, and_false, Nat.reduceEqDiff, reduceIte, reduceCtorEq, and_true, true_and] using h9
  · have h9 := r_bZ R
    unfold CbZ
    simpa (disch := omega) only [gI_uI, nB_u, pc_u, tk_ne9, tk_inj, if_false, if_true, false_and, and_false, Nat.reduceEqDiff, reduceIte, reduceCtorEq, and_true, true_and] using h9
  · have h9 := r_bF R
    unfold CbF
    simpa (disch := omega) only [gI_uI, nB_u, tk_ne9, tk_inj, if_false, if_true, false_and, and_false, Nat.reduceEqDiff, reduceIte, reduceCtorEq, and_true, true_and] using h9
  · have h9 := r_bS R
    unfold CbS
    simpa (disch := omega) only [gI_uI, nB_u, tk_ne9, tk_inj, if_false, if_true, false_and, and_false, Nat.reduceEqDiff, reduceIte, reduceCtorEq, and_true, true_and] using h9
  · have h9 := r_bC R
    unfold CbC
    simpa (disch := omega) only [gI_uI, nB_u, tk_ne9, tk_inj, if_false, if_true, false_and, and_false, Nat.reduceEqDiff, reduceIte, reduceCtorEq, and_true, true_and] using h9
  · have h9 := r_bT R
    unfold CbT
    simpa (disch := omega) only [gI_uI, nB_u, tk_ne9, tk_inj, if_false, if_true, false_and, and_false, Nat.reduceEqDiff, reduceIte, reduceCtorEq, and_true, true_and] using h9
  · have h9 := r_bU R
    unfold CbU
    simpa (disch := omega) only [gI_uI, nB_u, kd_u, tk_ne9, tk_inj, if_false, if_true, false_and, and_false, Nat.reduceEqDiff, reduceIte, reduceCtorEq, and_true, true_and] using h9
  · have h9 := r_bq R
    unfold Cbq
    simpa (disch := omega) only [nB_u, totp_u, tk_ne9, tk_inj, if_false, if_true, false_and, and_false, Nat.reduceEqDiff, reduceIte, reduceCtorEq, and_true, true_and] using h9
  · have h9 := r_ps R
    unfold Cps
    simpa (disch := omega) only [nB_u, nO_u, nInSt_u, nProm_u, tk_ne9, tk_inj, if_false, if_true, false_and, and_false, Nat.reduceEqDiff, reduceIte, reduceCtorEq, and_true, true_and] using h9
  · have h9 := r_bp R
    unfold Cbp
    simpa (disch := omega) only [gL_uI, nB_u, tk_ne9, tk_inj, if_false, if_true, false_and, and_false, Nat.reduceEqDiff, reduceIte, reduceCtorEq, and_true, true_and] using h9
  · have h9 := r_bc R
    unfold Cbc
    simpa (disch := omega) only [nB_u, hN_u, tot_u, tk_ne9, tk_inj, if_false, if_true, false_and, and_false, Nat.reduceEqDiff, reduceIte, reduceCtorEq, and_true, true_and] using h9
  · have h9 := r_fB R
    unfold CfB
    simpa (disch := omega) only [sX_wI, nB_u, tk_ne9, tk_inj, if_false, if_true, false_and, and_false, Nat.reduceEqDiff, reduceIte, reduceCtorEq, and_true, true_and] using h9
  · have h9 := r_fL R
    unfold CfL
    simpa (disch := omega) only [sX_wI, nLn_u, tk_ne9, tk_inj, if_false, if_true, false_and, and_false, Nat.reduceEqDiff, reduceIte, reduceCtorEq, and_true, true_and] using h9
  · have h9 := r_fO R
    unfold CfO
    simpa (disch := omega) only [sX_wI, nOp_u, tk_ne9, tk_inj, if_false, if_true, false_and, and_false, Nat.reduceEqDiff, reduceIte, reduceCtorEq, and_true, true_and] using h9
  · have h9 := r_fM R
    unfold CfM
    simpa (disch := omega) only [sX_wI, nM_u, tk_ne9, tk_inj, if_false, if_true, false_and, and_false, Nat.reduceEqDiff, reduceIte, reduceCtorEq, and_true, true_and] using h9
  · have h9 := r_fP R
    unfold CfP
    simpa (disch := omega) only [sX_wI, nP_u, tk_ne9, tk_inj, if_false, if_true, false_and, and_false, Nat.reduceEqDiff, reduceIte, reduceCtorEq, and_true, true_and] using h9
  · have h9 := r_fR R
    unfold CfR
    simpa (disch := omega) only [sX_wI, nO_u, tk_ne9, tk_inj, if_false, if_true, false_and, and_false, Nat.reduceEqDiff, reduceIte, reduceCtorEq, and_true, true_and] using h9
  · have h9 := r_fG R
    exact h9
  · have h9 := r_m0 R
    unfold Cm0
    simpa (disch := omega) only [sP_wI, nM_u, tk_ne9, tk_inj, if_false, if_true, false_and, and_false, Nat.reduceEqDiff, reduceIte, reduceCtorEq, and_true, true_and] using h9
  · have h9 := r_mn R
    unfold Cmn
    simpa (disch := omega) only [sI_wI, nM_u, tk_ne9, tk_inj, if_false, if_true, false_and, and_false, Nat.reduceEqDiff, reduceIte, reduceCtorEq, and_true, true_and] using h9
  · have h9 := r_m1 R
    unfold Cm1
    simpa (disch := omega) only [sI_wI, gI_uI, nM_u, tk_ne9, tk_inj, if_false, if_true, false_and, and_false, Nat.reduceEqDiff, reduceIte, reduceCtorEq, and_true, true_and] using h9
  · have h9 := r_m2 R
    unfold Cm2
    simpa (disch := omega) only [sI_wI, gI_uI, nM_u, tk_ne9, tk_inj, if_false, if_true, false_and, and_false, Nat.reduceEqDiff, reduceIte, reduceCtorEq, and_true, true_and] using h9
  · have h9 := r_m3 R
    unfold Cm3
    simpa (disch := omega) only [sI_wI, gI_uI, nM_u, tk_ne9, tk_inj, if_false, if_true, false_and, and_false, Nat.reduceEqDiff, reduceIte, reduceCtorEq, and_true, true_and] using h9
  · have h9 := r_m4 R
    unfold Cm4
    simpa (disch := omega) only [sI_wI, gI_uI, nM_u, tk_ne9, tk_inj, if_false, if_true, false_and, and_false, Nat.reduceEqDiff, reduceIte, reduceCtorEq, and_true, true_and] using h9
  · have h9 := r_m5 R
    unfold Cm5
    simpa (disch := omega) only [sI_wI, gI_uI, nM_u, tk_ne9, tk_inj, if_false, if_true, false_and, and_false, Nat.reduceEqDiff, reduceIte, reduceCtorEq, and_true, true_and] using h9
  · have h9 := r_m9 R
    unfold Cm9
    simpa (disch := omega) only [sI_wI, gI_uI, nM_u, tk_ne9, tk_inj, if_false, if_true, false_and, and_false, Nat.reduceEqDiff, reduceIte, reduceCtorEq, and_true, true_and] using h9
  · have h9 := r_m11 R
    unfold Cm11
    simpa (disch := omega) only [sI_wI, gI_uI, nM_u, tk_ne9, tk_inj, if_false, if_true, false_and, and_false, Nat.reduceEqDiff, reduceIte, reduceCtorEq, and_true, true_and] using h9
  · have h9 := r_m13 R
    unfold Cm13
    simpa (disch := omega) only [sI_wI, gI_uI, nM_u, tk_ne9, tk_inj, if_false, if_true, false_and, and_false, Nat.reduceEqDiff, reduceIte, reduceCtorEq, and_true, true_and] using h9
  · have h9 := r_m14 R
    unfold Cm14
    simpa (disch := omega) only [sI_wI, gI_uI, nM_u, tk_ne9, tk_inj, if_false, if_true, false_and, and_false, Nat.reduceEqDiff, reduceIte, reduceCtorEq, and_true, true_and] using h9
  · have h9 := r_m6 R
    unfold Cm6
    simpa (disch := omega) only [sP_wI, gI_uI, nM_u, tk_ne9, tk_inj, if_false, if_true, false_and, and_false, Nat.reduceEqDiff, reduceIte, reduceCtorEq, and_true, true_and] using h9
  · have h9 := r_m7 R
    unfold Cm7
    simpa (disch := omega) only [sP_wI, gI_uI, nM_u, tk_ne9, tk_inj, if_false, if_true, false_and, and_false, Nat.reduceEqDiff, reduceIte, reduceCtorEq, and_true, true_and] using h9
  · have h9 := r_m8 R
    unfold Cm8
    simpa (disch := omega) only [sP_wI, gI_uI, nM_u, tk_ne9, tk_inj, if_false, if_true, false_and, and_false, Nat.reduceEqDiff, reduceIte, reduceCtorEq, and_true, true_and] using h9
  · have h9 := r_m12 R
    unfold Cm12
    simpa (disch := omega) only [sP_wI, gI_uI, nM_u, tk_ne9, tk_inj, if_false, if_true, false_and, and_false, Nat.reduceEqDiff, reduceIte, reduceCtorEq, and_true, true_and] using h9
  · have h9 := r_m10 R
    unfold Cm10
    simpa (disch := omega) only [sI_wI, gI_uI, nB_u, nM_u, tk_ne9, tk_inj, if_false, if_true, false_and, and_false, Nat.reduceEqDiff, reduceIte, reduceCtorEq, and_true, true_and] using h9
  · have h9 := r_mma R
    unfold Cmma
    simpa (disch := omega) only [gI_uI, nM_u, tk_ne9, tk_inj, if_false, if_true, false_and, and_false, Nat.reduceEqDiff, reduceIte, reduceCtorEq, and_true, true_and] using h9
  · have h9 := r_mmb R
    unfold Cmmb
    simpa (disch := omega) only [gI_uI, nB_u, nM_u, nP_u, tk_ne9, tk_inj, if_false, if_true, false_and, and_false, Nat.reduceEqDiff, reduceIte, reduceCtorEq, and_true, true_and] using h9
  · have h9 := r_mmc R
    unfold Cmmc
    simpa (disch := omega) only [gI_uI, nM_u, tk_ne9, tk_inj, if_false, if_true, false_and, and_false, Nat.reduceEqDiff, reduceIte, reduceCtorEq, and_true, true_and] using h9
  · have h9 := r_mr29 R
    unfold Cmr29
    simpa (disch := omega) only [gI_uI, nM_u, tk_ne9, tk_inj, if_false, if_true, false_and, and_false, Nat.reduceEqDiff, reduceIte, reduceCtorEq, and_true, true_and] using h9
  · have h9 := r_mr30 R
    unfold Cmr30
    simpa (disch := omega) only [gI_uI, nM_u, tk_ne9, tk_inj, if_false, if_true, false_and, and_false, Nat.reduceEqDiff, reduceIte, reduceCtorEq, and_true, true_and] using h9
  · have h9 := r_mr31 R
    unfold Cmr31
    simpa (disch := omega) only [gI_uI, nM_u, tk_ne9, tk_inj, if_false, if_true, false_and, and_false, Nat.reduceEqDiff, reduceIte, reduceCtorEq, and_true, true_and] using h9
  · have h9 := r_mr32 R
    unfold Cmr32
    simpa (disch := omega) only [gI_uI, nM_u, tk_ne9, tk_inj, if_false, if_true, false_and, and_false, Nat.reduceEqDiff, reduceIte, reduceCtorEq, and_true, true_and] using h9
  · have h9 := r_mr35 R
    unfold Cmr35
    simpa (disch := omega) only [gI_uI, nM_u, tk_ne9, tk_inj, if_false, if_true, false_and, and_false, Nat.reduceEqDiff, reduceIte, reduceCtorEq, and_true, true_and] using h9
  · have h9 := r_mr39 R
    unfold Cmr39
    simpa (disch := omega) only [gI_uI, nM_u, tk_ne9, tk_inj, if_false, if_true, false_and, and_false, Nat.reduceEqDiff, reduceIte, reduceCtorEq, and_true, true_and] using h9
  · have h9 := r_mr40 R
    unfold Cmr40
    simpa (disch := omega) only [gI_uI, nM_u, tk_ne9, tk_inj, if_false, if_true, false_and, and_false, Nat.reduceEqDiff, reduceIte, reduceCtorEq, and_true, true_and] using h9
  · have h9 := r_md R
    unfold Cmd
    simpa (disch := omega) only [gI_uI, nM_u, tk_ne9, tk_inj, if_false, if_true, false_and, and_false, Nat.reduceEqDiff, reduceIte, reduceCtorEq, and_true, true_and] using h9
  · have h9 := r_mw R
    unfold Cmw
    simpa (disch := omega) only [gI_uI, nM_u, tk_ne9, tk_inj, if_false, if_true, false_and, and_false, Nat.reduceEqDiff, reduceIte, reduceCtorEq, and_true, true_and] using h9
  · have h9 := r_q0 R
    unfold Cq0
    simpa (disch := omega) only [sP_wI, nP_u, tk_ne9, tk_inj, if_false, if_true, false_and, and_false, Nat.reduceEqDiff, reduceIte, reduceCtorEq, and_true, true_and] using h9
  · have h9 := r_qn R
    unfold Cqn
    simpa (disch := omega) only [sI_wI, nP_u, tk_ne9, tk_inj, if_false, if_true, false_and, and_false, Nat.reduceEqDiff, reduceIte, reduceCtorEq, and_true, true_and] using h9
  · have h9 := r_q1 R
    unfold Cq1
    simpa (disch := omega) only [sI_wI, gI_uI, nP_u, tk_ne9, tk_inj, if_false, if_true, false_and, and_false, Nat.reduceEqDiff, reduceIte, reduceCtorEq, and_true, true_and] using h9
  · have h9 := r_q2 R
    unfold Cq2
    simpa (disch := omega) only [sI_wI, gI_uI, nP_u, tk_ne9, tk_inj, if_false, if_true, false_and, and_false, Nat.reduceEqDiff, reduceIte, reduceCtorEq, and_true, true_and] using h9
  · have h9 := r_q3 R
    unfold Cq3
    simpa (disch := omega) only [sI_wI, gI_uI, nP_u, tk_ne9, tk_inj, if_false, if_true, false_and, and_false, Nat.reduceEqDiff, reduceIte, reduceCtorEq, and_true, true_and] using h9
  · have h9 := r_q4 R
    unfold Cq4
    simpa (disch := omega) only [sP_wI, nP_u, tk_ne9, tk_inj, if_false, if_true, false_and, and_false, Nat.reduceEqDiff, reduceIte, reduceCtorEq, and_true, true_and] using h9
  · have h9 := r_q5 R
    unfold Cq5
    simpa (disch := omega) only [sP_wI, nP_u, tk_ne9, tk_inj, if_false, if_true, false_and, and_false, Nat.reduceEqDiff, reduceIte, reduceCtorEq, and_true, true_and] using h9
  · have h9 := r_q6 R
    unfold Cq6
    simpa (disch := omega) only [sI_wI, gI_uI, nM_u, nP_u, tk_ne9, tk_inj, if_false, if_true, false_and, and_false, Nat.reduceEqDiff, reduceIte, reduceCtorEq, and_true, true_and] using h9
  · have h9 := r_ql R
    unfold Cql
    simpa (disch := omega) only [sI_wI, gI_uI, nP_u, tk_ne9, tk_inj, if_false, if_true, false_and, and_false, Nat.reduceEqDiff, reduceIte, reduceCtorEq, and_true, true_and] using h9
  · unfold Cqw
    intro p1 s1 h1 h2 h3
    have h8 : gI M 45 (4 * p1 + s1) < 3 := by simpa [gI_uI] using h3
    have h9 := r_qw R p1 s1 h1 h2 h8
    by_cases e1 : p1 = p ∧ s1 = s
    · obtain ⟨rfl, rfl⟩ := e1
      rcases hx with hx | hx
      · simp [sI_wI, gI_uI, hx]
      · rw [hx] at h8; exact absurd h8 (by decide)
    · have e2 : ¬ (4 * p1 + s1 = 4 * p + s) := by omega
      simp [sI_wI, gI_uI, tk_inj, e1, e2]
      exact h9
  · have h9 := r_qm R
    unfold Cqm
    simpa (disch := omega) only [gI_uI, nP_u, tk_ne9, tk_inj, if_false, if_true, false_and, and_false, Nat.reduceEqDiff, reduceIte, reduceCtorEq, and_true, true_and] using h9
  · unfold Cqr
    intro p1 s1 h1 h2
    obtain ⟨l, w1, f1, f2, f3, f4⟩ := r_qr R p1 s1 h1 h2
    by_cases e2 : 4 * p1 + s1 = 4 * p + s
    · exact ⟨l, w, by simpa [gI_uI] using f1, f2, by simp [gI_uI, e2], hw⟩
    · exact ⟨l, w1, by simpa [gI_uI] using f1, f2, by simpa [gI_uI, e2] using f3, f4⟩
  · have h9 := r_r0 R
    unfold Cr0
    simpa (disch := omega) only [sP_wI, nO_u, tk_ne9, tk_inj, if_false, if_true, false_and, and_false, Nat.reduceEqDiff, reduceIte, reduceCtorEq, and_true, true_and] using h9
  · have h9 := r_r1 R
    unfold Cr1
    simpa (disch := omega) only [sP_wI, gI_uI, nO_u, tk_ne9, tk_inj, if_false, if_true, false_and, and_false, Nat.reduceEqDiff, reduceIte, reduceCtorEq, and_true, true_and] using h9
  · have h9 := r_r2 R
    unfold Cr2
    simpa (disch := omega) only [sI_wI, gI_uI, nO_u, tk_ne9, tk_inj, if_false, if_true, false_and, and_false, Nat.reduceEqDiff, reduceIte, reduceCtorEq, and_true, true_and] using h9
  · have h9 := r_r3 R
    unfold Cr3
    simpa (disch := omega) only [sI_wI, gI_uI, nO_u, tk_ne9, tk_inj, if_false, if_true, false_and, and_false, Nat.reduceEqDiff, reduceIte, reduceCtorEq, and_true, true_and] using h9
  · have h9 := r_r4 R
    unfold Cr4
    simpa (disch := omega) only [sI_wI, gI_uI, nO_u, tk_ne9, tk_inj, if_false, if_true, false_and, and_false, Nat.reduceEqDiff, reduceIte, reduceCtorEq, and_true, true_and] using h9
  · have h9 := r_r5 R
    unfold Cr5
    simpa (disch := omega) only [sP_wI, gI_uI, nO_u, tk_ne9, tk_inj, if_false, if_true, false_and, and_false, Nat.reduceEqDiff, reduceIte, reduceCtorEq, and_true, true_and] using h9
  · have h9 := r_r6 R
    unfold Cr6
    simpa (disch := omega) only [sI_wI, gI_uI, nO_u, tk_ne9, tk_inj, if_false, if_true, false_and, and_false, Nat.reduceEqDiff, reduceIte, reduceCtorEq, and_true, true_and] using h9
  · have h9 := r_rk R
    unfold Crk
    simpa (disch := omega) only [gI_uI, nO_u, tk_ne9, tk_inj, if_false, if_true, false_and, and_false, Nat.reduceEqDiff, reduceIte, reduceCtorEq, and_true, true_and] using h9
  · have h9 := r_rp R
    unfold Crp
    simpa (disch := omega) only [gI_uI, nO_u, tk_ne9, tk_inj, if_false, if_true, false_and, and_false, Nat.reduceEqDiff, reduceIte, reduceCtorEq, and_true, true_and] using h9
  · have h9 := r_rq R
    unfold Crq
    simpa (disch := omega) only [gI_uI, nO_u, pr_u, tk_ne9, tk_inj, if_false, if_true, false_and, and_false, Nat.reduceEqDiff, reduceIte, reduceCtorEq, and_true, true_and] using h9
  · have h9 := r_rr R
    unfold Crr
    simpa (disch := omega) only [gI_uI, nO_u, pr_u, tk_ne9, tk_inj, if_false, if_true, false_and, and_false, Nat.reduceEqDiff, reduceIte, reduceCtorEq, and_true, true_and] using h9
  · have h9 := r_rs R
    unfold Crs
    simpa (disch := omega) only [gI_uI, nB_u, nO_u, tk_ne9, tk_inj, if_false, if_true, false_and, and_false, Nat.reduceEqDiff, reduceIte, reduceCtorEq, and_true, true_and] using h9
theorem wI_abs (a : Sg) (t k t2 k2 : Nat) (x y z : Int32) : wI (wI (wI a t k x) t2 k2 y) t k z = wI (wI a t2 k2 y) t k z := by
  refine Sg_ext (fun t9 k9 => ?_) (fun _ _ => rfl) (fun _ _ => rfl) (fun _ => rfl)
  simp only [sI_wI]
  (repeat' split) <;> first | rfl | grind
theorem i8 {w : Nat} (hw : w ≤ 7) : (nI w + 1 = 8) ↔ w = 7 := by
  rw [nI_1, show (8 : Int32) = nI 8 from rfl, nI_eq (by omega) (by omega)]
  omega
theorem i3l {l : Nat} (hl : l ≤ 3) : (nI l < 3) ↔ l < 3 := by
  rw [show (3 : Int32) = nI 3 from rfl, nI_ltI (by omega) (by omega)]
theorem i3g {l : Nat} (hl : l ≤ 3) : (3 ≤ nI l) ↔ l = 3 := by
  rw [show (3 : Int32) = nI 3 from rfl, nI_leI (by omega) (by omega)]
  omega
theorem i8l {w : Nat} (hw : w ≤ 7) : (nI w + 1 < 8) ↔ w < 7 := by
  rw [nI_1, show (8 : Int32) = nI 8 from rfl, nI_ltI (by omega) (by omega)]
  omega
section RR
variable {e : Nat} {a : Sg} {M : MS}
set_option maxHeartbeats 8000000 in
theorem si_learn (R : Rel e a M) {p s : Nat} (hp : p < nP M) (hs : s < 4) : Si e (mLe M (4 * p + s)) a (.inl none) (wp_X7_learnHour (tk 7 p) (nI s)) := by
  obtain ⟨l, w, f1, f2, f3, f4⟩ := r_qr R p s hp hs
  have g1 := r_ql R p s hp hs
  rw [f1] at g1
  unfold mLe
  rw [f1, f3]
  by_cases cl : l < 3
  · have g2 := r_qw R p s hp hs (by rw [f1]; exact (i3l f2).mpr cl)
    rw [f3] at g2
    have c1 : nI l < 3 := (i3l f2).mpr cl
    have c2 : ¬ 3 ≤ nI l := fun z => by have := (i3g f2).mp z; omega
    by_cases cw : w = 7
    · subst cw
      have R1 := rel_setLevel R p s hp hs (l + 1) (by omega)
      rw [if_pos ((i8 f4).mpr rfl), if_pos c1, nI_1]
      have c3 : ¬ nI 8 < 8 := by decide
      refine ⟨_, R1, fun M0 Post hp9 => ?_⟩
      unfold wp_X7_learnHour wp_X7_reach
      simp (disch := first | (with_reducible exact rfl) | assumption | omega | decide | (simp only [al_14, al_15, al_16, al_17, al_18, al_19, al_20, al_21, al_22, al_23, al_24, al_m0, al_m1, al_m2, al_m3, al_m4, al_m5, al_m6, al_m7, al_m8, al_m9, al_m10, al_m11, al_m12, al_m13, al_m15, al_m16, al_m17, al_m18, al_m19, al_m20, al_m21, al_m22, al_m23, al_m24, al_m25, al_m26, al_m28, al_m29, al_m30, al_m31, al_m32, al_m33, al_m34, al_m35, al_m36, al_m37, al_m38, al_m39, al_m40, al_m42, al_m43, al_m44, al_m45, al_m46, al_m48, al_m49, al_m50, al_m51, al_m52, al_m53, al_m60, al_m61]; omega) | (simp (disch := omega) only [r_q4 R, r_q5 R, g1, g2, hs, c1, c2, c3, sP_put, mp_0, mp_1, mp_2, mp_3, mp_4, mp_5, mp_6, mp_7, mp_8, mp_9, mp_10, mp_11, mp_12, mp_13, mp_15, mp_16, mp_17, mp_18, mp_19, mp_20, mp_21, mp_22, mp_23, mp_24, mp_25, mp_26, mp_28, mp_29, mp_30, mp_31, mp_32, mp_33, mp_34, mp_35, mp_36, mp_37, mp_38, mp_39, mp_40, mp_42, mp_43, mp_44, mp_45, mp_46, mp_48, mp_49, mp_50, mp_51, mp_52, mp_53, mp_60, mp_61, sP_wI, sP_wP, sP_wL, true_and, and_true, tk_inj, false_and, and_false, if_true, if_false, tk_ne9]; rfl) | (simp (disch := omega) only [r_q4 R, r_q5 R, g1, g2, hs, c1, c2, c3, sI_putc, wI_putc, sI_put11, sI_put13, sI_putm, sL_put12, wI_put11, wI_put13, wI_putm, wL_put12, sP_put, sX_put, wP_put, sI_put_0, sI_put_1, sI_put_2, sI_put_3, sI_put_4, sI_put_5, sI_put_6, sI_put_7, sI_put_8, sI_put_9, sI_put_14, sI_put_15, sI_put_16, sI_put_17, sI_put_18, sI_put_19, sI_put_20, sI_put_21, sI_put_22, sI_put_23, sI_put_24, wI_put_0, wI_put_1, wI_put_2, wI_put_3, wI_put_4, wI_put_5, wI_put_6, wI_put_7, wI_put_8, wI_put_9, wI_put_14, wI_put_15, wI_put_16, wI_put_17, wI_put_18, wI_put_19, wI_put_20, wI_put_21, wI_put_22, wI_put_23, wI_put_24, wN_put_0, wN_put_1, wN_put_2, wN_put_3, wN_put_4, wN_put_5, wN_put_6, wN_put_7, wN_put_8, wN_put_9, wN_put_14, wN_put_15, wN_put_16, wN_put_17, wN_put_18, wN_put_19, wN_put_20, wN_put_21, wN_put_22, wN_put_23, wN_put_24, sL_put_0, sL_put_24, wL_put_0, wL_put_24, tm_0, tm_1, tm_2, tm_3, tm_4, tm_5, tm_6, tm_7, tm_8, tm_9, tm_10, tm_11, tm_12, tm_13, tm_14, tm_15, tm_16, tm_17, tm_18, tm_19, tm_20, tm_21, tm_22, tm_23, tm_24, at_11, at_12, at_13, at_14, at_15, at_16, at_17, at_18, at_19, at_20, at_21, at_22, at_23, at_24, al_14, al_15, al_16, al_17, al_18, al_19, al_20, al_21, al_22, al_23, al_24, al_m0, al_m1, al_m2, al_m3, al_m4, al_m5, al_m6, al_m7, al_m8, al_m9, al_m10, al_m11, al_m12, al_m13, al_m15, al_m16, al_m17, al_m18, al_m19, al_m20, al_m21, al_m22, al_m23, al_m24, al_m25, al_m26, al_m28, al_m29, al_m30, al_m31, al_m32, al_m33, al_m34, al_m35, al_m36, al_m37, al_m38, al_m39, al_m40, al_m42, al_m43, al_m44, al_m45, al_m46, al_m48, al_m49, al_m50, al_m51, al_m52, al_m53, al_m60, al_m61, mp_0, mp_1, mp_2, mp_3, mp_4, mp_5, mp_6, mp_7, mp_8, mp_9, mp_10, mp_11, mp_12, mp_13, mp_15, mp_16, mp_17, mp_18, mp_19, mp_20, mp_21, mp_22, mp_23, mp_24, mp_25, mp_26, mp_28, mp_29, mp_30, mp_31, mp_32, mp_33, mp_34, mp_35, mp_36, mp_37, mp_38, mp_39, mp_40, mp_42, mp_43, mp_44, mp_45, mp_46, mp_48, mp_49, mp_50, mp_51, mp_52, mp_53, mp_60, mp_61, row_14, row_15, row_16, row_17, row_18, row_19, row_20, ar_11, ar_12, ar_13, ar_14, ar_15, ar_16, ar_17, ar_18, ar_19, ar_20, ar_21, ar_22, ar_23, ar_24, cs_14, cs_15, cs_16, cs_17, cs_18, cs_19, cs_20, ex_ix, ex_0, b01_0, b01_1, KI_i, KI_x, KJ_j, KJ_x, KV_v, KV_x, KO_t, KO_n, KO_x, KO_rf, n4, n3, nI_add, nI_1, nI_leI, nI_ltI, nI_eq, gI_uI, gI_uL, gL_uI, gL_uL, sI_wI, sI_wP, sI_wL, sP_wI, sP_wP, sP_wL, sL_wI, sL_wP, sL_wL, forall_eq, exists_eq_left, exists_eq_left', Option.some.injEq, true_and, and_true, Nat.reduceAdd, Nat.reduceMul, Nat.reduceEqDiff, eq_self, tk_inj, and_self, false_and, and_false, if_true, if_false, forall_const, true_implies, ite_true, ite_false, reduceIte, reduceCtorEq, tk_ne9, i1e, i2e, i3e, i1_0, i2_0, i3_0, false_implies, false_or, or_false, true_or, or_true, String.reduceEq, Nat.reduceLT, Int32.le_refl, not_true_eq_false, not_false_eq_true, Nat.zero_lt_one, Bool.false_eq_true, Bool.true_eq_false]; done) | fail "no") only [↓dO1, ↓dO0, ↓KI_i, ↓KI_x, ↓KJ_j, ↓KJ_x, ↓KV_v, ↓KV_x, ↓KO_t, ↓KO_n, ↓KO_x, ↓KO_rf, ↓dT, ↓dAt, ↓dX, ↓dX0, ↓dE, ↓dS, ↓dR, ↓dAr, ↓dCs, ↓dB, ↓forall_eq, ↓dI1, ↓dI2, ↓dI3, ↓dI4, ↓dF1, ↓dF2, ↓wI_putm, ↓wI_put11, ↓wI_put13, ↓wL_put12, ↓wP_put, ↓wI_put_0, ↓wI_put_1, ↓wI_put_2, ↓wI_put_3, ↓wI_put_4, ↓wI_put_5, ↓wI_put_6, ↓wI_put_7, ↓wI_put_8, ↓wI_put_9, ↓wI_put_14, ↓wI_put_15, ↓wI_put_16, ↓wI_put_17, ↓wI_put_18, ↓wI_put_19, ↓wI_put_20, ↓wI_put_21, ↓wI_put_22, ↓wI_put_23, ↓wI_put_24, ↓wN_put_0, ↓wN_put_1, ↓wN_put_2, ↓wN_put_3, ↓wN_put_4, ↓wN_put_5, ↓wN_put_6, ↓wN_put_7, ↓wN_put_8, ↓wN_put_9, ↓wN_put_14, ↓wN_put_15, ↓wN_put_16, ↓wN_put_17, ↓wN_put_18, ↓wN_put_19, ↓wN_put_20, ↓wN_put_21, ↓wN_put_22, ↓wN_put_23, ↓wN_put_24, ↓wL_put_0, ↓wL_put_24]
      try simp (disch := omega) only [g1, g2, sI_putc, wI_putc, sI_put11, sI_put13, sI_putm, sL_put12, wI_put11, wI_put13, wI_putm, wL_put12, sP_put, sX_put, wP_put, sI_put_0, sI_put_1, sI_put_2, sI_put_3, sI_put_4, sI_put_5, sI_put_6, sI_put_7, sI_put_8, sI_put_9, sI_put_14, sI_put_15, sI_put_16, sI_put_17, sI_put_18, sI_put_19, sI_put_20, sI_put_21, sI_put_22, sI_put_23, sI_put_24, wI_put_0, wI_put_1, wI_put_2, wI_put_3, wI_put_4, wI_put_5, wI_put_6, wI_put_7, wI_put_8, wI_put_9, wI_put_14, wI_put_15, wI_put_16, wI_put_17, wI_put_18, wI_put_19, wI_put_20, wI_put_21, wI_put_22, wI_put_23, wI_put_24, wN_put_0, wN_put_1, wN_put_2, wN_put_3, wN_put_4, wN_put_5, wN_put_6, wN_put_7, wN_put_8, wN_put_9, wN_put_14, wN_put_15, wN_put_16, wN_put_17, wN_put_18, wN_put_19, wN_put_20, wN_put_21, wN_put_22, wN_put_23, wN_put_24, sL_put_0, sL_put_24, wL_put_0, wL_put_24, tm_0, tm_1, tm_2, tm_3, tm_4, tm_5, tm_6, tm_7, tm_8, tm_9, tm_10, tm_11, tm_12, tm_13, tm_14, tm_15, tm_16, tm_17, tm_18, tm_19, tm_20, tm_21, tm_22, tm_23, tm_24, at_11, at_12, at_13, at_14, at_15, at_16, at_17, at_18, at_19, at_20, at_21, at_22, at_23, at_24, al_14, al_15, al_16, al_17, al_18, al_19, al_20, al_21, al_22, al_23, al_24, al_m0, al_m1, al_m2, al_m3, al_m4, al_m5, al_m6, al_m7, al_m8, al_m9, al_m10, al_m11, al_m12, al_m13, al_m15, al_m16, al_m17, al_m18, al_m19, al_m20, al_m21, al_m22, al_m23, al_m24, al_m25, al_m26, al_m28, al_m29, al_m30, al_m31, al_m32, al_m33, al_m34, al_m35, al_m36, al_m37, al_m38, al_m39, al_m40, al_m42, al_m43, al_m44, al_m45, al_m46, al_m48, al_m49, al_m50, al_m51, al_m52, al_m53, al_m60, al_m61, mp_0, mp_1, mp_2, mp_3, mp_4, mp_5, mp_6, mp_7, mp_8, mp_9, mp_10, mp_11, mp_12, mp_13, mp_15, mp_16, mp_17, mp_18, mp_19, mp_20, mp_21, mp_22, mp_23, mp_24, mp_25, mp_26, mp_28, mp_29, mp_30, mp_31, mp_32, mp_33, mp_34, mp_35, mp_36, mp_37, mp_38, mp_39, mp_40, mp_42, mp_43, mp_44, mp_45, mp_46, mp_48, mp_49, mp_50, mp_51, mp_52, mp_53, mp_60, mp_61, row_14, row_15, row_16, row_17, row_18, row_19, row_20, ar_11, ar_12, ar_13, ar_14, ar_15, ar_16, ar_17, ar_18, ar_19, ar_20, ar_21, ar_22, ar_23, ar_24, cs_14, cs_15, cs_16, cs_17, cs_18, cs_19, cs_20, ex_ix, ex_0, b01_0, b01_1, KI_i, KI_x, KJ_j, KJ_x, KV_v, KV_x, KO_t, KO_n, KO_x, KO_rf, n4, n3, nI_add, nI_1, nI_leI, nI_ltI, nI_eq, gI_uI, gI_uL, gL_uI, gL_uL, sI_wI, sI_wP, sI_wL, sP_wI, sP_wP, sP_wL, sL_wI, sL_wP, sL_wL, forall_eq, exists_eq_left, exists_eq_left', Option.some.injEq, true_and, and_true, Nat.reduceAdd, Nat.reduceMul, Nat.reduceEqDiff, eq_self, tk_inj, and_self, false_and, and_false, if_true, if_false, forall_const, true_implies, ite_true, ite_false, reduceIte, reduceCtorEq, tk_ne9, i1e, i2e, i3e, i1_0, i2_0, i3_0, false_implies, false_or, or_false, true_or, or_true, String.reduceEq, Nat.reduceLT, Int32.le_refl, not_true_eq_false, not_false_eq_true, Nat.zero_lt_one, Bool.false_eq_true, Bool.true_eq_false]
      first | exact hp9 | exact put_eq hp9 (by refine Sg_ext (fun t9 k9 => ?_) (fun t9 k9 => ?_) (fun t9 k9 => ?_) (fun t9 => ?_) <;> simp only [sI_wI, sI_wP, sI_wL, sP_wI, sP_wP, sP_wL, sL_wI, sL_wP, sL_wL, sX_wI, sX_wP, sX_wL, tk] <;> (repeat' split) <;> first | rfl | omega | (exfalso; omega))
    · have R1 := rel_wkd R p s hp hs (w + 1) (by omega) (nI (w + 1)) (Or.inl rfl)
      rw [if_neg (fun z => cw ((i8 f4).mp z)), nI_1]
      have c3 : nI (w + 1) < 8 := by rw [← nI_1]; exact (i8l f4).mpr (by omega)
      refine ⟨_, R1, fun M0 Post hp9 => ?_⟩
      unfold wp_X7_learnHour
      simp (disch := first | (with_reducible exact rfl) | assumption | omega | decide | (simp only [al_14, al_15, al_16, al_17, al_18, al_19, al_20, al_21, al_22, al_23, al_24, al_m0, al_m1, al_m2, al_m3, al_m4, al_m5, al_m6, al_m7, al_m8, al_m9, al_m10, al_m11, al_m12, al_m13, al_m15, al_m16, al_m17, al_m18, al_m19, al_m20, al_m21, al_m22, al_m23, al_m24, al_m25, al_m26, al_m28, al_m29, al_m30, al_m31, al_m32, al_m33, al_m34, al_m35, al_m36, al_m37, al_m38, al_m39, al_m40, al_m42, al_m43, al_m44, al_m45, al_m46, al_m48, al_m49, al_m50, al_m51, al_m52, al_m53, al_m60, al_m61]; omega) | (simp (disch := omega) only [r_q4 R, r_q5 R, g1, g2, hs, c1, c2, c3, sP_put, mp_0, mp_1, mp_2, mp_3, mp_4, mp_5, mp_6, mp_7, mp_8, mp_9, mp_10, mp_11, mp_12, mp_13, mp_15, mp_16, mp_17, mp_18, mp_19, mp_20, mp_21, mp_22, mp_23, mp_24, mp_25, mp_26, mp_28, mp_29, mp_30, mp_31, mp_32, mp_33, mp_34, mp_35, mp_36, mp_37, mp_38, mp_39, mp_40, mp_42, mp_43, mp_44, mp_45, mp_46, mp_48, mp_49, mp_50, mp_51, mp_52, mp_53, mp_60, mp_61, sP_wI, sP_wP, sP_wL, true_and, and_true, tk_inj, false_and, and_false, if_true, if_false, tk_ne9]; rfl) | (simp (disch := omega) only [r_q4 R, r_q5 R, g1, g2, hs, c1, c2, c3, sI_putc, wI_putc, sI_put11, sI_put13, sI_putm, sL_put12, wI_put11, wI_put13, wI_putm, wL_put12, sP_put, sX_put, wP_put, sI_put_0, sI_put_1, sI_put_2, sI_put_3, sI_put_4, sI_put_5, sI_put_6, sI_put_7, sI_put_8, sI_put_9, sI_put_14, sI_put_15, sI_put_16, sI_put_17, sI_put_18, sI_put_19, sI_put_20, sI_put_21, sI_put_22, sI_put_23, sI_put_24, wI_put_0, wI_put_1, wI_put_2, wI_put_3, wI_put_4, wI_put_5, wI_put_6, wI_put_7, wI_put_8, wI_put_9, wI_put_14, wI_put_15, wI_put_16, wI_put_17, wI_put_18, wI_put_19, wI_put_20, wI_put_21, wI_put_22, wI_put_23, wI_put_24, wN_put_0, wN_put_1, wN_put_2, wN_put_3, wN_put_4, wN_put_5, wN_put_6, wN_put_7, wN_put_8, wN_put_9, wN_put_14, wN_put_15, wN_put_16, wN_put_17, wN_put_18, wN_put_19, wN_put_20, wN_put_21, wN_put_22, wN_put_23, wN_put_24, sL_put_0, sL_put_24, wL_put_0, wL_put_24, tm_0, tm_1, tm_2, tm_3, tm_4, tm_5, tm_6, tm_7, tm_8, tm_9, tm_10, tm_11, tm_12, tm_13, tm_14, tm_15, tm_16, tm_17, tm_18, tm_19, tm_20, tm_21, tm_22, tm_23, tm_24, at_11, at_12, at_13, at_14, at_15, at_16, at_17, at_18, at_19, at_20, at_21, at_22, at_23, at_24, al_14, al_15, al_16, al_17, al_18, al_19, al_20, al_21, al_22, al_23, al_24, al_m0, al_m1, al_m2, al_m3, al_m4, al_m5, al_m6, al_m7, al_m8, al_m9, al_m10, al_m11, al_m12, al_m13, al_m15, al_m16, al_m17, al_m18, al_m19, al_m20, al_m21, al_m22, al_m23, al_m24, al_m25, al_m26, al_m28, al_m29, al_m30, al_m31, al_m32, al_m33, al_m34, al_m35, al_m36, al_m37, al_m38, al_m39, al_m40, al_m42, al_m43, al_m44, al_m45, al_m46, al_m48, al_m49, al_m50, al_m51, al_m52, al_m53, al_m60, al_m61, mp_0, mp_1, mp_2, mp_3, mp_4, mp_5, mp_6, mp_7, mp_8, mp_9, mp_10, mp_11, mp_12, mp_13, mp_15, mp_16, mp_17, mp_18, mp_19, mp_20, mp_21, mp_22, mp_23, mp_24, mp_25, mp_26, mp_28, mp_29, mp_30, mp_31, mp_32, mp_33, mp_34, mp_35, mp_36, mp_37, mp_38, mp_39, mp_40, mp_42, mp_43, mp_44, mp_45, mp_46, mp_48, mp_49, mp_50, mp_51, mp_52, mp_53, mp_60, mp_61, row_14, row_15, row_16, row_17, row_18, row_19, row_20, ar_11, ar_12, ar_13, ar_14, ar_15, ar_16, ar_17, ar_18, ar_19, ar_20, ar_21, ar_22, ar_23, ar_24, cs_14, cs_15, cs_16, cs_17, cs_18, cs_19, cs_20, ex_ix, ex_0, b01_0, b01_1, KI_i, KI_x, KJ_j, KJ_x, KV_v, KV_x, KO_t, KO_n, KO_x, KO_rf, n4, n3, nI_add, nI_1, nI_leI, nI_ltI, nI_eq, gI_uI, gI_uL, gL_uI, gL_uL, sI_wI, sI_wP, sI_wL, sP_wI, sP_wP, sP_wL, sL_wI, sL_wP, sL_wL, forall_eq, exists_eq_left, exists_eq_left', Option.some.injEq, true_and, and_true, Nat.reduceAdd, Nat.reduceMul, Nat.reduceEqDiff, eq_self, tk_inj, and_self, false_and, and_false, if_true, if_false, forall_const, true_implies, ite_true, ite_false, reduceIte, reduceCtorEq, tk_ne9, i1e, i2e, i3e, i1_0, i2_0, i3_0, false_implies, false_or, or_false, true_or, or_true, String.reduceEq, Nat.reduceLT, Int32.le_refl, not_true_eq_false, not_false_eq_true, Nat.zero_lt_one, Bool.false_eq_true, Bool.true_eq_false]; done) | fail "no") only [↓dO1, ↓dO0, ↓KI_i, ↓KI_x, ↓KJ_j, ↓KJ_x, ↓KV_v, ↓KV_x, ↓KO_t, ↓KO_n, ↓KO_x, ↓KO_rf, ↓dT, ↓dAt, ↓dX, ↓dX0, ↓dE, ↓dS, ↓dR, ↓dAr, ↓dCs, ↓dB, ↓forall_eq, ↓dI1, ↓dI2, ↓dI3, ↓dI4, ↓dF1, ↓dF2, ↓wI_putm, ↓wI_put11, ↓wI_put13, ↓wL_put12, ↓wP_put, ↓wI_put_0, ↓wI_put_1, ↓wI_put_2, ↓wI_put_3, ↓wI_put_4, ↓wI_put_5, ↓wI_put_6, ↓wI_put_7, ↓wI_put_8, ↓wI_put_9, ↓wI_put_14, ↓wI_put_15, ↓wI_put_16, ↓wI_put_17, ↓wI_put_18, ↓wI_put_19, ↓wI_put_20, ↓wI_put_21, ↓wI_put_22, ↓wI_put_23, ↓wI_put_24, ↓wN_put_0, ↓wN_put_1, ↓wN_put_2, ↓wN_put_3, ↓wN_put_4, ↓wN_put_5, ↓wN_put_6, ↓wN_put_7, ↓wN_put_8, ↓wN_put_9, ↓wN_put_14, ↓wN_put_15, ↓wN_put_16, ↓wN_put_17, ↓wN_put_18, ↓wN_put_19, ↓wN_put_20, ↓wN_put_21, ↓wN_put_22, ↓wN_put_23, ↓wN_put_24, ↓wL_put_0, ↓wL_put_24]
      try simp (disch := omega) only [g1, g2, sI_putc, wI_putc, sI_put11, sI_put13, sI_putm, sL_put12, wI_put11, wI_put13, wI_putm, wL_put12, sP_put, sX_put, wP_put, sI_put_0, sI_put_1, sI_put_2, sI_put_3, sI_put_4, sI_put_5, sI_put_6, sI_put_7, sI_put_8, sI_put_9, sI_put_14, sI_put_15, sI_put_16, sI_put_17, sI_put_18, sI_put_19, sI_put_20, sI_put_21, sI_put_22, sI_put_23, sI_put_24, wI_put_0, wI_put_1, wI_put_2, wI_put_3, wI_put_4, wI_put_5, wI_put_6, wI_put_7, wI_put_8, wI_put_9, wI_put_14, wI_put_15, wI_put_16, wI_put_17, wI_put_18, wI_put_19, wI_put_20, wI_put_21, wI_put_22, wI_put_23, wI_put_24, wN_put_0, wN_put_1, wN_put_2, wN_put_3, wN_put_4, wN_put_5, wN_put_6, wN_put_7, wN_put_8, wN_put_9, wN_put_14, wN_put_15, wN_put_16, wN_put_17, wN_put_18, wN_put_19, wN_put_20, wN_put_21, wN_put_22, wN_put_23, wN_put_24, sL_put_0, sL_put_24, wL_put_0, wL_put_24, tm_0, tm_1, tm_2, tm_3, tm_4, tm_5, tm_6, tm_7, tm_8, tm_9, tm_10, tm_11, tm_12, tm_13, tm_14, tm_15, tm_16, tm_17, tm_18, tm_19, tm_20, tm_21, tm_22, tm_23, tm_24, at_11, at_12, at_13, at_14, at_15, at_16, at_17, at_18, at_19, at_20, at_21, at_22, at_23, at_24, al_14, al_15, al_16, al_17, al_18, al_19, al_20, al_21, al_22, al_23, al_24, al_m0, al_m1, al_m2, al_m3, al_m4, al_m5, al_m6, al_m7, al_m8, al_m9, al_m10, al_m11, al_m12, al_m13, al_m15, al_m16, al_m17, al_m18, al_m19, al_m20, al_m21, al_m22, al_m23, al_m24, al_m25, al_m26, al_m28, al_m29, al_m30, al_m31, al_m32, al_m33, al_m34, al_m35, al_m36, al_m37, al_m38, al_m39, al_m40, al_m42, al_m43, al_m44, al_m45, al_m46, al_m48, al_m49, al_m50, al_m51, al_m52, al_m53, al_m60, al_m61, mp_0, mp_1, mp_2, mp_3, mp_4, mp_5, mp_6, mp_7, mp_8, mp_9, mp_10, mp_11, mp_12, mp_13, mp_15, mp_16, mp_17, mp_18, mp_19, mp_20, mp_21, mp_22, mp_23, mp_24, mp_25, mp_26, mp_28, mp_29, mp_30, mp_31, mp_32, mp_33, mp_34, mp_35, mp_36, mp_37, mp_38, mp_39, mp_40, mp_42, mp_43, mp_44, mp_45, mp_46, mp_48, mp_49, mp_50, mp_51, mp_52, mp_53, mp_60, mp_61, row_14, row_15, row_16, row_17, row_18, row_19, row_20, ar_11, ar_12, ar_13, ar_14, ar_15, ar_16, ar_17, ar_18, ar_19, ar_20, ar_21, ar_22, ar_23, ar_24, cs_14, cs_15, cs_16, cs_17, cs_18, cs_19, cs_20, ex_ix, ex_0, b01_0, b01_1, KI_i, KI_x, KJ_j, KJ_x, KV_v, KV_x, KO_t, KO_n, KO_x, KO_rf, n4, n3, nI_add, nI_1, nI_leI, nI_ltI, nI_eq, gI_uI, gI_uL, gL_uI, gL_uL, sI_wI, sI_wP, sI_wL, sP_wI, sP_wP, sP_wL, sL_wI, sL_wP, sL_wL, forall_eq, exists_eq_left, exists_eq_left', Option.some.injEq, true_and, and_true, Nat.reduceAdd, Nat.reduceMul, Nat.reduceEqDiff, eq_self, tk_inj, and_self, false_and, and_false, if_true, if_false, forall_const, true_implies, ite_true, ite_false, reduceIte, reduceCtorEq, tk_ne9, i1e, i2e, i3e, i1_0, i2_0, i3_0, false_implies, false_or, or_false, true_or, or_true, String.reduceEq, Nat.reduceLT, Int32.le_refl, not_true_eq_false, not_false_eq_true, Nat.zero_lt_one, Bool.false_eq_true, Bool.true_eq_false]
      first | exact hp9 | exact put_eq hp9 (by refine Sg_ext (fun t9 k9 => ?_) (fun t9 k9 => ?_) (fun t9 k9 => ?_) (fun t9 => ?_) <;> simp only [sI_wI, sI_wP, sI_wL, sP_wI, sP_wP, sP_wL, sL_wI, sL_wP, sL_wL, sX_wI, sX_wP, sX_wL, tk] <;> (repeat' split) <;> first | rfl | omega | (exfalso; omega))
  · have hl3 : l = 3 := by omega
    subst hl3
    have c1 : ¬ nI 3 < 3 := by decide
    have c2 : 3 ≤ nI 3 := by decide
    have key : ∀ w', w' ≤ 7 → Si e (uI M 46 (4 * p + s) (nI w')) a (.inl none) (wp_X7_learnHour (tk 7 p) (nI s)) := by
      intro w' hw'
      have R1 := rel_wkd R p s hp hs w' hw' (sI a (tk 22 p) s + 1) (Or.inr f1)
      refine ⟨_, R1, fun M0 Post hp9 => ?_⟩
      unfold wp_X7_learnHour
      by_cases c3 : sI a (tk 22 p) s + 1 < 8
      · simp (disch := first | (with_reducible exact rfl) | assumption | omega | decide | (simp only [al_14, al_15, al_16, al_17, al_18, al_19, al_20, al_21, al_22, al_23, al_24, al_m0, al_m1, al_m2, al_m3, al_m4, al_m5, al_m6, al_m7, al_m8, al_m9, al_m10, al_m11, al_m12, al_m13, al_m15, al_m16, al_m17, al_m18, al_m19, al_m20, al_m21, al_m22, al_m23, al_m24, al_m25, al_m26, al_m28, al_m29, al_m30, al_m31, al_m32, al_m33, al_m34, al_m35, al_m36, al_m37, al_m38, al_m39, al_m40, al_m42, al_m43, al_m44, al_m45, al_m46, al_m48, al_m49, al_m50, al_m51, al_m52, al_m53, al_m60, al_m61]; omega) | (simp (disch := omega) only [r_q4 R, r_q5 R, g1, hs, c1, c2, c3, sP_put, mp_0, mp_1, mp_2, mp_3, mp_4, mp_5, mp_6, mp_7, mp_8, mp_9, mp_10, mp_11, mp_12, mp_13, mp_15, mp_16, mp_17, mp_18, mp_19, mp_20, mp_21, mp_22, mp_23, mp_24, mp_25, mp_26, mp_28, mp_29, mp_30, mp_31, mp_32, mp_33, mp_34, mp_35, mp_36, mp_37, mp_38, mp_39, mp_40, mp_42, mp_43, mp_44, mp_45, mp_46, mp_48, mp_49, mp_50, mp_51, mp_52, mp_53, mp_60, mp_61, sP_wI, sP_wP, sP_wL, true_and, and_true, tk_inj, false_and, and_false, if_true, if_false, tk_ne9]; rfl) | (simp (disch := omega) only [r_q4 R, r_q5 R, g1, hs, c1, c2, c3, sI_putc, wI_putc, sI_put11, sI_put13, sI_putm, sL_put12, wI_put11, wI_put13, wI_putm, wL_put12, sP_put, sX_put, wP_put, sI_put_0, sI_put_1, sI_put_2, sI_put_3, sI_put_4, sI_put_5, sI_put_6, sI_put_7, sI_put_8, sI_put_9, sI_put_14, sI_put_15, sI_put_16, sI_put_17, sI_put_18, sI_put_19, sI_put_20, sI_put_21, sI_put_22, sI_put_23, sI_put_24, wI_put_0, wI_put_1, wI_put_2, wI_put_3, wI_put_4, wI_put_5, wI_put_6, wI_put_7, wI_put_8, wI_put_9, wI_put_14, wI_put_15, wI_put_16, wI_put_17, wI_put_18, wI_put_19, wI_put_20, wI_put_21, wI_put_22, wI_put_23, wI_put_24, wN_put_0, wN_put_1, wN_put_2, wN_put_3, wN_put_4, wN_put_5, wN_put_6, wN_put_7, wN_put_8, wN_put_9, wN_put_14, wN_put_15, wN_put_16, wN_put_17, wN_put_18, wN_put_19, wN_put_20, wN_put_21, wN_put_22, wN_put_23, wN_put_24, sL_put_0, sL_put_24, wL_put_0, wL_put_24, tm_0, tm_1, tm_2, tm_3, tm_4, tm_5, tm_6, tm_7, tm_8, tm_9, tm_10, tm_11, tm_12, tm_13, tm_14, tm_15, tm_16, tm_17, tm_18, tm_19, tm_20, tm_21, tm_22, tm_23, tm_24, at_11, at_12, at_13, at_14, at_15, at_16, at_17, at_18, at_19, at_20, at_21, at_22, at_23, at_24, al_14, al_15, al_16, al_17, al_18, al_19, al_20, al_21, al_22, al_23, al_24, al_m0, al_m1, al_m2, al_m3, al_m4, al_m5, al_m6, al_m7, al_m8, al_m9, al_m10, al_m11, al_m12, al_m13, al_m15, al_m16, al_m17, al_m18, al_m19, al_m20, al_m21, al_m22, al_m23, al_m24, al_m25, al_m26, al_m28, al_m29, al_m30, al_m31, al_m32, al_m33, al_m34, al_m35, al_m36, al_m37, al_m38, al_m39, al_m40, al_m42, al_m43, al_m44, al_m45, al_m46, al_m48, al_m49, al_m50, al_m51, al_m52, al_m53, al_m60, al_m61, mp_0, mp_1, mp_2, mp_3, mp_4, mp_5, mp_6, mp_7, mp_8, mp_9, mp_10, mp_11, mp_12, mp_13, mp_15, mp_16, mp_17, mp_18, mp_19, mp_20, mp_21, mp_22, mp_23, mp_24, mp_25, mp_26, mp_28, mp_29, mp_30, mp_31, mp_32, mp_33, mp_34, mp_35, mp_36, mp_37, mp_38, mp_39, mp_40, mp_42, mp_43, mp_44, mp_45, mp_46, mp_48, mp_49, mp_50, mp_51, mp_52, mp_53, mp_60, mp_61, row_14, row_15, row_16, row_17, row_18, row_19, row_20, ar_11, ar_12, ar_13, ar_14, ar_15, ar_16, ar_17, ar_18, ar_19, ar_20, ar_21, ar_22, ar_23, ar_24, cs_14, cs_15, cs_16, cs_17, cs_18, cs_19, cs_20, ex_ix, ex_0, b01_0, b01_1, KI_i, KI_x, KJ_j, KJ_x, KV_v, KV_x, KO_t, KO_n, KO_x, KO_rf, n4, n3, nI_add, nI_1, nI_leI, nI_ltI, nI_eq, gI_uI, gI_uL, gL_uI, gL_uL, sI_wI, sI_wP, sI_wL, sP_wI, sP_wP, sP_wL, sL_wI, sL_wP, sL_wL, forall_eq, exists_eq_left, exists_eq_left', Option.some.injEq, true_and, and_true, Nat.reduceAdd, Nat.reduceMul, Nat.reduceEqDiff, eq_self, tk_inj, and_self, false_and, and_false, if_true, if_false, forall_const, true_implies, ite_true, ite_false, reduceIte, reduceCtorEq, tk_ne9, i1e, i2e, i3e, i1_0, i2_0, i3_0, false_implies, false_or, or_false, true_or, or_true, String.reduceEq, Nat.reduceLT, Int32.le_refl, not_true_eq_false, not_false_eq_true, Nat.zero_lt_one, Bool.false_eq_true, Bool.true_eq_false]; done) | fail "no") only [↓dO1, ↓dO0, ↓KI_i, ↓KI_x, ↓KJ_j, ↓KJ_x, ↓KV_v, ↓KV_x, ↓KO_t, ↓KO_n, ↓KO_x, ↓KO_rf, ↓dT, ↓dAt, ↓dX, ↓dX0, ↓dE, ↓dS, ↓dR, ↓dAr, ↓dCs, ↓dB, ↓forall_eq, ↓dI1, ↓dI2, ↓dI3, ↓dI4, ↓dF1, ↓dF2, ↓wI_putm, ↓wI_put11, ↓wI_put13, ↓wL_put12, ↓wP_put, ↓wI_put_0, ↓wI_put_1, ↓wI_put_2, ↓wI_put_3, ↓wI_put_4, ↓wI_put_5, ↓wI_put_6, ↓wI_put_7, ↓wI_put_8, ↓wI_put_9, ↓wI_put_14, ↓wI_put_15, ↓wI_put_16, ↓wI_put_17, ↓wI_put_18, ↓wI_put_19, ↓wI_put_20, ↓wI_put_21, ↓wI_put_22, ↓wI_put_23, ↓wI_put_24, ↓wN_put_0, ↓wN_put_1, ↓wN_put_2, ↓wN_put_3, ↓wN_put_4, ↓wN_put_5, ↓wN_put_6, ↓wN_put_7, ↓wN_put_8, ↓wN_put_9, ↓wN_put_14, ↓wN_put_15, ↓wN_put_16, ↓wN_put_17, ↓wN_put_18, ↓wN_put_19, ↓wN_put_20, ↓wN_put_21, ↓wN_put_22, ↓wN_put_23, ↓wN_put_24, ↓wL_put_0, ↓wL_put_24]
        try simp (disch := omega) only [sI_putc, wI_putc, sI_put11, sI_put13, sI_putm, sL_put12, wI_put11, wI_put13, wI_putm, wL_put12, sP_put, sX_put, wP_put, sI_put_0, sI_put_1, sI_put_2, sI_put_3, sI_put_4, sI_put_5, sI_put_6, sI_put_7, sI_put_8, sI_put_9, sI_put_14, sI_put_15, sI_put_16, sI_put_17, sI_put_18, sI_put_19, sI_put_20, sI_put_21, sI_put_22, sI_put_23, sI_put_24, wI_put_0, wI_put_1, wI_put_2, wI_put_3, wI_put_4, wI_put_5, wI_put_6, wI_put_7, wI_put_8, wI_put_9, wI_put_14, wI_put_15, wI_put_16, wI_put_17, wI_put_18, wI_put_19, wI_put_20, wI_put_21, wI_put_22, wI_put_23, wI_put_24, wN_put_0, wN_put_1, wN_put_2, wN_put_3, wN_put_4, wN_put_5, wN_put_6, wN_put_7, wN_put_8, wN_put_9, wN_put_14, wN_put_15, wN_put_16, wN_put_17, wN_put_18, wN_put_19, wN_put_20, wN_put_21, wN_put_22, wN_put_23, wN_put_24, sL_put_0, sL_put_24, wL_put_0, wL_put_24, tm_0, tm_1, tm_2, tm_3, tm_4, tm_5, tm_6, tm_7, tm_8, tm_9, tm_10, tm_11, tm_12, tm_13, tm_14, tm_15, tm_16, tm_17, tm_18, tm_19, tm_20, tm_21, tm_22, tm_23, tm_24, at_11, at_12, at_13, at_14, at_15, at_16, at_17, at_18, at_19, at_20, at_21, at_22, at_23, at_24, al_14, al_15, al_16, al_17, al_18, al_19, al_20, al_21, al_22, al_23, al_24, al_m0, al_m1, al_m2, al_m3, al_m4, al_m5, al_m6, al_m7, al_m8, al_m9, al_m10, al_m11, al_m12, al_m13, al_m15, al_m16, al_m17, al_m18, al_m19, al_m20, al_m21, al_m22, al_m23, al_m24, al_m25, al_m26, al_m28, al_m29, al_m30, al_m31, al_m32, al_m33, al_m34, al_m35, al_m36, al_m37, al_m38, al_m39, al_m40, al_m42, al_m43, al_m44, al_m45, al_m46, al_m48, al_m49, al_m50, al_m51, al_m52, al_m53, al_m60, al_m61, mp_0, mp_1, mp_2, mp_3, mp_4, mp_5, mp_6, mp_7, mp_8, mp_9, mp_10, mp_11, mp_12, mp_13, mp_15, mp_16, mp_17, mp_18, mp_19, mp_20, mp_21, mp_22, mp_23, mp_24, mp_25, mp_26, mp_28, mp_29, mp_30, mp_31, mp_32, mp_33, mp_34, mp_35, mp_36, mp_37, mp_38, mp_39, mp_40, mp_42, mp_43, mp_44, mp_45, mp_46, mp_48, mp_49, mp_50, mp_51, mp_52, mp_53, mp_60, mp_61, row_14, row_15, row_16, row_17, row_18, row_19, row_20, ar_11, ar_12, ar_13, ar_14, ar_15, ar_16, ar_17, ar_18, ar_19, ar_20, ar_21, ar_22, ar_23, ar_24, cs_14, cs_15, cs_16, cs_17, cs_18, cs_19, cs_20, ex_ix, ex_0, b01_0, b01_1, KI_i, KI_x, KJ_j, KJ_x, KV_v, KV_x, KO_t, KO_n, KO_x, KO_rf, n4, n3, nI_add, nI_1, nI_leI, nI_ltI, nI_eq, gI_uI, gI_uL, gL_uI, gL_uL, sI_wI, sI_wP, sI_wL, sP_wI, sP_wP, sP_wL, sL_wI, sL_wP, sL_wL, forall_eq, exists_eq_left, exists_eq_left', Option.some.injEq, true_and, and_true, Nat.reduceAdd, Nat.reduceMul, Nat.reduceEqDiff, eq_self, tk_inj, and_self, false_and, and_false, if_true, if_false, forall_const, true_implies, ite_true, ite_false, reduceIte, reduceCtorEq, tk_ne9, i1e, i2e, i3e, i1_0, i2_0, i3_0, false_implies, false_or, or_false, true_or, or_true, String.reduceEq, Nat.reduceLT, Int32.le_refl, not_true_eq_false, not_false_eq_true, Nat.zero_lt_one, Bool.false_eq_true, Bool.true_eq_false]
        first | exact hp9 | exact put_eq hp9 (by refine Sg_ext (fun t9 k9 => ?_) (fun t9 k9 => ?_) (fun t9 k9 => ?_) (fun t9 => ?_) <;> simp only [sI_wI, sI_wP, sI_wL, sP_wI, sP_wP, sP_wL, sL_wI, sL_wP, sL_wL, sX_wI, sX_wP, sX_wL, tk] <;> (repeat' split) <;> first | rfl | omega | (exfalso; omega))
      · simp (disch := first | (with_reducible exact rfl) | assumption | omega | decide | (simp only [al_14, al_15, al_16, al_17, al_18, al_19, al_20, al_21, al_22, al_23, al_24, al_m0, al_m1, al_m2, al_m3, al_m4, al_m5, al_m6, al_m7, al_m8, al_m9, al_m10, al_m11, al_m12, al_m13, al_m15, al_m16, al_m17, al_m18, al_m19, al_m20, al_m21, al_m22, al_m23, al_m24, al_m25, al_m26, al_m28, al_m29, al_m30, al_m31, al_m32, al_m33, al_m34, al_m35, al_m36, al_m37, al_m38, al_m39, al_m40, al_m42, al_m43, al_m44, al_m45, al_m46, al_m48, al_m49, al_m50, al_m51, al_m52, al_m53, al_m60, al_m61]; omega) | (simp (disch := omega) only [r_q4 R, r_q5 R, g1, hs, c1, c2, c3, sP_put, mp_0, mp_1, mp_2, mp_3, mp_4, mp_5, mp_6, mp_7, mp_8, mp_9, mp_10, mp_11, mp_12, mp_13, mp_15, mp_16, mp_17, mp_18, mp_19, mp_20, mp_21, mp_22, mp_23, mp_24, mp_25, mp_26, mp_28, mp_29, mp_30, mp_31, mp_32, mp_33, mp_34, mp_35, mp_36, mp_37, mp_38, mp_39, mp_40, mp_42, mp_43, mp_44, mp_45, mp_46, mp_48, mp_49, mp_50, mp_51, mp_52, mp_53, mp_60, mp_61, sP_wI, sP_wP, sP_wL, true_and, and_true, tk_inj, false_and, and_false, if_true, if_false, tk_ne9]; rfl) | (simp (disch := omega) only [r_q4 R, r_q5 R, g1, hs, c1, c2, c3, sI_putc, wI_putc, sI_put11, sI_put13, sI_putm, sL_put12, wI_put11, wI_put13, wI_putm, wL_put12, sP_put, sX_put, wP_put, sI_put_0, sI_put_1, sI_put_2, sI_put_3, sI_put_4, sI_put_5, sI_put_6, sI_put_7, sI_put_8, sI_put_9, sI_put_14, sI_put_15, sI_put_16, sI_put_17, sI_put_18, sI_put_19, sI_put_20, sI_put_21, sI_put_22, sI_put_23, sI_put_24, wI_put_0, wI_put_1, wI_put_2, wI_put_3, wI_put_4, wI_put_5, wI_put_6, wI_put_7, wI_put_8, wI_put_9, wI_put_14, wI_put_15, wI_put_16, wI_put_17, wI_put_18, wI_put_19, wI_put_20, wI_put_21, wI_put_22, wI_put_23, wI_put_24, wN_put_0, wN_put_1, wN_put_2, wN_put_3, wN_put_4, wN_put_5, wN_put_6, wN_put_7, wN_put_8, wN_put_9, wN_put_14, wN_put_15, wN_put_16, wN_put_17, wN_put_18, wN_put_19, wN_put_20, wN_put_21, wN_put_22, wN_put_23, wN_put_24, sL_put_0, sL_put_24, wL_put_0, wL_put_24, tm_0, tm_1, tm_2, tm_3, tm_4, tm_5, tm_6, tm_7, tm_8, tm_9, tm_10, tm_11, tm_12, tm_13, tm_14, tm_15, tm_16, tm_17, tm_18, tm_19, tm_20, tm_21, tm_22, tm_23, tm_24, at_11, at_12, at_13, at_14, at_15, at_16, at_17, at_18, at_19, at_20, at_21, at_22, at_23, at_24, al_14, al_15, al_16, al_17, al_18, al_19, al_20, al_21, al_22, al_23, al_24, al_m0, al_m1, al_m2, al_m3, al_m4, al_m5, al_m6, al_m7, al_m8, al_m9, al_m10, al_m11, al_m12, al_m13, al_m15, al_m16, al_m17, al_m18, al_m19, al_m20, al_m21, al_m22, al_m23, al_m24, al_m25, al_m26, al_m28, al_m29, al_m30, al_m31, al_m32, al_m33, al_m34, al_m35, al_m36, al_m37, al_m38, al_m39, al_m40, al_m42, al_m43, al_m44, al_m45, al_m46, al_m48, al_m49, al_m50, al_m51, al_m52, al_m53, al_m60, al_m61, mp_0, mp_1, mp_2, mp_3, mp_4, mp_5, mp_6, mp_7, mp_8, mp_9, mp_10, mp_11, mp_12, mp_13, mp_15, mp_16, mp_17, mp_18, mp_19, mp_20, mp_21, mp_22, mp_23, mp_24, mp_25, mp_26, mp_28, mp_29, mp_30, mp_31, mp_32, mp_33, mp_34, mp_35, mp_36, mp_37, mp_38, mp_39, mp_40, mp_42, mp_43, mp_44, mp_45, mp_46, mp_48, mp_49, mp_50, mp_51, mp_52, mp_53, mp_60, mp_61, row_14, row_15, row_16, row_17, row_18, row_19, row_20, ar_11, ar_12, ar_13, ar_14, ar_15, ar_16, ar_17, ar_18, ar_19, ar_20, ar_21, ar_22, ar_23, ar_24, cs_14, cs_15, cs_16, cs_17, cs_18, cs_19, cs_20, ex_ix, ex_0, b01_0, b01_1, KI_i, KI_x, KJ_j, KJ_x, KV_v, KV_x, KO_t, KO_n, KO_x, KO_rf, n4, n3, nI_add, nI_1, nI_leI, nI_ltI, nI_eq, gI_uI, gI_uL, gL_uI, gL_uL, sI_wI, sI_wP, sI_wL, sP_wI, sP_wP, sP_wL, sL_wI, sL_wP, sL_wL, forall_eq, exists_eq_left, exists_eq_left', Option.some.injEq, true_and, and_true, Nat.reduceAdd, Nat.reduceMul, Nat.reduceEqDiff, eq_self, tk_inj, and_self, false_and, and_false, if_true, if_false, forall_const, true_implies, ite_true, ite_false, reduceIte, reduceCtorEq, tk_ne9, i1e, i2e, i3e, i1_0, i2_0, i3_0, false_implies, false_or, or_false, true_or, or_true, String.reduceEq, Nat.reduceLT, Int32.le_refl, not_true_eq_false, not_false_eq_true, Nat.zero_lt_one, Bool.false_eq_true, Bool.true_eq_false]; done) | fail "no") only [↓dO1, ↓dO0, ↓KI_i, ↓KI_x, ↓KJ_j, ↓KJ_x, ↓KV_v, ↓KV_x, ↓KO_t, ↓KO_n, ↓KO_x, ↓KO_rf, ↓dT, ↓dAt, ↓dX, ↓dX0, ↓dE, ↓dS, ↓dR, ↓dAr, ↓dCs, ↓dB, ↓forall_eq, ↓dI1, ↓dI2, ↓dI3, ↓dI4, ↓dF1, ↓dF2, ↓wI_putm, ↓wI_put11, ↓wI_put13, ↓wL_put12, ↓wP_put, ↓wI_put_0, ↓wI_put_1, ↓wI_put_2, ↓wI_put_3, ↓wI_put_4, ↓wI_put_5, ↓wI_put_6, ↓wI_put_7, ↓wI_put_8, ↓wI_put_9, ↓wI_put_14, ↓wI_put_15, ↓wI_put_16, ↓wI_put_17, ↓wI_put_18, ↓wI_put_19, ↓wI_put_20, ↓wI_put_21, ↓wI_put_22, ↓wI_put_23, ↓wI_put_24, ↓wN_put_0, ↓wN_put_1, ↓wN_put_2, ↓wN_put_3, ↓wN_put_4, ↓wN_put_5, ↓wN_put_6, ↓wN_put_7, ↓wN_put_8, ↓wN_put_9, ↓wN_put_14, ↓wN_put_15, ↓wN_put_16, ↓wN_put_17, ↓wN_put_18, ↓wN_put_19, ↓wN_put_20, ↓wN_put_21, ↓wN_put_22, ↓wN_put_23, ↓wN_put_24, ↓wL_put_0, ↓wL_put_24]
        try simp (disch := omega) only [sI_putc, wI_putc, sI_put11, sI_put13, sI_putm, sL_put12, wI_put11, wI_put13, wI_putm, wL_put12, sP_put, sX_put, wP_put, sI_put_0, sI_put_1, sI_put_2, sI_put_3, sI_put_4, sI_put_5, sI_put_6, sI_put_7, sI_put_8, sI_put_9, sI_put_14, sI_put_15, sI_put_16, sI_put_17, sI_put_18, sI_put_19, sI_put_20, sI_put_21, sI_put_22, sI_put_23, sI_put_24, wI_put_0, wI_put_1, wI_put_2, wI_put_3, wI_put_4, wI_put_5, wI_put_6, wI_put_7, wI_put_8, wI_put_9, wI_put_14, wI_put_15, wI_put_16, wI_put_17, wI_put_18, wI_put_19, wI_put_20, wI_put_21, wI_put_22, wI_put_23, wI_put_24, wN_put_0, wN_put_1, wN_put_2, wN_put_3, wN_put_4, wN_put_5, wN_put_6, wN_put_7, wN_put_8, wN_put_9, wN_put_14, wN_put_15, wN_put_16, wN_put_17, wN_put_18, wN_put_19, wN_put_20, wN_put_21, wN_put_22, wN_put_23, wN_put_24, sL_put_0, sL_put_24, wL_put_0, wL_put_24, tm_0, tm_1, tm_2, tm_3, tm_4, tm_5, tm_6, tm_7, tm_8, tm_9, tm_10, tm_11, tm_12, tm_13, tm_14, tm_15, tm_16, tm_17, tm_18, tm_19, tm_20, tm_21, tm_22, tm_23, tm_24, at_11, at_12, at_13, at_14, at_15, at_16, at_17, at_18, at_19, at_20, at_21, at_22, at_23, at_24, al_14, al_15, al_16, al_17, al_18, al_19, al_20, al_21, al_22, al_23, al_24, al_m0, al_m1, al_m2, al_m3, al_m4, al_m5, al_m6, al_m7, al_m8, al_m9, al_m10, al_m11, al_m12, al_m13, al_m15, al_m16, al_m17, al_m18, al_m19, al_m20, al_m21, al_m22, al_m23, al_m24, al_m25, al_m26, al_m28, al_m29, al_m30, al_m31, al_m32, al_m33, al_m34, al_m35, al_m36, al_m37, al_m38, al_m39, al_m40, al_m42, al_m43, al_m44, al_m45, al_m46, al_m48, al_m49, al_m50, al_m51, al_m52, al_m53, al_m60, al_m61, mp_0, mp_1, mp_2, mp_3, mp_4, mp_5, mp_6, mp_7, mp_8, mp_9, mp_10, mp_11, mp_12, mp_13, mp_15, mp_16, mp_17, mp_18, mp_19, mp_20, mp_21, mp_22, mp_23, mp_24, mp_25, mp_26, mp_28, mp_29, mp_30, mp_31, mp_32, mp_33, mp_34, mp_35, mp_36, mp_37, mp_38, mp_39, mp_40, mp_42, mp_43, mp_44, mp_45, mp_46, mp_48, mp_49, mp_50, mp_51, mp_52, mp_53, mp_60, mp_61, row_14, row_15, row_16, row_17, row_18, row_19, row_20, ar_11, ar_12, ar_13, ar_14, ar_15, ar_16, ar_17, ar_18, ar_19, ar_20, ar_21, ar_22, ar_23, ar_24, cs_14, cs_15, cs_16, cs_17, cs_18, cs_19, cs_20, ex_ix, ex_0, b01_0, b01_1, KI_i, KI_x, KJ_j, KJ_x, KV_v, KV_x, KO_t, KO_n, KO_x, KO_rf, n4, n3, nI_add, nI_1, nI_leI, nI_ltI, nI_eq, gI_uI, gI_uL, gL_uI, gL_uL, sI_wI, sI_wP, sI_wL, sP_wI, sP_wP, sP_wL, sL_wI, sL_wP, sL_wL, forall_eq, exists_eq_left, exists_eq_left', Option.some.injEq, true_and, and_true, Nat.reduceAdd, Nat.reduceMul, Nat.reduceEqDiff, eq_self, tk_inj, and_self, false_and, and_false, if_true, if_false, forall_const, true_implies, ite_true, ite_false, reduceIte, reduceCtorEq, tk_ne9, i1e, i2e, i3e, i1_0, i2_0, i3_0, false_implies, false_or, or_false, true_or, or_true, String.reduceEq, Nat.reduceLT, Int32.le_refl, not_true_eq_false, not_false_eq_true, Nat.zero_lt_one, Bool.false_eq_true, Bool.true_eq_false]
        first | exact hp9 | exact put_eq hp9 (by refine Sg_ext (fun t9 k9 => ?_) (fun t9 k9 => ?_) (fun t9 k9 => ?_) (fun t9 => ?_) <;> simp only [sI_wI, sI_wP, sI_wL, sP_wI, sP_wP, sP_wL, sL_wI, sL_wP, sL_wL, sX_wI, sX_wP, sX_wL, tk] <;> (repeat' split) <;> first | rfl | omega | (exfalso; omega))
    by_cases cw : w = 7
    · subst cw
      rw [if_pos ((i8 f4).mpr rfl), if_neg c1]
      have e9 : uI (uI M 45 (4 * p + s) (nI 3)) 46 (4 * p + s) 0 = uI M 46 (4 * p + s) (nI 0) := by
        rw [← f1, uI_self, nI_0]
      rw [e9]
      exact key 0 (by omega)
    · rw [if_neg (fun z => cw ((i8 f4).mp z)), nI_1]
      exact key (w + 1) (by omega)
end RR
set_option maxHeartbeats 8000000 in
theorem lp_come {e : Nat} {h : Int32} : ∀ d i a M, Rel e a M → i + d = nB M → gI M 255 0 = h → ∃ a', Rel e a' (iter mArr i d M) ∧ ∀ M0 Post, Post (.inl none) (put a' M0) → ∃ g, wp_X8_letCome_2 g (tk 8 0) h (nI i) (put a M0) Post := by
  intro d
  induction d with
  | zero =>
    intro i a M R hi hh
    have hB := r_nBx R
    have hg : sI a (tk 8 0) 1 = nI (nB M) := (r_gbat R).trans (r_nB R)
    have hi2 : i = nB M := by omega
    subst hi2
    have c : nI (nB M) ≤ nI (nB M) := Int32.le_refl _
    refine ⟨a, R, fun M0 Post hp => ⟨1, ?_⟩⟩
    simp (disch := first | (with_reducible exact rfl) | assumption | omega | decide | (simp only [al_14, al_15, al_16, al_17, al_18, al_19, al_20, al_21, al_22, al_23, al_24, al_m0, al_m1, al_m2, al_m3, al_m4, al_m5, al_m6, al_m7, al_m8, al_m9, al_m10, al_m11, al_m12, al_m13, al_m15, al_m16, al_m17, al_m18, al_m19, al_m20, al_m21, al_m22, al_m23, al_m24, al_m25, al_m26, al_m28, al_m29, al_m30, al_m31, al_m32, al_m33, al_m34, al_m35, al_m36, al_m37, al_m38, al_m39, al_m40, al_m42, al_m43, al_m44, al_m45, al_m46, al_m48, al_m49, al_m50, al_m51, al_m52, al_m53, al_m60, al_m61]; omega) | (simp (disch := omega) only [hg, c, sP_put, mp_0, mp_1, mp_2, mp_3, mp_4, mp_5, mp_6, mp_7, mp_8, mp_9, mp_10, mp_11, mp_12, mp_13, mp_15, mp_16, mp_17, mp_18, mp_19, mp_20, mp_21, mp_22, mp_23, mp_24, mp_25, mp_26, mp_28, mp_29, mp_30, mp_31, mp_32, mp_33, mp_34, mp_35, mp_36, mp_37, mp_38, mp_39, mp_40, mp_42, mp_43, mp_44, mp_45, mp_46, mp_48, mp_49, mp_50, mp_51, mp_52, mp_53, mp_60, mp_61, sP_wI, sP_wP, sP_wL, true_and, and_true, tk_inj, false_and, and_false, if_true, if_false, tk_ne9]; rfl) | (simp (disch := omega) only [hg, c, sI_putc, wI_putc, sI_put11, sI_put13, sI_putm, sL_put12, wI_put11, wI_put13, wI_putm, wL_put12, sP_put, sX_put, wP_put, sI_put_0, sI_put_1, sI_put_2, sI_put_3, sI_put_4, sI_put_5, sI_put_6, sI_put_7, sI_put_8, sI_put_9, sI_put_14, sI_put_15, sI_put_16, sI_put_17, sI_put_18, sI_put_19, sI_put_20, sI_put_21, sI_put_22, sI_put_23, sI_put_24, wI_put_0, wI_put_1, wI_put_2, wI_put_3, wI_put_4, wI_put_5, wI_put_6, wI_put_7, wI_put_8, wI_put_9, wI_put_14, wI_put_15, wI_put_16, wI_put_17, wI_put_18, wI_put_19, wI_put_20, wI_put_21, wI_put_22, wI_put_23, wI_put_24, wN_put_0, wN_put_1, wN_put_2, wN_put_3, wN_put_4, wN_put_5, wN_put_6, wN_put_7, wN_put_8, wN_put_9, wN_put_14, wN_put_15, wN_put_16, wN_put_17, wN_put_18, wN_put_19, wN_put_20, wN_put_21, wN_put_22, wN_put_23, wN_put_24, sL_put_0, sL_put_24, wL_put_0, wL_put_24, tm_0, tm_1, tm_2, tm_3, tm_4, tm_5, tm_6, tm_7, tm_8, tm_9, tm_10, tm_11, tm_12, tm_13, tm_14, tm_15, tm_16, tm_17, tm_18, tm_19, tm_20, tm_21, tm_22, tm_23, tm_24, at_11, at_12, at_13, at_14, at_15, at_16, at_17, at_18, at_19, at_20, at_21, at_22, at_23, at_24, al_14, al_15, al_16, al_17, al_18, al_19, al_20, al_21, al_22, al_23, al_24, al_m0, al_m1, al_m2, al_m3, al_m4, al_m5, al_m6, al_m7, al_m8, al_m9, al_m10, al_m11, al_m12, al_m13, al_m15, al_m16, al_m17, al_m18, al_m19, al_m20, al_m21, al_m22, al_m23, al_m24, al_m25, al_m26, al_m28, al_m29, al_m30, al_m31, al_m32, al_m33, al_m34, al_m35, al_m36, al_m37, al_m38, al_m39, al_m40, al_m42, al_m43, al_m44, al_m45, al_m46, al_m48, al_m49, al_m50, al_m51, al_m52, al_m53, al_m60, al_m61, mp_0, mp_1, mp_2, mp_3, mp_4, mp_5, mp_6, mp_7, mp_8, mp_9, mp_10, mp_11, mp_12, mp_13, mp_15, mp_16, mp_17, mp_18, mp_19, mp_20, mp_21, mp_22, mp_23, mp_24, mp_25, mp_26, mp_28, mp_29, mp_30, mp_31, mp_32, mp_33, mp_34, mp_35, mp_36, mp_37, mp_38, mp_39, mp_40, mp_42, mp_43, mp_44, mp_45, mp_46, mp_48, mp_49, mp_50, mp_51, mp_52, mp_53, mp_60, mp_61, row_14, row_15, row_16, row_17, row_18, row_19, row_20, ar_11, ar_12, ar_13, ar_14, ar_15, ar_16, ar_17, ar_18, ar_19, ar_20, ar_21, ar_22, ar_23, ar_24, cs_14, cs_15, cs_16, cs_17, cs_18, cs_19, cs_20, ex_ix, ex_0, b01_0, b01_1, KI_i, KI_x, KJ_j, KJ_x, KV_v, KV_x, KO_t, KO_n, KO_x, KO_rf, n4, n3, nI_add, nI_1, nI_leI, nI_ltI, nI_eq, gI_uI, gI_uL, gL_uI, gL_uL, sI_wI, sI_wP, sI_wL, sP_wI, sP_wP, sP_wL, sL_wI, sL_wP, sL_wL, forall_eq, exists_eq_left, exists_eq_left', Option.some.injEq, true_and, and_true, Nat.reduceAdd, Nat.reduceMul, Nat.reduceEqDiff, eq_self, tk_inj, and_self, false_and, and_false, if_true, if_false, forall_const, true_implies, ite_true, ite_false, reduceIte, reduceCtorEq, tk_ne9, i1e, i2e, i3e, i1_0, i2_0, i3_0, false_implies, false_or, or_false, true_or, or_true, String.reduceEq, Nat.reduceLT, Int32.le_refl, not_true_eq_false, not_false_eq_true, Nat.zero_lt_one, Bool.false_eq_true, Bool.true_eq_false]; done) | fail "no") only [↓wp_X8_letCome_2, ↓dO1, ↓dO0, ↓KI_i, ↓KI_x, ↓KJ_j, ↓KJ_x, ↓KV_v, ↓KV_x, ↓KO_t, ↓KO_n, ↓KO_x, ↓KO_rf, ↓dT, ↓dAt, ↓dX, ↓dX0, ↓dE, ↓dS, ↓dR, ↓dAr, ↓dCs, ↓dB, ↓forall_eq, ↓dI1, ↓dI2, ↓dI3, ↓dI4, ↓dF1, ↓dF2, ↓wI_putm, ↓wI_put11, ↓wI_put13, ↓wL_put12, ↓wP_put, ↓wI_put_0, ↓wI_put_1, ↓wI_put_2, ↓wI_put_3, ↓wI_put_4, ↓wI_put_5, ↓wI_put_6, ↓wI_put_7, ↓wI_put_8, ↓wI_put_9, ↓wI_put_14, ↓wI_put_15, ↓wI_put_16, ↓wI_put_17, ↓wI_put_18, ↓wI_put_19, ↓wI_put_20, ↓wI_put_21, ↓wI_put_22, ↓wI_put_23, ↓wI_put_24, ↓wN_put_0, ↓wN_put_1, ↓wN_put_2, ↓wN_put_3, ↓wN_put_4, ↓wN_put_5, ↓wN_put_6, ↓wN_put_7, ↓wN_put_8, ↓wN_put_9, ↓wN_put_14, ↓wN_put_15, ↓wN_put_16, ↓wN_put_17, ↓wN_put_18, ↓wN_put_19, ↓wN_put_20, ↓wN_put_21, ↓wN_put_22, ↓wN_put_23, ↓wN_put_24, ↓wL_put_0, ↓wL_put_24]
    exact hp
  | succ d ih =>
    intro i a M R hi hh
    have hB := r_nBx R
    have hg : sI a (tk 8 0) 1 = nI (nB M) := (r_gbat R).trans (r_nB R)
    have hin : i < nB M := by omega
    have h60 : i < 60 := by omega
    have c : ¬ nI (nB M) ≤ nI i := by rw [nI_leI (by omega) (by omega)]; omega
    have hK := (r_bK R i hin).2
    have g4 := r_b4 R i hin
    have g9 := r_b9 R i hin
    have g2 := r_b2 R i hin
    rw [iter_1]
    by_cases c1 : gI M 18 i = 0
    · by_cases c2 : h < gI M 25 i
      · have hm : mArr M i = M := by unfold mArr; rw [if_neg]; rw [hh]; exact fun z => z.2.1 c2
        rw [hm]
        obtain ⟨a', R', h'⟩ := ih (i + 1) a M R (by omega) hh
        refine ⟨a', R', fun M0 Post hp => ?_⟩
        obtain ⟨g, hg9⟩ := h' M0 Post hp
        refine ⟨g + 1, ?_⟩
        rw [← nI_1] at hg9
        simp (disch := first | (with_reducible exact rfl) | assumption | omega | decide | (simp only [al_14, al_15, al_16, al_17, al_18, al_19, al_20, al_21, al_22, al_23, al_24, al_m0, al_m1, al_m2, al_m3, al_m4, al_m5, al_m6, al_m7, al_m8, al_m9, al_m10, al_m11, al_m12, al_m13, al_m15, al_m16, al_m17, al_m18, al_m19, al_m20, al_m21, al_m22, al_m23, al_m24, al_m25, al_m26, al_m28, al_m29, al_m30, al_m31, al_m32, al_m33, al_m34, al_m35, al_m36, al_m37, al_m38, al_m39, al_m40, al_m42, al_m43, al_m44, al_m45, al_m46, al_m48, al_m49, al_m50, al_m51, al_m52, al_m53, al_m60, al_m61]; omega) | (simp (disch := omega) only [hg, c, r_ps0 R, r_b0 R, h60, g4, g9, c1, c2, sP_put, mp_0, mp_1, mp_2, mp_3, mp_4, mp_5, mp_6, mp_7, mp_8, mp_9, mp_10, mp_11, mp_12, mp_13, mp_15, mp_16, mp_17, mp_18, mp_19, mp_20, mp_21, mp_22, mp_23, mp_24, mp_25, mp_26, mp_28, mp_29, mp_30, mp_31, mp_32, mp_33, mp_34, mp_35, mp_36, mp_37, mp_38, mp_39, mp_40, mp_42, mp_43, mp_44, mp_45, mp_46, mp_48, mp_49, mp_50, mp_51, mp_52, mp_53, mp_60, mp_61, sP_wI, sP_wP, sP_wL, true_and, and_true, tk_inj, false_and, and_false, if_true, if_false, tk_ne9]; rfl) | (simp (disch := omega) only [hg, c, r_ps0 R, r_b0 R, h60, g4, g9, c1, c2, sI_putc, wI_putc, sI_put11, sI_put13, sI_putm, sL_put12, wI_put11, wI_put13, wI_putm, wL_put12, sP_put, sX_put, wP_put, sI_put_0, sI_put_1, sI_put_2, sI_put_3, sI_put_4, sI_put_5, sI_put_6, sI_put_7, sI_put_8, sI_put_9, sI_put_14, sI_put_15, sI_put_16, sI_put_17, sI_put_18, sI_put_19, sI_put_20, sI_put_21, sI_put_22, sI_put_23, sI_put_24, wI_put_0, wI_put_1, wI_put_2, wI_put_3, wI_put_4, wI_put_5, wI_put_6, wI_put_7, wI_put_8, wI_put_9, wI_put_14, wI_put_15, wI_put_16, wI_put_17, wI_put_18, wI_put_19, wI_put_20, wI_put_21, wI_put_22, wI_put_23, wI_put_24, wN_put_0, wN_put_1, wN_put_2, wN_put_3, wN_put_4, wN_put_5, wN_put_6, wN_put_7, wN_put_8, wN_put_9, wN_put_14, wN_put_15, wN_put_16, wN_put_17, wN_put_18, wN_put_19, wN_put_20, wN_put_21, wN_put_22, wN_put_23, wN_put_24, sL_put_0, sL_put_24, wL_put_0, wL_put_24, tm_0, tm_1, tm_2, tm_3, tm_4, tm_5, tm_6, tm_7, tm_8, tm_9, tm_10, tm_11, tm_12, tm_13, tm_14, tm_15, tm_16, tm_17, tm_18, tm_19, tm_20, tm_21, tm_22, tm_23, tm_24, at_11, at_12, at_13, at_14, at_15, at_16, at_17, at_18, at_19, at_20, at_21, at_22, at_23, at_24, al_14, al_15, al_16, al_17, al_18, al_19, al_20, al_21, al_22, al_23, al_24, al_m0, al_m1, al_m2, al_m3, al_m4, al_m5, al_m6, al_m7, al_m8, al_m9, al_m10, al_m11, al_m12, al_m13, al_m15, al_m16, al_m17, al_m18, al_m19, al_m20, al_m21, al_m22, al_m23, al_m24, al_m25, al_m26, al_m28, al_m29, al_m30, al_m31, al_m32, al_m33, al_m34, al_m35, al_m36, al_m37, al_m38, al_m39, al_m40, al_m42, al_m43, al_m44, al_m45, al_m46, al_m48, al_m49, al_m50, al_m51, al_m52, al_m53, al_m60, al_m61, mp_0, mp_1, mp_2, mp_3, mp_4, mp_5, mp_6, mp_7, mp_8, mp_9, mp_10, mp_11, mp_12, mp_13, mp_15, mp_16, mp_17, mp_18, mp_19, mp_20, mp_21, mp_22, mp_23, mp_24, mp_25, mp_26, mp_28, mp_29, mp_30, mp_31, mp_32, mp_33, mp_34, mp_35, mp_36, mp_37, mp_38, mp_39, mp_40, mp_42, mp_43, mp_44, mp_45, mp_46, mp_48, mp_49, mp_50, mp_51, mp_52, mp_53, mp_60, mp_61, row_14, row_15, row_16, row_17, row_18, row_19, row_20, ar_11, ar_12, ar_13, ar_14, ar_15, ar_16, ar_17, ar_18, ar_19, ar_20, ar_21, ar_22, ar_23, ar_24, cs_14, cs_15, cs_16, cs_17, cs_18, cs_19, cs_20, ex_ix, ex_0, b01_0, b01_1, KI_i, KI_x, KJ_j, KJ_x, KV_v, KV_x, KO_t, KO_n, KO_x, KO_rf, n4, n3, nI_add, nI_1, nI_leI, nI_ltI, nI_eq, gI_uI, gI_uL, gL_uI, gL_uL, sI_wI, sI_wP, sI_wL, sP_wI, sP_wP, sP_wL, sL_wI, sL_wP, sL_wL, forall_eq, exists_eq_left, exists_eq_left', Option.some.injEq, true_and, and_true, Nat.reduceAdd, Nat.reduceMul, Nat.reduceEqDiff, eq_self, tk_inj, and_self, false_and, and_false, if_true, if_false, forall_const, true_implies, ite_true, ite_false, reduceIte, reduceCtorEq, tk_ne9, i1e, i2e, i3e, i1_0, i2_0, i3_0, false_implies, false_or, or_false, true_or, or_true, String.reduceEq, Nat.reduceLT, Int32.le_refl, not_true_eq_false, not_false_eq_true, Nat.zero_lt_one, Bool.false_eq_true, Bool.true_eq_false]; done) | fail "no") only [↓wp_X8_letCome_2, ↓wp_X8_letCome_56, ↓dO1, ↓dO0, ↓KI_i, ↓KI_x, ↓KJ_j, ↓KJ_x, ↓KV_v, ↓KV_x, ↓KO_t, ↓KO_n, ↓KO_x, ↓KO_rf, ↓dT, ↓dAt, ↓dX, ↓dX0, ↓dE, ↓dS, ↓dR, ↓dAr, ↓dCs, ↓dB, ↓forall_eq, ↓dI1, ↓dI2, ↓dI3, ↓dI4, ↓dF1, ↓dF2, ↓wI_putm, ↓wI_put11, ↓wI_put13, ↓wL_put12, ↓wP_put, ↓wI_put_0, ↓wI_put_1, ↓wI_put_2, ↓wI_put_3, ↓wI_put_4, ↓wI_put_5, ↓wI_put_6, ↓wI_put_7, ↓wI_put_8, ↓wI_put_9, ↓wI_put_14, ↓wI_put_15, ↓wI_put_16, ↓wI_put_17, ↓wI_put_18, ↓wI_put_19, ↓wI_put_20, ↓wI_put_21, ↓wI_put_22, ↓wI_put_23, ↓wI_put_24, ↓wN_put_0, ↓wN_put_1, ↓wN_put_2, ↓wN_put_3, ↓wN_put_4, ↓wN_put_5, ↓wN_put_6, ↓wN_put_7, ↓wN_put_8, ↓wN_put_9, ↓wN_put_14, ↓wN_put_15, ↓wN_put_16, ↓wN_put_17, ↓wN_put_18, ↓wN_put_19, ↓wN_put_20, ↓wN_put_21, ↓wN_put_22, ↓wN_put_23, ↓wN_put_24, ↓wL_put_0, ↓wL_put_24]
        exact hg9
      · by_cases c3 : gI M 11 (kd M i) < mInSt M (nI (kd M i)) (nB M) + gI M 16 i
        · have hm : mArr M i = M := by unfold mArr; rw [if_neg]; exact fun z => z.2.2 c3
          have d3 : decide (¬ gI M 11 (kd M i) < mInSt M (nI (kd M i)) (nB M) + gI M 16 i) = false := decide_eq_false (fun z => z c3)
          rw [hm]
          obtain ⟨a', R', h'⟩ := ih (i + 1) a M R (by omega) hh
          refine ⟨a', R', fun M0 Post hp => ?_⟩
          obtain ⟨g, hg9⟩ := h' M0 Post hp
          refine ⟨g + 1, ?_⟩
          rw [← nI_1] at hg9
          have g3 : sI (put a M0) (tk 0 i) 2 = gI M 16 i := by rw [sI_put_0]; exact g2
          simp (disch := first | (with_reducible exact rfl) | assumption | omega | decide | (simp only [al_14, al_15, al_16, al_17, al_18, al_19, al_20, al_21, al_22, al_23, al_24, al_m0, al_m1, al_m2, al_m3, al_m4, al_m5, al_m6, al_m7, al_m8, al_m9, al_m10, al_m11, al_m12, al_m13, al_m15, al_m16, al_m17, al_m18, al_m19, al_m20, al_m21, al_m22, al_m23, al_m24, al_m25, al_m26, al_m28, al_m29, al_m30, al_m31, al_m32, al_m33, al_m34, al_m35, al_m36, al_m37, al_m38, al_m39, al_m40, al_m42, al_m43, al_m44, al_m45, al_m46, al_m48, al_m49, al_m50, al_m51, al_m52, al_m53, al_m60, al_m61]; omega) | (simp (disch := omega) only [hg, c, r_ps0 R, r_b0 R, h60, g4, g9, c1, c2, r_bk R, sP_put, mp_0, mp_1, mp_2, mp_3, mp_4, mp_5, mp_6, mp_7, mp_8, mp_9, mp_10, mp_11, mp_12, mp_13, mp_15, mp_16, mp_17, mp_18, mp_19, mp_20, mp_21, mp_22, mp_23, mp_24, mp_25, mp_26, mp_28, mp_29, mp_30, mp_31, mp_32, mp_33, mp_34, mp_35, mp_36, mp_37, mp_38, mp_39, mp_40, mp_42, mp_43, mp_44, mp_45, mp_46, mp_48, mp_49, mp_50, mp_51, mp_52, mp_53, mp_60, mp_61, sP_wI, sP_wP, sP_wL, true_and, and_true, tk_inj, false_and, and_false, if_true, if_false, tk_ne9]; rfl) | (simp (disch := omega) only [hg, c, r_ps0 R, r_b0 R, h60, g4, g9, c1, c2, r_bk R, sI_putc, wI_putc, sI_put11, sI_put13, sI_putm, sL_put12, wI_put11, wI_put13, wI_putm, wL_put12, sP_put, sX_put, wP_put, sI_put_0, sI_put_1, sI_put_2, sI_put_3, sI_put_4, sI_put_5, sI_put_6, sI_put_7, sI_put_8, sI_put_9, sI_put_14, sI_put_15, sI_put_16, sI_put_17, sI_put_18, sI_put_19, sI_put_20, sI_put_21, sI_put_22, sI_put_23, sI_put_24, wI_put_0, wI_put_1, wI_put_2, wI_put_3, wI_put_4, wI_put_5, wI_put_6, wI_put_7, wI_put_8, wI_put_9, wI_put_14, wI_put_15, wI_put_16, wI_put_17, wI_put_18, wI_put_19, wI_put_20, wI_put_21, wI_put_22, wI_put_23, wI_put_24, wN_put_0, wN_put_1, wN_put_2, wN_put_3, wN_put_4, wN_put_5, wN_put_6, wN_put_7, wN_put_8, wN_put_9, wN_put_14, wN_put_15, wN_put_16, wN_put_17, wN_put_18, wN_put_19, wN_put_20, wN_put_21, wN_put_22, wN_put_23, wN_put_24, sL_put_0, sL_put_24, wL_put_0, wL_put_24, tm_0, tm_1, tm_2, tm_3, tm_4, tm_5, tm_6, tm_7, tm_8, tm_9, tm_10, tm_11, tm_12, tm_13, tm_14, tm_15, tm_16, tm_17, tm_18, tm_19, tm_20, tm_21, tm_22, tm_23, tm_24, at_11, at_12, at_13, at_14, at_15, at_16, at_17, at_18, at_19, at_20, at_21, at_22, at_23, at_24, al_14, al_15, al_16, al_17, al_18, al_19, al_20, al_21, al_22, al_23, al_24, al_m0, al_m1, al_m2, al_m3, al_m4, al_m5, al_m6, al_m7, al_m8, al_m9, al_m10, al_m11, al_m12, al_m13, al_m15, al_m16, al_m17, al_m18, al_m19, al_m20, al_m21, al_m22, al_m23, al_m24, al_m25, al_m26, al_m28, al_m29, al_m30, al_m31, al_m32, al_m33, al_m34, al_m35, al_m36, al_m37, al_m38, al_m39, al_m40, al_m42, al_m43, al_m44, al_m45, al_m46, al_m48, al_m49, al_m50, al_m51, al_m52, al_m53, al_m60, al_m61, mp_0, mp_1, mp_2, mp_3, mp_4, mp_5, mp_6, mp_7, mp_8, mp_9, mp_10, mp_11, mp_12, mp_13, mp_15, mp_16, mp_17, mp_18, mp_19, mp_20, mp_21, mp_22, mp_23, mp_24, mp_25, mp_26, mp_28, mp_29, mp_30, mp_31, mp_32, mp_33, mp_34, mp_35, mp_36, mp_37, mp_38, mp_39, mp_40, mp_42, mp_43, mp_44, mp_45, mp_46, mp_48, mp_49, mp_50, mp_51, mp_52, mp_53, mp_60, mp_61, row_14, row_15, row_16, row_17, row_18, row_19, row_20, ar_11, ar_12, ar_13, ar_14, ar_15, ar_16, ar_17, ar_18, ar_19, ar_20, ar_21, ar_22, ar_23, ar_24, cs_14, cs_15, cs_16, cs_17, cs_18, cs_19, cs_20, ex_ix, ex_0, b01_0, b01_1, KI_i, KI_x, KJ_j, KJ_x, KV_v, KV_x, KO_t, KO_n, KO_x, KO_rf, n4, n3, nI_add, nI_1, nI_leI, nI_ltI, nI_eq, gI_uI, gI_uL, gL_uI, gL_uL, sI_wI, sI_wP, sI_wL, sP_wI, sP_wP, sP_wL, sL_wI, sL_wP, sL_wL, forall_eq, exists_eq_left, exists_eq_left', Option.some.injEq, true_and, and_true, Nat.reduceAdd, Nat.reduceMul, Nat.reduceEqDiff, eq_self, tk_inj, and_self, false_and, and_false, if_true, if_false, forall_const, true_implies, ite_true, ite_false, reduceIte, reduceCtorEq, tk_ne9, i1e, i2e, i3e, i1_0, i2_0, i3_0, false_implies, false_or, or_false, true_or, or_true, String.reduceEq, Nat.reduceLT, Int32.le_refl, not_true_eq_false, not_false_eq_true, Nat.zero_lt_one, Bool.false_eq_true, Bool.true_eq_false]; done) | fail "no") only [↓wp_X8_letCome_2, ↓wp_X8_letCome_56, ↓g3, ↓sp_storeRoom R hK, ↓d3, ↓bi_f, ↓dO1, ↓dO0, ↓KI_i, ↓KI_x, ↓KJ_j, ↓KJ_x, ↓KV_v, ↓KV_x, ↓KO_t, ↓KO_n, ↓KO_x, ↓KO_rf, ↓dT, ↓dAt, ↓dX, ↓dX0, ↓dE, ↓dS, ↓dR, ↓dAr, ↓dCs, ↓dB, ↓forall_eq, ↓dI1, ↓dI2, ↓dI3, ↓dI4, ↓dF1, ↓dF2, ↓wI_putm, ↓wI_put11, ↓wI_put13, ↓wL_put12, ↓wP_put, ↓wI_put_0, ↓wI_put_1, ↓wI_put_2, ↓wI_put_3, ↓wI_put_4, ↓wI_put_5, ↓wI_put_6, ↓wI_put_7, ↓wI_put_8, ↓wI_put_9, ↓wI_put_14, ↓wI_put_15, ↓wI_put_16, ↓wI_put_17, ↓wI_put_18, ↓wI_put_19, ↓wI_put_20, ↓wI_put_21, ↓wI_put_22, ↓wI_put_23, ↓wI_put_24, ↓wN_put_0, ↓wN_put_1, ↓wN_put_2, ↓wN_put_3, ↓wN_put_4, ↓wN_put_5, ↓wN_put_6, ↓wN_put_7, ↓wN_put_8, ↓wN_put_9, ↓wN_put_14, ↓wN_put_15, ↓wN_put_16, ↓wN_put_17, ↓wN_put_18, ↓wN_put_19, ↓wN_put_20, ↓wN_put_21, ↓wN_put_22, ↓wN_put_23, ↓wN_put_24, ↓wL_put_0, ↓wL_put_24]
          exact hg9
        · have hm : mArr M i = uI (uI M 25 i h) 18 i 3 := by unfold mArr; rw [if_pos, hh]; rw [hh]; exact ⟨c1, c2, c3⟩
          have d3 : decide (¬ gI M 11 (kd M i) < mInSt M (nI (kd M i)) (nB M) + gI M 16 i) = true := decide_eq_true c3
          rw [hm]
          have R1 := rel_late R i hin h
          have R2 := rel_sti R1 i (by rw [nB_u _ _ _ _ (by decide)]; exact hin) (by rw [gI_ne (by decide), c1]; decide) (by
            rw [pc_u _ _ _ _ _ (by decide)]
            intro z
            have := (r_bZ R i hin).mpr z
            rw [c1] at this
            exact absurd this (by decide)) (by
            intro m hm9 z
            rw [nM_u _ _ _ _ (by decide)] at hm9
            rw [gI_ne (by decide)] at z
            rcases r_mmb R m hm9 with y | ⟨j, p, y1, y2, y3, y4⟩
            · exact nI_ne1 (by omega) (z.symm.trans y.1)
            · have : i = j := (nI_eq (by omega) (by omega)).mp (z.symm.trans y1)
              subst this
              rw [c1] at y3
              exact absurd y3 (by decide))
          rw [kd_u _ _ _ _ _ (by decide)] at R2
          obtain ⟨a', R', h'⟩ := ih (i + 1) _ _ R2 (by rw [nB_u _ _ _ _ (by decide), nB_u _ _ _ _ (by decide)]; omega) (by rw [gI_ne (by decide), gI_ne (by decide)]; exact hh)
          refine ⟨a', R', fun M0 Post hp => ?_⟩
          obtain ⟨g, hg9⟩ := h' M0 Post hp
          refine ⟨g + 1, ?_⟩
          have g3 : sI (put a M0) (tk 0 i) 2 = gI M 16 i := by rw [sI_put_0]; exact g2
          simp (disch := first | (with_reducible exact rfl) | assumption | omega | decide | (simp only [al_14, al_15, al_16, al_17, al_18, al_19, al_20, al_21, al_22, al_23, al_24, al_m0, al_m1, al_m2, al_m3, al_m4, al_m5, al_m6, al_m7, al_m8, al_m9, al_m10, al_m11, al_m12, al_m13, al_m15, al_m16, al_m17, al_m18, al_m19, al_m20, al_m21, al_m22, al_m23, al_m24, al_m25, al_m26, al_m28, al_m29, al_m30, al_m31, al_m32, al_m33, al_m34, al_m35, al_m36, al_m37, al_m38, al_m39, al_m40, al_m42, al_m43, al_m44, al_m45, al_m46, al_m48, al_m49, al_m50, al_m51, al_m52, al_m53, al_m60, al_m61]; omega) | (simp (disch := omega) only [hg, c, r_ps0 R, r_b0 R, h60, g4, g9, c1, c2, r_bk R, sP_put, mp_0, mp_1, mp_2, mp_3, mp_4, mp_5, mp_6, mp_7, mp_8, mp_9, mp_10, mp_11, mp_12, mp_13, mp_15, mp_16, mp_17, mp_18, mp_19, mp_20, mp_21, mp_22, mp_23, mp_24, mp_25, mp_26, mp_28, mp_29, mp_30, mp_31, mp_32, mp_33, mp_34, mp_35, mp_36, mp_37, mp_38, mp_39, mp_40, mp_42, mp_43, mp_44, mp_45, mp_46, mp_48, mp_49, mp_50, mp_51, mp_52, mp_53, mp_60, mp_61, sP_wI, sP_wP, sP_wL, true_and, and_true, tk_inj, false_and, and_false, if_true, if_false, tk_ne9]; rfl) | (simp (disch := omega) only [hg, c, r_ps0 R, r_b0 R, h60, g4, g9, c1, c2, r_bk R, sI_putc, wI_putc, sI_put11, sI_put13, sI_putm, sL_put12, wI_put11, wI_put13, wI_putm, wL_put12, sP_put, sX_put, wP_put, sI_put_0, sI_put_1, sI_put_2, sI_put_3, sI_put_4, sI_put_5, sI_put_6, sI_put_7, sI_put_8, sI_put_9, sI_put_14, sI_put_15, sI_put_16, sI_put_17, sI_put_18, sI_put_19, sI_put_20, sI_put_21, sI_put_22, sI_put_23, sI_put_24, wI_put_0, wI_put_1, wI_put_2, wI_put_3, wI_put_4, wI_put_5, wI_put_6, wI_put_7, wI_put_8, wI_put_9, wI_put_14, wI_put_15, wI_put_16, wI_put_17, wI_put_18, wI_put_19, wI_put_20, wI_put_21, wI_put_22, wI_put_23, wI_put_24, wN_put_0, wN_put_1, wN_put_2, wN_put_3, wN_put_4, wN_put_5, wN_put_6, wN_put_7, wN_put_8, wN_put_9, wN_put_14, wN_put_15, wN_put_16, wN_put_17, wN_put_18, wN_put_19, wN_put_20, wN_put_21, wN_put_22, wN_put_23, wN_put_24, sL_put_0, sL_put_24, wL_put_0, wL_put_24, tm_0, tm_1, tm_2, tm_3, tm_4, tm_5, tm_6, tm_7, tm_8, tm_9, tm_10, tm_11, tm_12, tm_13, tm_14, tm_15, tm_16, tm_17, tm_18, tm_19, tm_20, tm_21, tm_22, tm_23, tm_24, at_11, at_12, at_13, at_14, at_15, at_16, at_17, at_18, at_19, at_20, at_21, at_22, at_23, at_24, al_14, al_15, al_16, al_17, al_18, al_19, al_20, al_21, al_22, al_23, al_24, al_m0, al_m1, al_m2, al_m3, al_m4, al_m5, al_m6, al_m7, al_m8, al_m9, al_m10, al_m11, al_m12, al_m13, al_m15, al_m16, al_m17, al_m18, al_m19, al_m20, al_m21, al_m22, al_m23, al_m24, al_m25, al_m26, al_m28, al_m29, al_m30, al_m31, al_m32, al_m33, al_m34, al_m35, al_m36, al_m37, al_m38, al_m39, al_m40, al_m42, al_m43, al_m44, al_m45, al_m46, al_m48, al_m49, al_m50, al_m51, al_m52, al_m53, al_m60, al_m61, mp_0, mp_1, mp_2, mp_3, mp_4, mp_5, mp_6, mp_7, mp_8, mp_9, mp_10, mp_11, mp_12, mp_13, mp_15, mp_16, mp_17, mp_18, mp_19, mp_20, mp_21, mp_22, mp_23, mp_24, mp_25, mp_26, mp_28, mp_29, mp_30, mp_31, mp_32, mp_33, mp_34, mp_35, mp_36, mp_37, mp_38, mp_39, mp_40, mp_42, mp_43, mp_44, mp_45, mp_46, mp_48, mp_49, mp_50, mp_51, mp_52, mp_53, mp_60, mp_61, row_14, row_15, row_16, row_17, row_18, row_19, row_20, ar_11, ar_12, ar_13, ar_14, ar_15, ar_16, ar_17, ar_18, ar_19, ar_20, ar_21, ar_22, ar_23, ar_24, cs_14, cs_15, cs_16, cs_17, cs_18, cs_19, cs_20, ex_ix, ex_0, b01_0, b01_1, KI_i, KI_x, KJ_j, KJ_x, KV_v, KV_x, KO_t, KO_n, KO_x, KO_rf, n4, n3, nI_add, nI_1, nI_leI, nI_ltI, nI_eq, gI_uI, gI_uL, gL_uI, gL_uL, sI_wI, sI_wP, sI_wL, sP_wI, sP_wP, sP_wL, sL_wI, sL_wP, sL_wL, forall_eq, exists_eq_left, exists_eq_left', Option.some.injEq, true_and, and_true, Nat.reduceAdd, Nat.reduceMul, Nat.reduceEqDiff, eq_self, tk_inj, and_self, false_and, and_false, if_true, if_false, forall_const, true_implies, ite_true, ite_false, reduceIte, reduceCtorEq, tk_ne9, i1e, i2e, i3e, i1_0, i2_0, i3_0, false_implies, false_or, or_false, true_or, or_true, String.reduceEq, Nat.reduceLT, Int32.le_refl, not_true_eq_false, not_false_eq_true, Nat.zero_lt_one, Bool.false_eq_true, Bool.true_eq_false]; done) | fail "no") only [↓wp_X8_letCome_2, ↓wp_X8_letCome_56, ↓wp_X8_putInStore, ↓g3, ↓sp_storeRoom R hK, ↓d3, ↓bi_t, ↓dO1, ↓dO0, ↓KI_i, ↓KI_x, ↓KJ_j, ↓KJ_x, ↓KV_v, ↓KV_x, ↓KO_t, ↓KO_n, ↓KO_x, ↓KO_rf, ↓dT, ↓dAt, ↓dX, ↓dX0, ↓dE, ↓dS, ↓dR, ↓dAr, ↓dCs, ↓dB, ↓forall_eq, ↓dI1, ↓dI2, ↓dI3, ↓dI4, ↓dF1, ↓dF2, ↓wI_putm, ↓wI_put11, ↓wI_put13, ↓wL_put12, ↓wP_put, ↓wI_put_0, ↓wI_put_1, ↓wI_put_2, ↓wI_put_3, ↓wI_put_4, ↓wI_put_5, ↓wI_put_6, ↓wI_put_7, ↓wI_put_8, ↓wI_put_9, ↓wI_put_14, ↓wI_put_15, ↓wI_put_16, ↓wI_put_17, ↓wI_put_18, ↓wI_put_19, ↓wI_put_20, ↓wI_put_21, ↓wI_put_22, ↓wI_put_23, ↓wI_put_24, ↓wN_put_0, ↓wN_put_1, ↓wN_put_2, ↓wN_put_3, ↓wN_put_4, ↓wN_put_5, ↓wN_put_6, ↓wN_put_7, ↓wN_put_8, ↓wN_put_9, ↓wN_put_14, ↓wN_put_15, ↓wN_put_16, ↓wN_put_17, ↓wN_put_18, ↓wN_put_19, ↓wN_put_20, ↓wN_put_21, ↓wN_put_22, ↓wN_put_23, ↓wN_put_24, ↓wL_put_0, ↓wL_put_24]
          try simp (disch := omega) only [sI_putc, wI_putc, sI_put11, sI_put13, sI_putm, sL_put12, wI_put11, wI_put13, wI_putm, wL_put12, sP_put, sX_put, wP_put, sI_put_0, sI_put_1, sI_put_2, sI_put_3, sI_put_4, sI_put_5, sI_put_6, sI_put_7, sI_put_8, sI_put_9, sI_put_14, sI_put_15, sI_put_16, sI_put_17, sI_put_18, sI_put_19, sI_put_20, sI_put_21, sI_put_22, sI_put_23, sI_put_24, wI_put_0, wI_put_1, wI_put_2, wI_put_3, wI_put_4, wI_put_5, wI_put_6, wI_put_7, wI_put_8, wI_put_9, wI_put_14, wI_put_15, wI_put_16, wI_put_17, wI_put_18, wI_put_19, wI_put_20, wI_put_21, wI_put_22, wI_put_23, wI_put_24, wN_put_0, wN_put_1, wN_put_2, wN_put_3, wN_put_4, wN_put_5, wN_put_6, wN_put_7, wN_put_8, wN_put_9, wN_put_14, wN_put_15, wN_put_16, wN_put_17, wN_put_18, wN_put_19, wN_put_20, wN_put_21, wN_put_22, wN_put_23, wN_put_24, sL_put_0, sL_put_24, wL_put_0, wL_put_24, tm_0, tm_1, tm_2, tm_3, tm_4, tm_5, tm_6, tm_7, tm_8, tm_9, tm_10, tm_11, tm_12, tm_13, tm_14, tm_15, tm_16, tm_17, tm_18, tm_19, tm_20, tm_21, tm_22, tm_23, tm_24, at_11, at_12, at_13, at_14, at_15, at_16, at_17, at_18, at_19, at_20, at_21, at_22, at_23, at_24, al_14, al_15, al_16, al_17, al_18, al_19, al_20, al_21, al_22, al_23, al_24, al_m0, al_m1, al_m2, al_m3, al_m4, al_m5, al_m6, al_m7, al_m8, al_m9, al_m10, al_m11, al_m12, al_m13, al_m15, al_m16, al_m17, al_m18, al_m19, al_m20, al_m21, al_m22, al_m23, al_m24, al_m25, al_m26, al_m28, al_m29, al_m30, al_m31, al_m32, al_m33, al_m34, al_m35, al_m36, al_m37, al_m38, al_m39, al_m40, al_m42, al_m43, al_m44, al_m45, al_m46, al_m48, al_m49, al_m50, al_m51, al_m52, al_m53, al_m60, al_m61, mp_0, mp_1, mp_2, mp_3, mp_4, mp_5, mp_6, mp_7, mp_8, mp_9, mp_10, mp_11, mp_12, mp_13, mp_15, mp_16, mp_17, mp_18, mp_19, mp_20, mp_21, mp_22, mp_23, mp_24, mp_25, mp_26, mp_28, mp_29, mp_30, mp_31, mp_32, mp_33, mp_34, mp_35, mp_36, mp_37, mp_38, mp_39, mp_40, mp_42, mp_43, mp_44, mp_45, mp_46, mp_48, mp_49, mp_50, mp_51, mp_52, mp_53, mp_60, mp_61, row_14, row_15, row_16, row_17, row_18, row_19, row_20, ar_11, ar_12, ar_13, ar_14, ar_15, ar_16, ar_17, ar_18, ar_19, ar_20, ar_21, ar_22, ar_23, ar_24, cs_14, cs_15, cs_16, cs_17, cs_18, cs_19, cs_20, ex_ix, ex_0, b01_0, b01_1, KI_i, KI_x, KJ_j, KJ_x, KV_v, KV_x, KO_t, KO_n, KO_x, KO_rf, n4, n3, nI_add, nI_1, nI_leI, nI_ltI, nI_eq, gI_uI, gI_uL, gL_uI, gL_uL, sI_wI, sI_wP, sI_wL, sP_wI, sP_wP, sP_wL, sL_wI, sL_wP, sL_wL, forall_eq, exists_eq_left, exists_eq_left', Option.some.injEq, true_and, and_true, Nat.reduceAdd, Nat.reduceMul, Nat.reduceEqDiff, eq_self, tk_inj, and_self, false_and, and_false, if_true, if_false, forall_const, true_implies, ite_true, ite_false, reduceIte, reduceCtorEq, tk_ne9, i1e, i2e, i3e, i1_0, i2_0, i3_0, false_implies, false_or, or_false, true_or, or_true, String.reduceEq, Nat.reduceLT, Int32.le_refl, not_true_eq_false, not_false_eq_true, Nat.zero_lt_one, Bool.false_eq_true, Bool.true_eq_false]
          try simp (disch := omega) only [sI_putc, wI_putc, sI_put11, sI_put13, sI_putm, sL_put12, wI_put11, wI_put13, wI_putm, wL_put12, sP_put, sX_put, wP_put, sI_put_0, sI_put_1, sI_put_2, sI_put_3, sI_put_4, sI_put_5, sI_put_6, sI_put_7, sI_put_8, sI_put_9, sI_put_14, sI_put_15, sI_put_16, sI_put_17, sI_put_18, sI_put_19, sI_put_20, sI_put_21, sI_put_22, sI_put_23, sI_put_24, wI_put_0, wI_put_1, wI_put_2, wI_put_3, wI_put_4, wI_put_5, wI_put_6, wI_put_7, wI_put_8, wI_put_9, wI_put_14, wI_put_15, wI_put_16, wI_put_17, wI_put_18, wI_put_19, wI_put_20, wI_put_21, wI_put_22, wI_put_23, wI_put_24, wN_put_0, wN_put_1, wN_put_2, wN_put_3, wN_put_4, wN_put_5, wN_put_6, wN_put_7, wN_put_8, wN_put_9, wN_put_14, wN_put_15, wN_put_16, wN_put_17, wN_put_18, wN_put_19, wN_put_20, wN_put_21, wN_put_22, wN_put_23, wN_put_24, sL_put_0, sL_put_24, wL_put_0, wL_put_24, tm_0, tm_1, tm_2, tm_3, tm_4, tm_5, tm_6, tm_7, tm_8, tm_9, tm_10, tm_11, tm_12, tm_13, tm_14, tm_15, tm_16, tm_17, tm_18, tm_19, tm_20, tm_21, tm_22, tm_23, tm_24, at_11, at_12, at_13, at_14, at_15, at_16, at_17, at_18, at_19, at_20, at_21, at_22, at_23, at_24, al_14, al_15, al_16, al_17, al_18, al_19, al_20, al_21, al_22, al_23, al_24, al_m0, al_m1, al_m2, al_m3, al_m4, al_m5, al_m6, al_m7, al_m8, al_m9, al_m10, al_m11, al_m12, al_m13, al_m15, al_m16, al_m17, al_m18, al_m19, al_m20, al_m21, al_m22, al_m23, al_m24, al_m25, al_m26, al_m28, al_m29, al_m30, al_m31, al_m32, al_m33, al_m34, al_m35, al_m36, al_m37, al_m38, al_m39, al_m40, al_m42, al_m43, al_m44, al_m45, al_m46, al_m48, al_m49, al_m50, al_m51, al_m52, al_m53, al_m60, al_m61, mp_0, mp_1, mp_2, mp_3, mp_4, mp_5, mp_6, mp_7, mp_8, mp_9, mp_10, mp_11, mp_12, mp_13, mp_15, mp_16, mp_17, mp_18, mp_19, mp_20, mp_21, mp_22, mp_23, mp_24, mp_25, mp_26, mp_28, mp_29, mp_30, mp_31, mp_32, mp_33, mp_34, mp_35, mp_36, mp_37, mp_38, mp_39, mp_40, mp_42, mp_43, mp_44, mp_45, mp_46, mp_48, mp_49, mp_50, mp_51, mp_52, mp_53, mp_60, mp_61, row_14, row_15, row_16, row_17, row_18, row_19, row_20, ar_11, ar_12, ar_13, ar_14, ar_15, ar_16, ar_17, ar_18, ar_19, ar_20, ar_21, ar_22, ar_23, ar_24, cs_14, cs_15, cs_16, cs_17, cs_18, cs_19, cs_20, ex_ix, ex_0, b01_0, b01_1, KI_i, KI_x, KJ_j, KJ_x, KV_v, KV_x, KO_t, KO_n, KO_x, KO_rf, n4, n3, nI_add, nI_1, nI_leI, nI_ltI, nI_eq, gI_uI, gI_uL, gL_uI, gL_uL, sI_wI, sI_wP, sI_wL, sP_wI, sP_wP, sP_wL, sL_wI, sL_wP, sL_wL, forall_eq, exists_eq_left, exists_eq_left', Option.some.injEq, true_and, and_true, Nat.reduceAdd, Nat.reduceMul, Nat.reduceEqDiff, eq_self, tk_inj, and_self, false_and, and_false, if_true, if_false, forall_const, true_implies, ite_true, ite_false, reduceIte, reduceCtorEq, tk_ne9, i1e, i2e, i3e, i1_0, i2_0, i3_0, false_implies, false_or, or_false, true_or, or_true, String.reduceEq, Nat.reduceLT, Int32.le_refl, not_true_eq_false, not_false_eq_true, Nat.zero_lt_one, Bool.false_eq_true, Bool.true_eq_false] at hg9
          first | exact hg9 | exact wput_eq (W := fun z => wp_X8_letCome_2 g (tk 8 0) h (nI (i + 1)) z Post) hg9 (by refine Sg_ext (fun t9 k9 => ?_) (fun t9 k9 => ?_) (fun t9 k9 => ?_) (fun t9 => ?_) <;> simp only [sI_wI, sI_wP, sI_wL, sP_wI, sP_wP, sP_wL, sL_wI, sL_wP, sL_wL, sX_wI, sX_wP, sX_wL, tk] <;> (repeat' split) <;> first | rfl | omega | (exfalso; omega))
    · have hm : mArr M i = M := by unfold mArr; rw [if_neg]; exact fun z => c1 z.1
      rw [hm]
      obtain ⟨a', R', h'⟩ := ih (i + 1) a M R (by omega) hh
      refine ⟨a', R', fun M0 Post hp => ?_⟩
      obtain ⟨g, hg9⟩ := h' M0 Post hp
      refine ⟨g + 1, ?_⟩
      rw [← nI_1] at hg9
      simp (disch := first | (with_reducible exact rfl) | assumption | omega | decide | (simp only [al_14, al_15, al_16, al_17, al_18, al_19, al_20, al_21, al_22, al_23, al_24, al_m0, al_m1, al_m2, al_m3, al_m4, al_m5, al_m6, al_m7, al_m8, al_m9, al_m10, al_m11, al_m12, al_m13, al_m15, al_m16, al_m17, al_m18, al_m19, al_m20, al_m21, al_m22, al_m23, al_m24, al_m25, al_m26, al_m28, al_m29, al_m30, al_m31, al_m32, al_m33, al_m34, al_m35, al_m36, al_m37, al_m38, al_m39, al_m40, al_m42, al_m43, al_m44, al_m45, al_m46, al_m48, al_m49, al_m50, al_m51, al_m52, al_m53, al_m60, al_m61]; omega) | (simp (disch := omega) only [hg, c, r_ps0 R, r_b0 R, h60, g4, g9, c1, sP_put, mp_0, mp_1, mp_2, mp_3, mp_4, mp_5, mp_6, mp_7, mp_8, mp_9, mp_10, mp_11, mp_12, mp_13, mp_15, mp_16, mp_17, mp_18, mp_19, mp_20, mp_21, mp_22, mp_23, mp_24, mp_25, mp_26, mp_28, mp_29, mp_30, mp_31, mp_32, mp_33, mp_34, mp_35, mp_36, mp_37, mp_38, mp_39, mp_40, mp_42, mp_43, mp_44, mp_45, mp_46, mp_48, mp_49, mp_50, mp_51, mp_52, mp_53, mp_60, mp_61, sP_wI, sP_wP, sP_wL, true_and, and_true, tk_inj, false_and, and_false, if_true, if_false, tk_ne9]; rfl) | (simp (disch := omega) only [hg, c, r_ps0 R, r_b0 R, h60, g4, g9, c1, sI_putc, wI_putc, sI_put11, sI_put13, sI_putm, sL_put12, wI_put11, wI_put13, wI_putm, wL_put12, sP_put, sX_put, wP_put, sI_put_0, sI_put_1, sI_put_2, sI_put_3, sI_put_4, sI_put_5, sI_put_6, sI_put_7, sI_put_8, sI_put_9, sI_put_14, sI_put_15, sI_put_16, sI_put_17, sI_put_18, sI_put_19, sI_put_20, sI_put_21, sI_put_22, sI_put_23, sI_put_24, wI_put_0, wI_put_1, wI_put_2, wI_put_3, wI_put_4, wI_put_5, wI_put_6, wI_put_7, wI_put_8, wI_put_9, wI_put_14, wI_put_15, wI_put_16, wI_put_17, wI_put_18, wI_put_19, wI_put_20, wI_put_21, wI_put_22, wI_put_23, wI_put_24, wN_put_0, wN_put_1, wN_put_2, wN_put_3, wN_put_4, wN_put_5, wN_put_6, wN_put_7, wN_put_8, wN_put_9, wN_put_14, wN_put_15, wN_put_16, wN_put_17, wN_put_18, wN_put_19, wN_put_20, wN_put_21, wN_put_22, wN_put_23, wN_put_24, sL_put_0, sL_put_24, wL_put_0, wL_put_24, tm_0, tm_1, tm_2, tm_3, tm_4, tm_5, tm_6, tm_7, tm_8, tm_9, tm_10, tm_11, tm_12, tm_13, tm_14, tm_15, tm_16, tm_17, tm_18, tm_19, tm_20, tm_21, tm_22, tm_23, tm_24, at_11, at_12, at_13, at_14, at_15, at_16, at_17, at_18, at_19, at_20, at_21, at_22, at_23, at_24, al_14, al_15, al_16, al_17, al_18, al_19, al_20, al_21, al_22, al_23, al_24, al_m0, al_m1, al_m2, al_m3, al_m4, al_m5, al_m6, al_m7, al_m8, al_m9, al_m10, al_m11, al_m12, al_m13, al_m15, al_m16, al_m17, al_m18, al_m19, al_m20, al_m21, al_m22, al_m23, al_m24, al_m25, al_m26, al_m28, al_m29, al_m30, al_m31, al_m32, al_m33, al_m34, al_m35, al_m36, al_m37, al_m38, al_m39, al_m40, al_m42, al_m43, al_m44, al_m45, al_m46, al_m48, al_m49, al_m50, al_m51, al_m52, al_m53, al_m60, al_m61, mp_0, mp_1, mp_2, mp_3, mp_4, mp_5, mp_6, mp_7, mp_8, mp_9, mp_10, mp_11, mp_12, mp_13, mp_15, mp_16, mp_17, mp_18, mp_19, mp_20, mp_21, mp_22, mp_23, mp_24, mp_25, mp_26, mp_28, mp_29, mp_30, mp_31, mp_32, mp_33, mp_34, mp_35, mp_36, mp_37, mp_38, mp_39, mp_40, mp_42, mp_43, mp_44, mp_45, mp_46, mp_48, mp_49, mp_50, mp_51, mp_52, mp_53, mp_60, mp_61, row_14, row_15, row_16, row_17, row_18, row_19, row_20, ar_11, ar_12, ar_13, ar_14, ar_15, ar_16, ar_17, ar_18, ar_19, ar_20, ar_21, ar_22, ar_23, ar_24, cs_14, cs_15, cs_16, cs_17, cs_18, cs_19, cs_20, ex_ix, ex_0, b01_0, b01_1, KI_i, KI_x, KJ_j, KJ_x, KV_v, KV_x, KO_t, KO_n, KO_x, KO_rf, n4, n3, nI_add, nI_1, nI_leI, nI_ltI, nI_eq, gI_uI, gI_uL, gL_uI, gL_uL, sI_wI, sI_wP, sI_wL, sP_wI, sP_wP, sP_wL, sL_wI, sL_wP, sL_wL, forall_eq, exists_eq_left, exists_eq_left', Option.some.injEq, true_and, and_true, Nat.reduceAdd, Nat.reduceMul, Nat.reduceEqDiff, eq_self, tk_inj, and_self, false_and, and_false, if_true, if_false, forall_const, true_implies, ite_true, ite_false, reduceIte, reduceCtorEq, tk_ne9, i1e, i2e, i3e, i1_0, i2_0, i3_0, false_implies, false_or, or_false, true_or, or_true, String.reduceEq, Nat.reduceLT, Int32.le_refl, not_true_eq_false, not_false_eq_true, Nat.zero_lt_one, Bool.false_eq_true, Bool.true_eq_false]; done) | fail "no") only [↓wp_X8_letCome_2, ↓wp_X8_letCome_56, ↓dO1, ↓dO0, ↓KI_i, ↓KI_x, ↓KJ_j, ↓KJ_x, ↓KV_v, ↓KV_x, ↓KO_t, ↓KO_n, ↓KO_x, ↓KO_rf, ↓dT, ↓dAt, ↓dX, ↓dX0, ↓dE, ↓dS, ↓dR, ↓dAr, ↓dCs, ↓dB, ↓forall_eq, ↓dI1, ↓dI2, ↓dI3, ↓dI4, ↓dF1, ↓dF2, ↓wI_putm, ↓wI_put11, ↓wI_put13, ↓wL_put12, ↓wP_put, ↓wI_put_0, ↓wI_put_1, ↓wI_put_2, ↓wI_put_3, ↓wI_put_4, ↓wI_put_5, ↓wI_put_6, ↓wI_put_7, ↓wI_put_8, ↓wI_put_9, ↓wI_put_14, ↓wI_put_15, ↓wI_put_16, ↓wI_put_17, ↓wI_put_18, ↓wI_put_19, ↓wI_put_20, ↓wI_put_21, ↓wI_put_22, ↓wI_put_23, ↓wI_put_24, ↓wN_put_0, ↓wN_put_1, ↓wN_put_2, ↓wN_put_3, ↓wN_put_4, ↓wN_put_5, ↓wN_put_6, ↓wN_put_7, ↓wN_put_8, ↓wN_put_9, ↓wN_put_14, ↓wN_put_15, ↓wN_put_16, ↓wN_put_17, ↓wN_put_18, ↓wN_put_19, ↓wN_put_20, ↓wN_put_21, ↓wN_put_22, ↓wN_put_23, ↓wN_put_24, ↓wL_put_0, ↓wL_put_24]
      exact hg9
theorem si_come {e : Nat} {a : Sg} {M : MS} (R : Rel e a M) : Si e (iter mArr 0 (nB M) M) a (.inl none) (wp_X8_letCome (tk 8 0) (gI M 255 0)) := by
  obtain ⟨a', R', h'⟩ := lp_come (nB M) 0 a M R (by omega) rfl
  refine ⟨a', R', fun M0 Post hp => ?_⟩
  have h9 := h' M0 Post hp
  rw [nI_0] at h9
  exact h9
