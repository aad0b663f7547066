/-! What is added: frames. -/
set_option maxHeartbeats 4000000 in
theorem rel_gar {e : Nat} {a b : Sg} {M : MS} (R : Rel e a M) (Q : Nat) (hQ : 64 ≤ Q) (hf : ∀ c i, Q ≤ i → sX a (tk c i) = false) (gI_ : ∀ c i q, c < 32 → i < 64 → sI b (tk c i) q = sI a (tk c i) q) (gP_ : ∀ c i q, c < 32 → i < 64 → sP b (tk c i) q = sP a (tk c i) q) (gL_ : ∀ c i q, c < 32 → i < 64 → sL b (tk c i) q = sL a (tk c i) q) (gX_ : ∀ c i, c < 32 → i < 64 → sX b (tk c i) = sX a (tk c i)) (gX2 : ∀ c i, Q < i → sX b (tk c i) = sX a (tk c i)) : Rel e b M := by
  have hx := r_nBx R
  have hxM := r_nMx R
  have hxP := r_nPx R
  have hxO := r_nOx R
  unfold Rel
  refine ⟨?_, ?_, ?_, ?_, ?_, ?_, ?_, ?_, ?_, ?_, ?_, ?_, ?_, ?_, ?_, ?_, ?_, ?_, ?_, ?_, ?_, ?_, ?_, ?_, ?_, ?_, ?_, ?_, ?_, ?_, ?_, ?_, ?_, ?_, ?_, ?_, ?_, ?_, ?_, ?_, ?_, ?_, ?_, ?_, ?_, ?_, ?_, ?_, ?_, ?_, ?_, ?_, ?_, ?_, ?_, ?_, ?_, ?_, ?_, ?_, ?_, ?_, ?_, ?_, ?_, ?_, ?_, ?_, ?_, ?_, ?_, ?_, ?_, ?_, ?_, ?_, ?_, ?_, ?_, ?_, ?_, ?_, ?_, ?_, ?_, ?_, ?_, ?_, ?_, ?_, ?_, ?_, ?_, ?_, ?_, ?_, ?_, ?_, ?_, ?_, ?_, ?_, ?_, ?_, ?_, ?_, ?_, ?_, ?_, ?_, ?_, ?_, ?_, ?_, ?_, ?_, ?_, ?_, ?_, ?_, ?_, ?_, ?_, ?_, ?_, ?_, ?_, ?_, ?_, ?_, ?_, ?_, ?_, ?_, ?_, ?_, ?_, ?_, ?_, ?_, ?_, ?_, ?_, ?_, ?_, ?_, ?_, ?_, ?_⟩
  · unfold Cshm
    intro x0_
    have h9 := r_shm R x0_
    simp (disch := omega) only [gI_, gP_, gL_]
    exact h9
  · unfold Cpx0
    have h9 := r_px0 R 
    simp (disch := omega) only [gI_, gP_, gL_]
    exact h9
  · unfold Cpx1
    have h9 := r_px1 R 
    simp (disch := omega) only [gI_, gP_, gL_]
    exact h9
  · unfold Cpx2
    have h9 := r_px2 R 
    simp (disch := omega) only [gI_, gP_, gL_]
    exact h9
  · unfold Cpf0
    have h9 := r_pf0 R 
    simp (disch := omega) only [gI_, gP_, gL_]
    exact h9
  · unfold Cpf1
    have h9 := r_pf1 R 
    simp (disch := omega) only [gI_, gP_, gL_]
    exact h9
  · unfold Cpf3
    have h9 := r_pf3 R 
    simp (disch := omega) only [gI_, gP_, gL_]
    exact h9
  · unfold Cps0
    have h9 := r_ps0 R 
    simp (disch := omega) only [gI_, gP_, gL_]
    exact h9
  · unfold Cps2
    have h9 := r_ps2 R 
    simp (disch := omega) only [gI_, gP_, gL_]
    exact h9
  · unfold Cps4
    have h9 := r_ps4 R 
    simp (disch := omega) only [gI_, gP_, gL_]
    exact h9
  · unfold Cpk
    intro x0_ h0
    have h9 := r_pk R x0_ h0
    simp (disch := omega) only [gI_, gP_, gL_]
    exact h9
  · unfold Cpkl
    intro x0_ h0
    have h9 := r_pkl R x0_ h0
    simp (disch := omega) only [gI_, gP_, gL_]
    exact h9
  · unfold Cpko
    intro x0_ h0
    have h9 := r_pko R x0_ h0
    simp (disch := omega) only [gI_, gP_, gL_]
    exact h9
  · unfold Cghour
    have h9 := r_ghour R 
    simp (disch := omega) only [gI_, gP_, gL_]
    exact h9
  · unfold Cgstand
    have h9 := r_gstand R 
    simp (disch := omega) only [gI_, gP_, gL_]
    exact h9
  · unfold Cgbought
    have h9 := r_gbought R 
    simp (disch := omega) only [gI_, gP_, gL_]
    exact h9
  · unfold Cgmach
    have h9 := r_gmach R 
    simp (disch := omega) only [gI_, gP_, gL_]
    exact h9
  · unfold Cgpers
    have h9 := r_gpers R 
    simp (disch := omega) only [gI_, gP_, gL_]
    exact h9
  · unfold Cgworked
    have h9 := r_gworked R 
    simp (disch := omega) only [gI_, gP_, gL_]
    exact h9
  · unfold Cgrep
    have h9 := r_grep R 
    simp (disch := omega) only [gI_, gP_, gL_]
    exact h9
  · unfold Cgbat
    have h9 := r_gbat R 
    simp (disch := omega) only [gI_, gP_, gL_]
    exact h9
  · unfold Cgord
    have h9 := r_gord R 
    simp (disch := omega) only [gI_, gP_, gL_]
    exact h9
  · unfold Cgq
    intro x0_ h0
    have h9 := r_gq R x0_ h0
    simp (disch := omega) only [gI_, gP_, gL_]
    exact h9
  · exact r_nB R
  · exact r_nBx R
  · exact r_nM R
  · exact r_nMx R
  · exact r_nP R
  · exact r_nPx R
  · exact r_nO R
  · exact r_nOx R
  · exact r_hr R
  · exact r_hrx R
  · exact r_stb R
  · exact r_ex R
  · unfold Ck0
    intro x0_ h0
    have h9 := r_k0 R x0_ h0
    simp (disch := omega) only [gI_, gP_, gL_]
    exact h9
  · unfold Ck1
    intro x0_ h0
    have h9 := r_k1 R x0_ h0
    simp (disch := omega) only [gI_, gP_, gL_]
    exact h9
  · unfold Ck2
    intro x0_ h0
    have h9 := r_k2 R x0_ h0
    simp (disch := omega) only [gI_, gP_, gL_]
    exact h9
  · unfold Ck3
    intro x0_ h0
    have h9 := r_k3 R x0_ h0
    simp (disch := omega) only [gI_, gP_, gL_]
    exact h9
  · unfold Ck5
    intro x0_ h0
    have h9 := r_k5 R x0_ h0
    simp (disch := omega) only [gI_, gP_, gL_]
    exact h9
  · unfold Ck7
    intro x0_ h0
    have h9 := r_k7 R x0_ h0
    simp (disch := omega) only [gI_, gP_, gL_]
    exact h9
  · unfold Ck8
    intro x0_ h0
    have h9 := r_k8 R x0_ h0
    simp (disch := omega) only [gI_, gP_, gL_]
    exact h9
  · unfold Ck9
    intro x0_ h0
    have h9 := r_k9 R x0_ h0
    simp (disch := omega) only [gI_, gP_, gL_]
    exact h9
  · unfold Ck10
    intro x0_ h0
    have h9 := r_k10 R x0_ h0
    simp (disch := omega) only [gI_, gP_, gL_]
    exact h9
  · unfold Ck11
    intro x0_ h0
    have h9 := r_k11 R x0_ h0
    simp (disch := omega) only [gI_, gP_, gL_]
    exact h9
  · unfold Ck12
    intro x0_ h0
    have h9 := r_k12 R x0_ h0
    simp (disch := omega) only [gI_, gP_, gL_]
    exact h9
  · exact r_ksa R
  · exact r_ksb R
  · exact r_ksc R
  · exact r_kw R
  · exact r_kl R
  · exact r_ko R
  · exact r_kp R
  · unfold Cl0
    intro x0_ x1_ h0 h1
    have h8 := (r_kl R x0_ h0).2
    have h9 := r_l0 R x0_ x1_ h0 h1
    simp (disch := omega) only [gI_, gP_, gL_]
    exact h9
  · unfold Cl1
    intro x0_ x1_ h0 h1
    have h8 := (r_kl R x0_ h0).2
    have h9 := r_l1 R x0_ x1_ h0 h1
    simp (disch := omega) only [gI_, gP_, gL_]
    exact h9
  · unfold Cl2
    intro x0_ x1_ h0 h1
    have h8 := (r_kl R x0_ h0).2
    have h9 := r_l2 R x0_ x1_ h0 h1
    simp (disch := omega) only [gI_, gP_, gL_]
    exact h9
  · unfold Cl3
    intro x0_ x1_ h0 h1
    have h8 := (r_kl R x0_ h0).2
    have h9 := r_l3 R x0_ x1_ h0 h1
    simp (disch := omega) only [gI_, gP_, gL_]
    exact h9
  · exact r_lm R
  · unfold Co0
    intro x0_ x1_ h0 h1
    have h8 := (r_ko R x0_ h0).2
    have h9 := r_o0 R x0_ x1_ h0 h1
    simp (disch := omega) only [gI_, gP_, gL_]
    exact h9
  · unfold Co1
    intro x0_ x1_ h0 h1
    have h8 := (r_ko R x0_ h0).2
    have h9 := r_o1 R x0_ x1_ h0 h1
    simp (disch := omega) only [gI_, gP_, gL_]
    exact h9
  · unfold Co2
    intro x0_ x1_ h0 h1
    have h8 := (r_ko R x0_ h0).2
    have h9 := r_o2 R x0_ x1_ h0 h1
    simp (disch := omega) only [gI_, gP_, gL_]
    exact h9
  · unfold Co3
    intro x0_ x1_ h0 h1
    have h8 := (r_ko R x0_ h0).2
    have h9 := r_o3 R x0_ x1_ h0 h1
    simp (disch := omega) only [gI_, gP_, gL_]
    exact h9
  · exact r_om R
  · unfold Cb0
    intro x0_ h0
    have h9 := r_b0 R x0_ h0
    simp (disch := omega) only [gI_, gP_, gL_]
    exact h9
  · unfold Cbn
    intro x0_ h0
    have h9 := r_bn R x0_ h0
    simp (disch := omega) only [gI_, gP_, gL_]
    exact h9
  · unfold Cbk
    intro x0_ h0
    have h9 := r_bk R x0_ h0
    simp (disch := omega) only [gI_, gP_, gL_]
    exact h9
  · unfold Cb2
    intro x0_ h0
    have h9 := r_b2 R x0_ h0
    simp (disch := omega) only [gI_, gP_, gL_]
    exact h9
  · unfold Cb3
    intro x0_ h0
    have h9 := r_b3 R x0_ h0
    simp (disch := omega) only [gI_, gP_, gL_]
    exact h9
  · unfold Cb4
    intro x0_ h0
    have h9 := r_b4 R x0_ h0
    simp (disch := omega) only [gI_, gP_, gL_]
    exact h9
  · unfold Cb5
    intro x0_ h0
    have h9 := r_b5 R x0_ h0
    simp (disch := omega) only [gI_, gP_, gL_]
    exact h9
  · unfold Cb6
    intro x0_ h0
    have h9 := r_b6 R x0_ h0
    simp (disch := omega) only [gI_, gP_, gL_]
    exact h9
  · unfold Cb7
    intro x0_ h0
    have h9 := r_b7 R x0_ h0
    simp (disch := omega) only [gI_, gP_, gL_]
    exact h9
  · unfold Cb8
    intro x0_ h0
    have h9 := r_b8 R x0_ h0
    simp (disch := omega) only [gI_, gP_, gL_]
    exact h9
  · unfold Cb9
    intro x0_ h0
    have h9 := r_b9 R x0_ h0
    simp (disch := omega) only [gI_, gP_, gL_]
    exact h9
  · unfold Cb10
    intro x0_ h0
    have h9 := r_b10 R x0_ h0
    simp (disch := omega) only [gI_, gP_, gL_]
    exact h9
  · unfold Cb11
    intro x0_ h0
    have h9 := r_b11 R x0_ h0
    simp (disch := omega) only [gI_, gP_, gL_]
    exact h9
  · exact r_bK R
  · exact r_bP R
  · exact r_bO R
  · exact r_bW R
  · exact r_bZ R
  · exact r_bF R
  · exact r_bS R
  · exact r_bC R
  · exact r_bT R
  · exact r_bU R
  · exact r_bq R
  · exact r_ps R
  · exact r_bp R
  · exact r_bc R
  · intro j h1 h2
    rw [gX_ _ _ (by decide) (by omega)]
    exact r_fB R j h1 h2
  · intro i q h1 h2 h3
    rw [gX_ _ _ (by decide) (by omega)]
    exact r_fL R i q h1 h2 h3
  · intro i q h1 h2 h3
    rw [gX_ _ _ (by decide) (by omega)]
    exact r_fO R i q h1 h2 h3
  · intro j h1 h2
    rw [gX_ _ _ (by decide) (by omega)]
    exact r_fM R j h1 h2
  · intro j h1 h2
    rw [gX_ _ _ (by decide) (by omega), gX_ _ _ (by decide) (by omega), gX_ _ _ (by decide) (by omega)]
    exact r_fP R j h1 h2
  · intro j h1 h2
    rw [gX_ _ _ (by decide) (by omega)]
    exact r_fR R j h1 h2
  · refine ⟨Q + 1, by omega, fun c i hi => ?_⟩
    rw [gX2 _ _ (by omega)]
    exact hf c i (by omega)
  · unfold Cm0
    intro x0_ h0
    have h9 := r_m0 R x0_ h0
    simp (disch := omega) only [gI_, gP_, gL_]
    exact h9
  · unfold Cmn
    intro x0_ h0
    have h9 := r_mn R x0_ h0
    simp (disch := omega) only [gI_, gP_, gL_]
    exact h9
  · unfold Cm1
    intro x0_ h0
    have h9 := r_m1 R x0_ h0
    simp (disch := omega) only [gI_, gP_, gL_]
    exact h9
  · unfold Cm2
    intro x0_ h0
    have h9 := r_m2 R x0_ h0
    simp (disch := omega) only [gI_, gP_, gL_]
    exact h9
  · unfold Cm3
    intro x0_ h0
    have h9 := r_m3 R x0_ h0
    simp (disch := omega) only [gI_, gP_, gL_]
    exact h9
  · unfold Cm4
    intro x0_ h0
    have h9 := r_m4 R x0_ h0
    simp (disch := omega) only [gI_, gP_, gL_]
    exact h9
  · unfold Cm5
    intro x0_ h0
    have h9 := r_m5 R x0_ h0
    simp (disch := omega) only [gI_, gP_, gL_]
    exact h9
  · unfold Cm9
    intro x0_ h0
    have h9 := r_m9 R x0_ h0
    simp (disch := omega) only [gI_, gP_, gL_]
    exact h9
  · unfold Cm11
    intro x0_ h0
    have h9 := r_m11 R x0_ h0
    simp (disch := omega) only [gI_, gP_, gL_]
    exact h9
  · unfold Cm13
    intro x0_ h0
    have h9 := r_m13 R x0_ h0
    simp (disch := omega) only [gI_, gP_, gL_]
    exact h9
  · unfold Cm14
    intro x0_ h0
    have h9 := r_m14 R x0_ h0
    simp (disch := omega) only [gI_, gP_, gL_]
    exact h9
  · unfold Cm6
    intro x0_ h0
    have h9 := r_m6 R x0_ h0
    simp (disch := omega) only [gI_, gP_, gL_]
    exact h9
  · unfold Cm7
    intro x0_ h0
    have h9 := r_m7 R x0_ h0
    simp (disch := omega) only [gI_, gP_, gL_]
    exact h9
  · unfold Cm8
    intro x0_ h0
    have h9 := r_m8 R x0_ h0
    simp (disch := omega) only [gI_, gP_, gL_]
    exact h9
  · unfold Cm12
    intro x0_ h0
    have h9 := r_m12 R x0_ h0
    simp (disch := omega) only [gI_, gP_, gL_]
    exact h9
  · unfold Cm10
    intro x0_ x1_ h0 h1
    have h9 := r_m10 R x0_ x1_ h0 h1
    simp (disch := omega) only [gI_, gP_, gL_]
    exact h9
  · exact r_mma R
  · exact r_mmb R
  · exact r_mmc R
  · exact r_mr29 R
  · exact r_mr30 R
  · exact r_mr31 R
  · exact r_mr32 R
  · exact r_mr35 R
  · exact r_mr39 R
  · exact r_mr40 R
  · exact r_md R
  · exact r_mw R
  · unfold Cq0
    intro x0_ h0
    have h9 := r_q0 R x0_ h0
    simp (disch := omega) only [gI_, gP_, gL_]
    exact h9
  · unfold Cqn
    intro x0_ h0
    have h9 := r_qn R x0_ h0
    simp (disch := omega) only [gI_, gP_, gL_]
    exact h9
  · unfold Cq1
    intro x0_ h0
    have h9 := r_q1 R x0_ h0
    simp (disch := omega) only [gI_, gP_, gL_]
    exact h9
  · unfold Cq2
    intro x0_ h0
    have h9 := r_q2 R x0_ h0
    simp (disch := omega) only [gI_, gP_, gL_]
    exact h9
  · unfold Cq3
    intro x0_ h0
    have h9 := r_q3 R x0_ h0
    simp (disch := omega) only [gI_, gP_, gL_]
    exact h9
  · unfold Cq4
    intro x0_ h0
    have h9 := r_q4 R x0_ h0
    simp (disch := omega) only [gI_, gP_, gL_]
    exact h9
  · unfold Cq5
    intro x0_ h0
    have h9 := r_q5 R x0_ h0
    simp (disch := omega) only [gI_, gP_, gL_]
    exact h9
  · unfold Cq6
    intro x0_ h0
    have h9 := r_q6 R x0_ h0
    simp (disch := omega) only [gI_, gP_, gL_]
    exact h9
  · unfold Cql
    intro x0_ x1_ h0 h1
    have h9 := r_ql R x0_ x1_ h0 h1
    simp (disch := omega) only [gI_, gP_, gL_]
    exact h9
  · unfold Cqw
    intro x0_ x1_ h0 h1
    have h9 := r_qw R x0_ x1_ h0 h1
    simp (disch := omega) only [gI_, gP_, gL_]
    exact h9
  · exact r_qm R
  · exact r_qr R
  · unfold Cr0
    intro x0_ h0
    have h9 := r_r0 R x0_ h0
    simp (disch := omega) only [gI_, gP_, gL_]
    exact h9
  · unfold Cr1
    intro x0_ h0
    have h9 := r_r1 R x0_ h0
    simp (disch := omega) only [gI_, gP_, gL_]
    exact h9
  · unfold Cr2
    intro x0_ h0
    have h9 := r_r2 R x0_ h0
    simp (disch := omega) only [gI_, gP_, gL_]
    exact h9
  · unfold Cr3
    intro x0_ h0
    have h9 := r_r3 R x0_ h0
    simp (disch := omega) only [gI_, gP_, gL_]
    exact h9
  · unfold Cr4
    intro x0_ h0
    have h9 := r_r4 R x0_ h0
    simp (disch := omega) only [gI_, gP_, gL_]
    exact h9
  · unfold Cr5
    intro x0_ h0
    have h9 := r_r5 R x0_ h0
    simp (disch := omega) only [gI_, gP_, gL_]
    exact h9
  · unfold Cr6
    intro x0_ h0
    have h9 := r_r6 R x0_ h0
    simp (disch := omega) only [gI_, gP_, gL_]
    exact h9
  · exact r_rk R
  · exact r_rp R
  · exact r_rq R
  · exact r_rr R
  · exact r_rs R
def z_rel_addM (t : Nat) : Bool := t != 28 && t != 29 && t != 30 && t != 31 && t != 32 && t != 33 && t != 34 && t != 36 && t != 38 && t != 227
set_option maxHeartbeats 2000000 in
theorem rel_addMN {e : Nat} {a b : Sg} {M N : MS} (R : Rel e a M) (c su co li re pt : Int32) (hsu : ∃ s : Nat, su = nI s ∧ s ≤ 5) (hco : ∃ s : Nat, co = nI s ∧ s ≤ 9) (hli : ∃ s : Nat, li = nI s ∧ 1 ≤ s ∧ s ≤ 50) (hre : ∃ s : Nat, re = nI s ∧ 1 ≤ s ∧ s ≤ 9) (hpt : pt = -1 ∨ ∃ q : Nat, pt = nI q ∧ q < 12) (z35 : gI M 35 (nM M) = 0) (z37 : gI M 37 (nM M) = 0) (z39 : gI M 39 (nM M) = 0) (z40 : gI M 40 (nM M) = 0) (hlt : nM M < 6) (gO : ∀ t j, z_rel_addM t = true → gI N t j = gI M t j) (gJ : ∀ t j, ¬ j = nM M → t ≠ 227 → gI N t j = gI M t j) (gC : gI N 227 0 = nI (nM M + 1)) (g28 : gI N 28 (nM M) = c) (g29 : gI N 29 (nM M) = su) (g30 : gI N 30 (nM M) = co) (g31 : gI N 31 (nM M) = li) (g32 : gI N 32 (nM M) = re) (g33 : gI N 33 (nM M) = pt) (g34 : gI N 34 (nM M) = -1) (g36 : gI N 36 (nM M) = -1) (g38 : gI N 38 (nM M) = -1) (gLo : ∀ j, gL N j = gL M j) (bI : ∀ c i q, c < 32 → c ≠ 4 → c ≠ 1 → sI b (tk c i) q = sI a (tk c i) q) (bIh : ∀ q, q ≠ 2 → sI b (tk 1 0) q = sI a (tk 1 0) q) (bIc : sI b (tk 1 0) 2 = nI (nM M + 1)) (bJ4 : ∀ j q, ¬ j = nM M → sI b (tk 4 j) q = sI a (tk 4 j) q) (v0 : sI b (tk 4 (nM M)) 0 = nI (nM M)) (v1 : sI b (tk 4 (nM M)) 1 = c) (v2 : sI b (tk 4 (nM M)) 2 = su) (v3 : sI b (tk 4 (nM M)) 3 = co) (v4 : sI b (tk 4 (nM M)) 4 = li) (v5 : sI b (tk 4 (nM M)) 5 = re) (v9 : sI b (tk 4 (nM M)) 9 = 0) (v11 : sI b (tk 4 (nM M)) 11 = 0) (v13 : sI b (tk 4 (nM M)) 13 = 0) (v14 : sI b (tk 4 (nM M)) 14 = 0) (bP : ∀ c i q, c < 32 → c ≠ 4 → c ≠ 17 → sP b (tk c i) q = sP a (tk c i) q) (bPj : ∀ j q, ¬ j = nM M → sP b (tk 4 j) q = sP a (tk 4 j) q) (bPa : ∀ j, sP b (tk 17 0) j = if j = nM M then some (tk 4 (nM M)) else sP a (tk 17 0) j) (p6 : sP b (tk 4 (nM M)) 6 = kp pt) (p7 : sP b (tk 4 (nM M)) 7 = none) (p8 : sP b (tk 4 (nM M)) 8 = none) (p12 : sP b (tk 4 (nM M)) 12 = none) (bL : ∀ c i q, c < 32 → c ≠ 4 → sL b (tk c i) q = sL a (tk c i) q) (bX : ∀ t, t ≠ tk 4 (nM M) → sX b t = sX a t) : Rel e b N := by
  have hB := r_nBx R
  have hxM := r_nMx R
  have hxP := r_nPx R
  have hxO := r_nOx R
  have e1 : nM N = nM M + 1 := by unfold nM at gC ⊢; rw [gC, nI_clamp (by unfold nM at hlt; omega)]
  have hnB : nB N = nB M := by unfold nB; rw [gO _ _ rfl]
  have hnP : nP N = nP M := by unfold nP; rw [gO _ _ rfl]
  have hnO : nO N = nO M := by unfold nO; rw [gO _ _ rfl]
  have hhN : hN N = hN M := by unfold hN; rw [gO _ _ rfl]
  have hnLn : ∀ i, nLn N i = nLn M i := fun i => by unfold nLn; rw [gO _ _ rfl]
  have hnOp : ∀ i, nOp N i = nOp M i := fun i => by unfold nOp; rw [gO _ _ rfl]
  have hlnP : ∀ i, lnP N i = lnP M i := fun i => by unfold lnP; rw [gO _ _ rfl]
  have hpc : ∀ i, pc N i = pc M i := fun i => by unfold pc; rw [gO _ _ rfl]
  have hkd : ∀ i, kd N i = kd M i := fun i => by unfold kd; rw [gO _ _ rfl]
  have hop : ∀ i, op N i = op M i := fun i => by unfold op; rw [gO _ _ rfl]
  have hin : ∀ i m, mInSt N i m = mInSt M i m := fun i m => by unfold mInSt; refine sumN_congr fun j hj => ?_; rw [gO _ _ rfl, gO _ _ rfl, gO _ _ rfl]
  have hnin : ∀ i m, nInSt N i m = nInSt M i m := fun i m => by unfold nInSt; refine sumT_congr fun j hj => ?_; rw [gO _ _ rfl, gO _ _ rfl, hpc]
  have htp : ∀ m, totp N m = totp M m := fun m => by unfold totp; exact sumT_congr fun j hj => hpc j
  have htt : ∀ m, tot N m = tot M m := by
    intro m
    induction m with
    | zero => rfl
    | succ m ih => rw [tot_1, tot_1, ih, gO _ _ rfl]
  have hpr : ∀ i, pr N i = pr M i := fun i => by unfold pr; rw [gO _ _ rfl]
  have hnpr : ∀ i m, nProm N i m = nProm M i m := fun i m => by unfold nProm; refine sumT_congr fun j hj => ?_; rw [gO _ _ rfl, gO _ _ rfl, hpr]
  have hmpr : ∀ i m, mProm N i m = mProm M i m := fun i m => by unfold mProm; refine sumN_congr fun j hj => ?_; rw [gO _ _ rfl, gO _ _ rfl, gO _ _ rfl]
  unfold Rel
  refine ⟨?_, ?_, ?_, ?_, ?_, ?_, ?_, ?_, ?_, ?_, ?_, ?_, ?_, ?_, ?_, ?_, ?_, ?_, ?_, ?_, ?_, ?_, ?_, ?_, ?_, ?_, ?_, ?_, ?_, ?_, ?_, ?_, ?_, ?_, ?_, ?_, ?_, ?_, ?_, ?_, ?_, ?_, ?_, ?_, ?_, ?_, ?_, ?_, ?_, ?_, ?_, ?_, ?_, ?_, ?_, ?_, ?_, ?_, ?_, ?_, ?_, ?_, ?_, ?_, ?_, ?_, ?_, ?_, ?_, ?_, ?_, ?_, ?_, ?_, ?_, ?_, ?_, ?_, ?_, ?_, ?_, ?_, ?_, ?_, ?_, ?_, ?_, ?_, ?_, ?_, ?_, ?_, ?_, ?_, ?_, ?_, ?_, ?_, ?_, ?_, ?_, ?_, ?_, ?_, ?_, ?_, ?_, ?_, ?_, ?_, ?_, ?_, ?_, ?_, ?_, ?_, ?_, ?_, ?_, ?_, ?_, ?_, ?_, ?_, ?_, ?_, ?_, ?_, ?_, ?_, ?_, ?_, ?_, ?_, ?_, ?_, ?_, ?_, ?_, ?_, ?_, ?_, ?_, ?_, ?_, ?_, ?_, ?_, ?_⟩
  · unfold Cshm
    have h9 := r_shm R
    simpa (disch := decide) only [gO, gLo, hnB, hnP, hnO, hhN, hnLn, hnOp, hlnP, hpc, hkd, hop, hin, hnin, htp, htt, hpr, hnpr, hmpr, bI, bIh, bP, bL] using h9
  · unfold Cpx0
    have h9 := r_px0 R
    simpa (disch := decide) only [gO, gLo, hnB, hnP, hnO, hhN, hnLn, hnOp, hlnP, hpc, hkd, hop, hin, hnin, htp, htt, hpr, hnpr, hmpr, bI, bIh, bP, bL] using h9
  · unfold Cpx1
    have h9 := r_px1 R
    simpa (disch := decide) only [gO, gLo, hnB, hnP, hnO, hhN, hnLn, hnOp, hlnP, hpc, hkd, hop, hin, hnin, htp, htt, hpr, hnpr, hmpr, bI, bIh, bP, bL] using h9
  · unfold Cpx2
    have h9 := r_px2 R
    simpa (disch := decide) only [gO, gLo, hnB, hnP, hnO, hhN, hnLn, hnOp, hlnP, hpc, hkd, hop, hin, hnin, htp, htt, hpr, hnpr, hmpr, bI, bIh, bP, bL] using h9
  · unfold Cpf0
    have h9 := r_pf0 R
    simpa (disch := decide) only [gO, gLo, hnB, hnP, hnO, hhN, hnLn, hnOp, hlnP, hpc, hkd, hop, hin, hnin, htp, htt, hpr, hnpr, hmpr, bI, bIh, bP, bL] using h9
  · unfold Cpf1
    have h9 := r_pf1 R
    simpa (disch := decide) only [gO, gLo, hnB, hnP, hnO, hhN, hnLn, hnOp, hlnP, hpc, hkd, hop, hin, hnin, htp, htt, hpr, hnpr, hmpr, bI, bIh, bP, bL] using h9
  · unfold Cpf3
    have h9 := r_pf3 R
    simpa (disch := decide) only [gO, gLo, hnB, hnP, hnO, hhN, hnLn, hnOp, hlnP, hpc, hkd, hop, hin, hnin, htp, htt, hpr, hnpr, hmpr, bI, bIh, bP, bL] using h9
  · unfold Cps0
    have h9 := r_ps0 R
    simpa (disch := decide) only [gO, gLo, hnB, hnP, hnO, hhN, hnLn, hnOp, hlnP, hpc, hkd, hop, hin, hnin, htp, htt, hpr, hnpr, hmpr, bI, bIh, bP, bL] using h9
  · unfold Cps2
    have h9 := r_ps2 R
    simpa (disch := decide) only [gO, gLo, hnB, hnP, hnO, hhN, hnLn, hnOp, hlnP, hpc, hkd, hop, hin, hnin, htp, htt, hpr, hnpr, hmpr, bI, bIh, bP, bL] using h9
  · unfold Cps4
    have h9 := r_ps4 R
    simpa (disch := decide) only [gO, gLo, hnB, hnP, hnO, hhN, hnLn, hnOp, hlnP, hpc, hkd, hop, hin, hnin, htp, htt, hpr, hnpr, hmpr, bI, bIh, bP, bL] using h9
  · unfold Cpk
    have h9 := r_pk R
    simpa (disch := decide) only [gO, gLo, hnB, hnP, hnO, hhN, hnLn, hnOp, hlnP, hpc, hkd, hop, hin, hnin, htp, htt, hpr, hnpr, hmpr, bI, bIh, bP, bL] using h9
  · unfold Cpkl
    have h9 := r_pkl R
    simpa (disch := decide) only [gO, gLo, hnB, hnP, hnO, hhN, hnLn, hnOp, hlnP, hpc, hkd, hop, hin, hnin, htp, htt, hpr, hnpr, hmpr, bI, bIh, bP, bL] using h9
  · unfold Cpko
    have h9 := r_pko R
    simpa (disch := decide) only [gO, gLo, hnB, hnP, hnO, hhN, hnLn, hnOp, hlnP, hpc, hkd, hop, hin, hnin, htp, htt, hpr, hnpr, hmpr, bI, bIh, bP, bL] using h9
  · unfold Cghour
    have h9 := r_ghour R
    simpa (disch := decide) only [gO, gLo, hnB, hnP, hnO, hhN, hnLn, hnOp, hlnP, hpc, hkd, hop, hin, hnin, htp, htt, hpr, hnpr, hmpr, bI, bIh, bP, bL] using h9
  · unfold Cgstand
    have h9 := r_gstand R
    simpa (disch := decide) only [gO, gLo, hnB, hnP, hnO, hhN, hnLn, hnOp, hlnP, hpc, hkd, hop, hin, hnin, htp, htt, hpr, hnpr, hmpr, bI, bIh, bP, bL] using h9
  · unfold Cgbought
    have h9 := r_gbought R
    simpa (disch := decide) only [gO, gLo, hnB, hnP, hnO, hhN, hnLn, hnOp, hlnP, hpc, hkd, hop, hin, hnin, htp, htt, hpr, hnpr, hmpr, bI, bIh, bP, bL] using h9
  · unfold Cgmach
    rw [bIc, gC]
  · unfold Cgpers
    have h9 := r_gpers R
    simpa (disch := decide) only [gO, gLo, hnB, hnP, hnO, hhN, hnLn, hnOp, hlnP, hpc, hkd, hop, hin, hnin, htp, htt, hpr, hnpr, hmpr, bI, bIh, bP, bL] using h9
  · unfold Cgworked
    have h9 := r_gworked R
    simpa (disch := decide) only [gO, gLo, hnB, hnP, hnO, hhN, hnLn, hnOp, hlnP, hpc, hkd, hop, hin, hnin, htp, htt, hpr, hnpr, hmpr, bI, bIh, bP, bL] using h9
  · unfold Cgrep
    have h9 := r_grep R
    simpa (disch := decide) only [gO, gLo, hnB, hnP, hnO, hhN, hnLn, hnOp, hlnP, hpc, hkd, hop, hin, hnin, htp, htt, hpr, hnpr, hmpr, bI, bIh, bP, bL] using h9
  · unfold Cgbat
    have h9 := r_gbat R
    simpa (disch := decide) only [gO, gLo, hnB, hnP, hnO, hhN, hnLn, hnOp, hlnP, hpc, hkd, hop, hin, hnin, htp, htt, hpr, hnpr, hmpr, bI, bIh, bP, bL] using h9
  · unfold Cgord
    have h9 := r_gord R
    simpa (disch := decide) only [gO, gLo, hnB, hnP, hnO, hhN, hnLn, hnOp, hlnP, hpc, hkd, hop, hin, hnin, htp, htt, hpr, hnpr, hmpr, bI, bIh, bP, bL] using h9
  · unfold Cgq
    have h9 := r_gq R
    simpa (disch := decide) only [gO, gLo, hnB, hnP, hnO, hhN, hnLn, hnOp, hlnP, hpc, hkd, hop, hin, hnin, htp, htt, hpr, hnpr, hmpr, bI, bIh, bP, bL] using h9
  · unfold CnB
    have h9 := r_nB R
    simpa (disch := decide) only [gO, gLo, hnB, hnP, hnO, hhN, hnLn, hnOp, hlnP, hpc, hkd, hop, hin, hnin, htp, htt, hpr, hnpr, hmpr, bI, bIh, bP, bL] using h9
  · unfold CnBx
    have h9 := r_nBx R
    simpa (disch := decide) only [gO, gLo, hnB, hnP, hnO, hhN, hnLn, hnOp, hlnP, hpc, hkd, hop, hin, hnin, htp, htt, hpr, hnpr, hmpr, bI, bIh, bP, bL] using h9
  · unfold CnM
    rw [e1]; exact gC
  · unfold CnMx
    rw [e1]; omega
  · unfold CnP
    have h9 := r_nP R
    simpa (disch := decide) only [gO, gLo, hnB, hnP, hnO, hhN, hnLn, hnOp, hlnP, hpc, hkd, hop, hin, hnin, htp, htt, hpr, hnpr, hmpr, bI, bIh, bP, bL] using h9
  · unfold CnPx
    have h9 := r_nPx R
    simpa (disch := decide) only [gO, gLo, hnB, hnP, hnO, hhN, hnLn, hnOp, hlnP, hpc, hkd, hop, hin, hnin, htp, htt, hpr, hnpr, hmpr, bI, bIh, bP, bL] using h9
  · unfold CnO
    have h9 := r_nO R
    simpa (disch := decide) only [gO, gLo, hnB, hnP, hnO, hhN, hnLn, hnOp, hlnP, hpc, hkd, hop, hin, hnin, htp, htt, hpr, hnpr, hmpr, bI, bIh, bP, bL] using h9
  · unfold CnOx
    have h9 := r_nOx R
    simpa (disch := decide) only [gO, gLo, hnB, hnP, hnO, hhN, hnLn, hnOp, hlnP, hpc, hkd, hop, hin, hnin, htp, htt, hpr, hnpr, hmpr, bI, bIh, bP, bL] using h9
  · unfold Chr
    have h9 := r_hr R
    simpa (disch := decide) only [gO, gLo, hnB, hnP, hnO, hhN, hnLn, hnOp, hlnP, hpc, hkd, hop, hin, hnin, htp, htt, hpr, hnpr, hmpr, bI, bIh, bP, bL] using h9
  · unfold Chrx
    have h9 := r_hrx R
    simpa (disch := decide) only [gO, gLo, hnB, hnP, hnO, hhN, hnLn, hnOp, hlnP, hpc, hkd, hop, hin, hnin, htp, htt, hpr, hnpr, hmpr, bI, bIh, bP, bL] using h9
  · unfold Cstb
    have h9 := r_stb R
    simpa (disch := decide) only [gO, gLo, hnB, hnP, hnO, hhN, hnLn, hnOp, hlnP, hpc, hkd, hop, hin, hnin, htp, htt, hpr, hnpr, hmpr, bI, bIh, bP, bL] using h9
  · unfold Cex
    have h9 := r_ex R
    simpa (disch := decide) only [gO, gLo, hnB, hnP, hnO, hhN, hnLn, hnOp, hlnP, hpc, hkd, hop, hin, hnin, htp, htt, hpr, hnpr, hmpr, bI, bIh, bP, bL] using h9
  · unfold Ck0
    have h9 := r_k0 R
    simpa (disch := decide) only [gO, gLo, hnB, hnP, hnO, hhN, hnLn, hnOp, hlnP, hpc, hkd, hop, hin, hnin, htp, htt, hpr, hnpr, hmpr, bI, bIh, bP, bL] using h9
  · unfold Ck1
    have h9 := r_k1 R
    simpa (disch := decide) only [gO, gLo, hnB, hnP, hnO, hhN, hnLn, hnOp, hlnP, hpc, hkd, hop, hin, hnin, htp, htt, hpr, hnpr, hmpr, bI, bIh, bP, bL] using h9
  · unfold Ck2
    have h9 := r_k2 R
    simpa (disch := decide) only [gO, gLo, hnB, hnP, hnO, hhN, hnLn, hnOp, hlnP, hpc, hkd, hop, hin, hnin, htp, htt, hpr, hnpr, hmpr, bI, bIh, bP, bL] using h9
  · unfold Ck3
    have h9 := r_k3 R
    simpa (disch := decide) only [gO, gLo, hnB, hnP, hnO, hhN, hnLn, hnOp, hlnP, hpc, hkd, hop, hin, hnin, htp, htt, hpr, hnpr, hmpr, bI, bIh, bP, bL] using h9
  · unfold Ck5
    have h9 := r_k5 R
    simpa (disch := decide) only [gO, gLo, hnB, hnP, hnO, hhN, hnLn, hnOp, hlnP, hpc, hkd, hop, hin, hnin, htp, htt, hpr, hnpr, hmpr, bI, bIh, bP, bL] using h9
  · unfold Ck7
    have h9 := r_k7 R
    simpa (disch := decide) only [gO, gLo, hnB, hnP, hnO, hhN, hnLn, hnOp, hlnP, hpc, hkd, hop, hin, hnin, htp, htt, hpr, hnpr, hmpr, bI, bIh, bP, bL] using h9
  · unfold Ck8
    have h9 := r_k8 R
    simpa (disch := decide) only [gO, gLo, hnB, hnP, hnO, hhN, hnLn, hnOp, hlnP, hpc, hkd, hop, hin, hnin, htp, htt, hpr, hnpr, hmpr, bI, bIh, bP, bL] using h9
  · unfold Ck9
    have h9 := r_k9 R
    simpa (disch := decide) only [gO, gLo, hnB, hnP, hnO, hhN, hnLn, hnOp, hlnP, hpc, hkd, hop, hin, hnin, htp, htt, hpr, hnpr, hmpr, bI, bIh, bP, bL] using h9
  · unfold Ck10
    have h9 := r_k10 R
    simpa (disch := decide) only [gO, gLo, hnB, hnP, hnO, hhN, hnLn, hnOp, hlnP, hpc, hkd, hop, hin, hnin, htp, htt, hpr, hnpr, hmpr, bI, bIh, bP, bL] using h9
  · unfold Ck11
    have h9 := r_k11 R
    simpa (disch := decide) only [gO, gLo, hnB, hnP, hnO, hhN, hnLn, hnOp, hlnP, hpc, hkd, hop, hin, hnin, htp, htt, hpr, hnpr, hmpr, bI, bIh, bP, bL] using h9
  · unfold Ck12
    have h9 := r_k12 R
    simpa (disch := decide) only [gO, gLo, hnB, hnP, hnO, hhN, hnLn, hnOp, hlnP, hpc, hkd, hop, hin, hnin, htp, htt, hpr, hnpr, hmpr, bI, bIh, bP, bL] using h9
  · unfold Cksa
    have h9 := r_ksa R
    simpa (disch := decide) only [gO, gLo, hnB, hnP, hnO, hhN, hnLn, hnOp, hlnP, hpc, hkd, hop, hin, hnin, htp, htt, hpr, hnpr, hmpr, bI, bIh, bP, bL] using h9
  · unfold Cksb
    have h9 := r_ksb R
    simpa (disch := decide) only [gO, gLo, hnB, hnP, hnO, hhN, hnLn, hnOp, hlnP, hpc, hkd, hop, hin, hnin, htp, htt, hpr, hnpr, hmpr, bI, bIh, bP, bL] using h9
  · unfold Cksc
    have h9 := r_ksc R
    simpa (disch := decide) only [gO, gLo, hnB, hnP, hnO, hhN, hnLn, hnOp, hlnP, hpc, hkd, hop, hin, hnin, htp, htt, hpr, hnpr, hmpr, bI, bIh, bP, bL] using h9
  · unfold Ckw
    have h9 := r_kw R
    simpa (disch := decide) only [gO, gLo, hnB, hnP, hnO, hhN, hnLn, hnOp, hlnP, hpc, hkd, hop, hin, hnin, htp, htt, hpr, hnpr, hmpr, bI, bIh, bP, bL] using h9
  · unfold Ckl
    have h9 := r_kl R
    simpa (disch := decide) only [gO, gLo, hnB, hnP, hnO, hhN, hnLn, hnOp, hlnP, hpc, hkd, hop, hin, hnin, htp, htt, hpr, hnpr, hmpr, bI, bIh, bP, bL] using h9
  · unfold Cko
    have h9 := r_ko R
    simpa (disch := decide) only [gO, gLo, hnB, hnP, hnO, hhN, hnLn, hnOp, hlnP, hpc, hkd, hop, hin, hnin, htp, htt, hpr, hnpr, hmpr, bI, bIh, bP, bL] using h9
  · unfold Ckp
    have h9 := r_kp R
    simpa (disch := decide) only [gO, gLo, hnB, hnP, hnO, hhN, hnLn, hnOp, hlnP, hpc, hkd, hop, hin, hnin, htp, htt, hpr, hnpr, hmpr, bI, bIh, bP, bL] using h9
  · unfold Cl0
    have h9 := r_l0 R
    simpa (disch := decide) only [gO, gLo, hnB, hnP, hnO, hhN, hnLn, hnOp, hlnP, hpc, hkd, hop, hin, hnin, htp, htt, hpr, hnpr, hmpr, bI, bIh, bP, bL] using h9
  · unfold Cl1
    have h9 := r_l1 R
    simpa (disch := decide) only [gO, gLo, hnB, hnP, hnO, hhN, hnLn, hnOp, hlnP, hpc, hkd, hop, hin, hnin, htp, htt, hpr, hnpr, hmpr, bI, bIh, bP, bL] using h9
  · unfold Cl2
    have h9 := r_l2 R
    simpa (disch := decide) only [gO, gLo, hnB, hnP, hnO, hhN, hnLn, hnOp, hlnP, hpc, hkd, hop, hin, hnin, htp, htt, hpr, hnpr, hmpr, bI, bIh, bP, bL] using h9
  · unfold Cl3
    have h9 := r_l3 R
    simpa (disch := decide) only [gO, gLo, hnB, hnP, hnO, hhN, hnLn, hnOp, hlnP, hpc, hkd, hop, hin, hnin, htp, htt, hpr, hnpr, hmpr, bI, bIh, bP, bL] using h9
  · unfold Clm
    have h9 := r_lm R
    simpa (disch := decide) only [gO, gLo, hnB, hnP, hnO, hhN, hnLn, hnOp, hlnP, hpc, hkd, hop, hin, hnin, htp, htt, hpr, hnpr, hmpr, bI, bIh, bP, bL] using h9
  · unfold Co0
    have h9 := r_o0 R
    simpa (disch := decide) only [gO, gLo, hnB, hnP, hnO, hhN, hnLn, hnOp, hlnP, hpc, hkd, hop, hin, hnin, htp, htt, hpr, hnpr, hmpr, bI, bIh, bP, bL] using h9
  · unfold Co1
    have h9 := r_o1 R
    simpa (disch := decide) only [gO, gLo, hnB, hnP, hnO, hhN, hnLn, hnOp, hlnP, hpc, hkd, hop, hin, hnin, htp, htt, hpr, hnpr, hmpr, bI, bIh, bP, bL] using h9
  · unfold Co2
    have h9 := r_o2 R
    simpa (disch := decide) only [gO, gLo, hnB, hnP, hnO, hhN, hnLn, hnOp, hlnP, hpc, hkd, hop, hin, hnin, htp, htt, hpr, hnpr, hmpr, bI, bIh, bP, bL] using h9
  · unfold Co3
    have h9 := r_o3 R
    simpa (disch := decide) only [gO, gLo, hnB, hnP, hnO, hhN, hnLn, hnOp, hlnP, hpc, hkd, hop, hin, hnin, htp, htt, hpr, hnpr, hmpr, bI, bIh, bP, bL] using h9
  · unfold Com
    have h9 := r_om R
    simpa (disch := decide) only [gO, gLo, hnB, hnP, hnO, hhN, hnLn, hnOp, hlnP, hpc, hkd, hop, hin, hnin, htp, htt, hpr, hnpr, hmpr, bI, bIh, bP, bL] using h9
  · unfold Cb0
    have h9 := r_b0 R
    simpa (disch := decide) only [gO, gLo, hnB, hnP, hnO, hhN, hnLn, hnOp, hlnP, hpc, hkd, hop, hin, hnin, htp, htt, hpr, hnpr, hmpr, bI, bIh, bP, bL] using h9
  · unfold Cbn
    have h9 := r_bn R
    simpa (disch := decide) only [gO, gLo, hnB, hnP, hnO, hhN, hnLn, hnOp, hlnP, hpc, hkd, hop, hin, hnin, htp, htt, hpr, hnpr, hmpr, bI, bIh, bP, bL] using h9
  · unfold Cbk
    have h9 := r_bk R
    simpa (disch := decide) only [gO, gLo, hnB, hnP, hnO, hhN, hnLn, hnOp, hlnP, hpc, hkd, hop, hin, hnin, htp, htt, hpr, hnpr, hmpr, bI, bIh, bP, bL] using h9
  · unfold Cb2
    have h9 := r_b2 R
    simpa (disch := decide) only [gO, gLo, hnB, hnP, hnO, hhN, hnLn, hnOp, hlnP, hpc, hkd, hop, hin, hnin, htp, htt, hpr, hnpr, hmpr, bI, bIh, bP, bL] using h9
  · unfold Cb3
    have h9 := r_b3 R
    simpa (disch := decide) only [gO, gLo, hnB, hnP, hnO, hhN, hnLn, hnOp, hlnP, hpc, hkd, hop, hin, hnin, htp, htt, hpr, hnpr, hmpr, bI, bIh, bP, bL] using h9
  · unfold Cb4
    have h9 := r_b4 R
    simpa (disch := decide) only [gO, gLo, hnB, hnP, hnO, hhN, hnLn, hnOp, hlnP, hpc, hkd, hop, hin, hnin, htp, htt, hpr, hnpr, hmpr, bI, bIh, bP, bL] using h9
  · unfold Cb5
    have h9 := r_b5 R
    simpa (disch := decide) only [gO, gLo, hnB, hnP, hnO, hhN, hnLn, hnOp, hlnP, hpc, hkd, hop, hin, hnin, htp, htt, hpr, hnpr, hmpr, bI, bIh, bP, bL] using h9
  · unfold Cb6
    have h9 := r_b6 R
    simpa (disch := decide) only [gO, gLo, hnB, hnP, hnO, hhN, hnLn, hnOp, hlnP, hpc, hkd, hop, hin, hnin, htp, htt, hpr, hnpr, hmpr, bI, bIh, bP, bL] using h9
  · unfold Cb7
    have h9 := r_b7 R
    simpa (disch := decide) only [gO, gLo, hnB, hnP, hnO, hhN, hnLn, hnOp, hlnP, hpc, hkd, hop, hin, hnin, htp, htt, hpr, hnpr, hmpr, bI, bIh, bP, bL] using h9
  · unfold Cb8
    have h9 := r_b8 R
    simpa (disch := decide) only [gO, gLo, hnB, hnP, hnO, hhN, hnLn, hnOp, hlnP, hpc, hkd, hop, hin, hnin, htp, htt, hpr, hnpr, hmpr, bI, bIh, bP, bL] using h9
  · unfold Cb9
    have h9 := r_b9 R
    simpa (disch := decide) only [gO, gLo, hnB, hnP, hnO, hhN, hnLn, hnOp, hlnP, hpc, hkd, hop, hin, hnin, htp, htt, hpr, hnpr, hmpr, bI, bIh, bP, bL] using h9
  · unfold Cb10
    have h9 := r_b10 R
    simpa (disch := decide) only [gO, gLo, hnB, hnP, hnO, hhN, hnLn, hnOp, hlnP, hpc, hkd, hop, hin, hnin, htp, htt, hpr, hnpr, hmpr, bI, bIh, bP, bL] using h9
  · unfold Cb11
    have h9 := r_b11 R
    simpa (disch := decide) only [gO, gLo, hnB, hnP, hnO, hhN, hnLn, hnOp, hlnP, hpc, hkd, hop, hin, hnin, htp, htt, hpr, hnpr, hmpr, bI, bIh, bP, bL] using h9
  · unfold CbK
    have h9 := r_bK R
    simpa (disch := decide) only [gO, gLo, hnB, hnP, hnO, hhN, hnLn, hnOp, hlnP, hpc, hkd, hop, hin, hnin, htp, htt, hpr, hnpr, hmpr, bI, bIh, bP, bL] using h9
  · unfold CbP
    have h9 := r_bP R
    simpa (disch := decide) only [gO, gLo, hnB, hnP, hnO, hhN, hnLn, hnOp, hlnP, hpc, hkd, hop, hin, hnin, htp, htt, hpr, hnpr, hmpr, bI, bIh, bP, bL] using h9
  · unfold CbO
    have h9 := r_bO R
    simpa (disch := decide) only [gO, gLo, hnB, hnP, hnO, hhN, hnLn, hnOp, hlnP, hpc, hkd, hop, hin, hnin, htp, htt, hpr, hnpr, hmpr, bI, bIh, bP, bL] using h9
  · unfold CbW
    have h9 := r_bW R
    simpa (disch := decide) only [gO, gLo, hnB, hnP, hnO, hhN, hnLn, hnOp, hlnP, hpc, hkd, hop, hin, hnin, htp, htt, hpr, hnpr, hmpr, bI, bIh, bP, bL] using h9
  · unfold CbZ
    have h9 := r_bZ R
    simpa (disch := decide) only [gO, gLo, hnB, hnP, hnO, hhN, hnLn, hnOp, hlnP, hpc, hkd, hop, hin, hnin, htp, htt, hpr, hnpr, hmpr, bI, bIh, bP, bL] using h9
  · unfold CbF
    have h9 := r_bF R
    simpa (disch := decide) only [gO, gLo, hnB, hnP, hnO, hhN, hnLn, hnOp, hlnP, hpc, hkd, hop, hin, hnin, htp, htt, hpr, hnpr, hmpr, bI, bIh, bP, bL] using h9
  · unfold CbS
    have h9 := r_bS R
    simpa (disch := decide) only [gO, gLo, hnB, hnP, hnO, hhN, hnLn, hnOp, hlnP, hpc, hkd, hop, hin, hnin, htp, htt, hpr, hnpr, hmpr, bI, bIh, bP, bL] using h9
  · unfold CbC
    have h9 := r_bC R
    simpa (disch := decide) only [gO, gLo, hnB, hnP, hnO, hhN, hnLn, hnOp, hlnP, hpc, hkd, hop, hin, hnin, htp, htt, hpr, hnpr, hmpr, bI, bIh, bP, bL] using h9
  · unfold CbT
    have h9 := r_bT R
    simpa (disch := decide) only [gO, gLo, hnB, hnP, hnO, hhN, hnLn, hnOp, hlnP, hpc, hkd, hop, hin, hnin, htp, htt, hpr, hnpr, hmpr, bI, bIh, bP, bL] using h9
  · unfold CbU
    have h9 := r_bU R
    simpa (disch := decide) only [gO, gLo, hnB, hnP, hnO, hhN, hnLn, hnOp, hlnP, hpc, hkd, hop, hin, hnin, htp, htt, hpr, hnpr, hmpr, bI, bIh, bP, bL] using h9
  · unfold Cbq
    have h9 := r_bq R
    simpa (disch := decide) only [gO, gLo, hnB, hnP, hnO, hhN, hnLn, hnOp, hlnP, hpc, hkd, hop, hin, hnin, htp, htt, hpr, hnpr, hmpr, bI, bIh, bP, bL] using h9
  · unfold Cps
    have h9 := r_ps R
    simpa (disch := decide) only [gO, gLo, hnB, hnP, hnO, hhN, hnLn, hnOp, hlnP, hpc, hkd, hop, hin, hnin, htp, htt, hpr, hnpr, hmpr, bI, bIh, bP, bL] using h9
  · unfold Cbp
    have h9 := r_bp R
    simpa (disch := decide) only [gO, gLo, hnB, hnP, hnO, hhN, hnLn, hnOp, hlnP, hpc, hkd, hop, hin, hnin, htp, htt, hpr, hnpr, hmpr, bI, bIh, bP, bL] using h9
  · unfold Cbc
    have h9 := r_bc R
    simpa (disch := decide) only [gO, gLo, hnB, hnP, hnO, hhN, hnLn, hnOp, hlnP, hpc, hkd, hop, hin, hnin, htp, htt, hpr, hnpr, hmpr, bI, bIh, bP, bL] using h9
  · unfold CfB
    intro j h1 h2
    rw [hnB] at h1
    rw [bX _ (tk_ne (by decide) (by decide) (by decide) : tk 0 _ ≠ tk 4 _)]
    exact r_fB R j h1 h2
  · unfold CfL
    intro i q h1 h2 h3
    rw [hnLn] at h3
    rw [bX _ (tk_ne (by decide) (by decide) (by decide) : tk 3 _ ≠ tk 4 _)]
    exact r_fL R i q h1 h2 h3
  · unfold CfO
    intro i q h1 h2 h3
    rw [hnOp] at h3
    rw [bX _ (tk_ne (by decide) (by decide) (by decide) : tk 5 _ ≠ tk 4 _)]
    exact r_fO R i q h1 h2 h3
  · unfold CfM
    intro j h1 h2
    rw [e1] at h1
    rw [bX _ (fun q => by have := tk_inj.mp q; omega)]
    exact r_fM R j (by omega) h2
  · unfold CfP
    intro j h1 h2
    rw [hnP] at h1
    rw [bX _ (tk_ne (by decide) (by decide) (by decide) : tk 7 _ ≠ tk 4 _), bX _ (tk_ne (by decide) (by decide) (by decide) : tk 21 _ ≠ tk 4 _), bX _ (tk_ne (by decide) (by decide) (by decide) : tk 22 _ ≠ tk 4 _)]
    exact r_fP R j h1 h2
  · unfold CfR
    intro j h1 h2
    rw [hnO] at h1
    rw [bX _ (tk_ne (by decide) (by decide) (by decide) : tk 6 _ ≠ tk 4 _)]
    exact r_fR R j h1 h2
  · unfold CfG
    obtain ⟨Q, h1, h2⟩ := r_fG R
    refine ⟨Q, h1, fun c i hi => ?_⟩
    rw [bX _ (by unfold tk; omega)]
    exact h2 c i hi
  · unfold Cm0
    intro j hj
    rw [e1] at hj
    by_cases c : j = nM M
    · subst c
      rw [bPa, if_pos rfl]
    · have hj2 : j < nM M := by omega
      have h9 := r_m0 R j hj2
      simpa (disch := decide) only [gJ _ _ c, bJ4 _ _ c, bPj _ _ c, bPa, if_neg c, gO, gLo, hnB, hnP, hnO, hhN, hnLn, hnOp, hlnP, hpc, hkd, hop, hin, hnin, htp, htt, hpr, hnpr, hmpr, bI, bIh, bP, bL] using h9
  · unfold Cmn
    intro j hj
    rw [e1] at hj
    by_cases c : j = nM M
    · subst c
      exact v0
    · have hj2 : j < nM M := by omega
      have h9 := r_mn R j hj2
      simpa (disch := decide) only [gJ _ _ c, bJ4 _ _ c, bPj _ _ c, bPa, if_neg c, gO, gLo, hnB, hnP, hnO, hhN, hnLn, hnOp, hlnP, hpc, hkd, hop, hin, hnin, htp, htt, hpr, hnpr, hmpr, bI, bIh, bP, bL] using h9
  · unfold Cm1
    intro j hj
    rw [e1] at hj
    by_cases c : j = nM M
    · subst c
      rw [v1, g28]
    · have hj2 : j < nM M := by omega
      have h9 := r_m1 R j hj2
      simpa (disch := decide) only [gJ _ _ c, bJ4 _ _ c, bPj _ _ c, bPa, if_neg c, gO, gLo, hnB, hnP, hnO, hhN, hnLn, hnOp, hlnP, hpc, hkd, hop, hin, hnin, htp, htt, hpr, hnpr, hmpr, bI, bIh, bP, bL] using h9
  · unfold Cm2
    intro j hj
    rw [e1] at hj
    by_cases c : j = nM M
    · subst c
      rw [v2, g29]
    · have hj2 : j < nM M := by omega
      have h9 := r_m2 R j hj2
      simpa (disch := decide) only [gJ _ _ c, bJ4 _ _ c, bPj _ _ c, bPa, if_neg c, gO, gLo, hnB, hnP, hnO, hhN, hnLn, hnOp, hlnP, hpc, hkd, hop, hin, hnin, htp, htt, hpr, hnpr, hmpr, bI, bIh, bP, bL] using h9
  · unfold Cm3
    intro j hj
    rw [e1] at hj
    by_cases c : j = nM M
    · subst c
      rw [v3, g30]
    · have hj2 : j < nM M := by omega
      have h9 := r_m3 R j hj2
      simpa (disch := decide) only [gJ _ _ c, bJ4 _ _ c, bPj _ _ c, bPa, if_neg c, gO, gLo, hnB, hnP, hnO, hhN, hnLn, hnOp, hlnP, hpc, hkd, hop, hin, hnin, htp, htt, hpr, hnpr, hmpr, bI, bIh, bP, bL] using h9
  · unfold Cm4
    intro j hj
    rw [e1] at hj
    by_cases c : j = nM M
    · subst c
      rw [v4, g31]
    · have hj2 : j < nM M := by omega
      have h9 := r_m4 R j hj2
      simpa (disch := decide) only [gJ _ _ c, bJ4 _ _ c, bPj _ _ c, bPa, if_neg c, gO, gLo, hnB, hnP, hnO, hhN, hnLn, hnOp, hlnP, hpc, hkd, hop, hin, hnin, htp, htt, hpr, hnpr, hmpr, bI, bIh, bP, bL] using h9
  · unfold Cm5
    intro j hj
    rw [e1] at hj
    by_cases c : j = nM M
    · subst c
      rw [v5, g32]
    · have hj2 : j < nM M := by omega
      have h9 := r_m5 R j hj2
      simpa (disch := decide) only [gJ _ _ c, bJ4 _ _ c, bPj _ _ c, bPa, if_neg c, gO, gLo, hnB, hnP, hnO, hhN, hnLn, hnOp, hlnP, hpc, hkd, hop, hin, hnin, htp, htt, hpr, hnpr, hmpr, bI, bIh, bP, bL] using h9
  · unfold Cm9
    intro j hj
    rw [e1] at hj
    by_cases c : j = nM M
    · subst c
      rw [v9, gO _ _ rfl, z35]
    · have hj2 : j < nM M := by omega
      have h9 := r_m9 R j hj2
      simpa (disch := decide) only [gJ _ _ c, bJ4 _ _ c, bPj _ _ c, bPa, if_neg c, gO, gLo, hnB, hnP, hnO, hhN, hnLn, hnOp, hlnP, hpc, hkd, hop, hin, hnin, htp, htt, hpr, hnpr, hmpr, bI, bIh, bP, bL] using h9
  · unfold Cm11
    intro j hj
    rw [e1] at hj
    by_cases c : j = nM M
    · subst c
      rw [v11, gO _ _ rfl, z37]
    · have hj2 : j < nM M := by omega
      have h9 := r_m11 R j hj2
      simpa (disch := decide) only [gJ _ _ c, bJ4 _ _ c, bPj _ _ c, bPa, if_neg c, gO, gLo, hnB, hnP, hnO, hhN, hnLn, hnOp, hlnP, hpc, hkd, hop, hin, hnin, htp, htt, hpr, hnpr, hmpr, bI, bIh, bP, bL] using h9
  · unfold Cm13
    intro j hj
    rw [e1] at hj
    by_cases c : j = nM M
    · subst c
      rw [v13, gO _ _ rfl, z39]
    · have hj2 : j < nM M := by omega
      have h9 := r_m13 R j hj2
      simpa (disch := decide) only [gJ _ _ c, bJ4 _ _ c, bPj _ _ c, bPa, if_neg c, gO, gLo, hnB, hnP, hnO, hhN, hnLn, hnOp, hlnP, hpc, hkd, hop, hin, hnin, htp, htt, hpr, hnpr, hmpr, bI, bIh, bP, bL] using h9
  · unfold Cm14
    intro j hj
    rw [e1] at hj
    by_cases c : j = nM M
    · subst c
      rw [v14, gO _ _ rfl, z40]
    · have hj2 : j < nM M := by omega
      have h9 := r_m14 R j hj2
      simpa (disch := decide) only [gJ _ _ c, bJ4 _ _ c, bPj _ _ c, bPa, if_neg c, gO, gLo, hnB, hnP, hnO, hhN, hnLn, hnOp, hlnP, hpc, hkd, hop, hin, hnin, htp, htt, hpr, hnpr, hmpr, bI, bIh, bP, bL] using h9
  · unfold Cm6
    intro j hj
    rw [e1] at hj
    by_cases c : j = nM M
    · subst c
      rw [p6, g33]
    · have hj2 : j < nM M := by omega
      have h9 := r_m6 R j hj2
      simpa (disch := decide) only [gJ _ _ c, bJ4 _ _ c, bPj _ _ c, bPa, if_neg c, gO, gLo, hnB, hnP, hnO, hhN, hnLn, hnOp, hlnP, hpc, hkd, hop, hin, hnin, htp, htt, hpr, hnpr, hmpr, bI, bIh, bP, bL] using h9
  · unfold Cm7
    intro j hj
    rw [e1] at hj
    by_cases c : j = nM M
    · subst c
      rw [p7, g34]; rfl
    · have hj2 : j < nM M := by omega
      have h9 := r_m7 R j hj2
      simpa (disch := decide) only [gJ _ _ c, bJ4 _ _ c, bPj _ _ c, bPa, if_neg c, gO, gLo, hnB, hnP, hnO, hhN, hnLn, hnOp, hlnP, hpc, hkd, hop, hin, hnin, htp, htt, hpr, hnpr, hmpr, bI, bIh, bP, bL] using h9
  · unfold Cm8
    intro j hj
    rw [e1] at hj
    by_cases c : j = nM M
    · subst c
      rw [p8, g36]; rfl
    · have hj2 : j < nM M := by omega
      have h9 := r_m8 R j hj2
      simpa (disch := decide) only [gJ _ _ c, bJ4 _ _ c, bPj _ _ c, bPa, if_neg c, gO, gLo, hnB, hnP, hnO, hhN, hnLn, hnOp, hlnP, hpc, hkd, hop, hin, hnin, htp, htt, hpr, hnpr, hmpr, bI, bIh, bP, bL] using h9
  · unfold Cm12
    intro j hj
    rw [e1] at hj
    by_cases c : j = nM M
    · subst c
      rw [p12, g38]; rfl
    · have hj2 : j < nM M := by omega
      have h9 := r_m12 R j hj2
      simpa (disch := decide) only [gJ _ _ c, bJ4 _ _ c, bPj _ _ c, bPa, if_neg c, gO, gLo, hnB, hnP, hnO, hhN, hnLn, hnOp, hlnP, hpc, hkd, hop, hin, hnin, htp, htt, hpr, hnpr, hmpr, bI, bIh, bP, bL] using h9
  · unfold Cm10
    intro m j hm hj hl
    rw [e1] at hm
    rw [hnB] at hj
    by_cases c : m = nM M
    · subst c; rw [g34] at hl; exact absurd hl.symm (nI_ne1 (by omega))
    · rw [gJ _ _ c (by decide)] at hl; rw [bJ4 _ _ c, gO _ _ rfl]; exact r_m10 R m j (by omega) hj hl
  · unfold Cmma
    intro j hj
    rw [e1] at hj
    by_cases c : j = nM M
    · subst c
      rw [g33]; exact hpt
    · have hj2 : j < nM M := by omega
      have h9 := r_mma R j hj2
      simpa (disch := decide) only [gJ _ _ c, bJ4 _ _ c, bPj _ _ c, bPa, if_neg c, gO, gLo, hnB, hnP, hnO, hhN, hnLn, hnOp, hlnP, hpc, hkd, hop, hin, hnin, htp, htt, hpr, hnpr, hmpr, bI, bIh, bP, bL] using h9
  · unfold Cmmb
    intro j hj
    rw [e1] at hj
    by_cases c : j = nM M
    · subst c
      rw [g34, g36, gO _ _ rfl, z35]; exact Or.inl ⟨rfl, rfl, rfl⟩
    · have hj2 : j < nM M := by omega
      have h9 := r_mmb R j hj2
      rcases h9 with h9 | ⟨i, q, h1, h2, h3, h4, h5⟩; exact Or.inl ⟨by rw [gJ _ _ c (by decide)]; exact h9.1, by rw [gJ _ _ c (by decide)]; exact h9.2.1, by rw [gO _ _ rfl]; exact h9.2.2⟩; exact Or.inr ⟨i, q, by rw [gJ _ _ c (by decide)]; exact h1, by rw [hnB]; exact h2, by rw [gO _ _ rfl]; exact h3, by rw [gJ _ _ c (by decide)]; exact h4, by rw [hnP]; exact h5⟩
  · unfold Cmmc
    intro j hj
    rw [e1] at hj
    by_cases c : j = nM M
    · subst c
      rw [g38]; exact Or.inl rfl
    · have hj2 : j < nM M := by omega
      have h9 := r_mmc R j hj2
      simpa (disch := decide) only [gJ _ _ c, bJ4 _ _ c, bPj _ _ c, bPa, if_neg c, gO, gLo, hnB, hnP, hnO, hhN, hnLn, hnOp, hlnP, hpc, hkd, hop, hin, hnin, htp, htt, hpr, hnpr, hmpr, bI, bIh, bP, bL] using h9
  · unfold Cmr29
    intro j hj
    rw [e1] at hj
    by_cases c : j = nM M
    · subst c
      rw [g29]; exact hsu
    · have hj2 : j < nM M := by omega
      have h9 := r_mr29 R j hj2
      simpa (disch := decide) only [gJ _ _ c, bJ4 _ _ c, bPj _ _ c, bPa, if_neg c, gO, gLo, hnB, hnP, hnO, hhN, hnLn, hnOp, hlnP, hpc, hkd, hop, hin, hnin, htp, htt, hpr, hnpr, hmpr, bI, bIh, bP, bL] using h9
  · unfold Cmr30
    intro j hj
    rw [e1] at hj
    by_cases c : j = nM M
    · subst c
      rw [g30]; exact hco
    · have hj2 : j < nM M := by omega
      have h9 := r_mr30 R j hj2
      simpa (disch := decide) only [gJ _ _ c, bJ4 _ _ c, bPj _ _ c, bPa, if_neg c, gO, gLo, hnB, hnP, hnO, hhN, hnLn, hnOp, hlnP, hpc, hkd, hop, hin, hnin, htp, htt, hpr, hnpr, hmpr, bI, bIh, bP, bL] using h9
  · unfold Cmr31
    intro j hj
    rw [e1] at hj
    by_cases c : j = nM M
    · subst c
      rw [g31]; exact hli
    · have hj2 : j < nM M := by omega
      have h9 := r_mr31 R j hj2
      simpa (disch := decide) only [gJ _ _ c, bJ4 _ _ c, bPj _ _ c, bPa, if_neg c, gO, gLo, hnB, hnP, hnO, hhN, hnLn, hnOp, hlnP, hpc, hkd, hop, hin, hnin, htp, htt, hpr, hnpr, hmpr, bI, bIh, bP, bL] using h9
  · unfold Cmr32
    intro j hj
    rw [e1] at hj
    by_cases c : j = nM M
    · subst c
      rw [g32]; exact hre
    · have hj2 : j < nM M := by omega
      have h9 := r_mr32 R j hj2
      simpa (disch := decide) only [gJ _ _ c, bJ4 _ _ c, bPj _ _ c, bPa, if_neg c, gO, gLo, hnB, hnP, hnO, hhN, hnLn, hnOp, hlnP, hpc, hkd, hop, hin, hnin, htp, htt, hpr, hnpr, hmpr, bI, bIh, bP, bL] using h9
  · unfold Cmr35
    intro j hj
    rw [e1] at hj
    by_cases c : j = nM M
    · subst c
      rw [gO _ _ rfl, z35]; exact ⟨0, nI_0.symm, by omega⟩
    · have hj2 : j < nM M := by omega
      have h9 := r_mr35 R j hj2
      simpa (disch := decide) only [gJ _ _ c, bJ4 _ _ c, bPj _ _ c, bPa, if_neg c, gO, gLo, hnB, hnP, hnO, hhN, hnLn, hnOp, hlnP, hpc, hkd, hop, hin, hnin, htp, htt, hpr, hnpr, hmpr, bI, bIh, bP, bL] using h9
  · unfold Cmr39
    intro j hj
    rw [e1] at hj
    by_cases c : j = nM M
    · subst c
      rw [gO _ _ rfl, z39]; exact ⟨0, nI_0.symm, by omega⟩
    · have hj2 : j < nM M := by omega
      have h9 := r_mr39 R j hj2
      simpa (disch := decide) only [gJ _ _ c, bJ4 _ _ c, bPj _ _ c, bPa, if_neg c, gO, gLo, hnB, hnP, hnO, hhN, hnLn, hnOp, hlnP, hpc, hkd, hop, hin, hnin, htp, htt, hpr, hnpr, hmpr, bI, bIh, bP, bL] using h9
  · unfold Cmr40
    intro j hj
    rw [e1] at hj
    rw [gO _ _ rfl, gO _ _ rfl]
    by_cases c : j = nM M
    · subst c; rw [z39]; exact fun q => absurd q (by decide)
    · exact r_mr40 R j (by omega)
  · unfold Cmd
    intro m n hm hn hmn hl
    rw [e1] at hm hn
    by_cases c : m = nM M
    · subst c; exact g34
    · by_cases d : n = nM M
      · subst d; rw [hl]; exact g34
      · rw [gJ _ _ c (by decide)] at hl ⊢; rw [gJ _ _ d (by decide)] at hl; exact r_md R m n (by omega) (by omega) hmn hl
  · unfold Cmw
    intro m n hm hn hmn hl
    rw [e1] at hm hn
    by_cases c : m = nM M
    · subst c; exact g36
    · by_cases d : n = nM M
      · subst d; rw [hl]; exact g36
      · rw [gJ _ _ c (by decide)] at hl ⊢; rw [gJ _ _ d (by decide)] at hl; exact r_mw R m n (by omega) (by omega) hmn hl
  · unfold Cq0
    have h9 := r_q0 R
    simpa (disch := decide) only [gO, gLo, hnB, hnP, hnO, hhN, hnLn, hnOp, hlnP, hpc, hkd, hop, hin, hnin, htp, htt, hpr, hnpr, hmpr, bI, bIh, bP, bL] using h9
  · unfold Cqn
    have h9 := r_qn R
    simpa (disch := decide) only [gO, gLo, hnB, hnP, hnO, hhN, hnLn, hnOp, hlnP, hpc, hkd, hop, hin, hnin, htp, htt, hpr, hnpr, hmpr, bI, bIh, bP, bL] using h9
  · unfold Cq1
    have h9 := r_q1 R
    simpa (disch := decide) only [gO, gLo, hnB, hnP, hnO, hhN, hnLn, hnOp, hlnP, hpc, hkd, hop, hin, hnin, htp, htt, hpr, hnpr, hmpr, bI, bIh, bP, bL] using h9
  · unfold Cq2
    have h9 := r_q2 R
    simpa (disch := decide) only [gO, gLo, hnB, hnP, hnO, hhN, hnLn, hnOp, hlnP, hpc, hkd, hop, hin, hnin, htp, htt, hpr, hnpr, hmpr, bI, bIh, bP, bL] using h9
  · unfold Cq3
    have h9 := r_q3 R
    simpa (disch := decide) only [gO, gLo, hnB, hnP, hnO, hhN, hnLn, hnOp, hlnP, hpc, hkd, hop, hin, hnin, htp, htt, hpr, hnpr, hmpr, bI, bIh, bP, bL] using h9
  · unfold Cq4
    have h9 := r_q4 R
    simpa (disch := decide) only [gO, gLo, hnB, hnP, hnO, hhN, hnLn, hnOp, hlnP, hpc, hkd, hop, hin, hnin, htp, htt, hpr, hnpr, hmpr, bI, bIh, bP, bL] using h9
  · unfold Cq5
    have h9 := r_q5 R
    simpa (disch := decide) only [gO, gLo, hnB, hnP, hnO, hhN, hnLn, hnOp, hlnP, hpc, hkd, hop, hin, hnin, htp, htt, hpr, hnpr, hmpr, bI, bIh, bP, bL] using h9
  · unfold Cq6
    intro p hp
    rw [hnP] at hp
    rw [bI _ _ _ (by decide) (by decide) (by decide)]
    rcases r_q6 R p hp with ⟨h1, h2⟩ | ⟨m, h1, h2, h3⟩
    · left
      refine ⟨h1, fun m hm => ?_⟩
      rw [e1] at hm
      by_cases c : m = nM M
      · subst c; rw [g36]; exact fun q => nI_ne1 (by omega) q.symm
      · rw [gJ _ _ c (by decide)]; exact h2 m (by omega)
    · right
      exact ⟨m, by omega, h2, by rw [gJ _ _ (by omega) (by decide)]; exact h3⟩
  · unfold Cql
    have h9 := r_ql R
    simpa (disch := decide) only [gO, gLo, hnB, hnP, hnO, hhN, hnLn, hnOp, hlnP, hpc, hkd, hop, hin, hnin, htp, htt, hpr, hnpr, hmpr, bI, bIh, bP, bL] using h9
  · unfold Cqw
    have h9 := r_qw R
    simpa (disch := decide) only [gO, gLo, hnB, hnP, hnO, hhN, hnLn, hnOp, hlnP, hpc, hkd, hop, hin, hnin, htp, htt, hpr, hnpr, hmpr, bI, bIh, bP, bL] using h9
  · unfold Cqm
    have h9 := r_qm R
    simpa (disch := decide) only [gO, gLo, hnB, hnP, hnO, hhN, hnLn, hnOp, hlnP, hpc, hkd, hop, hin, hnin, htp, htt, hpr, hnpr, hmpr, bI, bIh, bP, bL] using h9
  · unfold Cqr
    have h9 := r_qr R
    simpa (disch := decide) only [gO, gLo, hnB, hnP, hnO, hhN, hnLn, hnOp, hlnP, hpc, hkd, hop, hin, hnin, htp, htt, hpr, hnpr, hmpr, bI, bIh, bP, bL] using h9
  · unfold Cr0
    have h9 := r_r0 R
    simpa (disch := decide) only [gO, gLo, hnB, hnP, hnO, hhN, hnLn, hnOp, hlnP, hpc, hkd, hop, hin, hnin, htp, htt, hpr, hnpr, hmpr, bI, bIh, bP, bL] using h9
  · unfold Cr1
    have h9 := r_r1 R
    simpa (disch := decide) only [gO, gLo, hnB, hnP, hnO, hhN, hnLn, hnOp, hlnP, hpc, hkd, hop, hin, hnin, htp, htt, hpr, hnpr, hmpr, bI, bIh, bP, bL] using h9
  · unfold Cr2
    have h9 := r_r2 R
    simpa (disch := decide) only [gO, gLo, hnB, hnP, hnO, hhN, hnLn, hnOp, hlnP, hpc, hkd, hop, hin, hnin, htp, htt, hpr, hnpr, hmpr, bI, bIh, bP, bL] using h9
  · unfold Cr3
    have h9 := r_r3 R
    simpa (disch := decide) only [gO, gLo, hnB, hnP, hnO, hhN, hnLn, hnOp, hlnP, hpc, hkd, hop, hin, hnin, htp, htt, hpr, hnpr, hmpr, bI, bIh, bP, bL] using h9
  · unfold Cr4
    have h9 := r_r4 R
    simpa (disch := decide) only [gO, gLo, hnB, hnP, hnO, hhN, hnLn, hnOp, hlnP, hpc, hkd, hop, hin, hnin, htp, htt, hpr, hnpr, hmpr, bI, bIh, bP, bL] using h9
  · unfold Cr5
    have h9 := r_r5 R
    simpa (disch := decide) only [gO, gLo, hnB, hnP, hnO, hhN, hnLn, hnOp, hlnP, hpc, hkd, hop, hin, hnin, htp, htt, hpr, hnpr, hmpr, bI, bIh, bP, bL] using h9
  · unfold Cr6
    have h9 := r_r6 R
    simpa (disch := decide) only [gO, gLo, hnB, hnP, hnO, hhN, hnLn, hnOp, hlnP, hpc, hkd, hop, hin, hnin, htp, htt, hpr, hnpr, hmpr, bI, bIh, bP, bL] using h9
  · unfold Crk
    have h9 := r_rk R
    simpa (disch := decide) only [gO, gLo, hnB, hnP, hnO, hhN, hnLn, hnOp, hlnP, hpc, hkd, hop, hin, hnin, htp, htt, hpr, hnpr, hmpr, bI, bIh, bP, bL] using h9
  · unfold Crp
    have h9 := r_rp R
    simpa (disch := decide) only [gO, gLo, hnB, hnP, hnO, hhN, hnLn, hnOp, hlnP, hpc, hkd, hop, hin, hnin, htp, htt, hpr, hnpr, hmpr, bI, bIh, bP, bL] using h9
  · unfold Crq
    have h9 := r_rq R
    simpa (disch := decide) only [gO, gLo, hnB, hnP, hnO, hhN, hnLn, hnOp, hlnP, hpc, hkd, hop, hin, hnin, htp, htt, hpr, hnpr, hmpr, bI, bIh, bP, bL] using h9
  · unfold Crr
    have h9 := r_rr R
    simpa (disch := decide) only [gO, gLo, hnB, hnP, hnO, hhN, hnLn, hnOp, hlnP, hpc, hkd, hop, hin, hnin, htp, htt, hpr, hnpr, hmpr, bI, bIh, bP, bL] using h9
  · unfold Crs
    have h9 := r_rs R
    simpa (disch := decide) only [gO, gLo, hnB, hnP, hnO, hhN, hnLn, hnOp, hlnP, hpc, hkd, hop, hin, hnin, htp, htt, hpr, hnpr, hmpr, bI, bIh, bP, bL] using h9
set_option maxHeartbeats 2000000 in
theorem rel_addM {e : Nat} {a : Sg} {M : MS} (R : Rel e a M) (c su co li re pt : Int32) (hsu : ∃ s : Nat, su = nI s ∧ s ≤ 5) (hco : ∃ s : Nat, co = nI s ∧ s ≤ 9) (hli : ∃ s : Nat, li = nI s ∧ 1 ≤ s ∧ s ≤ 50) (hre : ∃ s : Nat, re = nI s ∧ 1 ≤ s ∧ s ≤ 9) (hpt : pt = -1 ∨ ∃ q : Nat, pt = nI q ∧ q < 12) (z35 : gI M 35 (nM M) = 0) (z37 : gI M 37 (nM M) = 0) (z39 : gI M 39 (nM M) = 0) (z40 : gI M 40 (nM M) = 0) (hlt : nM M < 6) : Rel e (wI (wP (wP (wI (wI (wI (wI (wI (wI (wI (wN a (tk 4 (nM M))) (tk 4 (nM M)) 13 0) (tk 4 (nM M)) 0 (nI (nM M))) (tk 4 (nM M)) 1 c) (tk 4 (nM M)) 2 su) (tk 4 (nM M)) 3 co) (tk 4 (nM M)) 4 li) (tk 4 (nM M)) 5 re) (tk 4 (nM M)) 6 (kp pt)) (tk 17 0) (nM M) (some (tk 4 (nM M)))) (tk 1 0) 2 (nI (nM M + 1))) (uI (uI (uI (uI (uI (uI (uI (uI (uI (uI M 28 (nM M) c) 29 (nM M) su) 30 (nM M) co) 31 (nM M) li) 32 (nM M) re) 33 (nM M) pt) 34 (nM M) (-1)) 36 (nM M) (-1)) 38 (nM M) (-1)) 227 0 (nI (nM M + 1))) := by
  refine rel_addMN R c su co li re pt hsu hco hli hre hpt z35 z37 z39 z40 hlt ?_ ?_ ?_ ?_ ?_ ?_ ?_ ?_ ?_ ?_ ?_ ?_ ?_ ?_ ?_ ?_ ?_ ?_ ?_ ?_ ?_ ?_ ?_ ?_ ?_ ?_ ?_ ?_ ?_ ?_ ?_ ?_ ?_ ?_ ?_ ?_
  · intro t j h; have h : t ≠ 28 ∧ t ≠ 29 ∧ t ≠ 30 ∧ t ≠ 31 ∧ t ≠ 32 ∧ t ≠ 33 ∧ t ≠ 34 ∧ t ≠ 36 ∧ t ≠ 38 ∧ t ≠ 227 := by unfold z_rel_addM at h; simp only [Bool.and_eq_true, bne_iff_ne] at h; omega
    simp (disch := omega) only [gI_ne]
  · intro t j h h1; rw [gI_ne (Ne.symm h1)]; simp (disch := omega) only [gI_nj]
  · simp [gI_uI]
  · simp [gI_uI]
  · simp [gI_uI]
  · simp [gI_uI]
  · simp [gI_uI]
  · simp [gI_uI]
  · simp [gI_uI]
  · simp [gI_uI]
  · simp [gI_uI]
  · simp [gI_uI]
  · intro j; simp [gL_uI]
  · intro c i q h0 h4 hh; simp (disch := omega) [gI_uI, gI_uL, gL_uI, gL_uL, sI_wI, sI_wP, sI_wN, sP_wI, sP_wP, sP_wN, sL_wI, sL_wP, sL_wN, sX_wI, sX_wP, sX_wN, tk_ne9, tk_inj]
  · intro q h; simp [gI_uI, gI_uL, gL_uI, gL_uL, sI_wI, sI_wP, sI_wN, sP_wI, sP_wP, sP_wN, sL_wI, sL_wP, sL_wN, sX_wI, sX_wP, sX_wN, tk_ne9, tk_inj, h]
  · simp [gI_uI, gI_uL, gL_uI, gL_uL, sI_wI, sI_wP, sI_wN, sP_wI, sP_wP, sP_wN, sL_wI, sL_wP, sL_wN, sX_wI, sX_wP, sX_wN, tk_ne9, tk_inj]
  · intro j q h; simp [gI_uI, gI_uL, gL_uI, gL_uL, sI_wI, sI_wP, sI_wN, sP_wI, sP_wP, sP_wN, sL_wI, sL_wP, sL_wN, sX_wI, sX_wP, sX_wN, tk_ne9, tk_inj, h]
  · simp [gI_uI, gI_uL, gL_uI, gL_uL, sI_wI, sI_wP, sI_wN, sP_wI, sP_wP, sP_wN, sL_wI, sL_wP, sL_wN, sX_wI, sX_wP, sX_wN, tk_ne9, tk_inj]
  · simp [gI_uI, gI_uL, gL_uI, gL_uL, sI_wI, sI_wP, sI_wN, sP_wI, sP_wP, sP_wN, sL_wI, sL_wP, sL_wN, sX_wI, sX_wP, sX_wN, tk_ne9, tk_inj]
  · simp [gI_uI, gI_uL, gL_uI, gL_uL, sI_wI, sI_wP, sI_wN, sP_wI, sP_wP, sP_wN, sL_wI, sL_wP, sL_wN, sX_wI, sX_wP, sX_wN, tk_ne9, tk_inj]
  · simp [gI_uI, gI_uL, gL_uI, gL_uL, sI_wI, sI_wP, sI_wN, sP_wI, sP_wP, sP_wN, sL_wI, sL_wP, sL_wN, sX_wI, sX_wP, sX_wN, tk_ne9, tk_inj]
  · simp [gI_uI, gI_uL, gL_uI, gL_uL, sI_wI, sI_wP, sI_wN, sP_wI, sP_wP, sP_wN, sL_wI, sL_wP, sL_wN, sX_wI, sX_wP, sX_wN, tk_ne9, tk_inj]
  · simp [gI_uI, gI_uL, gL_uI, gL_uL, sI_wI, sI_wP, sI_wN, sP_wI, sP_wP, sP_wN, sL_wI, sL_wP, sL_wN, sX_wI, sX_wP, sX_wN, tk_ne9, tk_inj]
  · simp [gI_uI, gI_uL, gL_uI, gL_uL, sI_wI, sI_wP, sI_wN, sP_wI, sP_wP, sP_wN, sL_wI, sL_wP, sL_wN, sX_wI, sX_wP, sX_wN, tk_ne9, tk_inj]
  · simp [gI_uI, gI_uL, gL_uI, gL_uL, sI_wI, sI_wP, sI_wN, sP_wI, sP_wP, sP_wN, sL_wI, sL_wP, sL_wN, sX_wI, sX_wP, sX_wN, tk_ne9, tk_inj]
  · simp [gI_uI, gI_uL, gL_uI, gL_uL, sI_wI, sI_wP, sI_wN, sP_wI, sP_wP, sP_wN, sL_wI, sL_wP, sL_wN, sX_wI, sX_wP, sX_wN, tk_ne9, tk_inj]
  · simp [gI_uI, gI_uL, gL_uI, gL_uL, sI_wI, sI_wP, sI_wN, sP_wI, sP_wP, sP_wN, sL_wI, sL_wP, sL_wN, sX_wI, sX_wP, sX_wN, tk_ne9, tk_inj]
  · intro c i q h0 h4 hh; simp (disch := omega) [gI_uI, gI_uL, gL_uI, gL_uL, sI_wI, sI_wP, sI_wN, sP_wI, sP_wP, sP_wN, sL_wI, sL_wP, sL_wN, sX_wI, sX_wP, sX_wN, tk_ne9, tk_inj]
  · intro j q h; simp [gI_uI, gI_uL, gL_uI, gL_uL, sI_wI, sI_wP, sI_wN, sP_wI, sP_wP, sP_wN, sL_wI, sL_wP, sL_wN, sX_wI, sX_wP, sX_wN, tk_ne9, tk_inj, h]
  · intro j; simp [gI_uI, gI_uL, gL_uI, gL_uL, sI_wI, sI_wP, sI_wN, sP_wI, sP_wP, sP_wN, sL_wI, sL_wP, sL_wN, sX_wI, sX_wP, sX_wN, tk_ne9, tk_inj]
  · simp [gI_uI, gI_uL, gL_uI, gL_uL, sI_wI, sI_wP, sI_wN, sP_wI, sP_wP, sP_wN, sL_wI, sL_wP, sL_wN, sX_wI, sX_wP, sX_wN, tk_ne9, tk_inj]
  · simp [gI_uI, gI_uL, gL_uI, gL_uL, sI_wI, sI_wP, sI_wN, sP_wI, sP_wP, sP_wN, sL_wI, sL_wP, sL_wN, sX_wI, sX_wP, sX_wN, tk_ne9, tk_inj]
  · simp [gI_uI, gI_uL, gL_uI, gL_uL, sI_wI, sI_wP, sI_wN, sP_wI, sP_wP, sP_wN, sL_wI, sL_wP, sL_wN, sX_wI, sX_wP, sX_wN, tk_ne9, tk_inj]
  · simp [gI_uI, gI_uL, gL_uI, gL_uL, sI_wI, sI_wP, sI_wN, sP_wI, sP_wP, sP_wN, sL_wI, sL_wP, sL_wN, sX_wI, sX_wP, sX_wN, tk_ne9, tk_inj]
  · intro c i q h0 h4; simp (disch := omega) [gI_uI, gI_uL, gL_uI, gL_uL, sI_wI, sI_wP, sI_wN, sP_wI, sP_wP, sP_wN, sL_wI, sL_wP, sL_wN, sX_wI, sX_wP, sX_wN, tk_ne9, tk_inj]
  · intro t h4; simp [gI_uI, gI_uL, gL_uI, gL_uL, sI_wI, sI_wP, sI_wN, sP_wI, sP_wP, sP_wN, sL_wI, sL_wP, sL_wN, sX_wI, sX_wP, sX_wN, tk_ne9, tk_inj, h4]
def z_rel_addP (t : Nat) : Bool := t != 42 && t != 43 && t != 44 && t != 241
set_option maxHeartbeats 2000000 in
theorem rel_addPN {e : Nat} {a b : Sg} {M N : MS} (R : Rel e a M) (w bg hh : Int32) (hq : ∃ w1 b1 h1 : Nat, w = nI w1 ∧ w1 ≤ 9 ∧ bg = nI b1 ∧ b1 ≤ 23 ∧ hh = nI h1 ∧ 1 ≤ h1 ∧ h1 ≤ 24) (z45 : ∀ q, 4 * nP M ≤ q → gI M 45 q = 0 ∧ gI M 46 q = 0) (hlt : nP M < 6) (gO : ∀ t j, z_rel_addP t = true → gI N t j = gI M t j) (gJ : ∀ t j, ¬ j = nP M → t ≠ 241 → gI N t j = gI M t j) (gC : gI N 241 0 = nI (nP M + 1)) (g42 : gI N 42 (nP M) = w) (g43 : gI N 43 (nP M) = bg) (g44 : gI N 44 (nP M) = hh) (gLo : ∀ j, gL N j = gL M j) (bI : ∀ c i q, c < 32 → c ≠ 7 → c ≠ 21 → c ≠ 22 → c ≠ 1 → sI b (tk c i) q = sI a (tk c i) q) (bIh : ∀ q, q ≠ 4 → sI b (tk 1 0) q = sI a (tk 1 0) q) (bIc : sI b (tk 1 0) 4 = nI (nP M + 1)) (bJ7 : ∀ j q, ¬ j = nP M → sI b (tk 7 j) q = sI a (tk 7 j) q) (bJ21 : ∀ j q, ¬ j = nP M → sI b (tk 21 j) q = sI a (tk 21 j) q) (bJ22 : ∀ j q, ¬ j = nP M → sI b (tk 22 j) q = sI a (tk 22 j) q) (v0 : sI b (tk 7 (nP M)) 0 = nI (nP M)) (v1 : sI b (tk 7 (nP M)) 1 = w) (v2 : sI b (tk 7 (nP M)) 2 = bg) (v3 : sI b (tk 7 (nP M)) 3 = hh) (v6 : sI b (tk 7 (nP M)) 6 = -1) (w21 : ∀ q, sI b (tk 21 (nP M)) q = 0) (w22 : ∀ q, sI b (tk 22 (nP M)) q = 0) (bP : ∀ c i q, c < 32 → c ≠ 7 → c ≠ 21 → c ≠ 22 → c ≠ 20 → sP b (tk c i) q = sP a (tk c i) q) (bPj : ∀ j q, ¬ j = nP M → sP b (tk 7 j) q = sP a (tk 7 j) q) (bPa : ∀ j, sP b (tk 20 0) j = if j = nP M then some (tk 7 (nP M)) else sP a (tk 20 0) j) (p4 : sP b (tk 7 (nP M)) 4 = some (tk 21 (nP M))) (p5 : sP b (tk 7 (nP M)) 5 = some (tk 22 (nP M))) (bL : ∀ c i q, c < 32 → c ≠ 7 → c ≠ 21 → c ≠ 22 → sL b (tk c i) q = sL a (tk c i) q) (bX : ∀ t, t ≠ tk 7 (nP M) → t ≠ tk 21 (nP M) → t ≠ tk 22 (nP M) → sX b t = sX a t) : Rel e b N := by
  have hB := r_nBx R
  have hxM := r_nMx R
  have hxP := r_nPx R
  have hxO := r_nOx R
  have e1 : nP N = nP M + 1 := by unfold nP at gC ⊢; rw [gC, nI_clamp (by unfold nP at hlt; omega)]
  have hnB : nB N = nB M := by unfold nB; rw [gO _ _ rfl]
  have hnM : nM N = nM M := by unfold nM; rw [gO _ _ rfl]
  have hnO : nO N = nO M := by unfold nO; rw [gO _ _ rfl]
  have hhN : hN N = hN M := by unfold hN; rw [gO _ _ rfl]
  have hnLn : ∀ i, nLn N i = nLn M i := fun i => by unfold nLn; rw [gO _ _ rfl]
  have hnOp : ∀ i, nOp N i = nOp M i := fun i => by unfold nOp; rw [gO _ _ rfl]
  have hlnP : ∀ i, lnP N i = lnP M i := fun i => by unfold lnP; rw [gO _ _ rfl]
  have hpc : ∀ i, pc N i = pc M i := fun i => by unfold pc; rw [gO _ _ rfl]
  have hkd : ∀ i, kd N i = kd M i := fun i => by unfold kd; rw [gO _ _ rfl]
  have hop : ∀ i, op N i = op M i := fun i => by unfold op; rw [gO _ _ rfl]
  have hin : ∀ i m, mInSt N i m = mInSt M i m := fun i m => by unfold mInSt; refine sumN_congr fun j hj => ?_; rw [gO _ _ rfl, gO _ _ rfl, gO _ _ rfl]
  have hnin : ∀ i m, nInSt N i m = nInSt M i m := fun i m => by unfold nInSt; refine sumT_congr fun j hj => ?_; rw [gO _ _ rfl, gO _ _ rfl, hpc]
  have htp : ∀ m, totp N m = totp M m := fun m => by unfold totp; exact sumT_congr fun j hj => hpc j
  have htt : ∀ m, tot N m = tot M m := by
    intro m
    induction m with
    | zero => rfl
    | succ m ih => rw [tot_1, tot_1, ih, gO _ _ rfl]
  have hpr : ∀ i, pr N i = pr M i := fun i => by unfold pr; rw [gO _ _ rfl]
  have hnpr : ∀ i m, nProm N i m = nProm M i m := fun i m => by unfold nProm; refine sumT_congr fun j hj => ?_; rw [gO _ _ rfl, gO _ _ rfl, hpr]
  have hmpr : ∀ i m, mProm N i m = mProm M i m := fun i m => by unfold mProm; refine sumN_congr fun j hj => ?_; rw [gO _ _ rfl, gO _ _ rfl, gO _ _ rfl]
  unfold Rel
  refine ⟨?_, ?_, ?_, ?_, ?_, ?_, ?_, ?_, ?_, ?_, ?_, ?_, ?_, ?_, ?_, ?_, ?_, ?_, ?_, ?_, ?_, ?_, ?_, ?_, ?_, ?_, ?_, ?_, ?_, ?_, ?_, ?_, ?_, ?_, ?_, ?_, ?_, ?_, ?_, ?_, ?_, ?_, ?_, ?_, ?_, ?_, ?_, ?_, ?_, ?_, ?_, ?_, ?_, ?_, ?_, ?_, ?_, ?_, ?_, ?_, ?_, ?_, ?_, ?_, ?_, ?_, ?_, ?_, ?_, ?_, ?_, ?_, ?_, ?_, ?_, ?_, ?_, ?_, ?_, ?_, ?_, ?_, ?_, ?_, ?_, ?_, ?_, ?_, ?_, ?_, ?_, ?_, ?_, ?_, ?_, ?_, ?_, ?_, ?_, ?_, ?_, ?_, ?_, ?_, ?_, ?_, ?_, ?_, ?_, ?_, ?_, ?_, ?_, ?_, ?_, ?_, ?_, ?_, ?_, ?_, ?_, ?_, ?_, ?_, ?_, ?_, ?_, ?_, ?_, ?_, ?_, ?_, ?_, ?_, ?_, ?_, ?_, ?_, ?_, ?_, ?_, ?_, ?_, ?_, ?_, ?_, ?_, ?_, ?_⟩
  · unfold Cshm
    have h9 := r_shm R
    simpa (disch := decide) only [gO, gLo, hnB, hnM, hnO, hhN, hnLn, hnOp, hlnP, hpc, hkd, hop, hin, hnin, htp, htt, hpr, hnpr, hmpr, bI, bIh, bP, bL] using h9
  · unfold Cpx0
    have h9 := r_px0 R
    simpa (disch := decide) only [gO, gLo, hnB, hnM, hnO, hhN, hnLn, hnOp, hlnP, hpc, hkd, hop, hin, hnin, htp, htt, hpr, hnpr, hmpr, bI, bIh, bP, bL] using h9
  · unfold Cpx1
    have h9 := r_px1 R
    simpa (disch := decide) only [gO, gLo, hnB, hnM, hnO, hhN, hnLn, hnOp, hlnP, hpc, hkd, hop, hin, hnin, htp, htt, hpr, hnpr, hmpr, bI, bIh, bP, bL] using h9
  · unfold Cpx2
    have h9 := r_px2 R
    simpa (disch := decide) only [gO, gLo, hnB, hnM, hnO, hhN, hnLn, hnOp, hlnP, hpc, hkd, hop, hin, hnin, htp, htt, hpr, hnpr, hmpr, bI, bIh, bP, bL] using h9
  · unfold Cpf0
    have h9 := r_pf0 R
    simpa (disch := decide) only [gO, gLo, hnB, hnM, hnO, hhN, hnLn, hnOp, hlnP, hpc, hkd, hop, hin, hnin, htp, htt, hpr, hnpr, hmpr, bI, bIh, bP, bL] using h9
  · unfold Cpf1
    have h9 := r_pf1 R
    simpa (disch := decide) only [gO, gLo, hnB, hnM, hnO, hhN, hnLn, hnOp, hlnP, hpc, hkd, hop, hin, hnin, htp, htt, hpr, hnpr, hmpr, bI, bIh, bP, bL] using h9
  · unfold Cpf3
    have h9 := r_pf3 R
    simpa (disch := decide) only [gO, gLo, hnB, hnM, hnO, hhN, hnLn, hnOp, hlnP, hpc, hkd, hop, hin, hnin, htp, htt, hpr, hnpr, hmpr, bI, bIh, bP, bL] using h9
  · unfold Cps0
    have h9 := r_ps0 R
    simpa (disch := decide) only [gO, gLo, hnB, hnM, hnO, hhN, hnLn, hnOp, hlnP, hpc, hkd, hop, hin, hnin, htp, htt, hpr, hnpr, hmpr, bI, bIh, bP, bL] using h9
  · unfold Cps2
    have h9 := r_ps2 R
    simpa (disch := decide) only [gO, gLo, hnB, hnM, hnO, hhN, hnLn, hnOp, hlnP, hpc, hkd, hop, hin, hnin, htp, htt, hpr, hnpr, hmpr, bI, bIh, bP, bL] using h9
  · unfold Cps4
    have h9 := r_ps4 R
    simpa (disch := decide) only [gO, gLo, hnB, hnM, hnO, hhN, hnLn, hnOp, hlnP, hpc, hkd, hop, hin, hnin, htp, htt, hpr, hnpr, hmpr, bI, bIh, bP, bL] using h9
  · unfold Cpk
    have h9 := r_pk R
    simpa (disch := decide) only [gO, gLo, hnB, hnM, hnO, hhN, hnLn, hnOp, hlnP, hpc, hkd, hop, hin, hnin, htp, htt, hpr, hnpr, hmpr, bI, bIh, bP, bL] using h9
  · unfold Cpkl
    have h9 := r_pkl R
    simpa (disch := decide) only [gO, gLo, hnB, hnM, hnO, hhN, hnLn, hnOp, hlnP, hpc, hkd, hop, hin, hnin, htp, htt, hpr, hnpr, hmpr, bI, bIh, bP, bL] using h9
  · unfold Cpko
    have h9 := r_pko R
    simpa (disch := decide) only [gO, gLo, hnB, hnM, hnO, hhN, hnLn, hnOp, hlnP, hpc, hkd, hop, hin, hnin, htp, htt, hpr, hnpr, hmpr, bI, bIh, bP, bL] using h9
  · unfold Cghour
    have h9 := r_ghour R
    simpa (disch := decide) only [gO, gLo, hnB, hnM, hnO, hhN, hnLn, hnOp, hlnP, hpc, hkd, hop, hin, hnin, htp, htt, hpr, hnpr, hmpr, bI, bIh, bP, bL] using h9
  · unfold Cgstand
    have h9 := r_gstand R
    simpa (disch := decide) only [gO, gLo, hnB, hnM, hnO, hhN, hnLn, hnOp, hlnP, hpc, hkd, hop, hin, hnin, htp, htt, hpr, hnpr, hmpr, bI, bIh, bP, bL] using h9
  · unfold Cgbought
    have h9 := r_gbought R
    simpa (disch := decide) only [gO, gLo, hnB, hnM, hnO, hhN, hnLn, hnOp, hlnP, hpc, hkd, hop, hin, hnin, htp, htt, hpr, hnpr, hmpr, bI, bIh, bP, bL] using h9
  · unfold Cgmach
    have h9 := r_gmach R
    simpa (disch := decide) only [gO, gLo, hnB, hnM, hnO, hhN, hnLn, hnOp, hlnP, hpc, hkd, hop, hin, hnin, htp, htt, hpr, hnpr, hmpr, bI, bIh, bP, bL] using h9
  · unfold Cgpers
    rw [bIc, gC]
  · unfold Cgworked
    have h9 := r_gworked R
    simpa (disch := decide) only [gO, gLo, hnB, hnM, hnO, hhN, hnLn, hnOp, hlnP, hpc, hkd, hop, hin, hnin, htp, htt, hpr, hnpr, hmpr, bI, bIh, bP, bL] using h9
  · unfold Cgrep
    have h9 := r_grep R
    simpa (disch := decide) only [gO, gLo, hnB, hnM, hnO, hhN, hnLn, hnOp, hlnP, hpc, hkd, hop, hin, hnin, htp, htt, hpr, hnpr, hmpr, bI, bIh, bP, bL] using h9
  · unfold Cgbat
    have h9 := r_gbat R
    simpa (disch := decide) only [gO, gLo, hnB, hnM, hnO, hhN, hnLn, hnOp, hlnP, hpc, hkd, hop, hin, hnin, htp, htt, hpr, hnpr, hmpr, bI, bIh, bP, bL] using h9
  · unfold Cgord
    have h9 := r_gord R
    simpa (disch := decide) only [gO, gLo, hnB, hnM, hnO, hhN, hnLn, hnOp, hlnP, hpc, hkd, hop, hin, hnin, htp, htt, hpr, hnpr, hmpr, bI, bIh, bP, bL] using h9
  · unfold Cgq
    have h9 := r_gq R
    simpa (disch := decide) only [gO, gLo, hnB, hnM, hnO, hhN, hnLn, hnOp, hlnP, hpc, hkd, hop, hin, hnin, htp, htt, hpr, hnpr, hmpr, bI, bIh, bP, bL] using h9
  · unfold CnB
    have h9 := r_nB R
    simpa (disch := decide) only [gO, gLo, hnB, hnM, hnO, hhN, hnLn, hnOp, hlnP, hpc, hkd, hop, hin, hnin, htp, htt, hpr, hnpr, hmpr, bI, bIh, bP, bL] using h9
  · unfold CnBx
    have h9 := r_nBx R
    simpa (disch := decide) only [gO, gLo, hnB, hnM, hnO, hhN, hnLn, hnOp, hlnP, hpc, hkd, hop, hin, hnin, htp, htt, hpr, hnpr, hmpr, bI, bIh, bP, bL] using h9
  · unfold CnM
    have h9 := r_nM R
    simpa (disch := decide) only [gO, gLo, hnB, hnM, hnO, hhN, hnLn, hnOp, hlnP, hpc, hkd, hop, hin, hnin, htp, htt, hpr, hnpr, hmpr, bI, bIh, bP, bL] using h9
  · unfold CnMx
    have h9 := r_nMx R
    simpa (disch := decide) only [gO, gLo, hnB, hnM, hnO, hhN, hnLn, hnOp, hlnP, hpc, hkd, hop, hin, hnin, htp, htt, hpr, hnpr, hmpr, bI, bIh, bP, bL] using h9
  · unfold CnP
    rw [e1]; exact gC
  · unfold CnPx
    rw [e1]; omega
  · unfold CnO
    have h9 := r_nO R
    simpa (disch := decide) only [gO, gLo, hnB, hnM, hnO, hhN, hnLn, hnOp, hlnP, hpc, hkd, hop, hin, hnin, htp, htt, hpr, hnpr, hmpr, bI, bIh, bP, bL] using h9
  · unfold CnOx
    have h9 := r_nOx R
    simpa (disch := decide) only [gO, gLo, hnB, hnM, hnO, hhN, hnLn, hnOp, hlnP, hpc, hkd, hop, hin, hnin, htp, htt, hpr, hnpr, hmpr, bI, bIh, bP, bL] using h9
  · unfold Chr
    have h9 := r_hr R
    simpa (disch := decide) only [gO, gLo, hnB, hnM, hnO, hhN, hnLn, hnOp, hlnP, hpc, hkd, hop, hin, hnin, htp, htt, hpr, hnpr, hmpr, bI, bIh, bP, bL] using h9
  · unfold Chrx
    have h9 := r_hrx R
    simpa (disch := decide) only [gO, gLo, hnB, hnM, hnO, hhN, hnLn, hnOp, hlnP, hpc, hkd, hop, hin, hnin, htp, htt, hpr, hnpr, hmpr, bI, bIh, bP, bL] using h9
  · unfold Cstb
    have h9 := r_stb R
    simpa (disch := decide) only [gO, gLo, hnB, hnM, hnO, hhN, hnLn, hnOp, hlnP, hpc, hkd, hop, hin, hnin, htp, htt, hpr, hnpr, hmpr, bI, bIh, bP, bL] using h9
  · unfold Cex
    have h9 := r_ex R
    simpa (disch := decide) only [gO, gLo, hnB, hnM, hnO, hhN, hnLn, hnOp, hlnP, hpc, hkd, hop, hin, hnin, htp, htt, hpr, hnpr, hmpr, bI, bIh, bP, bL] using h9
  · unfold Ck0
    have h9 := r_k0 R
    simpa (disch := decide) only [gO, gLo, hnB, hnM, hnO, hhN, hnLn, hnOp, hlnP, hpc, hkd, hop, hin, hnin, htp, htt, hpr, hnpr, hmpr, bI, bIh, bP, bL] using h9
  · unfold Ck1
    have h9 := r_k1 R
    simpa (disch := decide) only [gO, gLo, hnB, hnM, hnO, hhN, hnLn, hnOp, hlnP, hpc, hkd, hop, hin, hnin, htp, htt, hpr, hnpr, hmpr, bI, bIh, bP, bL] using h9
  · unfold Ck2
    have h9 := r_k2 R
    simpa (disch := decide) only [gO, gLo, hnB, hnM, hnO, hhN, hnLn, hnOp, hlnP, hpc, hkd, hop, hin, hnin, htp, htt, hpr, hnpr, hmpr, bI, bIh, bP, bL] using h9
  · unfold Ck3
    have h9 := r_k3 R
    simpa (disch := decide) only [gO, gLo, hnB, hnM, hnO, hhN, hnLn, hnOp, hlnP, hpc, hkd, hop, hin, hnin, htp, htt, hpr, hnpr, hmpr, bI, bIh, bP, bL] using h9
  · unfold Ck5
    have h9 := r_k5 R
    simpa (disch := decide) only [gO, gLo, hnB, hnM, hnO, hhN, hnLn, hnOp, hlnP, hpc, hkd, hop, hin, hnin, htp, htt, hpr, hnpr, hmpr, bI, bIh, bP, bL] using h9
  · unfold Ck7
    have h9 := r_k7 R
    simpa (disch := decide) only [gO, gLo, hnB, hnM, hnO, hhN, hnLn, hnOp, hlnP, hpc, hkd, hop, hin, hnin, htp, htt, hpr, hnpr, hmpr, bI, bIh, bP, bL] using h9
  · unfold Ck8
    have h9 := r_k8 R
    simpa (disch := decide) only [gO, gLo, hnB, hnM, hnO, hhN, hnLn, hnOp, hlnP, hpc, hkd, hop, hin, hnin, htp, htt, hpr, hnpr, hmpr, bI, bIh, bP, bL] using h9
  · unfold Ck9
    have h9 := r_k9 R
    simpa (disch := decide) only [gO, gLo, hnB, hnM, hnO, hhN, hnLn, hnOp, hlnP, hpc, hkd, hop, hin, hnin, htp, htt, hpr, hnpr, hmpr, bI, bIh, bP, bL] using h9
  · unfold Ck10
    have h9 := r_k10 R
    simpa (disch := decide) only [gO, gLo, hnB, hnM, hnO, hhN, hnLn, hnOp, hlnP, hpc, hkd, hop, hin, hnin, htp, htt, hpr, hnpr, hmpr, bI, bIh, bP, bL] using h9
  · unfold Ck11
    have h9 := r_k11 R
    simpa (disch := decide) only [gO, gLo, hnB, hnM, hnO, hhN, hnLn, hnOp, hlnP, hpc, hkd, hop, hin, hnin, htp, htt, hpr, hnpr, hmpr, bI, bIh, bP, bL] using h9
  · unfold Ck12
    have h9 := r_k12 R
    simpa (disch := decide) only [gO, gLo, hnB, hnM, hnO, hhN, hnLn, hnOp, hlnP, hpc, hkd, hop, hin, hnin, htp, htt, hpr, hnpr, hmpr, bI, bIh, bP, bL] using h9
  · unfold Cksa
    have h9 := r_ksa R
    simpa (disch := decide) only [gO, gLo, hnB, hnM, hnO, hhN, hnLn, hnOp, hlnP, hpc, hkd, hop, hin, hnin, htp, htt, hpr, hnpr, hmpr, bI, bIh, bP, bL] using h9
  · unfold Cksb
    have h9 := r_ksb R
    simpa (disch := decide) only [gO, gLo, hnB, hnM, hnO, hhN, hnLn, hnOp, hlnP, hpc, hkd, hop, hin, hnin, htp, htt, hpr, hnpr, hmpr, bI, bIh, bP, bL] using h9
  · unfold Cksc
    have h9 := r_ksc R
    simpa (disch := decide) only [gO, gLo, hnB, hnM, hnO, hhN, hnLn, hnOp, hlnP, hpc, hkd, hop, hin, hnin, htp, htt, hpr, hnpr, hmpr, bI, bIh, bP, bL] using h9
  · unfold Ckw
    have h9 := r_kw R
    simpa (disch := decide) only [gO, gLo, hnB, hnM, hnO, hhN, hnLn, hnOp, hlnP, hpc, hkd, hop, hin, hnin, htp, htt, hpr, hnpr, hmpr, bI, bIh, bP, bL] using h9
  · unfold Ckl
    have h9 := r_kl R
    simpa (disch := decide) only [gO, gLo, hnB, hnM, hnO, hhN, hnLn, hnOp, hlnP, hpc, hkd, hop, hin, hnin, htp, htt, hpr, hnpr, hmpr, bI, bIh, bP, bL] using h9
  · unfold Cko
    have h9 := r_ko R
    simpa (disch := decide) only [gO, gLo, hnB, hnM, hnO, hhN, hnLn, hnOp, hlnP, hpc, hkd, hop, hin, hnin, htp, htt, hpr, hnpr, hmpr, bI, bIh, bP, bL] using h9
  · unfold Ckp
    have h9 := r_kp R
    simpa (disch := decide) only [gO, gLo, hnB, hnM, hnO, hhN, hnLn, hnOp, hlnP, hpc, hkd, hop, hin, hnin, htp, htt, hpr, hnpr, hmpr, bI, bIh, bP, bL] using h9
  · unfold Cl0
    have h9 := r_l0 R
    simpa (disch := decide) only [gO, gLo, hnB, hnM, hnO, hhN, hnLn, hnOp, hlnP, hpc, hkd, hop, hin, hnin, htp, htt, hpr, hnpr, hmpr, bI, bIh, bP, bL] using h9
  · unfold Cl1
    have h9 := r_l1 R
    simpa (disch := decide) only [gO, gLo, hnB, hnM, hnO, hhN, hnLn, hnOp, hlnP, hpc, hkd, hop, hin, hnin, htp, htt, hpr, hnpr, hmpr, bI, bIh, bP, bL] using h9
  · unfold Cl2
    have h9 := r_l2 R
    simpa (disch := decide) only [gO, gLo, hnB, hnM, hnO, hhN, hnLn, hnOp, hlnP, hpc, hkd, hop, hin, hnin, htp, htt, hpr, hnpr, hmpr, bI, bIh, bP, bL] using h9
  · unfold Cl3
    have h9 := r_l3 R
    simpa (disch := decide) only [gO, gLo, hnB, hnM, hnO, hhN, hnLn, hnOp, hlnP, hpc, hkd, hop, hin, hnin, htp, htt, hpr, hnpr, hmpr, bI, bIh, bP, bL] using h9
  · unfold Clm
    have h9 := r_lm R
    simpa (disch := decide) only [gO, gLo, hnB, hnM, hnO, hhN, hnLn, hnOp, hlnP, hpc, hkd, hop, hin, hnin, htp, htt, hpr, hnpr, hmpr, bI, bIh, bP, bL] using h9
  · unfold Co0
    have h9 := r_o0 R
    simpa (disch := decide) only [gO, gLo, hnB, hnM, hnO, hhN, hnLn, hnOp, hlnP, hpc, hkd, hop, hin, hnin, htp, htt, hpr, hnpr, hmpr, bI, bIh, bP, bL] using h9
  · unfold Co1
    have h9 := r_o1 R
    simpa (disch := decide) only [gO, gLo, hnB, hnM, hnO, hhN, hnLn, hnOp, hlnP, hpc, hkd, hop, hin, hnin, htp, htt, hpr, hnpr, hmpr, bI, bIh, bP, bL] using h9
  · unfold Co2
    have h9 := r_o2 R
    simpa (disch := decide) only [gO, gLo, hnB, hnM, hnO, hhN, hnLn, hnOp, hlnP, hpc, hkd, hop, hin, hnin, htp, htt, hpr, hnpr, hmpr, bI, bIh, bP, bL] using h9
  · unfold Co3
    have h9 := r_o3 R
    simpa (disch := decide) only [gO, gLo, hnB, hnM, hnO, hhN, hnLn, hnOp, hlnP, hpc, hkd, hop, hin, hnin, htp, htt, hpr, hnpr, hmpr, bI, bIh, bP, bL] using h9
  · unfold Com
    have h9 := r_om R
    simpa (disch := decide) only [gO, gLo, hnB, hnM, hnO, hhN, hnLn, hnOp, hlnP, hpc, hkd, hop, hin, hnin, htp, htt, hpr, hnpr, hmpr, bI, bIh, bP, bL] using h9
  · unfold Cb0
    have h9 := r_b0 R
    simpa (disch := decide) only [gO, gLo, hnB, hnM, hnO, hhN, hnLn, hnOp, hlnP, hpc, hkd, hop, hin, hnin, htp, htt, hpr, hnpr, hmpr, bI, bIh, bP, bL] using h9
  · unfold Cbn
    have h9 := r_bn R
    simpa (disch := decide) only [gO, gLo, hnB, hnM, hnO, hhN, hnLn, hnOp, hlnP, hpc, hkd, hop, hin, hnin, htp, htt, hpr, hnpr, hmpr, bI, bIh, bP, bL] using h9
  · unfold Cbk
    have h9 := r_bk R
    simpa (disch := decide) only [gO, gLo, hnB, hnM, hnO, hhN, hnLn, hnOp, hlnP, hpc, hkd, hop, hin, hnin, htp, htt, hpr, hnpr, hmpr, bI, bIh, bP, bL] using h9
  · unfold Cb2
    have h9 := r_b2 R
    simpa (disch := decide) only [gO, gLo, hnB, hnM, hnO, hhN, hnLn, hnOp, hlnP, hpc, hkd, hop, hin, hnin, htp, htt, hpr, hnpr, hmpr, bI, bIh, bP, bL] using h9
  · unfold Cb3
    have h9 := r_b3 R
    simpa (disch := decide) only [gO, gLo, hnB, hnM, hnO, hhN, hnLn, hnOp, hlnP, hpc, hkd, hop, hin, hnin, htp, htt, hpr, hnpr, hmpr, bI, bIh, bP, bL] using h9
  · unfold Cb4
    have h9 := r_b4 R
    simpa (disch := decide) only [gO, gLo, hnB, hnM, hnO, hhN, hnLn, hnOp, hlnP, hpc, hkd, hop, hin, hnin, htp, htt, hpr, hnpr, hmpr, bI, bIh, bP, bL] using h9
  · unfold Cb5
    have h9 := r_b5 R
    simpa (disch := decide) only [gO, gLo, hnB, hnM, hnO, hhN, hnLn, hnOp, hlnP, hpc, hkd, hop, hin, hnin, htp, htt, hpr, hnpr, hmpr, bI, bIh, bP, bL] using h9
  · unfold Cb6
    have h9 := r_b6 R
    simpa (disch := decide) only [gO, gLo, hnB, hnM, hnO, hhN, hnLn, hnOp, hlnP, hpc, hkd, hop, hin, hnin, htp, htt, hpr, hnpr, hmpr, bI, bIh, bP, bL] using h9
  · unfold Cb7
    have h9 := r_b7 R
    simpa (disch := decide) only [gO, gLo, hnB, hnM, hnO, hhN, hnLn, hnOp, hlnP, hpc, hkd, hop, hin, hnin, htp, htt, hpr, hnpr, hmpr, bI, bIh, bP, bL] using h9
  · unfold Cb8
    have h9 := r_b8 R
    simpa (disch := decide) only [gO, gLo, hnB, hnM, hnO, hhN, hnLn, hnOp, hlnP, hpc, hkd, hop, hin, hnin, htp, htt, hpr, hnpr, hmpr, bI, bIh, bP, bL] using h9
  · unfold Cb9
    have h9 := r_b9 R
    simpa (disch := decide) only [gO, gLo, hnB, hnM, hnO, hhN, hnLn, hnOp, hlnP, hpc, hkd, hop, hin, hnin, htp, htt, hpr, hnpr, hmpr, bI, bIh, bP, bL] using h9
  · unfold Cb10
    have h9 := r_b10 R
    simpa (disch := decide) only [gO, gLo, hnB, hnM, hnO, hhN, hnLn, hnOp, hlnP, hpc, hkd, hop, hin, hnin, htp, htt, hpr, hnpr, hmpr, bI, bIh, bP, bL] using h9
  · unfold Cb11
    have h9 := r_b11 R
    simpa (disch := decide) only [gO, gLo, hnB, hnM, hnO, hhN, hnLn, hnOp, hlnP, hpc, hkd, hop, hin, hnin, htp, htt, hpr, hnpr, hmpr, bI, bIh, bP, bL] using h9
  · unfold CbK
    have h9 := r_bK R
    simpa (disch := decide) only [gO, gLo, hnB, hnM, hnO, hhN, hnLn, hnOp, hlnP, hpc, hkd, hop, hin, hnin, htp, htt, hpr, hnpr, hmpr, bI, bIh, bP, bL] using h9
  · unfold CbP
    have h9 := r_bP R
    simpa (disch := decide) only [gO, gLo, hnB, hnM, hnO, hhN, hnLn, hnOp, hlnP, hpc, hkd, hop, hin, hnin, htp, htt, hpr, hnpr, hmpr, bI, bIh, bP, bL] using h9
  · unfold CbO
    have h9 := r_bO R
    simpa (disch := decide) only [gO, gLo, hnB, hnM, hnO, hhN, hnLn, hnOp, hlnP, hpc, hkd, hop, hin, hnin, htp, htt, hpr, hnpr, hmpr, bI, bIh, bP, bL] using h9
  · unfold CbW
    have h9 := r_bW R
    simpa (disch := decide) only [gO, gLo, hnB, hnM, hnO, hhN, hnLn, hnOp, hlnP, hpc, hkd, hop, hin, hnin, htp, htt, hpr, hnpr, hmpr, bI, bIh, bP, bL] using h9
  · unfold CbZ
    have h9 := r_bZ R
    simpa (disch := decide) only [gO, gLo, hnB, hnM, hnO, hhN, hnLn, hnOp, hlnP, hpc, hkd, hop, hin, hnin, htp, htt, hpr, hnpr, hmpr, bI, bIh, bP, bL] using h9
  · unfold CbF
    have h9 := r_bF R
    simpa (disch := decide) only [gO, gLo, hnB, hnM, hnO, hhN, hnLn, hnOp, hlnP, hpc, hkd, hop, hin, hnin, htp, htt, hpr, hnpr, hmpr, bI, bIh, bP, bL] using h9
  · unfold CbS
    have h9 := r_bS R
    simpa (disch := decide) only [gO, gLo, hnB, hnM, hnO, hhN, hnLn, hnOp, hlnP, hpc, hkd, hop, hin, hnin, htp, htt, hpr, hnpr, hmpr, bI, bIh, bP, bL] using h9
  · unfold CbC
    have h9 := r_bC R
    simpa (disch := decide) only [gO, gLo, hnB, hnM, hnO, hhN, hnLn, hnOp, hlnP, hpc, hkd, hop, hin, hnin, htp, htt, hpr, hnpr, hmpr, bI, bIh, bP, bL] using h9
  · unfold CbT
    have h9 := r_bT R
    simpa (disch := decide) only [gO, gLo, hnB, hnM, hnO, hhN, hnLn, hnOp, hlnP, hpc, hkd, hop, hin, hnin, htp, htt, hpr, hnpr, hmpr, bI, bIh, bP, bL] using h9
  · unfold CbU
    have h9 := r_bU R
    simpa (disch := decide) only [gO, gLo, hnB, hnM, hnO, hhN, hnLn, hnOp, hlnP, hpc, hkd, hop, hin, hnin, htp, htt, hpr, hnpr, hmpr, bI, bIh, bP, bL] using h9
  · unfold Cbq
    have h9 := r_bq R
    simpa (disch := decide) only [gO, gLo, hnB, hnM, hnO, hhN, hnLn, hnOp, hlnP, hpc, hkd, hop, hin, hnin, htp, htt, hpr, hnpr, hmpr, bI, bIh, bP, bL] using h9
  · unfold Cps
    have h9 := r_ps R
    simpa (disch := decide) only [gO, gLo, hnB, hnM, hnO, hhN, hnLn, hnOp, hlnP, hpc, hkd, hop, hin, hnin, htp, htt, hpr, hnpr, hmpr, bI, bIh, bP, bL] using h9
  · unfold Cbp
    have h9 := r_bp R
    simpa (disch := decide) only [gO, gLo, hnB, hnM, hnO, hhN, hnLn, hnOp, hlnP, hpc, hkd, hop, hin, hnin, htp, htt, hpr, hnpr, hmpr, bI, bIh, bP, bL] using h9
  · unfold Cbc
    have h9 := r_bc R
    simpa (disch := decide) only [gO, gLo, hnB, hnM, hnO, hhN, hnLn, hnOp, hlnP, hpc, hkd, hop, hin, hnin, htp, htt, hpr, hnpr, hmpr, bI, bIh, bP, bL] using h9
  · unfold CfB
    intro j h1 h2
    rw [hnB] at h1
    rw [bX _ (tk_ne (by decide) (by decide) (by decide) : tk 0 _ ≠ tk 7 _) (tk_ne (by decide) (by decide) (by decide) : tk 0 _ ≠ tk 21 _) (tk_ne (by decide) (by decide) (by decide) : tk 0 _ ≠ tk 22 _)]
    exact r_fB R j h1 h2
  · unfold CfL
    intro i q h1 h2 h3
    rw [hnLn] at h3
    rw [bX _ (tk_ne (by decide) (by decide) (by decide) : tk 3 _ ≠ tk 7 _) (tk_ne (by decide) (by decide) (by decide) : tk 3 _ ≠ tk 21 _) (tk_ne (by decide) (by decide) (by decide) : tk 3 _ ≠ tk 22 _)]
    exact r_fL R i q h1 h2 h3
  · unfold CfO
    intro i q h1 h2 h3
    rw [hnOp] at h3
    rw [bX _ (tk_ne (by decide) (by decide) (by decide) : tk 5 _ ≠ tk 7 _) (tk_ne (by decide) (by decide) (by decide) : tk 5 _ ≠ tk 21 _) (tk_ne (by decide) (by decide) (by decide) : tk 5 _ ≠ tk 22 _)]
    exact r_fO R i q h1 h2 h3
  · unfold CfM
    intro j h1 h2
    rw [hnM] at h1
    rw [bX _ (tk_ne (by decide) (by decide) (by decide) : tk 4 _ ≠ tk 7 _) (tk_ne (by decide) (by decide) (by decide) : tk 4 _ ≠ tk 21 _) (tk_ne (by decide) (by decide) (by decide) : tk 4 _ ≠ tk 22 _)]
    exact r_fM R j h1 h2
  · unfold CfP
    intro j h1 h2
    rw [e1] at h1
    rw [bX _ (fun q => by have := tk_inj.mp q; omega) (tk_ne (by decide) (by decide) (by decide) : tk 7 _ ≠ tk 21 _) (tk_ne (by decide) (by decide) (by decide) : tk 7 _ ≠ tk 22 _), bX _ (tk_ne (by decide) (by decide) (by decide) : tk 21 _ ≠ tk 7 _) (fun q => by have := tk_inj.mp q; omega) (tk_ne (by decide) (by decide) (by decide) : tk 21 _ ≠ tk 22 _), bX _ (tk_ne (by decide) (by decide) (by decide) : tk 22 _ ≠ tk 7 _) (tk_ne (by decide) (by decide) (by decide) : tk 22 _ ≠ tk 21 _) (fun q => by have := tk_inj.mp q; omega)]
    exact r_fP R j (by omega) h2
  · unfold CfR
    intro j h1 h2
    rw [hnO] at h1
    rw [bX _ (tk_ne (by decide) (by decide) (by decide) : tk 6 _ ≠ tk 7 _) (tk_ne (by decide) (by decide) (by decide) : tk 6 _ ≠ tk 21 _) (tk_ne (by decide) (by decide) (by decide) : tk 6 _ ≠ tk 22 _)]
    exact r_fR R j h1 h2
  · unfold CfG
    obtain ⟨Q, h1, h2⟩ := r_fG R
    refine ⟨Q, h1, fun c i hi => ?_⟩
    rw [bX _ (by unfold tk; omega) (by unfold tk; omega) (by unfold tk; omega)]
    exact h2 c i hi
  · unfold Cm0
    have h9 := r_m0 R
    simpa (disch := decide) only [gO, gLo, hnB, hnM, hnO, hhN, hnLn, hnOp, hlnP, hpc, hkd, hop, hin, hnin, htp, htt, hpr, hnpr, hmpr, bI, bIh, bP, bL] using h9
  · unfold Cmn
    have h9 := r_mn R
    simpa (disch := decide) only [gO, gLo, hnB, hnM, hnO, hhN, hnLn, hnOp, hlnP, hpc, hkd, hop, hin, hnin, htp, htt, hpr, hnpr, hmpr, bI, bIh, bP, bL] using h9
  · unfold Cm1
    have h9 := r_m1 R
    simpa (disch := decide) only [gO, gLo, hnB, hnM, hnO, hhN, hnLn, hnOp, hlnP, hpc, hkd, hop, hin, hnin, htp, htt, hpr, hnpr, hmpr, bI, bIh, bP, bL] using h9
  · unfold Cm2
    have h9 := r_m2 R
    simpa (disch := decide) only [gO, gLo, hnB, hnM, hnO, hhN, hnLn, hnOp, hlnP, hpc, hkd, hop, hin, hnin, htp, htt, hpr, hnpr, hmpr, bI, bIh, bP, bL] using h9
  · unfold Cm3
    have h9 := r_m3 R
    simpa (disch := decide) only [gO, gLo, hnB, hnM, hnO, hhN, hnLn, hnOp, hlnP, hpc, hkd, hop, hin, hnin, htp, htt, hpr, hnpr, hmpr, bI, bIh, bP, bL] using h9
  · unfold Cm4
    have h9 := r_m4 R
    simpa (disch := decide) only [gO, gLo, hnB, hnM, hnO, hhN, hnLn, hnOp, hlnP, hpc, hkd, hop, hin, hnin, htp, htt, hpr, hnpr, hmpr, bI, bIh, bP, bL] using h9
  · unfold Cm5
    have h9 := r_m5 R
    simpa (disch := decide) only [gO, gLo, hnB, hnM, hnO, hhN, hnLn, hnOp, hlnP, hpc, hkd, hop, hin, hnin, htp, htt, hpr, hnpr, hmpr, bI, bIh, bP, bL] using h9
  · unfold Cm9
    have h9 := r_m9 R
    simpa (disch := decide) only [gO, gLo, hnB, hnM, hnO, hhN, hnLn, hnOp, hlnP, hpc, hkd, hop, hin, hnin, htp, htt, hpr, hnpr, hmpr, bI, bIh, bP, bL] using h9
  · unfold Cm11
    have h9 := r_m11 R
    simpa (disch := decide) only [gO, gLo, hnB, hnM, hnO, hhN, hnLn, hnOp, hlnP, hpc, hkd, hop, hin, hnin, htp, htt, hpr, hnpr, hmpr, bI, bIh, bP, bL] using h9
  · unfold Cm13
    have h9 := r_m13 R
    simpa (disch := decide) only [gO, gLo, hnB, hnM, hnO, hhN, hnLn, hnOp, hlnP, hpc, hkd, hop, hin, hnin, htp, htt, hpr, hnpr, hmpr, bI, bIh, bP, bL] using h9
  · unfold Cm14
    have h9 := r_m14 R
    simpa (disch := decide) only [gO, gLo, hnB, hnM, hnO, hhN, hnLn, hnOp, hlnP, hpc, hkd, hop, hin, hnin, htp, htt, hpr, hnpr, hmpr, bI, bIh, bP, bL] using h9
  · unfold Cm6
    have h9 := r_m6 R
    simpa (disch := decide) only [gO, gLo, hnB, hnM, hnO, hhN, hnLn, hnOp, hlnP, hpc, hkd, hop, hin, hnin, htp, htt, hpr, hnpr, hmpr, bI, bIh, bP, bL] using h9
  · unfold Cm7
    have h9 := r_m7 R
    simpa (disch := decide) only [gO, gLo, hnB, hnM, hnO, hhN, hnLn, hnOp, hlnP, hpc, hkd, hop, hin, hnin, htp, htt, hpr, hnpr, hmpr, bI, bIh, bP, bL] using h9
  · unfold Cm8
    have h9 := r_m8 R
    simpa (disch := decide) only [gO, gLo, hnB, hnM, hnO, hhN, hnLn, hnOp, hlnP, hpc, hkd, hop, hin, hnin, htp, htt, hpr, hnpr, hmpr, bI, bIh, bP, bL] using h9
  · unfold Cm12
    have h9 := r_m12 R
    simpa (disch := decide) only [gO, gLo, hnB, hnM, hnO, hhN, hnLn, hnOp, hlnP, hpc, hkd, hop, hin, hnin, htp, htt, hpr, hnpr, hmpr, bI, bIh, bP, bL] using h9
  · unfold Cm10
    have h9 := r_m10 R
    simpa (disch := decide) only [gO, gLo, hnB, hnM, hnO, hhN, hnLn, hnOp, hlnP, hpc, hkd, hop, hin, hnin, htp, htt, hpr, hnpr, hmpr, bI, bIh, bP, bL] using h9
  · unfold Cmma
    have h9 := r_mma R
    simpa (disch := decide) only [gO, gLo, hnB, hnM, hnO, hhN, hnLn, hnOp, hlnP, hpc, hkd, hop, hin, hnin, htp, htt, hpr, hnpr, hmpr, bI, bIh, bP, bL] using h9
  · unfold Cmmb
    intro m hm
    rw [hnM] at hm
    rw [gO _ _ rfl, gO _ _ rfl, gO _ _ rfl]
    rcases r_mmb R m hm with h9 | ⟨j, q, h1, h2, h3, h4, h5⟩
    · exact Or.inl h9
    · exact Or.inr ⟨j, q, h1, by rw [hnB]; exact h2, by rw [gO _ _ rfl]; exact h3, h4, by omega⟩
  · unfold Cmmc
    have h9 := r_mmc R
    simpa (disch := decide) only [gO, gLo, hnB, hnM, hnO, hhN, hnLn, hnOp, hlnP, hpc, hkd, hop, hin, hnin, htp, htt, hpr, hnpr, hmpr, bI, bIh, bP, bL] using h9
  · unfold Cmr29
    have h9 := r_mr29 R
    simpa (disch := decide) only [gO, gLo, hnB, hnM, hnO, hhN, hnLn, hnOp, hlnP, hpc, hkd, hop, hin, hnin, htp, htt, hpr, hnpr, hmpr, bI, bIh, bP, bL] using h9
  · unfold Cmr30
    have h9 := r_mr30 R
    simpa (disch := decide) only [gO, gLo, hnB, hnM, hnO, hhN, hnLn, hnOp, hlnP, hpc, hkd, hop, hin, hnin, htp, htt, hpr, hnpr, hmpr, bI, bIh, bP, bL] using h9
  · unfold Cmr31
    have h9 := r_mr31 R
    simpa (disch := decide) only [gO, gLo, hnB, hnM, hnO, hhN, hnLn, hnOp, hlnP, hpc, hkd, hop, hin, hnin, htp, htt, hpr, hnpr, hmpr, bI, bIh, bP, bL] using h9
  · unfold Cmr32
    have h9 := r_mr32 R
    simpa (disch := decide) only [gO, gLo, hnB, hnM, hnO, hhN, hnLn, hnOp, hlnP, hpc, hkd, hop, hin, hnin, htp, htt, hpr, hnpr, hmpr, bI, bIh, bP, bL] using h9
  · unfold Cmr35
    have h9 := r_mr35 R
    simpa (disch := decide) only [gO, gLo, hnB, hnM, hnO, hhN, hnLn, hnOp, hlnP, hpc, hkd, hop, hin, hnin, htp, htt, hpr, hnpr, hmpr, bI, bIh, bP, bL] using h9
  · unfold Cmr39
    have h9 := r_mr39 R
    simpa (disch := decide) only [gO, gLo, hnB, hnM, hnO, hhN, hnLn, hnOp, hlnP, hpc, hkd, hop, hin, hnin, htp, htt, hpr, hnpr, hmpr, bI, bIh, bP, bL] using h9
  · unfold Cmr40
    have h9 := r_mr40 R
    simpa (disch := decide) only [gO, gLo, hnB, hnM, hnO, hhN, hnLn, hnOp, hlnP, hpc, hkd, hop, hin, hnin, htp, htt, hpr, hnpr, hmpr, bI, bIh, bP, bL] using h9
  · unfold Cmd
    have h9 := r_md R
    simpa (disch := decide) only [gO, gLo, hnB, hnM, hnO, hhN, hnLn, hnOp, hlnP, hpc, hkd, hop, hin, hnin, htp, htt, hpr, hnpr, hmpr, bI, bIh, bP, bL] using h9
  · unfold Cmw
    have h9 := r_mw R
    simpa (disch := decide) only [gO, gLo, hnB, hnM, hnO, hhN, hnLn, hnOp, hlnP, hpc, hkd, hop, hin, hnin, htp, htt, hpr, hnpr, hmpr, bI, bIh, bP, bL] using h9
  · unfold Cq0
    intro j hj
    rw [e1] at hj
    by_cases c : j = nP M
    · subst c
      rw [bPa, if_pos rfl]
    · have hj2 : j < nP M := by omega
      have h9 := r_q0 R j hj2
      simpa (disch := decide) only [gJ _ _ c, bJ7 _ _ c, bJ21 _ _ c, bJ22 _ _ c, bPj _ _ c, bPa, if_neg c, gO, gLo, hnB, hnM, hnO, hhN, hnLn, hnOp, hlnP, hpc, hkd, hop, hin, hnin, htp, htt, hpr, hnpr, hmpr, bI, bIh, bP, bL] using h9
  · unfold Cqn
    intro j hj
    rw [e1] at hj
    by_cases c : j = nP M
    · subst c
      exact v0
    · have hj2 : j < nP M := by omega
      have h9 := r_qn R j hj2
      simpa (disch := decide) only [gJ _ _ c, bJ7 _ _ c, bJ21 _ _ c, bJ22 _ _ c, bPj _ _ c, bPa, if_neg c, gO, gLo, hnB, hnM, hnO, hhN, hnLn, hnOp, hlnP, hpc, hkd, hop, hin, hnin, htp, htt, hpr, hnpr, hmpr, bI, bIh, bP, bL] using h9
  · unfold Cq1
    intro j hj
    rw [e1] at hj
    by_cases c : j = nP M
    · subst c
      rw [v1, g42]
    · have hj2 : j < nP M := by omega
      have h9 := r_q1 R j hj2
      simpa (disch := decide) only [gJ _ _ c, bJ7 _ _ c, bJ21 _ _ c, bJ22 _ _ c, bPj _ _ c, bPa, if_neg c, gO, gLo, hnB, hnM, hnO, hhN, hnLn, hnOp, hlnP, hpc, hkd, hop, hin, hnin, htp, htt, hpr, hnpr, hmpr, bI, bIh, bP, bL] using h9
  · unfold Cq2
    intro j hj
    rw [e1] at hj
    by_cases c : j = nP M
    · subst c
      rw [v2, g43]
    · have hj2 : j < nP M := by omega
      have h9 := r_q2 R j hj2
      simpa (disch := decide) only [gJ _ _ c, bJ7 _ _ c, bJ21 _ _ c, bJ22 _ _ c, bPj _ _ c, bPa, if_neg c, gO, gLo, hnB, hnM, hnO, hhN, hnLn, hnOp, hlnP, hpc, hkd, hop, hin, hnin, htp, htt, hpr, hnpr, hmpr, bI, bIh, bP, bL] using h9
  · unfold Cq3
    intro j hj
    rw [e1] at hj
    by_cases c : j = nP M
    · subst c
      rw [v3, g44]
    · have hj2 : j < nP M := by omega
      have h9 := r_q3 R j hj2
      simpa (disch := decide) only [gJ _ _ c, bJ7 _ _ c, bJ21 _ _ c, bJ22 _ _ c, bPj _ _ c, bPa, if_neg c, gO, gLo, hnB, hnM, hnO, hhN, hnLn, hnOp, hlnP, hpc, hkd, hop, hin, hnin, htp, htt, hpr, hnpr, hmpr, bI, bIh, bP, bL] using h9
  · unfold Cq4
    intro j hj
    rw [e1] at hj
    by_cases c : j = nP M
    · subst c
      exact p4
    · have hj2 : j < nP M := by omega
      have h9 := r_q4 R j hj2
      simpa (disch := decide) only [gJ _ _ c, bJ7 _ _ c, bJ21 _ _ c, bJ22 _ _ c, bPj _ _ c, bPa, if_neg c, gO, gLo, hnB, hnM, hnO, hhN, hnLn, hnOp, hlnP, hpc, hkd, hop, hin, hnin, htp, htt, hpr, hnpr, hmpr, bI, bIh, bP, bL] using h9
  · unfold Cq5
    intro j hj
    rw [e1] at hj
    by_cases c : j = nP M
    · subst c
      exact p5
    · have hj2 : j < nP M := by omega
      have h9 := r_q5 R j hj2
      simpa (disch := decide) only [gJ _ _ c, bJ7 _ _ c, bJ21 _ _ c, bJ22 _ _ c, bPj _ _ c, bPa, if_neg c, gO, gLo, hnB, hnM, hnO, hhN, hnLn, hnOp, hlnP, hpc, hkd, hop, hin, hnin, htp, htt, hpr, hnpr, hmpr, bI, bIh, bP, bL] using h9
  · unfold Cq6
    intro j hj
    rw [e1] at hj
    by_cases c : j = nP M
    · subst c
      left; refine ⟨v6, fun m hm => ?_⟩; rw [hnM] at hm; rw [gO _ _ rfl]; intro q; rcases r_mmb R m hm with w | ⟨i, y, w1, w2, w3, w4, w5⟩; exact nI_ne1 (by omega) (q.symm.trans w.2.1); have := (nI_eq (by omega) (by omega)).mp (q.symm.trans w4); omega
    · have hj2 : j < nP M := by omega
      have h9 := r_q6 R j hj2
      rw [hnM]; simp only [gO _ _ (rfl : z_rel_addP 36 = true), bJ7 _ _ c]; exact h9
  · unfold Cql
    intro j x1_ hj h1_
    rw [e1] at hj
    by_cases c : j = nP M
    · subst c
      rw [w21, gO _ _ rfl, (z45 _ (by omega)).1]
    · have hj2 : j < nP M := by omega
      have h9 := r_ql R j x1_ hj2 h1_
      simpa (disch := decide) only [gJ _ _ c, bJ7 _ _ c, bJ21 _ _ c, bJ22 _ _ c, bPj _ _ c, bPa, if_neg c, gO, gLo, hnB, hnM, hnO, hhN, hnLn, hnOp, hlnP, hpc, hkd, hop, hin, hnin, htp, htt, hpr, hnpr, hmpr, bI, bIh, bP, bL] using h9
  · unfold Cqw
    intro j s hj hs
    rw [e1] at hj
    by_cases c : j = nP M
    · subst c; intro _; rw [w22, gO _ _ rfl, (z45 _ (by omega)).2]
    · rw [bJ22 _ _ c, gO _ _ rfl, gO _ _ rfl]; exact r_qw R j s (by omega) hs
  · unfold Cqm
    intro j hj
    rw [e1] at hj
    by_cases c : j = nP M
    · subst c
      rw [g42, g43, g44]; obtain ⟨w, y, h, x⟩ := hq; exact ⟨w, y, h, x⟩
    · have hj2 : j < nP M := by omega
      have h9 := r_qm R j hj2
      simpa (disch := decide) only [gJ _ _ c, bJ7 _ _ c, bJ21 _ _ c, bJ22 _ _ c, bPj _ _ c, bPa, if_neg c, gO, gLo, hnB, hnM, hnO, hhN, hnLn, hnOp, hlnP, hpc, hkd, hop, hin, hnin, htp, htt, hpr, hnpr, hmpr, bI, bIh, bP, bL] using h9
  · unfold Cqr
    intro j x1_ hj h1_
    rw [e1] at hj
    by_cases c : j = nP M
    · subst c
      rw [gO _ _ rfl, gO _ _ rfl, (z45 _ (by omega)).1, (z45 _ (by omega)).2]; exact ⟨0, 0, nI_0.symm, by omega, nI_0.symm, by omega⟩
    · have hj2 : j < nP M := by omega
      have h9 := r_qr R j x1_ hj2 h1_
      simpa (disch := decide) only [gJ _ _ c, bJ7 _ _ c, bJ21 _ _ c, bJ22 _ _ c, bPj _ _ c, bPa, if_neg c, gO, gLo, hnB, hnM, hnO, hhN, hnLn, hnOp, hlnP, hpc, hkd, hop, hin, hnin, htp, htt, hpr, hnpr, hmpr, bI, bIh, bP, bL] using h9
  · unfold Cr0
    have h9 := r_r0 R
    simpa (disch := decide) only [gO, gLo, hnB, hnM, hnO, hhN, hnLn, hnOp, hlnP, hpc, hkd, hop, hin, hnin, htp, htt, hpr, hnpr, hmpr, bI, bIh, bP, bL] using h9
  · unfold Cr1
    have h9 := r_r1 R
    simpa (disch := decide) only [gO, gLo, hnB, hnM, hnO, hhN, hnLn, hnOp, hlnP, hpc, hkd, hop, hin, hnin, htp, htt, hpr, hnpr, hmpr, bI, bIh, bP, bL] using h9
  · unfold Cr2
    have h9 := r_r2 R
    simpa (disch := decide) only [gO, gLo, hnB, hnM, hnO, hhN, hnLn, hnOp, hlnP, hpc, hkd, hop, hin, hnin, htp, htt, hpr, hnpr, hmpr, bI, bIh, bP, bL] using h9
  · unfold Cr3
    have h9 := r_r3 R
    simpa (disch := decide) only [gO, gLo, hnB, hnM, hnO, hhN, hnLn, hnOp, hlnP, hpc, hkd, hop, hin, hnin, htp, htt, hpr, hnpr, hmpr, bI, bIh, bP, bL] using h9
  · unfold Cr4
    have h9 := r_r4 R
    simpa (disch := decide) only [gO, gLo, hnB, hnM, hnO, hhN, hnLn, hnOp, hlnP, hpc, hkd, hop, hin, hnin, htp, htt, hpr, hnpr, hmpr, bI, bIh, bP, bL] using h9
  · unfold Cr5
    have h9 := r_r5 R
    simpa (disch := decide) only [gO, gLo, hnB, hnM, hnO, hhN, hnLn, hnOp, hlnP, hpc, hkd, hop, hin, hnin, htp, htt, hpr, hnpr, hmpr, bI, bIh, bP, bL] using h9
  · unfold Cr6
    have h9 := r_r6 R
    simpa (disch := decide) only [gO, gLo, hnB, hnM, hnO, hhN, hnLn, hnOp, hlnP, hpc, hkd, hop, hin, hnin, htp, htt, hpr, hnpr, hmpr, bI, bIh, bP, bL] using h9
  · unfold Crk
    have h9 := r_rk R
    simpa (disch := decide) only [gO, gLo, hnB, hnM, hnO, hhN, hnLn, hnOp, hlnP, hpc, hkd, hop, hin, hnin, htp, htt, hpr, hnpr, hmpr, bI, bIh, bP, bL] using h9
  · unfold Crp
    have h9 := r_rp R
    simpa (disch := decide) only [gO, gLo, hnB, hnM, hnO, hhN, hnLn, hnOp, hlnP, hpc, hkd, hop, hin, hnin, htp, htt, hpr, hnpr, hmpr, bI, bIh, bP, bL] using h9
  · unfold Crq
    have h9 := r_rq R
    simpa (disch := decide) only [gO, gLo, hnB, hnM, hnO, hhN, hnLn, hnOp, hlnP, hpc, hkd, hop, hin, hnin, htp, htt, hpr, hnpr, hmpr, bI, bIh, bP, bL] using h9
  · unfold Crr
    have h9 := r_rr R
    simpa (disch := decide) only [gO, gLo, hnB, hnM, hnO, hhN, hnLn, hnOp, hlnP, hpc, hkd, hop, hin, hnin, htp, htt, hpr, hnpr, hmpr, bI, bIh, bP, bL] using h9
  · unfold Crs
    have h9 := r_rs R
    simpa (disch := decide) only [gO, gLo, hnB, hnM, hnO, hhN, hnLn, hnOp, hlnP, hpc, hkd, hop, hin, hnin, htp, htt, hpr, hnpr, hmpr, bI, bIh, bP, bL] using h9
set_option maxHeartbeats 2000000 in
theorem rel_addP {e : Nat} {a : Sg} {M : MS} (R : Rel e a M) (w bg hh : Int32) (hq : ∃ w1 b1 h1 : Nat, w = nI w1 ∧ w1 ≤ 9 ∧ bg = nI b1 ∧ b1 ≤ 23 ∧ hh = nI h1 ∧ 1 ≤ h1 ∧ h1 ≤ 24) (z45 : ∀ q, 4 * nP M ≤ q → gI M 45 q = 0 ∧ gI M 46 q = 0) (hlt : nP M < 6) : Rel e (wI (wP (wI (wI (wI (wI (wI (wP (wN (wP (wN (wN a (tk 7 (nP M))) (tk 21 (nP M))) (tk 7 (nP M)) 4 (some (tk 21 (nP M)))) (tk 22 (nP M))) (tk 7 (nP M)) 5 (some (tk 22 (nP M)))) (tk 7 (nP M)) 6 (-1)) (tk 7 (nP M)) 0 (nI (nP M))) (tk 7 (nP M)) 1 w) (tk 7 (nP M)) 2 bg) (tk 7 (nP M)) 3 hh) (tk 20 0) (nP M) (some (tk 7 (nP M)))) (tk 1 0) 4 (nI (nP M + 1))) (uI (uI (uI (uI M 42 (nP M) w) 43 (nP M) bg) 44 (nP M) hh) 241 0 (nI (nP M + 1))) := by
  refine rel_addPN R w bg hh hq z45 hlt ?_ ?_ ?_ ?_ ?_ ?_ ?_ ?_ ?_ ?_ ?_ ?_ ?_ ?_ ?_ ?_ ?_ ?_ ?_ ?_ ?_ ?_ ?_ ?_ ?_ ?_ ?_
  · intro t j h; have h : t ≠ 42 ∧ t ≠ 43 ∧ t ≠ 44 ∧ t ≠ 241 := by unfold z_rel_addP at h; simp only [Bool.and_eq_true, bne_iff_ne] at h; omega
    simp (disch := omega) only [gI_ne]
  · intro t j h h1; rw [gI_ne (Ne.symm h1)]; simp (disch := omega) only [gI_nj]
  · simp [gI_uI]
  · simp [gI_uI]
  · simp [gI_uI]
  · simp [gI_uI]
  · intro j; simp [gL_uI]
  · intro c i q h0 h7 h21 h22 hh; simp (disch := omega) [gI_uI, gI_uL, gL_uI, gL_uL, sI_wI, sI_wP, sI_wN, sP_wI, sP_wP, sP_wN, sL_wI, sL_wP, sL_wN, sX_wI, sX_wP, sX_wN, tk_ne9, tk_inj]
  · intro q h; simp [gI_uI, gI_uL, gL_uI, gL_uL, sI_wI, sI_wP, sI_wN, sP_wI, sP_wP, sP_wN, sL_wI, sL_wP, sL_wN, sX_wI, sX_wP, sX_wN, tk_ne9, tk_inj, h]
  · simp [gI_uI, gI_uL, gL_uI, gL_uL, sI_wI, sI_wP, sI_wN, sP_wI, sP_wP, sP_wN, sL_wI, sL_wP, sL_wN, sX_wI, sX_wP, sX_wN, tk_ne9, tk_inj]
  · intro j q h; simp [gI_uI, gI_uL, gL_uI, gL_uL, sI_wI, sI_wP, sI_wN, sP_wI, sP_wP, sP_wN, sL_wI, sL_wP, sL_wN, sX_wI, sX_wP, sX_wN, tk_ne9, tk_inj, h]
  · intro j q h; simp [gI_uI, gI_uL, gL_uI, gL_uL, sI_wI, sI_wP, sI_wN, sP_wI, sP_wP, sP_wN, sL_wI, sL_wP, sL_wN, sX_wI, sX_wP, sX_wN, tk_ne9, tk_inj, h]
  · intro j q h; simp [gI_uI, gI_uL, gL_uI, gL_uL, sI_wI, sI_wP, sI_wN, sP_wI, sP_wP, sP_wN, sL_wI, sL_wP, sL_wN, sX_wI, sX_wP, sX_wN, tk_ne9, tk_inj, h]
  · simp [gI_uI, gI_uL, gL_uI, gL_uL, sI_wI, sI_wP, sI_wN, sP_wI, sP_wP, sP_wN, sL_wI, sL_wP, sL_wN, sX_wI, sX_wP, sX_wN, tk_ne9, tk_inj]
  · simp [gI_uI, gI_uL, gL_uI, gL_uL, sI_wI, sI_wP, sI_wN, sP_wI, sP_wP, sP_wN, sL_wI, sL_wP, sL_wN, sX_wI, sX_wP, sX_wN, tk_ne9, tk_inj]
  · simp [gI_uI, gI_uL, gL_uI, gL_uL, sI_wI, sI_wP, sI_wN, sP_wI, sP_wP, sP_wN, sL_wI, sL_wP, sL_wN, sX_wI, sX_wP, sX_wN, tk_ne9, tk_inj]
  · simp [gI_uI, gI_uL, gL_uI, gL_uL, sI_wI, sI_wP, sI_wN, sP_wI, sP_wP, sP_wN, sL_wI, sL_wP, sL_wN, sX_wI, sX_wP, sX_wN, tk_ne9, tk_inj]
  · simp [gI_uI, gI_uL, gL_uI, gL_uL, sI_wI, sI_wP, sI_wN, sP_wI, sP_wP, sP_wN, sL_wI, sL_wP, sL_wN, sX_wI, sX_wP, sX_wN, tk_ne9, tk_inj]
  · intro q; simp [gI_uI, gI_uL, gL_uI, gL_uL, sI_wI, sI_wP, sI_wN, sP_wI, sP_wP, sP_wN, sL_wI, sL_wP, sL_wN, sX_wI, sX_wP, sX_wN, tk_ne9, tk_inj]
  · intro q; simp [gI_uI, gI_uL, gL_uI, gL_uL, sI_wI, sI_wP, sI_wN, sP_wI, sP_wP, sP_wN, sL_wI, sL_wP, sL_wN, sX_wI, sX_wP, sX_wN, tk_ne9, tk_inj]
  · intro c i q h0 h7 h21 h22 hh; simp (disch := omega) [gI_uI, gI_uL, gL_uI, gL_uL, sI_wI, sI_wP, sI_wN, sP_wI, sP_wP, sP_wN, sL_wI, sL_wP, sL_wN, sX_wI, sX_wP, sX_wN, tk_ne9, tk_inj]
  · intro j q h; simp [gI_uI, gI_uL, gL_uI, gL_uL, sI_wI, sI_wP, sI_wN, sP_wI, sP_wP, sP_wN, sL_wI, sL_wP, sL_wN, sX_wI, sX_wP, sX_wN, tk_ne9, tk_inj, h]
  · intro j; simp [gI_uI, gI_uL, gL_uI, gL_uL, sI_wI, sI_wP, sI_wN, sP_wI, sP_wP, sP_wN, sL_wI, sL_wP, sL_wN, sX_wI, sX_wP, sX_wN, tk_ne9, tk_inj]
  · simp [gI_uI, gI_uL, gL_uI, gL_uL, sI_wI, sI_wP, sI_wN, sP_wI, sP_wP, sP_wN, sL_wI, sL_wP, sL_wN, sX_wI, sX_wP, sX_wN, tk_ne9, tk_inj]
  · simp [gI_uI, gI_uL, gL_uI, gL_uL, sI_wI, sI_wP, sI_wN, sP_wI, sP_wP, sP_wN, sL_wI, sL_wP, sL_wN, sX_wI, sX_wP, sX_wN, tk_ne9, tk_inj]
  · intro c i q h0 h7 h21 h22; simp (disch := omega) [gI_uI, gI_uL, gL_uI, gL_uL, sI_wI, sI_wP, sI_wN, sP_wI, sP_wP, sP_wN, sL_wI, sL_wP, sL_wN, sX_wI, sX_wP, sX_wN, tk_ne9, tk_inj]
  · intro t h7 h21 h22; simp [gI_uI, gI_uL, gL_uI, gL_uL, sI_wI, sI_wP, sI_wN, sP_wI, sP_wP, sP_wN, sL_wI, sL_wP, sL_wN, sX_wI, sX_wP, sX_wN, tk_ne9, tk_inj, h7, h21, h22]
def z_rel_addO (t : Nat) : Bool := t != 48 && t != 49 && t != 50 && t != 52 && t != 247
set_option maxHeartbeats 2000000 in
theorem rel_addON {e : Nat} {a b : Sg} {M N : MS} (R : Rel e a M) (k : Nat) (pp du : Int32) (hk : k < 12) (hpp : ∃ p : Nat, pp = nI p ∧ 1 ≤ p ∧ p ≤ 20) (z51 : gI M 51 (nO M) = 0) (hlt : nO M < 10) (gO : ∀ t j, z_rel_addO t = true → gI N t j = gI M t j) (gJ : ∀ t j, ¬ j = nO M → t ≠ 247 → gI N t j = gI M t j) (gC : gI N 247 0 = nI (nO M + 1)) (g48 : gI N 48 (nO M) = nI k) (g49 : gI N 49 (nO M) = pp) (g50 : gI N 50 (nO M) = du) (g52 : gI N 52 (nO M) = -1) (gLo : ∀ j, gL N j = gL M j) (bI : ∀ c i q, c < 32 → c ≠ 6 → c ≠ 8 → sI b (tk c i) q = sI a (tk c i) q) (bIh : ∀ q, q ≠ 3 → sI b (tk 8 0) q = sI a (tk 8 0) q) (bIc : sI b (tk 8 0) 3 = nI (nO M + 1)) (bJ6 : ∀ j q, ¬ j = nO M → sI b (tk 6 j) q = sI a (tk 6 j) q) (v1 : sI b (tk 6 (nO M)) 1 = pp) (v2 : sI b (tk 6 (nO M)) 2 = du) (v3 : sI b (tk 6 (nO M)) 3 = 0) (bP : ∀ c i q, c < 32 → c ≠ 6 → c ≠ 19 → sP b (tk c i) q = sP a (tk c i) q) (bPj : ∀ j q, ¬ j = nO M → sP b (tk 6 j) q = sP a (tk 6 j) q) (bPa : ∀ j, sP b (tk 19 0) j = if j = nO M then some (tk 6 (nO M)) else sP a (tk 19 0) j) (p0 : sP b (tk 6 (nO M)) 0 = some (tk 2 k)) (p4 : sP b (tk 6 (nO M)) 4 = none) (bL : ∀ c i q, c < 32 → c ≠ 6 → sL b (tk c i) q = sL a (tk c i) q) (bX : ∀ t, t ≠ tk 6 (nO M) → sX b t = sX a t) : Rel e b N := by
  have hB := r_nBx R
  have hxM := r_nMx R
  have hxP := r_nPx R
  have hxO := r_nOx R
  have e1 : nO N = nO M + 1 := by unfold nO at gC ⊢; rw [gC, nI_clamp (by unfold nO at hlt; omega)]
  have hnB : nB N = nB M := by unfold nB; rw [gO _ _ rfl]
  have hnM : nM N = nM M := by unfold nM; rw [gO _ _ rfl]
  have hnP : nP N = nP M := by unfold nP; rw [gO _ _ rfl]
  have hhN : hN N = hN M := by unfold hN; rw [gO _ _ rfl]
  have hnLn : ∀ i, nLn N i = nLn M i := fun i => by unfold nLn; rw [gO _ _ rfl]
  have hnOp : ∀ i, nOp N i = nOp M i := fun i => by unfold nOp; rw [gO _ _ rfl]
  have hlnP : ∀ i, lnP N i = lnP M i := fun i => by unfold lnP; rw [gO _ _ rfl]
  have hpc : ∀ i, pc N i = pc M i := fun i => by unfold pc; rw [gO _ _ rfl]
  have hkd : ∀ i, kd N i = kd M i := fun i => by unfold kd; rw [gO _ _ rfl]
  have hop : ∀ i, op N i = op M i := fun i => by unfold op; rw [gO _ _ rfl]
  have hin : ∀ i m, mInSt N i m = mInSt M i m := fun i m => by unfold mInSt; refine sumN_congr fun j hj => ?_; rw [gO _ _ rfl, gO _ _ rfl, gO _ _ rfl]
  have hnin : ∀ i m, nInSt N i m = nInSt M i m := fun i m => by unfold nInSt; refine sumT_congr fun j hj => ?_; rw [gO _ _ rfl, gO _ _ rfl, hpc]
  have htp : ∀ m, totp N m = totp M m := fun m => by unfold totp; exact sumT_congr fun j hj => hpc j
  have htt : ∀ m, tot N m = tot M m := by
    intro m
    induction m with
    | zero => rfl
    | succ m ih => rw [tot_1, tot_1, ih, gO _ _ rfl]
  have hpr : ∀ i, pr N i = pr M i := fun i => by unfold pr; rw [gO _ _ rfl]
  have hprz : pr N (nO M) = 0 := by unfold pr; rw [gO _ _ rfl, z51]; rfl
  have hmp1 : ∀ i, mProm N i (nO M + 1) = mProm M i (nO M) := fun i => by
    unfold mProm
    rw [sumN_1, gO 51 (nO M) rfl, z51]
    have : sumN (fun j => if gI N 48 j = i ∧ gI N 52 j = -1 then gI N 51 j else 0) (nO M) = sumN (fun j => if gI M 48 j = i ∧ gI M 52 j = -1 then gI M 51 j else 0) (nO M) := sumN_congr fun j hj => by
      have c : ¬ j = nO M := by omega
      rw [gJ _ _ c (by decide), gJ _ _ c (by decide), gO 51 j rfl]
    rw [this]
    split <;> exact Int32.add_zero _
  have hnp1 : ∀ i, nProm N i (nO M + 1) = nProm M i (nO M) := fun i => by
    unfold nProm
    rw [sumT_1, hprz]
    have : sumT (fun j => if gI N 48 j = nI i ∧ gI N 52 j = -1 then pr N j else 0) (nO M) = sumT (fun j => if gI M 48 j = nI i ∧ gI M 52 j = -1 then pr M j else 0) (nO M) := sumT_congr fun j hj => by
      have c : ¬ j = nO M := by omega
      rw [gJ _ _ c (by decide), gJ _ _ c (by decide), hpr]
    rw [this]
    split <;> rfl
  unfold Rel
  refine ⟨?_, ?_, ?_, ?_, ?_, ?_, ?_, ?_, ?_, ?_, ?_, ?_, ?_, ?_, ?_, ?_, ?_, ?_, ?_, ?_, ?_, ?_, ?_, ?_, ?_, ?_, ?_, ?_, ?_, ?_, ?_, ?_, ?_, ?_, ?_, ?_, ?_, ?_, ?_, ?_, ?_, ?_, ?_, ?_, ?_, ?_, ?_, ?_, ?_, ?_, ?_, ?_, ?_, ?_, ?_, ?_, ?_, ?_, ?_, ?_, ?_, ?_, ?_, ?_, ?_, ?_, ?_, ?_, ?_, ?_, ?_, ?_, ?_, ?_, ?_, ?_, ?_, ?_, ?_, ?_, ?_, ?_, ?_, ?_, ?_, ?_, ?_, ?_, ?_, ?_, ?_, ?_, ?_, ?_, ?_, ?_, ?_, ?_, ?_, ?_, ?_, ?_, ?_, ?_, ?_, ?_, ?_, ?_, ?_, ?_, ?_, ?_, ?_, ?_, ?_, ?_, ?_, ?_, ?_, ?_, ?_, ?_, ?_, ?_, ?_, ?_, ?_, ?_, ?_, ?_, ?_, ?_, ?_, ?_, ?_, ?_, ?_, ?_, ?_, ?_, ?_, ?_, ?_, ?_, ?_, ?_, ?_, ?_, ?_⟩
  · unfold Cshm
    have h9 := r_shm R
    simpa (disch := decide) only [gO, gLo, hnB, hnM, hnP, hhN, hnLn, hnOp, hlnP, hpc, hkd, hop, hin, hnin, htp, htt, bI, bIh, bP, bL] using h9
  · unfold Cpx0
    have h9 := r_px0 R
    simpa (disch := decide) only [gO, gLo, hnB, hnM, hnP, hhN, hnLn, hnOp, hlnP, hpc, hkd, hop, hin, hnin, htp, htt, bI, bIh, bP, bL] using h9
  · unfold Cpx1
    have h9 := r_px1 R
    simpa (disch := decide) only [gO, gLo, hnB, hnM, hnP, hhN, hnLn, hnOp, hlnP, hpc, hkd, hop, hin, hnin, htp, htt, bI, bIh, bP, bL] using h9
  · unfold Cpx2
    have h9 := r_px2 R
    simpa (disch := decide) only [gO, gLo, hnB, hnM, hnP, hhN, hnLn, hnOp, hlnP, hpc, hkd, hop, hin, hnin, htp, htt, bI, bIh, bP, bL] using h9
  · unfold Cpf0
    have h9 := r_pf0 R
    simpa (disch := decide) only [gO, gLo, hnB, hnM, hnP, hhN, hnLn, hnOp, hlnP, hpc, hkd, hop, hin, hnin, htp, htt, bI, bIh, bP, bL] using h9
  · unfold Cpf1
    have h9 := r_pf1 R
    simpa (disch := decide) only [gO, gLo, hnB, hnM, hnP, hhN, hnLn, hnOp, hlnP, hpc, hkd, hop, hin, hnin, htp, htt, bI, bIh, bP, bL] using h9
  · unfold Cpf3
    have h9 := r_pf3 R
    simpa (disch := decide) only [gO, gLo, hnB, hnM, hnP, hhN, hnLn, hnOp, hlnP, hpc, hkd, hop, hin, hnin, htp, htt, bI, bIh, bP, bL] using h9
  · unfold Cps0
    have h9 := r_ps0 R
    simpa (disch := decide) only [gO, gLo, hnB, hnM, hnP, hhN, hnLn, hnOp, hlnP, hpc, hkd, hop, hin, hnin, htp, htt, bI, bIh, bP, bL] using h9
  · unfold Cps2
    have h9 := r_ps2 R
    simpa (disch := decide) only [gO, gLo, hnB, hnM, hnP, hhN, hnLn, hnOp, hlnP, hpc, hkd, hop, hin, hnin, htp, htt, bI, bIh, bP, bL] using h9
  · unfold Cps4
    have h9 := r_ps4 R
    simpa (disch := decide) only [gO, gLo, hnB, hnM, hnP, hhN, hnLn, hnOp, hlnP, hpc, hkd, hop, hin, hnin, htp, htt, bI, bIh, bP, bL] using h9
  · unfold Cpk
    have h9 := r_pk R
    simpa (disch := decide) only [gO, gLo, hnB, hnM, hnP, hhN, hnLn, hnOp, hlnP, hpc, hkd, hop, hin, hnin, htp, htt, bI, bIh, bP, bL] using h9
  · unfold Cpkl
    have h9 := r_pkl R
    simpa (disch := decide) only [gO, gLo, hnB, hnM, hnP, hhN, hnLn, hnOp, hlnP, hpc, hkd, hop, hin, hnin, htp, htt, bI, bIh, bP, bL] using h9
  · unfold Cpko
    have h9 := r_pko R
    simpa (disch := decide) only [gO, gLo, hnB, hnM, hnP, hhN, hnLn, hnOp, hlnP, hpc, hkd, hop, hin, hnin, htp, htt, bI, bIh, bP, bL] using h9
  · unfold Cghour
    have h9 := r_ghour R
    simpa (disch := decide) only [gO, gLo, hnB, hnM, hnP, hhN, hnLn, hnOp, hlnP, hpc, hkd, hop, hin, hnin, htp, htt, bI, bIh, bP, bL] using h9
  · unfold Cgstand
    have h9 := r_gstand R
    simpa (disch := decide) only [gO, gLo, hnB, hnM, hnP, hhN, hnLn, hnOp, hlnP, hpc, hkd, hop, hin, hnin, htp, htt, bI, bIh, bP, bL] using h9
  · unfold Cgbought
    have h9 := r_gbought R
    simpa (disch := decide) only [gO, gLo, hnB, hnM, hnP, hhN, hnLn, hnOp, hlnP, hpc, hkd, hop, hin, hnin, htp, htt, bI, bIh, bP, bL] using h9
  · unfold Cgmach
    have h9 := r_gmach R
    simpa (disch := decide) only [gO, gLo, hnB, hnM, hnP, hhN, hnLn, hnOp, hlnP, hpc, hkd, hop, hin, hnin, htp, htt, bI, bIh, bP, bL] using h9
  · unfold Cgpers
    have h9 := r_gpers R
    simpa (disch := decide) only [gO, gLo, hnB, hnM, hnP, hhN, hnLn, hnOp, hlnP, hpc, hkd, hop, hin, hnin, htp, htt, bI, bIh, bP, bL] using h9
  · unfold Cgworked
    have h9 := r_gworked R
    simpa (disch := decide) only [gO, gLo, hnB, hnM, hnP, hhN, hnLn, hnOp, hlnP, hpc, hkd, hop, hin, hnin, htp, htt, bI, bIh, bP, bL] using h9
  · unfold Cgrep
    have h9 := r_grep R
    simpa (disch := decide) only [gO, gLo, hnB, hnM, hnP, hhN, hnLn, hnOp, hlnP, hpc, hkd, hop, hin, hnin, htp, htt, bI, bIh, bP, bL] using h9
  · unfold Cgbat
    have h9 := r_gbat R
    simpa (disch := decide) only [gO, gLo, hnB, hnM, hnP, hhN, hnLn, hnOp, hlnP, hpc, hkd, hop, hin, hnin, htp, htt, bI, bIh, bP, bL] using h9
  · unfold Cgord
    rw [bIc, gC]
  · unfold Cgq
    have h9 := r_gq R
    simpa (disch := decide) only [gO, gLo, hnB, hnM, hnP, hhN, hnLn, hnOp, hlnP, hpc, hkd, hop, hin, hnin, htp, htt, bI, bIh, bP, bL] using h9
  · unfold CnB
    have h9 := r_nB R
    simpa (disch := decide) only [gO, gLo, hnB, hnM, hnP, hhN, hnLn, hnOp, hlnP, hpc, hkd, hop, hin, hnin, htp, htt, bI, bIh, bP, bL] using h9
  · unfold CnBx
    have h9 := r_nBx R
    simpa (disch := decide) only [gO, gLo, hnB, hnM, hnP, hhN, hnLn, hnOp, hlnP, hpc, hkd, hop, hin, hnin, htp, htt, bI, bIh, bP, bL] using h9
  · unfold CnM
    have h9 := r_nM R
    simpa (disch := decide) only [gO, gLo, hnB, hnM, hnP, hhN, hnLn, hnOp, hlnP, hpc, hkd, hop, hin, hnin, htp, htt, bI, bIh, bP, bL] using h9
  · unfold CnMx
    have h9 := r_nMx R
    simpa (disch := decide) only [gO, gLo, hnB, hnM, hnP, hhN, hnLn, hnOp, hlnP, hpc, hkd, hop, hin, hnin, htp, htt, bI, bIh, bP, bL] using h9
  · unfold CnP
    have h9 := r_nP R
    simpa (disch := decide) only [gO, gLo, hnB, hnM, hnP, hhN, hnLn, hnOp, hlnP, hpc, hkd, hop, hin, hnin, htp, htt, bI, bIh, bP, bL] using h9
  · unfold CnPx
    have h9 := r_nPx R
    simpa (disch := decide) only [gO, gLo, hnB, hnM, hnP, hhN, hnLn, hnOp, hlnP, hpc, hkd, hop, hin, hnin, htp, htt, bI, bIh, bP, bL] using h9
  · unfold CnO
    rw [e1]; exact gC
  · unfold CnOx
    rw [e1]; omega
  · unfold Chr
    have h9 := r_hr R
    simpa (disch := decide) only [gO, gLo, hnB, hnM, hnP, hhN, hnLn, hnOp, hlnP, hpc, hkd, hop, hin, hnin, htp, htt, bI, bIh, bP, bL] using h9
  · unfold Chrx
    have h9 := r_hrx R
    simpa (disch := decide) only [gO, gLo, hnB, hnM, hnP, hhN, hnLn, hnOp, hlnP, hpc, hkd, hop, hin, hnin, htp, htt, bI, bIh, bP, bL] using h9
  · unfold Cstb
    have h9 := r_stb R
    simpa (disch := decide) only [gO, gLo, hnB, hnM, hnP, hhN, hnLn, hnOp, hlnP, hpc, hkd, hop, hin, hnin, htp, htt, bI, bIh, bP, bL] using h9
  · unfold Cex
    have h9 := r_ex R
    simpa (disch := decide) only [gO, gLo, hnB, hnM, hnP, hhN, hnLn, hnOp, hlnP, hpc, hkd, hop, hin, hnin, htp, htt, bI, bIh, bP, bL] using h9
  · unfold Ck0
    have h9 := r_k0 R
    simpa (disch := decide) only [gO, gLo, hnB, hnM, hnP, hhN, hnLn, hnOp, hlnP, hpc, hkd, hop, hin, hnin, htp, htt, bI, bIh, bP, bL] using h9
  · unfold Ck1
    have h9 := r_k1 R
    simpa (disch := decide) only [gO, gLo, hnB, hnM, hnP, hhN, hnLn, hnOp, hlnP, hpc, hkd, hop, hin, hnin, htp, htt, bI, bIh, bP, bL] using h9
  · unfold Ck2
    have h9 := r_k2 R
    simpa (disch := decide) only [gO, gLo, hnB, hnM, hnP, hhN, hnLn, hnOp, hlnP, hpc, hkd, hop, hin, hnin, htp, htt, bI, bIh, bP, bL] using h9
  · unfold Ck3
    have h9 := r_k3 R
    simpa (disch := decide) only [gO, gLo, hnB, hnM, hnP, hhN, hnLn, hnOp, hlnP, hpc, hkd, hop, hin, hnin, htp, htt, bI, bIh, bP, bL] using h9
  · unfold Ck5
    have h9 := r_k5 R
    simpa (disch := decide) only [gO, gLo, hnB, hnM, hnP, hhN, hnLn, hnOp, hlnP, hpc, hkd, hop, hin, hnin, htp, htt, bI, bIh, bP, bL] using h9
  · unfold Ck7
    have h9 := r_k7 R
    simpa (disch := decide) only [gO, gLo, hnB, hnM, hnP, hhN, hnLn, hnOp, hlnP, hpc, hkd, hop, hin, hnin, htp, htt, bI, bIh, bP, bL] using h9
  · unfold Ck8
    have h9 := r_k8 R
    simpa (disch := decide) only [gO, gLo, hnB, hnM, hnP, hhN, hnLn, hnOp, hlnP, hpc, hkd, hop, hin, hnin, htp, htt, bI, bIh, bP, bL] using h9
  · unfold Ck9
    have h9 := r_k9 R
    simpa (disch := decide) only [gO, gLo, hnB, hnM, hnP, hhN, hnLn, hnOp, hlnP, hpc, hkd, hop, hin, hnin, htp, htt, bI, bIh, bP, bL] using h9
  · unfold Ck10
    have h9 := r_k10 R
    simpa (disch := decide) only [gO, gLo, hnB, hnM, hnP, hhN, hnLn, hnOp, hlnP, hpc, hkd, hop, hin, hnin, htp, htt, bI, bIh, bP, bL] using h9
  · unfold Ck11
    intro i hi
    rw [e1, bI _ _ _ (by decide) (by decide) (by decide), hmp1]
    exact r_k11 R i hi
  · unfold Ck12
    have h9 := r_k12 R
    simpa (disch := decide) only [gO, gLo, hnB, hnM, hnP, hhN, hnLn, hnOp, hlnP, hpc, hkd, hop, hin, hnin, htp, htt, bI, bIh, bP, bL] using h9
  · unfold Cksa
    have h9 := r_ksa R
    simpa (disch := decide) only [gO, gLo, hnB, hnM, hnP, hhN, hnLn, hnOp, hlnP, hpc, hkd, hop, hin, hnin, htp, htt, bI, bIh, bP, bL] using h9
  · unfold Cksb
    have h9 := r_ksb R
    simpa (disch := decide) only [gO, gLo, hnB, hnM, hnP, hhN, hnLn, hnOp, hlnP, hpc, hkd, hop, hin, hnin, htp, htt, bI, bIh, bP, bL] using h9
  · unfold Cksc
    have h9 := r_ksc R
    simpa (disch := decide) only [gO, gLo, hnB, hnM, hnP, hhN, hnLn, hnOp, hlnP, hpc, hkd, hop, hin, hnin, htp, htt, bI, bIh, bP, bL] using h9
  · unfold Ckw
    have h9 := r_kw R
    simpa (disch := decide) only [gO, gLo, hnB, hnM, hnP, hhN, hnLn, hnOp, hlnP, hpc, hkd, hop, hin, hnin, htp, htt, bI, bIh, bP, bL] using h9
  · unfold Ckl
    have h9 := r_kl R
    simpa (disch := decide) only [gO, gLo, hnB, hnM, hnP, hhN, hnLn, hnOp, hlnP, hpc, hkd, hop, hin, hnin, htp, htt, bI, bIh, bP, bL] using h9
  · unfold Cko
    have h9 := r_ko R
    simpa (disch := decide) only [gO, gLo, hnB, hnM, hnP, hhN, hnLn, hnOp, hlnP, hpc, hkd, hop, hin, hnin, htp, htt, bI, bIh, bP, bL] using h9
  · unfold Ckp
    have h9 := r_kp R
    simpa (disch := decide) only [gO, gLo, hnB, hnM, hnP, hhN, hnLn, hnOp, hlnP, hpc, hkd, hop, hin, hnin, htp, htt, bI, bIh, bP, bL] using h9
  · unfold Cl0
    have h9 := r_l0 R
    simpa (disch := decide) only [gO, gLo, hnB, hnM, hnP, hhN, hnLn, hnOp, hlnP, hpc, hkd, hop, hin, hnin, htp, htt, bI, bIh, bP, bL] using h9
  · unfold Cl1
    have h9 := r_l1 R
    simpa (disch := decide) only [gO, gLo, hnB, hnM, hnP, hhN, hnLn, hnOp, hlnP, hpc, hkd, hop, hin, hnin, htp, htt, bI, bIh, bP, bL] using h9
  · unfold Cl2
    have h9 := r_l2 R
    simpa (disch := decide) only [gO, gLo, hnB, hnM, hnP, hhN, hnLn, hnOp, hlnP, hpc, hkd, hop, hin, hnin, htp, htt, bI, bIh, bP, bL] using h9
  · unfold Cl3
    have h9 := r_l3 R
    simpa (disch := decide) only [gO, gLo, hnB, hnM, hnP, hhN, hnLn, hnOp, hlnP, hpc, hkd, hop, hin, hnin, htp, htt, bI, bIh, bP, bL] using h9
  · unfold Clm
    have h9 := r_lm R
    simpa (disch := decide) only [gO, gLo, hnB, hnM, hnP, hhN, hnLn, hnOp, hlnP, hpc, hkd, hop, hin, hnin, htp, htt, bI, bIh, bP, bL] using h9
  · unfold Co0
    have h9 := r_o0 R
    simpa (disch := decide) only [gO, gLo, hnB, hnM, hnP, hhN, hnLn, hnOp, hlnP, hpc, hkd, hop, hin, hnin, htp, htt, bI, bIh, bP, bL] using h9
  · unfold Co1
    have h9 := r_o1 R
    simpa (disch := decide) only [gO, gLo, hnB, hnM, hnP, hhN, hnLn, hnOp, hlnP, hpc, hkd, hop, hin, hnin, htp, htt, bI, bIh, bP, bL] using h9
  · unfold Co2
    have h9 := r_o2 R
    simpa (disch := decide) only [gO, gLo, hnB, hnM, hnP, hhN, hnLn, hnOp, hlnP, hpc, hkd, hop, hin, hnin, htp, htt, bI, bIh, bP, bL] using h9
  · unfold Co3
    have h9 := r_o3 R
    simpa (disch := decide) only [gO, gLo, hnB, hnM, hnP, hhN, hnLn, hnOp, hlnP, hpc, hkd, hop, hin, hnin, htp, htt, bI, bIh, bP, bL] using h9
  · unfold Com
    have h9 := r_om R
    simpa (disch := decide) only [gO, gLo, hnB, hnM, hnP, hhN, hnLn, hnOp, hlnP, hpc, hkd, hop, hin, hnin, htp, htt, bI, bIh, bP, bL] using h9
  · unfold Cb0
    have h9 := r_b0 R
    simpa (disch := decide) only [gO, gLo, hnB, hnM, hnP, hhN, hnLn, hnOp, hlnP, hpc, hkd, hop, hin, hnin, htp, htt, bI, bIh, bP, bL] using h9
  · unfold Cbn
    have h9 := r_bn R
    simpa (disch := decide) only [gO, gLo, hnB, hnM, hnP, hhN, hnLn, hnOp, hlnP, hpc, hkd, hop, hin, hnin, htp, htt, bI, bIh, bP, bL] using h9
  · unfold Cbk
    have h9 := r_bk R
    simpa (disch := decide) only [gO, gLo, hnB, hnM, hnP, hhN, hnLn, hnOp, hlnP, hpc, hkd, hop, hin, hnin, htp, htt, bI, bIh, bP, bL] using h9
  · unfold Cb2
    have h9 := r_b2 R
    simpa (disch := decide) only [gO, gLo, hnB, hnM, hnP, hhN, hnLn, hnOp, hlnP, hpc, hkd, hop, hin, hnin, htp, htt, bI, bIh, bP, bL] using h9
  · unfold Cb3
    have h9 := r_b3 R
    simpa (disch := decide) only [gO, gLo, hnB, hnM, hnP, hhN, hnLn, hnOp, hlnP, hpc, hkd, hop, hin, hnin, htp, htt, bI, bIh, bP, bL] using h9
  · unfold Cb4
    have h9 := r_b4 R
    simpa (disch := decide) only [gO, gLo, hnB, hnM, hnP, hhN, hnLn, hnOp, hlnP, hpc, hkd, hop, hin, hnin, htp, htt, bI, bIh, bP, bL] using h9
  · unfold Cb5
    have h9 := r_b5 R
    simpa (disch := decide) only [gO, gLo, hnB, hnM, hnP, hhN, hnLn, hnOp, hlnP, hpc, hkd, hop, hin, hnin, htp, htt, bI, bIh, bP, bL] using h9
  · unfold Cb6
    have h9 := r_b6 R
    simpa (disch := decide) only [gO, gLo, hnB, hnM, hnP, hhN, hnLn, hnOp, hlnP, hpc, hkd, hop, hin, hnin, htp, htt, bI, bIh, bP, bL] using h9
  · unfold Cb7
    have h9 := r_b7 R
    simpa (disch := decide) only [gO, gLo, hnB, hnM, hnP, hhN, hnLn, hnOp, hlnP, hpc, hkd, hop, hin, hnin, htp, htt, bI, bIh, bP, bL] using h9
  · unfold Cb8
    have h9 := r_b8 R
    simpa (disch := decide) only [gO, gLo, hnB, hnM, hnP, hhN, hnLn, hnOp, hlnP, hpc, hkd, hop, hin, hnin, htp, htt, bI, bIh, bP, bL] using h9
  · unfold Cb9
    have h9 := r_b9 R
    simpa (disch := decide) only [gO, gLo, hnB, hnM, hnP, hhN, hnLn, hnOp, hlnP, hpc, hkd, hop, hin, hnin, htp, htt, bI, bIh, bP, bL] using h9
  · unfold Cb10
    have h9 := r_b10 R
    simpa (disch := decide) only [gO, gLo, hnB, hnM, hnP, hhN, hnLn, hnOp, hlnP, hpc, hkd, hop, hin, hnin, htp, htt, bI, bIh, bP, bL] using h9
  · unfold Cb11
    have h9 := r_b11 R
    simpa (disch := decide) only [gO, gLo, hnB, hnM, hnP, hhN, hnLn, hnOp, hlnP, hpc, hkd, hop, hin, hnin, htp, htt, bI, bIh, bP, bL] using h9
  · unfold CbK
    have h9 := r_bK R
    simpa (disch := decide) only [gO, gLo, hnB, hnM, hnP, hhN, hnLn, hnOp, hlnP, hpc, hkd, hop, hin, hnin, htp, htt, bI, bIh, bP, bL] using h9
  · unfold CbP
    have h9 := r_bP R
    simpa (disch := decide) only [gO, gLo, hnB, hnM, hnP, hhN, hnLn, hnOp, hlnP, hpc, hkd, hop, hin, hnin, htp, htt, bI, bIh, bP, bL] using h9
  · unfold CbO
    have h9 := r_bO R
    simpa (disch := decide) only [gO, gLo, hnB, hnM, hnP, hhN, hnLn, hnOp, hlnP, hpc, hkd, hop, hin, hnin, htp, htt, bI, bIh, bP, bL] using h9
  · unfold CbW
    have h9 := r_bW R
    simpa (disch := decide) only [gO, gLo, hnB, hnM, hnP, hhN, hnLn, hnOp, hlnP, hpc, hkd, hop, hin, hnin, htp, htt, bI, bIh, bP, bL] using h9
  · unfold CbZ
    have h9 := r_bZ R
    simpa (disch := decide) only [gO, gLo, hnB, hnM, hnP, hhN, hnLn, hnOp, hlnP, hpc, hkd, hop, hin, hnin, htp, htt, bI, bIh, bP, bL] using h9
  · unfold CbF
    have h9 := r_bF R
    simpa (disch := decide) only [gO, gLo, hnB, hnM, hnP, hhN, hnLn, hnOp, hlnP, hpc, hkd, hop, hin, hnin, htp, htt, bI, bIh, bP, bL] using h9
  · unfold CbS
    have h9 := r_bS R
    simpa (disch := decide) only [gO, gLo, hnB, hnM, hnP, hhN, hnLn, hnOp, hlnP, hpc, hkd, hop, hin, hnin, htp, htt, bI, bIh, bP, bL] using h9
  · unfold CbC
    have h9 := r_bC R
    simpa (disch := decide) only [gO, gLo, hnB, hnM, hnP, hhN, hnLn, hnOp, hlnP, hpc, hkd, hop, hin, hnin, htp, htt, bI, bIh, bP, bL] using h9
  · unfold CbT
    have h9 := r_bT R
    simpa (disch := decide) only [gO, gLo, hnB, hnM, hnP, hhN, hnLn, hnOp, hlnP, hpc, hkd, hop, hin, hnin, htp, htt, bI, bIh, bP, bL] using h9
  · unfold CbU
    have h9 := r_bU R
    simpa (disch := decide) only [gO, gLo, hnB, hnM, hnP, hhN, hnLn, hnOp, hlnP, hpc, hkd, hop, hin, hnin, htp, htt, bI, bIh, bP, bL] using h9
  · unfold Cbq
    have h9 := r_bq R
    simpa (disch := decide) only [gO, gLo, hnB, hnM, hnP, hhN, hnLn, hnOp, hlnP, hpc, hkd, hop, hin, hnin, htp, htt, bI, bIh, bP, bL] using h9
  · unfold Cps
    intro he i hi
    rw [e1, hnB, hnin, hnp1]
    exact r_ps R he i hi
  · unfold Cbp
    have h9 := r_bp R
    simpa (disch := decide) only [gO, gLo, hnB, hnM, hnP, hhN, hnLn, hnOp, hlnP, hpc, hkd, hop, hin, hnin, htp, htt, bI, bIh, bP, bL] using h9
  · unfold Cbc
    have h9 := r_bc R
    simpa (disch := decide) only [gO, gLo, hnB, hnM, hnP, hhN, hnLn, hnOp, hlnP, hpc, hkd, hop, hin, hnin, htp, htt, bI, bIh, bP, bL] using h9
  · unfold CfB
    intro j h1 h2
    rw [hnB] at h1
    rw [bX _ (tk_ne (by decide) (by decide) (by decide) : tk 0 _ ≠ tk 6 _)]
    exact r_fB R j h1 h2
  · unfold CfL
    intro i q h1 h2 h3
    rw [hnLn] at h3
    rw [bX _ (tk_ne (by decide) (by decide) (by decide) : tk 3 _ ≠ tk 6 _)]
    exact r_fL R i q h1 h2 h3
  · unfold CfO
    intro i q h1 h2 h3
    rw [hnOp] at h3
    rw [bX _ (tk_ne (by decide) (by decide) (by decide) : tk 5 _ ≠ tk 6 _)]
    exact r_fO R i q h1 h2 h3
  · unfold CfM
    intro j h1 h2
    rw [hnM] at h1
    rw [bX _ (tk_ne (by decide) (by decide) (by decide) : tk 4 _ ≠ tk 6 _)]
    exact r_fM R j h1 h2
  · unfold CfP
    intro j h1 h2
    rw [hnP] at h1
    rw [bX _ (tk_ne (by decide) (by decide) (by decide) : tk 7 _ ≠ tk 6 _), bX _ (tk_ne (by decide) (by decide) (by decide) : tk 21 _ ≠ tk 6 _), bX _ (tk_ne (by decide) (by decide) (by decide) : tk 22 _ ≠ tk 6 _)]
    exact r_fP R j h1 h2
  · unfold CfR
    intro j h1 h2
    rw [e1] at h1
    rw [bX _ (fun q => by have := tk_inj.mp q; omega)]
    exact r_fR R j (by omega) h2
  · unfold CfG
    obtain ⟨Q, h1, h2⟩ := r_fG R
    refine ⟨Q, h1, fun c i hi => ?_⟩
    rw [bX _ (by unfold tk; omega)]
    exact h2 c i hi
  · unfold Cm0
    have h9 := r_m0 R
    simpa (disch := decide) only [gO, gLo, hnB, hnM, hnP, hhN, hnLn, hnOp, hlnP, hpc, hkd, hop, hin, hnin, htp, htt, bI, bIh, bP, bL] using h9
  · unfold Cmn
    have h9 := r_mn R
    simpa (disch := decide) only [gO, gLo, hnB, hnM, hnP, hhN, hnLn, hnOp, hlnP, hpc, hkd, hop, hin, hnin, htp, htt, bI, bIh, bP, bL] using h9
  · unfold Cm1
    have h9 := r_m1 R
    simpa (disch := decide) only [gO, gLo, hnB, hnM, hnP, hhN, hnLn, hnOp, hlnP, hpc, hkd, hop, hin, hnin, htp, htt, bI, bIh, bP, bL] using h9
  · unfold Cm2
    have h9 := r_m2 R
    simpa (disch := decide) only [gO, gLo, hnB, hnM, hnP, hhN, hnLn, hnOp, hlnP, hpc, hkd, hop, hin, hnin, htp, htt, bI, bIh, bP, bL] using h9
  · unfold Cm3
    have h9 := r_m3 R
    simpa (disch := decide) only [gO, gLo, hnB, hnM, hnP, hhN, hnLn, hnOp, hlnP, hpc, hkd, hop, hin, hnin, htp, htt, bI, bIh, bP, bL] using h9
  · unfold Cm4
    have h9 := r_m4 R
    simpa (disch := decide) only [gO, gLo, hnB, hnM, hnP, hhN, hnLn, hnOp, hlnP, hpc, hkd, hop, hin, hnin, htp, htt, bI, bIh, bP, bL] using h9
  · unfold Cm5
    have h9 := r_m5 R
    simpa (disch := decide) only [gO, gLo, hnB, hnM, hnP, hhN, hnLn, hnOp, hlnP, hpc, hkd, hop, hin, hnin, htp, htt, bI, bIh, bP, bL] using h9
  · unfold Cm9
    have h9 := r_m9 R
    simpa (disch := decide) only [gO, gLo, hnB, hnM, hnP, hhN, hnLn, hnOp, hlnP, hpc, hkd, hop, hin, hnin, htp, htt, bI, bIh, bP, bL] using h9
  · unfold Cm11
    have h9 := r_m11 R
    simpa (disch := decide) only [gO, gLo, hnB, hnM, hnP, hhN, hnLn, hnOp, hlnP, hpc, hkd, hop, hin, hnin, htp, htt, bI, bIh, bP, bL] using h9
  · unfold Cm13
    have h9 := r_m13 R
    simpa (disch := decide) only [gO, gLo, hnB, hnM, hnP, hhN, hnLn, hnOp, hlnP, hpc, hkd, hop, hin, hnin, htp, htt, bI, bIh, bP, bL] using h9
  · unfold Cm14
    have h9 := r_m14 R
    simpa (disch := decide) only [gO, gLo, hnB, hnM, hnP, hhN, hnLn, hnOp, hlnP, hpc, hkd, hop, hin, hnin, htp, htt, bI, bIh, bP, bL] using h9
  · unfold Cm6
    have h9 := r_m6 R
    simpa (disch := decide) only [gO, gLo, hnB, hnM, hnP, hhN, hnLn, hnOp, hlnP, hpc, hkd, hop, hin, hnin, htp, htt, bI, bIh, bP, bL] using h9
  · unfold Cm7
    have h9 := r_m7 R
    simpa (disch := decide) only [gO, gLo, hnB, hnM, hnP, hhN, hnLn, hnOp, hlnP, hpc, hkd, hop, hin, hnin, htp, htt, bI, bIh, bP, bL] using h9
  · unfold Cm8
    have h9 := r_m8 R
    simpa (disch := decide) only [gO, gLo, hnB, hnM, hnP, hhN, hnLn, hnOp, hlnP, hpc, hkd, hop, hin, hnin, htp, htt, bI, bIh, bP, bL] using h9
  · unfold Cm12
    have h9 := r_m12 R
    simpa (disch := decide) only [gO, gLo, hnB, hnM, hnP, hhN, hnLn, hnOp, hlnP, hpc, hkd, hop, hin, hnin, htp, htt, bI, bIh, bP, bL] using h9
  · unfold Cm10
    have h9 := r_m10 R
    simpa (disch := decide) only [gO, gLo, hnB, hnM, hnP, hhN, hnLn, hnOp, hlnP, hpc, hkd, hop, hin, hnin, htp, htt, bI, bIh, bP, bL] using h9
  · unfold Cmma
    have h9 := r_mma R
    simpa (disch := decide) only [gO, gLo, hnB, hnM, hnP, hhN, hnLn, hnOp, hlnP, hpc, hkd, hop, hin, hnin, htp, htt, bI, bIh, bP, bL] using h9
  · unfold Cmmb
    have h9 := r_mmb R
    simpa (disch := decide) only [gO, gLo, hnB, hnM, hnP, hhN, hnLn, hnOp, hlnP, hpc, hkd, hop, hin, hnin, htp, htt, bI, bIh, bP, bL] using h9
  · unfold Cmmc
    have h9 := r_mmc R
    simpa (disch := decide) only [gO, gLo, hnB, hnM, hnP, hhN, hnLn, hnOp, hlnP, hpc, hkd, hop, hin, hnin, htp, htt, bI, bIh, bP, bL] using h9
  · unfold Cmr29
    have h9 := r_mr29 R
    simpa (disch := decide) only [gO, gLo, hnB, hnM, hnP, hhN, hnLn, hnOp, hlnP, hpc, hkd, hop, hin, hnin, htp, htt, bI, bIh, bP, bL] using h9
  · unfold Cmr30
    have h9 := r_mr30 R
    simpa (disch := decide) only [gO, gLo, hnB, hnM, hnP, hhN, hnLn, hnOp, hlnP, hpc, hkd, hop, hin, hnin, htp, htt, bI, bIh, bP, bL] using h9
  · unfold Cmr31
    have h9 := r_mr31 R
    simpa (disch := decide) only [gO, gLo, hnB, hnM, hnP, hhN, hnLn, hnOp, hlnP, hpc, hkd, hop, hin, hnin, htp, htt, bI, bIh, bP, bL] using h9
  · unfold Cmr32
    have h9 := r_mr32 R
    simpa (disch := decide) only [gO, gLo, hnB, hnM, hnP, hhN, hnLn, hnOp, hlnP, hpc, hkd, hop, hin, hnin, htp, htt, bI, bIh, bP, bL] using h9
  · unfold Cmr35
    have h9 := r_mr35 R
    simpa (disch := decide) only [gO, gLo, hnB, hnM, hnP, hhN, hnLn, hnOp, hlnP, hpc, hkd, hop, hin, hnin, htp, htt, bI, bIh, bP, bL] using h9
  · unfold Cmr39
    have h9 := r_mr39 R
    simpa (disch := decide) only [gO, gLo, hnB, hnM, hnP, hhN, hnLn, hnOp, hlnP, hpc, hkd, hop, hin, hnin, htp, htt, bI, bIh, bP, bL] using h9
  · unfold Cmr40
    have h9 := r_mr40 R
    simpa (disch := decide) only [gO, gLo, hnB, hnM, hnP, hhN, hnLn, hnOp, hlnP, hpc, hkd, hop, hin, hnin, htp, htt, bI, bIh, bP, bL] using h9
  · unfold Cmd
    have h9 := r_md R
    simpa (disch := decide) only [gO, gLo, hnB, hnM, hnP, hhN, hnLn, hnOp, hlnP, hpc, hkd, hop, hin, hnin, htp, htt, bI, bIh, bP, bL] using h9
  · unfold Cmw
    have h9 := r_mw R
    simpa (disch := decide) only [gO, gLo, hnB, hnM, hnP, hhN, hnLn, hnOp, hlnP, hpc, hkd, hop, hin, hnin, htp, htt, bI, bIh, bP, bL] using h9
  · unfold Cq0
    have h9 := r_q0 R
    simpa (disch := decide) only [gO, gLo, hnB, hnM, hnP, hhN, hnLn, hnOp, hlnP, hpc, hkd, hop, hin, hnin, htp, htt, bI, bIh, bP, bL] using h9
  · unfold Cqn
    have h9 := r_qn R
    simpa (disch := decide) only [gO, gLo, hnB, hnM, hnP, hhN, hnLn, hnOp, hlnP, hpc, hkd, hop, hin, hnin, htp, htt, bI, bIh, bP, bL] using h9
  · unfold Cq1
    have h9 := r_q1 R
    simpa (disch := decide) only [gO, gLo, hnB, hnM, hnP, hhN, hnLn, hnOp, hlnP, hpc, hkd, hop, hin, hnin, htp, htt, bI, bIh, bP, bL] using h9
  · unfold Cq2
    have h9 := r_q2 R
    simpa (disch := decide) only [gO, gLo, hnB, hnM, hnP, hhN, hnLn, hnOp, hlnP, hpc, hkd, hop, hin, hnin, htp, htt, bI, bIh, bP, bL] using h9
  · unfold Cq3
    have h9 := r_q3 R
    simpa (disch := decide) only [gO, gLo, hnB, hnM, hnP, hhN, hnLn, hnOp, hlnP, hpc, hkd, hop, hin, hnin, htp, htt, bI, bIh, bP, bL] using h9
  · unfold Cq4
    have h9 := r_q4 R
    simpa (disch := decide) only [gO, gLo, hnB, hnM, hnP, hhN, hnLn, hnOp, hlnP, hpc, hkd, hop, hin, hnin, htp, htt, bI, bIh, bP, bL] using h9
  · unfold Cq5
    have h9 := r_q5 R
    simpa (disch := decide) only [gO, gLo, hnB, hnM, hnP, hhN, hnLn, hnOp, hlnP, hpc, hkd, hop, hin, hnin, htp, htt, bI, bIh, bP, bL] using h9
  · unfold Cq6
    have h9 := r_q6 R
    simpa (disch := decide) only [gO, gLo, hnB, hnM, hnP, hhN, hnLn, hnOp, hlnP, hpc, hkd, hop, hin, hnin, htp, htt, bI, bIh, bP, bL] using h9
  · unfold Cql
    have h9 := r_ql R
    simpa (disch := decide) only [gO, gLo, hnB, hnM, hnP, hhN, hnLn, hnOp, hlnP, hpc, hkd, hop, hin, hnin, htp, htt, bI, bIh, bP, bL] using h9
  · unfold Cqw
    have h9 := r_qw R
    simpa (disch := decide) only [gO, gLo, hnB, hnM, hnP, hhN, hnLn, hnOp, hlnP, hpc, hkd, hop, hin, hnin, htp, htt, bI, bIh, bP, bL] using h9
  · unfold Cqm
    have h9 := r_qm R
    simpa (disch := decide) only [gO, gLo, hnB, hnM, hnP, hhN, hnLn, hnOp, hlnP, hpc, hkd, hop, hin, hnin, htp, htt, bI, bIh, bP, bL] using h9
  · unfold Cqr
    have h9 := r_qr R
    simpa (disch := decide) only [gO, gLo, hnB, hnM, hnP, hhN, hnLn, hnOp, hlnP, hpc, hkd, hop, hin, hnin, htp, htt, bI, bIh, bP, bL] using h9
  · unfold Cr0
    intro j hj
    rw [e1] at hj
    by_cases c : j = nO M
    · subst c
      rw [bPa, if_pos rfl]
    · have hj2 : j < nO M := by omega
      have h9 := r_r0 R j hj2
      simpa (disch := decide) only [gJ _ _ c, bJ6 _ _ c, bPj _ _ c, bPa, if_neg c, gO, gLo, hnB, hnM, hnP, hhN, hnLn, hnOp, hlnP, hpc, hkd, hop, hin, hnin, htp, htt, bI, bIh, bP, bL] using h9
  · unfold Cr1
    intro j hj
    rw [e1] at hj
    by_cases c : j = nO M
    · subst c
      rw [p0, g48, kp_nI (by omega)]
    · have hj2 : j < nO M := by omega
      have h9 := r_r1 R j hj2
      simpa (disch := decide) only [gJ _ _ c, bJ6 _ _ c, bPj _ _ c, bPa, if_neg c, gO, gLo, hnB, hnM, hnP, hhN, hnLn, hnOp, hlnP, hpc, hkd, hop, hin, hnin, htp, htt, bI, bIh, bP, bL] using h9
  · unfold Cr2
    intro j hj
    rw [e1] at hj
    by_cases c : j = nO M
    · subst c
      rw [v1, g49]
    · have hj2 : j < nO M := by omega
      have h9 := r_r2 R j hj2
      simpa (disch := decide) only [gJ _ _ c, bJ6 _ _ c, bPj _ _ c, bPa, if_neg c, gO, gLo, hnB, hnM, hnP, hhN, hnLn, hnOp, hlnP, hpc, hkd, hop, hin, hnin, htp, htt, bI, bIh, bP, bL] using h9
  · unfold Cr3
    intro j hj
    rw [e1] at hj
    by_cases c : j = nO M
    · subst c
      rw [v2, g50]
    · have hj2 : j < nO M := by omega
      have h9 := r_r3 R j hj2
      simpa (disch := decide) only [gJ _ _ c, bJ6 _ _ c, bPj _ _ c, bPa, if_neg c, gO, gLo, hnB, hnM, hnP, hhN, hnLn, hnOp, hlnP, hpc, hkd, hop, hin, hnin, htp, htt, bI, bIh, bP, bL] using h9
  · unfold Cr4
    intro j hj
    rw [e1] at hj
    by_cases c : j = nO M
    · subst c
      rw [v3, gO _ _ rfl, z51]
    · have hj2 : j < nO M := by omega
      have h9 := r_r4 R j hj2
      simpa (disch := decide) only [gJ _ _ c, bJ6 _ _ c, bPj _ _ c, bPa, if_neg c, gO, gLo, hnB, hnM, hnP, hhN, hnLn, hnOp, hlnP, hpc, hkd, hop, hin, hnin, htp, htt, bI, bIh, bP, bL] using h9
  · unfold Cr5
    intro j hj
    rw [e1] at hj
    by_cases c : j = nO M
    · subst c
      rw [p4, g52]; rfl
    · have hj2 : j < nO M := by omega
      have h9 := r_r5 R j hj2
      simpa (disch := decide) only [gJ _ _ c, bJ6 _ _ c, bPj _ _ c, bPa, if_neg c, gO, gLo, hnB, hnM, hnP, hhN, hnLn, hnOp, hlnP, hpc, hkd, hop, hin, hnin, htp, htt, bI, bIh, bP, bL] using h9
  · unfold Cr6
    intro j hj hne
    rw [e1] at hj
    by_cases c : j = nO M
    · subst c; exact absurd g52 hne
    · rw [gJ _ _ c (by decide)] at hne; rw [bJ6 _ _ c, gO _ _ rfl]; exact r_r6 R j (by omega) hne
  · unfold Crk
    intro j hj
    rw [e1] at hj
    by_cases c : j = nO M
    · subst c
      rw [g48]; exact ⟨k, rfl, hk⟩
    · have hj2 : j < nO M := by omega
      have h9 := r_rk R j hj2
      simpa (disch := decide) only [gJ _ _ c, bJ6 _ _ c, bPj _ _ c, bPa, if_neg c, gO, gLo, hnB, hnM, hnP, hhN, hnLn, hnOp, hlnP, hpc, hkd, hop, hin, hnin, htp, htt, bI, bIh, bP, bL] using h9
  · unfold Crp
    intro j hj
    rw [e1] at hj
    by_cases c : j = nO M
    · subst c
      rw [g49]; exact hpp
    · have hj2 : j < nO M := by omega
      have h9 := r_rp R j hj2
      simpa (disch := decide) only [gJ _ _ c, bJ6 _ _ c, bPj _ _ c, bPa, if_neg c, gO, gLo, hnB, hnM, hnP, hhN, hnLn, hnOp, hlnP, hpc, hkd, hop, hin, hnin, htp, htt, bI, bIh, bP, bL] using h9
  · unfold Crq
    intro j hj
    rw [e1] at hj
    by_cases c : j = nO M
    · subst c
      rw [gO _ _ rfl, z51, hprz]; exact nI_0.symm
    · have hj2 : j < nO M := by omega
      have h9 := r_rq R j hj2
      rw [gO _ _ rfl, hpr]; exact h9
  · unfold Crr
    intro j hj
    rw [e1] at hj
    by_cases c : j = nO M
    · subst c
      rw [hprz]; omega
    · have hj2 : j < nO M := by omega
      have h9 := r_rr R j hj2
      rw [hpr, gJ _ _ c (by decide)]; exact h9
  · unfold Crs
    intro j hj
    rw [e1] at hj
    by_cases c : j = nO M
    · subst c
      rw [g52]; exact Or.inl rfl
    · have hj2 : j < nO M := by omega
      have h9 := r_rs R j hj2
      rw [gJ _ _ c (by decide), hnB]; exact h9
set_option maxHeartbeats 2000000 in
theorem rel_addO {e : Nat} {a : Sg} {M : MS} (R : Rel e a M) (k : Nat) (pp du : Int32) (hk : k < 12) (hpp : ∃ p : Nat, pp = nI p ∧ 1 ≤ p ∧ p ≤ 20) (z51 : gI M 51 (nO M) = 0) (hlt : nO M < 10) : Rel e (wI (wP (wI (wI (wP (wN a (tk 6 (nO M))) (tk 6 (nO M)) 0 (some (tk 2 k))) (tk 6 (nO M)) 1 pp) (tk 6 (nO M)) 2 du) (tk 19 0) (nO M) (some (tk 6 (nO M)))) (tk 8 0) 3 (nI (nO M + 1))) (uI (uI (uI (uI (uI M 48 (nO M) (nI k)) 49 (nO M) pp) 50 (nO M) du) 52 (nO M) (-1)) 247 0 (nI (nO M + 1))) := by
  refine rel_addON R k pp du hk hpp z51 hlt ?_ ?_ ?_ ?_ ?_ ?_ ?_ ?_ ?_ ?_ ?_ ?_ ?_ ?_ ?_ ?_ ?_ ?_ ?_ ?_ ?_ ?_
  · intro t j h; have h : t ≠ 48 ∧ t ≠ 49 ∧ t ≠ 50 ∧ t ≠ 52 ∧ t ≠ 247 := by unfold z_rel_addO at h; simp only [Bool.and_eq_true, bne_iff_ne] at h; omega
    simp (disch := omega) only [gI_ne]
  · intro t j h h1; rw [gI_ne (Ne.symm h1)]; simp (disch := omega) only [gI_nj]
  · simp [gI_uI]
  · simp [gI_uI]
  · simp [gI_uI]
  · simp [gI_uI]
  · simp [gI_uI]
  · intro j; simp [gL_uI]
  · intro c i q h0 h6 hh; simp (disch := omega) [gI_uI, gI_uL, gL_uI, gL_uL, sI_wI, sI_wP, sI_wN, sP_wI, sP_wP, sP_wN, sL_wI, sL_wP, sL_wN, sX_wI, sX_wP, sX_wN, tk_ne9, tk_inj]
  · intro q h; simp [gI_uI, gI_uL, gL_uI, gL_uL, sI_wI, sI_wP, sI_wN, sP_wI, sP_wP, sP_wN, sL_wI, sL_wP, sL_wN, sX_wI, sX_wP, sX_wN, tk_ne9, tk_inj, h]
  · simp [gI_uI, gI_uL, gL_uI, gL_uL, sI_wI, sI_wP, sI_wN, sP_wI, sP_wP, sP_wN, sL_wI, sL_wP, sL_wN, sX_wI, sX_wP, sX_wN, tk_ne9, tk_inj]
  · intro j q h; simp [gI_uI, gI_uL, gL_uI, gL_uL, sI_wI, sI_wP, sI_wN, sP_wI, sP_wP, sP_wN, sL_wI, sL_wP, sL_wN, sX_wI, sX_wP, sX_wN, tk_ne9, tk_inj, h]
  · simp [gI_uI, gI_uL, gL_uI, gL_uL, sI_wI, sI_wP, sI_wN, sP_wI, sP_wP, sP_wN, sL_wI, sL_wP, sL_wN, sX_wI, sX_wP, sX_wN, tk_ne9, tk_inj]
  · simp [gI_uI, gI_uL, gL_uI, gL_uL, sI_wI, sI_wP, sI_wN, sP_wI, sP_wP, sP_wN, sL_wI, sL_wP, sL_wN, sX_wI, sX_wP, sX_wN, tk_ne9, tk_inj]
  · simp [gI_uI, gI_uL, gL_uI, gL_uL, sI_wI, sI_wP, sI_wN, sP_wI, sP_wP, sP_wN, sL_wI, sL_wP, sL_wN, sX_wI, sX_wP, sX_wN, tk_ne9, tk_inj]
  · intro c i q h0 h6 hh; simp (disch := omega) [gI_uI, gI_uL, gL_uI, gL_uL, sI_wI, sI_wP, sI_wN, sP_wI, sP_wP, sP_wN, sL_wI, sL_wP, sL_wN, sX_wI, sX_wP, sX_wN, tk_ne9, tk_inj]
  · intro j q h; simp [gI_uI, gI_uL, gL_uI, gL_uL, sI_wI, sI_wP, sI_wN, sP_wI, sP_wP, sP_wN, sL_wI, sL_wP, sL_wN, sX_wI, sX_wP, sX_wN, tk_ne9, tk_inj, h]
  · intro j; simp [gI_uI, gI_uL, gL_uI, gL_uL, sI_wI, sI_wP, sI_wN, sP_wI, sP_wP, sP_wN, sL_wI, sL_wP, sL_wN, sX_wI, sX_wP, sX_wN, tk_ne9, tk_inj]
  · simp [gI_uI, gI_uL, gL_uI, gL_uL, sI_wI, sI_wP, sI_wN, sP_wI, sP_wP, sP_wN, sL_wI, sL_wP, sL_wN, sX_wI, sX_wP, sX_wN, tk_ne9, tk_inj]
  · simp [gI_uI, gI_uL, gL_uI, gL_uL, sI_wI, sI_wP, sI_wN, sP_wI, sP_wP, sP_wN, sL_wI, sL_wP, sL_wN, sX_wI, sX_wP, sX_wN, tk_ne9, tk_inj]
  · intro c i q h0 h6; simp (disch := omega) [gI_uI, gI_uL, gL_uI, gL_uL, sI_wI, sI_wP, sI_wN, sP_wI, sP_wP, sP_wN, sL_wI, sL_wP, sL_wN, sX_wI, sX_wP, sX_wN, tk_ne9, tk_inj]
  · intro t h6; simp [gI_uI, gI_uL, gL_uI, gL_uL, sI_wI, sI_wP, sI_wN, sP_wI, sP_wP, sP_wN, sL_wI, sL_wP, sL_wN, sX_wI, sX_wP, sX_wN, tk_ne9, tk_inj, h6]
