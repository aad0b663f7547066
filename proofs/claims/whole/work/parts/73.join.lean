/-! join. -/
section RR
variable {e : Nat} {a b : Sg} {M : MS}
def tfM (N : MS) (i n : Nat) (t : Int32) : MS := uL (uI (tk1 N i t) 17 n (gI (tk1 N i t) 17 n + tkC N i t)) n (gL N n ||| bit i)
def jnM (M : MS) (n k P i j : Nat) (pi pj : Int32) (o y s f : Int32) : MS := tfM (tfM (spM M n k P o y s f) i n pi) j n pj
def jnA (a : Sg) (n k P i j ci pi cj pj : Nat) (o y s f : Int32) : Sg := wI (gvG (gvG (wL (spA a n k P o y s f) (tk 0 n) 11 (bit i ||| bit j)) i ci pi pi) j cj pj pj) (tk 0 n) 3 (nI ci + nI cj)
theorem tfM_z (N : MS) (i n : Nat) (t : Int32) (s q : Nat) (h : zb s = true) : gI (tfM N i n t) s q = gI N s q := by
  have h : s ≠ 15 ∧ s ≠ 16 ∧ s ≠ 17 ∧ s ≠ 18 ∧ s ≠ 19 ∧ s ≠ 20 ∧ s ≠ 121 ∧ s ≠ 122 ∧ s ≠ 23 ∧ s ≠ 124 ∧ s ≠ 25 ∧ s ≠ 214 ∧ s ≠ 113 := by unfold zb at h; simp only [Bool.and_eq_true, bne_iff_ne] at h; omega
  unfold tfM
  rw [gI_uL, gI_ne (by omega), tk1_g _ _ _ _ _ (by omega) (by omega) (by omega)]
theorem tfM_113 (N : MS) (i n : Nat) (t : Int32) (s q : Nat) (h : s ≠ 16 ∧ s ≠ 17 ∧ s ≠ 18) : gI (tfM N i n t) s q = gI N s q := by
  unfold tfM
  rw [gI_uL, gI_ne (by omega), tk1_g _ _ _ _ _ (by omega) (by omega) (by omega)]
theorem tfM_o (N : MS) (i n : Nat) (t : Int32) (s q : Nat) (h : ¬ q = n) : gI (tfM N i n t) s q = gI (tk1 N i t) s q := by
  unfold tfM
  rw [gI_uL, gI_nj h]
theorem tfM_n (N : MS) (i n : Nat) (t : Int32) (hne : ¬ n = i) : (∀ s, s ≠ 17 → gI (tfM N i n t) s n = gI N s n) ∧ gI (tfM N i n t) 17 n = gI N 17 n + tkC N i t ∧ gL (tfM N i n t) n = gL N n ||| bit i ∧ ∀ q, ¬ q = n → gL (tfM N i n t) q = gL N q := by
  refine ⟨fun s h => ?_, ?_, ?_, fun q h => ?_⟩
  · unfold tfM
    rw [gI_uL, gI_ne (Ne.symm h), tk1_o _ _ _ _ _ hne]
  · unfold tfM
    rw [gI_uL, gI_uI, if_pos ⟨rfl, rfl⟩, tk1_o _ _ _ _ _ hne]
  · unfold tfM
    show (if n = n then _ else _) = _
    rw [if_pos rfl]
  · unfold tfM
    show (if q = n then _ else _) = _
    rw [if_neg h]
    rfl
end RR
section RR
variable {e : Nat} {a b : Sg} {M : MS}
set_option maxHeartbeats 8000000 in
theorem rel_join (R : Rel e a M) {i j : Nat} (hi : i < nB M) (hj : j < nB M) (hij : ¬ i = j) (h60 : nB M < 60) (si : gI M 18 i = 1) (sj : gI M 18 j = 1) {y s f : Int32} (hs : b01 s) : Rel e (jnA a (nB M) (kd M i) (pc M i + pc M j) i j (cN M i) (pc M i) (cN M j) (pc M j) (gI M 19 i) y s f) (jnM (uI M 259 0 0) (nB M) (kd M i) (pc M i + pc M j) i j (nI (pc M i)) (nI (pc M j)) (gI M 19 i) y s f) := by
  have R1 := rel_thrown R 0
  obtain ⟨f1, f2, f3, f4, f5, f6, f7, f8, f9⟩ := M9_f M i
  obtain ⟨k1, k2, k3, k4, -, -, -, -, -⟩ := M9_f M j
  have hpi := pc_pos R hi si
  have hpj := pc_pos R hj sj
  have hxi := pc_le R hi
  have hxj := pc_le R hj
  have hci := (cN_e R hi).2
  have hcj := (cN_e R hj).2
  have hK := r_bK R i hi
  have hO := r_bO R i hi
  have hW := r_bW R i hi (Or.inl si)
  have hU := r_bU R i hi
  have hin : ¬ i = nB M := by omega
  have hni : ¬ nB M = i := by omega
  have hjn : ¬ j = nB M := by omega
  have hnj : ¬ nB M = j := by omega
  have hji : ¬ j = i := fun z => hij z.symm
  have m1 : cN M i * pc M i / pc M i = cN M i := Nat.mul_div_cancel _ hpi
  have m2 : cN M j * pc M j / pc M j = cN M j := Nat.mul_div_cancel _ hpj
  have R2 := rel_giveW R1 (j := i) (t := pc M i) (by rw [f6]; exact hi) (by rw [gI_ne (by decide)]; exact si) (by rw [f2]; exact Nat.le_refl _)
  rw [f1, f2, gv_G _ (Nat.sub_self _)] at R2
  have o2 : ∀ t, gI (tk1 (uI M 259 0 0) i (nI (pc M i))) t j = gI (uI M 259 0 0) t j := fun t => tk1_o _ _ _ _ _ hji
  have n2 : nB (tk1 (uI M 259 0 0) i (nI (pc M i))) = nB M := (tk1_n _ _ _).1.trans f6
  have p2 : pc (tk1 (uI M 259 0 0) i (nI (pc M i))) j = pc M j := by rw [← k2]; show (gI (tk1 (uI M 259 0 0) i (nI (pc M i))) 16 j).toNatClampNeg = (gI (uI M 259 0 0) 16 j).toNatClampNeg; rw [o2]
  have c2 : cN (tk1 (uI M 259 0 0) i (nI (pc M i))) j = cN M j := by rw [← k1]; unfold cN; rw [o2]
  have R3 := rel_giveW R2 (j := j) (t := pc M j) (by rw [n2]; exact hj) (by rw [o2, gI_ne (by decide)]; exact sj) (by rw [p2]; exact Nat.le_refl _)
  rw [c2, p2, gv_G _ (Nat.sub_self _)] at R3
  have hn : nB (tk1 (tk1 (uI M 259 0 0) i (nI (pc M i))) j (nI (pc M j))) = nB M := (tk1_n _ _ _).1.trans n2
  have hh : hN (tk1 (tk1 (uI M 259 0 0) i (nI (pc M i))) j (nI (pc M j))) = hN M := ((tk1_n _ _ _).2.2.2.2.trans (tk1_n _ _ _).2.2.2.2).trans f7
  have t1 := tk1_tot R1 (j := i) (t := pc M i) (n := nB M) (by rw [f6]; exact hi) hi (by rw [f2]; exact Nat.le_refl _) (by rw [f2]; exact hpi)
  rw [f1, f2, f8, m1] at t1
  have t2 := tk1_tot R2 (j := j) (t := pc M j) (n := nB M) (by rw [n2]; exact hj) hj (by rw [p2]; exact Nat.le_refl _) (by rw [p2]; exact hpj)
  rw [c2, p2, m2] at t2
  have q1 := tk1_tp R1 (j := i) (t := pc M i) (by rw [f6]; exact hi) (by rw [f2]; exact Nat.le_refl _) (by rw [f2]; exact hpi)
  rw [f6, f9] at q1
  have q2 := tk1_tp R2 (j := j) (t := pc M j) (by rw [n2]; exact hj) (by rw [p2]; exact Nat.le_refl _) (by rw [p2]; exact hpj)
  rw [n2] at q2
  have C1 := (tk1_e R1 (j := i) (t := pc M i) (by rw [f6]; exact hi) (by rw [f2]; exact Nat.le_refl _) (by rw [f2]; exact hpi)).1
  rw [f1, f2, m1] at C1
  have C2 := (tk1_e R1 (j := j) (t := pc M j) (by rw [f6]; exact hj) (by rw [k2]; exact Nat.le_refl _) (by rw [k2]; exact hpj)).1
  rw [k1, k2, m2] at C2
  have hbq := r_bq R
  have hbc := r_bc R
  obtain ⟨s15, s16, s17, s18, s19, s20, s121, s122, s23, s124, s25, s214, sL, s113, sLj⟩ := spM_n (uI M 259 0 0) (n := nB M) (k := kd M i) (v := pc M i + pc M j) (o := gI M 19 i) (y := y) (s := s) (f := f)
  have so := fun t q (h1 : ¬ q = nB M) (h : t ≠ 214) => spM_o (uI M 259 0 0) (n := nB M) (k := kd M i) (v := pc M i + pc M j) (o := gI M 19 i) (y := y) (s := s) (f := f) t q h1 h
  have sz := fun t q (h : zb t = true) => spM_z (uI M 259 0 0) (n := nB M) (k := kd M i) (v := pc M i + pc M j) (o := gI M 19 i) (y := y) (s := s) (f := f) t q h
  generalize hN5 : spM (uI M 259 0 0) (nB M) (kd M i) (pc M i + pc M j) (gI M 19 i) y s f = N5 at *
  have D1 : tkC N5 i (nI (pc M i)) = nI (cN M i) := (tkC_cg _ (so 17 i hin (by decide)) (so 16 i hin (by decide))).trans C1
  obtain ⟨a1, a2, a3, a4⟩ := tfM_n N5 i (nB M) (nI (pc M i)) hni
  have h6 : ∀ t q, ¬ q = nB M → t ≠ 214 → gI (tfM N5 i (nB M) (nI (pc M i))) t q = gI (tk1 (uI M 259 0 0) i (nI (pc M i))) t q := fun t q h1 h2 => by
    rw [tfM_o _ _ _ _ _ _ h1]
    exact tk1_c _ _ _ (so 16 i hin (by decide)) (so 17 i hin (by decide)) (so 18 i hin (by decide)) (so t q h1 h2)
  have D2 : tkC (tfM N5 i (nB M) (nI (pc M i))) j (nI (pc M j)) = nI (cN M j) := by
    rw [← C2]
    exact tkC_cg _ ((h6 17 j hjn (by decide)).trans (o2 17)) ((h6 16 j hjn (by decide)).trans (o2 16))
  obtain ⟨b1, b2, b3, b4⟩ := tfM_n (tfM N5 i (nB M) (nI (pc M i))) j (nB M) (nI (pc M j)) hnj
  have hop5 : nOp (tk1 (tk1 (uI M 259 0 0) i (nI (pc M i))) j (nI (pc M j))) (kd M i) = nOp M (kd M i) := by unfold nOp; rw [tk1_g _ _ _ _ _ (by decide) (by decide) (by decide), tk1_g _ _ _ _ _ (by decide) (by decide) (by decide), gI_ne (by decide)]
  unfold jnM
  rw [hN5]
  refine rel_newN R3 (kd M i) (pc M i + pc M j) (cN M i + cN M j) (op M i) y s f (bit i ||| bit j) ?_ ?_ ?_ ?_ ?_ ?_ ?_ ?_ ?_ ?_ ?_ ?_ ?_ ?_ ?_ ?_ ?_ ?_ ?_ ?_ ?_ ?_ ?_ ?_ ?_ ?_ ?_ ?_ ?_ ?_ ?_ ?_ ?_ ?_ ?_ ?_ ?_ ?_ ?_ ?_ ?_ ?_ ?_ ?_ ?_ ?_ ?_ ?_ ?_ ?_ ?_
  all_goals try rw [hn]
  · exact h60
  · exact hK.2
  · omega
  · have := totp_le R; omega
  · omega
  · omega
  · rw [hh]; push_cast; omega
  · exact hO.2
  · rw [hop5]; exact hW
  · exact hs
  · exact fun q h1 h2 => by rw [bt_or, bt_bit (by omega) h2, bt_bit (by omega) h2, decide_eq_false (by omega), decide_eq_false (by omega)]; rfl
  · intro t q h
    have h2 := h
    have h : t ≠ 15 ∧ t ≠ 16 ∧ t ≠ 17 ∧ t ≠ 18 ∧ t ≠ 19 ∧ t ≠ 20 ∧ t ≠ 121 ∧ t ≠ 122 ∧ t ≠ 23 ∧ t ≠ 124 ∧ t ≠ 25 ∧ t ≠ 214 ∧ t ≠ 113 := by unfold zb at h; simp only [Bool.and_eq_true, bne_iff_ne] at h; omega
    rw [tfM_z _ _ _ _ _ _ h2, tfM_z _ _ _ _ _ _ h2, sz _ _ h2, tk1_g _ _ _ _ _ (by omega) (by omega) (by omega), tk1_g _ _ _ _ _ (by omega) (by omega) (by omega)]
  · intro t q h h1 h2
    rw [tfM_o _ _ _ _ _ _ h]
    exact tk1_c _ _ _ (h6 16 j hjn (by decide)) (h6 17 j hjn (by decide)) (h6 18 j hjn (by decide)) (h6 t q h h1)
  · rw [tfM_113 _ _ _ _ _ _ (by decide), tfM_113 _ _ _ _ _ _ (by decide), s214]
  · intro q
    rw [tfM_113 _ _ _ _ _ _ (by decide), tfM_113 _ _ _ _ _ _ (by decide), s113, tk1_g _ _ _ _ _ (by decide) (by decide) (by decide), tk1_g _ _ _ _ _ (by decide) (by decide) (by decide)]
    split
    · rename_i c; subst c; rw [gI_ne (by decide)]; exact hU
    · rfl
  · rw [b1 15 (by decide), a1 15 (by decide), s15]
  · rw [b1 16 (by decide), a1 16 (by decide), s16]
  · rw [b2, a2, s17, D1, D2, Int32.zero_add, nI_add]
  · rw [b1 18 (by decide), a1 18 (by decide), s18]
  · rw [b1 19 (by decide), a1 19 (by decide), s19]; exact hO.1
  · rw [b1 20 (by decide), a1 20 (by decide), s20]
  · rw [b1 121 (by decide), a1 121 (by decide), s121]
  · rw [b1 122 (by decide), a1 122 (by decide), s122]
  · rw [b1 23 (by decide), a1 23 (by decide), s23]
  · rw [b1 124 (by decide), a1 124 (by decide), s124]
  · rw [b1 25 (by decide), a1 25 (by decide), s25]
  · intro q h
    rw [b4 _ h, a4 _ h, sLj _ h]
    rfl
  · rw [b3, a3, sL]
    exact bt_ext fun q _ => by simp only [bt_or, bt_0, Bool.false_or]
  · intro c i q h1 h2; have h : c ≠ 0 ∧ c ≠ 2 ∧ c ≠ 8 := by unfold zc at h2; simp only [Bool.and_eq_true, bne_iff_ne] at h2; omega
    unfold jnA gvG spA nbA; simp (disch := omega) [gI_uI, gI_uL, gL_uI, gL_uL, sI_wI, sI_wP, sI_wN, sI_wL, sP_wI, sP_wP, sP_wN, sP_wL, sL_wI, sL_wP, sL_wN, sL_wL, sX_wI, sX_wP, sX_wN, sX_wL, tk_ne9, tk_inj]
  · intro i q h; unfold jnA gvG spA nbA; simp [gI_uI, gI_uL, gL_uI, gL_uL, sI_wI, sI_wP, sI_wN, sI_wL, sP_wI, sP_wP, sP_wN, sP_wL, sL_wI, sL_wP, sL_wN, sL_wL, sX_wI, sX_wP, sX_wN, sX_wL, tk_ne9, tk_inj, h]
  · intro i; unfold jnA gvG spA nbA; simp [gI_uI, gI_uL, gL_uI, gL_uL, sI_wI, sI_wP, sI_wN, sI_wL, sP_wI, sP_wP, sP_wN, sP_wL, sL_wI, sL_wP, sL_wN, sL_wL, sX_wI, sX_wP, sX_wN, sX_wL, tk_ne9, tk_inj]
  · intro q h; unfold jnA gvG spA nbA; simp [gI_uI, gI_uL, gL_uI, gL_uL, sI_wI, sI_wP, sI_wN, sI_wL, sP_wI, sP_wP, sP_wN, sP_wL, sL_wI, sL_wP, sL_wN, sL_wL, sX_wI, sX_wP, sX_wN, sX_wL, tk_ne9, tk_inj, h]
  · unfold jnA gvG spA nbA; simp [gI_uI, gI_uL, gL_uI, gL_uL, sI_wI, sI_wP, sI_wN, sI_wL, sP_wI, sP_wP, sP_wN, sP_wL, sL_wI, sL_wP, sL_wN, sL_wL, sX_wI, sX_wP, sX_wN, sX_wL, tk_ne9, tk_inj]
  · intro i q h; unfold jnA gvG spA nbA; simp [gI_uI, gI_uL, gL_uI, gL_uL, sI_wI, sI_wP, sI_wN, sI_wL, sP_wI, sP_wP, sP_wN, sP_wL, sL_wI, sL_wP, sL_wN, sL_wL, sX_wI, sX_wP, sX_wN, sX_wL, tk_ne9, tk_inj, h]
  · unfold jnA gvG spA nbA; simp [gI_uI, gI_uL, gL_uI, gL_uL, sI_wI, sI_wP, sI_wN, sI_wL, sP_wI, sP_wP, sP_wN, sP_wL, sL_wI, sL_wP, sL_wN, sL_wL, sX_wI, sX_wP, sX_wN, sX_wL, tk_ne9, tk_inj, hin, hni, hjn, hnj, hij, hji]
  · unfold jnA gvG spA nbA; simp [gI_uI, gI_uL, gL_uI, gL_uL, sI_wI, sI_wP, sI_wN, sI_wL, sP_wI, sP_wP, sP_wN, sP_wL, sL_wI, sL_wP, sL_wN, sL_wL, sX_wI, sX_wP, sX_wN, sX_wL, tk_ne9, tk_inj, hin, hni, hjn, hnj, hij, hji]
  · unfold jnA; rw [sI_wI, if_pos ⟨rfl, rfl⟩]; exact nI_add _ _
  · unfold jnA gvG spA nbA; simp [gI_uI, gI_uL, gL_uI, gL_uL, sI_wI, sI_wP, sI_wN, sI_wL, sP_wI, sP_wP, sP_wN, sP_wL, sL_wI, sL_wP, sL_wN, sL_wL, sX_wI, sX_wP, sX_wN, sX_wL, tk_ne9, tk_inj, hin, hni, hjn, hnj, hij, hji]
  · unfold jnA gvG spA nbA; simp [gI_uI, gI_uL, gL_uI, gL_uL, sI_wI, sI_wP, sI_wN, sI_wL, sP_wI, sP_wP, sP_wN, sP_wL, sL_wI, sL_wP, sL_wN, sL_wL, sX_wI, sX_wP, sX_wN, sX_wL, tk_ne9, tk_inj, hin, hni, hjn, hnj, hij, hji]; exact hO.1
  · unfold jnA gvG spA nbA; simp [gI_uI, gI_uL, gL_uI, gL_uL, sI_wI, sI_wP, sI_wN, sI_wL, sP_wI, sP_wP, sP_wN, sP_wL, sL_wI, sL_wP, sL_wN, sL_wL, sX_wI, sX_wP, sX_wN, sX_wL, tk_ne9, tk_inj, hin, hni, hjn, hnj, hij, hji]
  · unfold jnA gvG spA nbA; simp [gI_uI, gI_uL, gL_uI, gL_uL, sI_wI, sI_wP, sI_wN, sI_wL, sP_wI, sP_wP, sP_wN, sP_wL, sL_wI, sL_wP, sL_wN, sL_wL, sX_wI, sX_wP, sX_wN, sX_wL, tk_ne9, tk_inj, hin, hni, hjn, hnj, hij, hji]
  · unfold jnA gvG spA nbA; simp [gI_uI, gI_uL, gL_uI, gL_uL, sI_wI, sI_wP, sI_wN, sI_wL, sP_wI, sP_wP, sP_wN, sP_wL, sL_wI, sL_wP, sL_wN, sL_wL, sX_wI, sX_wP, sX_wN, sX_wL, tk_ne9, tk_inj, hin, hni, hjn, hnj, hij, hji]
  · unfold jnA gvG spA nbA; simp [gI_uI, gI_uL, gL_uI, gL_uL, sI_wI, sI_wP, sI_wN, sI_wL, sP_wI, sP_wP, sP_wN, sP_wL, sL_wI, sL_wP, sL_wN, sL_wL, sX_wI, sX_wP, sX_wN, sX_wL, tk_ne9, tk_inj, hin, hni, hjn, hnj, hij, hji]
  · unfold jnA gvG spA nbA; simp [gI_uI, gI_uL, gL_uI, gL_uL, sI_wI, sI_wP, sI_wN, sI_wL, sP_wI, sP_wP, sP_wN, sP_wL, sL_wI, sL_wP, sL_wN, sL_wL, sX_wI, sX_wP, sX_wN, sX_wL, tk_ne9, tk_inj, hin, hni, hjn, hnj, hij, hji]
  · unfold jnA gvG spA nbA; simp [gI_uI, gI_uL, gL_uI, gL_uL, sI_wI, sI_wP, sI_wN, sI_wL, sP_wI, sP_wP, sP_wN, sP_wL, sL_wI, sL_wP, sL_wN, sL_wL, sX_wI, sX_wP, sX_wN, sX_wL, tk_ne9, tk_inj, hin, hni, hjn, hnj, hij, hji]
  · intro c i q h1 h2 h3; unfold jnA gvG spA nbA; simp (disch := omega) [gI_uI, gI_uL, gL_uI, gL_uL, sI_wI, sI_wP, sI_wN, sI_wL, sP_wI, sP_wP, sP_wN, sP_wL, sL_wI, sL_wP, sL_wN, sL_wL, sX_wI, sX_wP, sX_wN, sX_wL, tk_ne9, tk_inj]
  · intro i q h; unfold jnA gvG spA nbA; simp [gI_uI, gI_uL, gL_uI, gL_uL, sI_wI, sI_wP, sI_wN, sI_wL, sP_wI, sP_wP, sP_wN, sP_wL, sL_wI, sL_wP, sL_wN, sL_wL, sX_wI, sX_wP, sX_wN, sX_wL, tk_ne9, tk_inj, h]
  · unfold jnA gvG spA nbA; simp [gI_uI, gI_uL, gL_uI, gL_uL, sI_wI, sI_wP, sI_wN, sI_wL, sP_wI, sP_wP, sP_wN, sP_wL, sL_wI, sL_wP, sL_wN, sL_wL, sX_wI, sX_wP, sX_wN, sX_wL, tk_ne9, tk_inj]
  · intro i; unfold jnA gvG spA nbA; simp [gI_uI, gI_uL, gL_uI, gL_uL, sI_wI, sI_wP, sI_wN, sI_wL, sP_wI, sP_wP, sP_wN, sP_wL, sL_wI, sL_wP, sL_wN, sL_wL, sX_wI, sX_wP, sX_wN, sX_wL, tk_ne9, tk_inj]
  · intro i h; unfold jnA gvG spA nbA; simp [gI_uI, gI_uL, gL_uI, gL_uL, sI_wI, sI_wP, sI_wN, sI_wL, sP_wI, sP_wP, sP_wN, sP_wL, sL_wI, sL_wP, sL_wN, sL_wL, sX_wI, sX_wP, sX_wN, sX_wL, tk_ne9, tk_inj, h]
  · intro t h; unfold jnA gvG spA nbA; simp [gI_uI, gI_uL, gL_uI, gL_uL, sI_wI, sI_wP, sI_wN, sI_wL, sP_wI, sP_wP, sP_wN, sP_wL, sL_wI, sL_wP, sL_wN, sL_wL, sX_wI, sX_wP, sX_wN, sX_wL, tk_ne9, tk_inj, h]
end RR
