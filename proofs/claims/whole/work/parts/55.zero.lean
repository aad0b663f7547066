/-! Rows of the model that no call has reached stay 0. -/
def Zr (M : MS) : Prop := (∀ m, nM M ≤ m → gI M 35 m = 0 ∧ gI M 37 m = 0 ∧ gI M 39 m = 0 ∧ gI M 40 m = 0) ∧ (∀ q, 4 * nP M ≤ q → gI M 45 q = 0 ∧ gI M 46 q = 0) ∧ (∀ r, nO M ≤ r → gI M 51 r = 0)
def Vs (M N : MS) : Prop := (nM N = nM M ∧ nP N = nP M ∧ nO N = nO M) ∧ (∀ m, nM M ≤ m → gI N 35 m = gI M 35 m ∧ gI N 37 m = gI M 37 m ∧ gI N 39 m = gI M 39 m ∧ gI N 40 m = gI M 40 m) ∧ (∀ q, 4 * nP M ≤ q → gI N 45 q = gI M 45 q ∧ gI N 46 q = gI M 46 q) ∧ (∀ r, nO M ≤ r → gI N 51 r = gI M 51 r)
theorem vs_refl (M : MS) : Vs M M := ⟨⟨rfl, rfl, rfl⟩, fun _ _ => ⟨rfl, rfl, rfl, rfl⟩, fun _ _ => ⟨rfl, rfl⟩, fun _ _ => rfl⟩
theorem vs_t {M N O : MS} (h : Vs M N) (k : Vs N O) : Vs M O := by
  obtain ⟨⟨h1, h2, h3⟩, h4, h5, h6⟩ := h
  obtain ⟨⟨k1, k2, k3⟩, k4, k5, k6⟩ := k
  refine ⟨⟨k1.trans h1, k2.trans h2, k3.trans h3⟩, fun m hm => ?_, fun q hq => ?_, fun r hr => ?_⟩
  · have z := k4 m (by omega)
    have y := h4 m hm
    exact ⟨z.1.trans y.1, z.2.1.trans y.2.1, z.2.2.1.trans y.2.2.1, z.2.2.2.trans y.2.2.2⟩
  · have z := k5 q (by omega)
    have y := h5 q hq
    exact ⟨z.1.trans y.1, z.2.trans y.2⟩
  · exact (k6 r (by omega)).trans (h6 r hr)
theorem zr_vs {M N : MS} (h : Vs M N) (z : Zr M) : Zr N := by
  obtain ⟨⟨h1, h2, h3⟩, h4, h5, h6⟩ := h
  obtain ⟨z1, z2, z3⟩ := z
  refine ⟨fun m hm => ?_, fun q hq => ?_, fun r hr => ?_⟩
  · have y := h4 m (by omega)
    have x := z1 m (by omega)
    exact ⟨y.1.trans x.1, y.2.1.trans x.2.1, y.2.2.1.trans x.2.2.1, y.2.2.2.trans x.2.2.2⟩
  · have y := h5 q (by omega)
    have x := z2 q (by omega)
    exact ⟨y.1.trans x.1, y.2.trans x.2⟩
  · exact (h6 r (by omega)).trans (z3 r (by omega))
def zs (s : Nat) : Bool := s != 35 && s != 37 && s != 39 && s != 40 && s != 45 && s != 46 && s != 51 && s != 227 && s != 241 && s != 247
theorem vs_n (N : MS) (s j : Nat) (v : Int32) (h : s ≠ 227 ∧ s ≠ 241 ∧ s ≠ 247) : nM (uI N s j v) = nM N ∧ nP (uI N s j v) = nP N ∧ nO (uI N s j v) = nO N := ⟨nM_u _ _ _ _ h.1, nP_u _ _ _ _ h.2.1, nO_u _ _ _ _ h.2.2⟩
theorem vu {M N : MS} {s j : Nat} {v : Int32} (h : Vs M N) (hs : zs s = true) : Vs M (uI N s j v) := by
  have hs : s ≠ 35 ∧ s ≠ 37 ∧ s ≠ 39 ∧ s ≠ 40 ∧ s ≠ 45 ∧ s ≠ 46 ∧ s ≠ 51 ∧ s ≠ 227 ∧ s ≠ 241 ∧ s ≠ 247 := by
    unfold zs at hs
    simp only [Bool.and_eq_true, bne_iff_ne] at hs
    omega
  obtain ⟨h35, h37, h39, h40, h45, h46, h51, h227, h241, h247⟩ := hs
  refine vs_t h ⟨vs_n _ _ _ _ ⟨h227, h241, h247⟩, fun m _ => ⟨gI_ne h35, gI_ne h37, gI_ne h39, gI_ne h40⟩, fun q _ => ⟨gI_ne h45, gI_ne h46⟩, fun r _ => gI_ne h51⟩
theorem vl {M N : MS} {j : Nat} {v : Int64} (h : Vs M N) : Vs M (uL N j v) := vs_t h ⟨⟨rfl, rfl, rfl⟩, fun _ _ => ⟨rfl, rfl, rfl, rfl⟩, fun _ _ => ⟨rfl, rfl⟩, fun _ _ => rfl⟩
theorem gI_nj {M : MS} {s j t i : Nat} {v : Int32} (h : i ≠ j) : gI (uI M s j v) t i = gI M t i := by rw [gI_uI, if_neg (fun e => h e.2)]
theorem vm {M N : MS} {s j : Nat} {v : Int32} (h : Vs M N) (hj : j < nM M) (hs : s = 35 ∨ s = 37 ∨ s = 39 ∨ s = 40) : Vs M (uI N s j v) := by
  have e := h.1.1
  refine vs_t h ⟨vs_n _ _ _ _ (by omega), fun m hm => ?_, fun q _ => ⟨gI_ne (by omega), gI_ne (by omega)⟩, fun r _ => gI_ne (by omega)⟩
  have c : m ≠ j := by omega
  exact ⟨gI_nj c, gI_nj c, gI_nj c, gI_nj c⟩
theorem vp {M N : MS} {s j : Nat} {v : Int32} (h : Vs M N) (hj : j < 4 * nP M) (hs : s = 45 ∨ s = 46) : Vs M (uI N s j v) := by
  have e := h.1.2.1
  refine vs_t h ⟨vs_n _ _ _ _ (by omega), fun m _ => ⟨gI_ne (by omega), gI_ne (by omega), gI_ne (by omega), gI_ne (by omega)⟩, fun q hq => ?_, fun r _ => gI_ne (by omega)⟩
  have c : q ≠ j := by omega
  exact ⟨gI_nj c, gI_nj c⟩
theorem vo {M N : MS} {j : Nat} {v : Int32} (h : Vs M N) (hj : j < nO M) : Vs M (uI N 51 j v) := by
  have e := h.1.2.2
  refine vs_t h ⟨vs_n _ _ _ _ (by omega), fun m _ => ⟨gI_ne (by omega), gI_ne (by omega), gI_ne (by omega), gI_ne (by omega)⟩, fun q _ => ⟨gI_ne (by omega), gI_ne (by omega)⟩, fun r hr => ?_⟩
  have c : r ≠ j := by omega
  exact gI_nj c
theorem v_tk1 {M N : MS} {j : Nat} {t : Int32} (h : Vs M N) : Vs M (tk1 N j t) := vu (vu (vu h rfl) rfl) rfl
theorem v_tkI {M : MS} {k : Nat} : ∀ d i (S : TS), Vs M S.1 → Vs M (tkI k i d S).1 := by
  intro d
  induction d with
  | zero => intro i S h; exact h
  | succ d ih =>
    intro i S h
    rw [tkI_1]
    refine ih _ _ ?_
    unfold tkS
    split
    · exact v_tk1 h
    · exact h
theorem v_mv {M N : MS} {k n j : Nat} (h : Vs M N) : Vs M (mMv N k n j) := by
  unfold mMv mTk
  exact vu (vl (v_tkI _ _ _ h)) rfl
theorem v_tp {M N : MS} {j : Nat} (h : Vs M N) : ∀ n, Vs M (mTP N j n) := by
  intro n
  induction n with
  | zero => exact h
  | succ n ih => exact v_mv ih
theorem v_beg {M : MS} {m j : Nat} (hm : m < nM M) : Vs M (mBeg M m j) := by
  unfold mBeg mLd
  refine vu (vu (vu (vu (vm (vu ?_ rfl) hm (by omega)) rfl) rfl) rfl) rfl
  split
  · exact v_tp (vs_refl M) _
  · exact vs_refl M
theorem v_tk1m {M : MS} {m : Nat} (hm : m < nM M) : Vs M (mTk1 M m) := by
  unfold mTk1
  split
  · split
    · exact vs_refl M
    · exact v_beg hm
  · exact vs_refl M
theorem v_rep {M : MS} {m : Nat} (hm : m < nM M) : Vs M (mRep M m) := by
  unfold mRep
  split
  · split
    · exact vm (vm (vm (vs_refl M) hm (by omega)) hm (by omega)) hm (by omega)
    · exact vm (vs_refl M) hm (by omega)
  · split
    · split
      · exact vm (vm (vs_refl M) hm (by omega)) hm (by omega)
      · split
        · exact vs_refl M
        · refine vm (vm ?_ hm (by omega)) hm (by omega)
          unfold mAr mTk
          exact vu (v_tkI _ _ _ (vs_refl M)) rfl
    · exact vs_refl M
theorem v_lv {M N : MS} {m : Nat} (h : Vs M N) (hm : m < nM M) : Vs M (mLv N m) := by
  unfold mLv
  exact vm (vm (vu (vu h rfl) rfl) hm (by omega)) hm (by omega)
theorem v_fi {M N : MS} {m : Nat} (h : Vs M N) (hm : m < nM M) : Vs M (mFi N m) := by
  have hL := v_lv h hm
  unfold mFi
  split
  · exact vu hL rfl
  · split
    · split
      · exact h
      · exact vu (vu hL rfl) rfl
    · split
      · split
        · exact vu (vu hL rfl) rfl
        · exact h
      · split
        · exact vu (vu (vu (vu hL rfl) rfl) rfl) rfl
        · exact h
theorem v_dr {M N : MS} {m : Nat} (h : Vs M N) : Vs M (mDr N m) := by
  unfold mDr
  split
  · split
    · exact vu (vu h rfl) rfl
    · exact vu h rfl
  · exact h
theorem v_le {M N : MS} {q : Nat} (h : Vs M N) (hq : q < 4 * nP M) : Vs M (mLe N q) := by
  unfold mLe
  split
  · exact vp (vp h hq (by omega)) hq (by omega)
  · exact vp h hq (by omega)
theorem v_wo {M : MS} {m : Nat} (hm : m < nM M) (hq : 4 * wk M m + mSk M (ld M m) < 4 * nP M) : Vs M (mWo M m) := by
  unfold mWo
  exact v_le (vu (vu (vm (vm (vs_refl M) hm (by omega)) hm (by omega)) rfl) rfl) hq
theorem v_work {e : Nat} {a : Sg} {M : MS} (R : Rel e a M) {m : Nat} (hm : m < nM M) : Vs M (mWork M m) := by
  have hB := r_nBx R
  have hP := r_nPx R
  unfold mWork
  by_cases c : gI M 34 m = -1
  · rw [if_pos c]; exact vs_refl M
  · rw [if_neg c]
    have hq : 4 * wk M m + mSk M (ld M m) < 4 * nP M := by
      rcases r_mmb R m hm with w | ⟨j, p, w1, w2, w3, w4, w5⟩
      · exact absurd w.1 c
      · have e1 : wk M m = p := by unfold wk; rw [w4, nI_clamp (by omega)]
        have e2 : ld M m = j := by unfold ld; rw [w1, nI_clamp (by omega)]
        obtain ⟨x, s, y, q1, q2, q3, q4, q5⟩ := r_om R (kd M j) (op M j) (r_bK R j w2).2 (r_bW R j w2 (Or.inr w3))
        have e3 : mSk M j = s := by unfold mSk; rw [q3, nI_clamp (by omega)]
        rw [e1, e2, e3]
        omega
    have hW := v_wo hm hq
    split
    · split
      · exact v_fi (v_dr hW) hm
      · exact hW
    · split
      · exact v_fi (v_dr (vs_refl M)) hm
      · exact vs_refl M
theorem v_arr {M N : MS} {j : Nat} (h : Vs M N) : Vs M (mArr N j) := by
  unfold mArr
  split
  · exact vu (vu h rfl) rfl
  · exact h
theorem v_h0 {M : MS} : ∀ d i N, Vs M N → Vs M (iter mArr i d N) := by
  intro d
  induction d with
  | zero => intro i N h; exact h
  | succ d ih => intro i N h; rw [iter_1]; exact ih _ _ (v_arr h)
theorem v_h1 {h : Int32} : ∀ d i e a M, Rel e a M → e + d ≤ 6 → i + d = nM M → Vs M (iter mWork i d M) := by
  intro d
  induction d with
  | zero => intro i e a M R _ _; exact vs_refl M
  | succ d ih =>
    intro i e a M R he hi
    rw [iter_1]
    have hv := v_work R (m := i) (by omega)
    obtain ⟨a1, R1, _⟩ := si_workAt R (show e + 1 ≤ 6 by omega) (m := i) (by omega)
    have n1 := hv.1.1
    exact vs_t hv (ih (i + 1) (e + 1) a1 _ R1 (by omega) (by omega))
theorem v_h2 : ∀ d i M, i + d = nM M → Vs M (iter mRep i d M) := by
  intro d
  induction d with
  | zero => intro i M _; exact vs_refl M
  | succ d ih =>
    intro i M hi
    rw [iter_1]
    have hv := v_rep (M := M) (m := i) (by omega)
    have n1 := hv.1.1
    exact vs_t hv (ih (i + 1) _ (by omega))
theorem v_h3 : ∀ d i M, i + d = nM M → Vs M (iter mTk1 i d M) := by
  intro d
  induction d with
  | zero => intro i M _; exact vs_refl M
  | succ d ih =>
    intro i M hi
    rw [iter_1]
    have hv := v_tk1m (M := M) (m := i) (by omega)
    have n1 := hv.1.1
    exact vs_t hv (ih (i + 1) _ (by omega))
theorem v_hour {a : Sg} {M : MS} (R : Rel 0 a M) : Vs M (mHour M) := by
  have hM := r_nMx R
  obtain ⟨a1, R1, _⟩ := si_come R
  have v0 : Vs M (iter mArr 0 (nB M) M) := v_h0 _ _ _ (vs_refl M)
  have n0 := v0.1.1
  have v1 := v_h1 (h := 0) (nM M) 0 0 a1 _ R1 (by omega) (by omega)
  have n1 := v1.1.1
  have v2 := v_h2 (nM M) 0 (iter mWork 0 (nM M) (iter mArr 0 (nB M) M)) (by omega)
  have n2 := v2.1.1
  have v3 := v_h3 (nM M) 0 (iter mRep 0 (nM M) (iter mWork 0 (nM M) (iter mArr 0 (nB M) M))) (by omega)
  exact vs_t v0 (vs_t v1 (vs_t v2 v3))
theorem v_it : ∀ d a M, Rel 0 a M → hN M + d ≤ 2000 → Vs M (mIt d M) := by
  intro d
  induction d with
  | zero => intro a M _ _; exact vs_refl M
  | succ d ih =>
    intro a M R hh
    obtain ⟨a1, R1, _⟩ := si_step R (by omega)
    have h1 : Vs M (mStep M) := by
      unfold mStep
      refine vu ?_ rfl
      split
      · exact v_hour R
      · exact vs_refl M
    exact vs_t h1 (ih a1 _ R1 (by rw [hN_step R (by omega)]; omega))
