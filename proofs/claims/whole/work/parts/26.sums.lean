/-! Sums under writes; numbers out of the relation. -/
theorem sumN_upd {f g : Nat → Int32} {n b : Nat} (hb : b < n) (h : ∀ j, j ≠ b → g j = f j) : sumN g n = sumN f n + (g b - f b) := by
  induction n with
  | zero => omega
  | succ n ih =>
    rw [sumN_1, sumN_1]
    rcases Nat.lt_or_ge b n with c | c
    · rw [ih c, h n (by omega)]
      grind
    · have e : b = n := by omega
      subst e
      rw [sumN_congr fun j hj => h j (by omega)]
      grind
theorem sumT_1 (f : Nat → Nat) (n : Nat) : sumT f (n + 1) = sumT f n + f n := rfl
theorem sumT_upd {f g : Nat → Nat} {n b : Nat} (hb : b < n) (h : ∀ j, j ≠ b → g j = f j) : sumT g n + f b = sumT f n + g b := by
  induction n with
  | zero => omega
  | succ n ih =>
    rw [sumT_1, sumT_1]
    rcases Nat.lt_or_ge b n with c | c
    · have := ih c
      rw [h n (by omega)]
      omega
    · have e : b = n := by omega
      subst e
      rw [sumT_congr fun j hj => h j (by omega)]
      omega
theorem sumT_le {f : Nat → Nat} {n b : Nat} (hb : b < n) : f b ≤ sumT f n := by
  induction n with
  | zero => omega
  | succ n ih =>
    rw [sumT_1]
    rcases Nat.lt_or_ge b n with c | c
    · have := ih c
      omega
    · have e : b = n := by omega
      subst e
      omega
theorem sumT_mono {f g : Nat → Nat} {n : Nat} (h : ∀ j, j < n → f j ≤ g j) : sumT f n ≤ sumT g n := by
  induction n with
  | zero => exact Nat.le_refl _
  | succ n ih =>
    rw [sumT_1, sumT_1]
    have := ih fun j hj => h j (by omega)
    have := h n (by omega)
    omega
theorem sumN_nI {f : Nat → Int32} {g : Nat → Nat} {n : Nat} (h : ∀ j, j < n → f j = nI (g j)) : sumN f n = nI (sumT g n) := by
  induction n with
  | zero => exact nI_0.symm
  | succ n ih => rw [sumN_1, sumT_1, ih fun j hj => h j (by omega), h n (by omega), nI_add]
theorem sumT_pos {f : Nat → Nat} {n : Nat} (h : 0 < sumT f n) : ∃ j, j < n ∧ 0 < f j := by
  induction n with
  | zero => exact absurd h (Nat.lt_irrefl 0)
  | succ n ih =>
    rw [sumT_1] at h
    rcases Nat.eq_zero_or_pos (f n) with c | c
    · obtain ⟨j, h1, h2⟩ := ih (by omega)
      exact ⟨j, by omega, h2⟩
    · exact ⟨n, by omega, c⟩
theorem sumN_zero (n : Nat) : sumN (fun _ => 0) n = 0 := by
  induction n with
  | zero => rfl
  | succ n ih => rw [sumN_1, ih]; rfl
theorem sumT_zero (n : Nat) : sumT (fun _ => 0) n = 0 := by
  induction n with
  | zero => rfl
  | succ n ih => rw [sumT_1, ih]
theorem mInSt_in {M : MS} {j n : Nat} (k : Int32) (hj : j < n) (h : gI M 18 j ≠ 3) : mInSt (uI M 18 j 3) k n = mInSt M k n + (if gI M 15 j = k then gI M 16 j else 0) := by
  have e := sumN_upd (f := fun q => if gI M 18 q = 3 ∧ gI M 15 q = k then gI M 16 q else 0) (g := fun q => if gI (uI M 18 j 3) 18 q = 3 ∧ gI (uI M 18 j 3) 15 q = k then gI (uI M 18 j 3) 16 q else 0) hj (fun q hq => by simp [gI_uI, pc, hq])
  unfold mInSt
  simp [gI_uI, h, pc] at e
  simp [gI_uI, pc]
  grind
theorem mInSt_ou {M : MS} {j n : Nat} (k v : Int32) (hj : j < n) (h : gI M 18 j = 3) (hv : v ≠ 3) : mInSt (uI M 18 j v) k n = mInSt M k n - (if gI M 15 j = k then gI M 16 j else 0) := by
  have e := sumN_upd (f := fun q => if gI M 18 q = 3 ∧ gI M 15 q = k then gI M 16 q else 0) (g := fun q => if gI (uI M 18 j v) 18 q = 3 ∧ gI (uI M 18 j v) 15 q = k then gI (uI M 18 j v) 16 q else 0) hj (fun q hq => by simp [gI_uI, pc, hq])
  unfold mInSt
  simp [gI_uI, h, hv, pc] at e
  simp [gI_uI, pc]
  grind
theorem mInSt_no {M : MS} {j n : Nat} (k : Int32) (v : Int32) (h : gI M 18 j ≠ 3) (hv : v ≠ 3) : mInSt (uI M 18 j v) k n = mInSt M k n := by
  unfold mInSt
  refine sumN_congr fun q _ => ?_
  by_cases c : q = j
  · subst c; simp [gI_uI, h, hv]
  · simp [gI_uI, c, pc]
theorem mInSt_p0 {M : MS} {j n : Nat} (k : Int32) (v : Int32) (h : gI M 18 j ≠ 3) : mInSt (uI M 16 j v) k n = mInSt M k n := by
  unfold mInSt
  refine sumN_congr fun q _ => ?_
  by_cases c : q = j
  · subst c; simp [gI_uI, h]
  · simp [gI_uI, c, pc]
theorem mInSt_pc {M : MS} {j n : Nat} (k v : Int32) (hj : j < n) (h : gI M 18 j = 3) : mInSt (uI M 16 j v) k n = mInSt M k n + (if gI M 15 j = k then v - gI M 16 j else 0) := by
  have e := sumN_upd (f := fun q => if gI M 18 q = 3 ∧ gI M 15 q = k then gI M 16 q else 0) (g := fun q => if gI (uI M 16 j v) 18 q = 3 ∧ gI (uI M 16 j v) 15 q = k then gI (uI M 16 j v) 16 q else 0) hj (fun q hq => by simp [gI_uI, pc, hq])
  unfold mInSt
  simp [gI_uI, h, pc] at e
  simp [gI_uI, pc]
  grind
theorem mInSt_ge {M : MS} {s j n : Nat} (k : Int32) (v : Int32) (h : n ≤ j) : mInSt (uI M s j v) k n = mInSt M k n := by
  unfold mInSt
  refine sumN_congr fun q hq => ?_
  have c : ¬ q = j := by omega
  simp [gI_uI, c, pc]
theorem nInSt_in {M : MS} {j n : Nat} (k : Nat) (hj : j < n) (h : gI M 18 j ≠ 3) : nInSt (uI M 18 j 3) k n = nInSt M k n + (if gI M 15 j = nI k then pc M j else 0) := by
  have e := sumT_upd (f := fun q => if gI M 18 q = 3 ∧ gI M 15 q = nI k then pc M q else 0) (g := fun q => if gI (uI M 18 j 3) 18 q = 3 ∧ gI (uI M 18 j 3) 15 q = nI k then pc (uI M 18 j 3) q else 0) hj (fun q hq => by simp [gI_uI, pc, hq])
  unfold nInSt
  simp [gI_uI, h, pc] at e
  simp [gI_uI, pc]
  grind
theorem nInSt_ou {M : MS} {j n : Nat} (k : Nat) (v : Int32) (hj : j < n) (h : gI M 18 j = 3) (hv : v ≠ 3) : nInSt (uI M 18 j v) k n + (if gI M 15 j = nI k then pc M j else 0) = nInSt M k n := by
  have e := sumT_upd (f := fun q => if gI M 18 q = 3 ∧ gI M 15 q = nI k then pc M q else 0) (g := fun q => if gI (uI M 18 j v) 18 q = 3 ∧ gI (uI M 18 j v) 15 q = nI k then pc (uI M 18 j v) q else 0) hj (fun q hq => by simp [gI_uI, pc, hq])
  unfold nInSt
  simp [gI_uI, h, hv, pc] at e
  simp [gI_uI, pc]
  grind
theorem nInSt_no {M : MS} {j n : Nat} (k : Nat) (v : Int32) (h : gI M 18 j ≠ 3) (hv : v ≠ 3) : nInSt (uI M 18 j v) k n = nInSt M k n := by
  unfold nInSt
  refine sumT_congr fun q _ => ?_
  by_cases c : q = j
  · subst c; simp [gI_uI, h, hv]
  · simp [gI_uI, c, pc]
theorem nInSt_p0 {M : MS} {j n : Nat} (k : Nat) (v : Int32) (h : gI M 18 j ≠ 3) : nInSt (uI M 16 j v) k n = nInSt M k n := by
  unfold nInSt
  refine sumT_congr fun q _ => ?_
  by_cases c : q = j
  · subst c; simp [gI_uI, h]
  · simp [gI_uI, c, pc]
theorem nInSt_pc {M : MS} {j n : Nat} (k p : Nat) (v : Int32) (hp : v = nI p) (hq : p < 2 ^ 31) (hj : j < n) (h : gI M 18 j = 3) : nInSt (uI M 16 j v) k n + (if gI M 15 j = nI k then pc M j else 0) = nInSt M k n + (if gI M 15 j = nI k then p else 0) := by
  subst hp
  have e := sumT_upd (f := fun q => if gI M 18 q = 3 ∧ gI M 15 q = nI k then pc M q else 0) (g := fun q => if gI (uI M 16 j (nI p)) 18 q = 3 ∧ gI (uI M 16 j (nI p)) 15 q = nI k then pc (uI M 16 j (nI p)) q else 0) hj (fun q hq => by simp [gI_uI, pc, hq])
  unfold nInSt
  simp [gI_uI, h, pc, nI_clamp hq] at e
  simp [gI_uI, pc]
  grind
theorem nInSt_ge {M : MS} {s j n : Nat} (k : Nat) (v : Int32) (h : n ≤ j) : nInSt (uI M s j v) k n = nInSt M k n := by
  unfold nInSt
  refine sumT_congr fun q hq => ?_
  have c : ¬ q = j := by omega
  simp [gI_uI, c, pc]
theorem mProm_ge {M : MS} {s j n : Nat} (k v : Int32) (h : n ≤ j) : mProm (uI M s j v) k n = mProm M k n := by
  unfold mProm
  refine sumN_congr fun q hq => ?_
  have c : ¬ q = j := by omega
  simp [gI_uI, c]
theorem nProm_ge {M : MS} {s j n : Nat} (k : Nat) (v : Int32) (h : n ≤ j) : nProm (uI M s j v) k n = nProm M k n := by
  unfold nProm
  refine sumT_congr fun q hq => ?_
  have c : ¬ q = j := by omega
  simp [gI_uI, c, pr]
theorem totp_ge {M : MS} {s j n : Nat} (v : Int32) (h : n ≤ j) : totp (uI M s j v) n = totp M n := by
  unfold totp
  refine sumT_congr fun q hq => ?_
  have c : ¬ q = j := by omega
  simp [gI_uI, c, pc]
theorem totp_pc {M : MS} {j n p : Nat} (v : Int32) (hp : v = nI p) (hq : p < 2 ^ 31) (hj : j < n) : totp (uI M 16 j v) n + pc M j = totp M n + p := by
  subst hp
  have e := sumT_upd (f := pc M) (g := pc (uI M 16 j (nI p))) hj (fun q hq => by simp [gI_uI, pc, hq])
  unfold totp
  have e2 : pc (uI M 16 j (nI p)) j = p := by simp [pc, gI_uI, nI_clamp hq]
  rw [e2] at e
  exact e
theorem tot_1 (M : MS) (n : Nat) : tot M (n + 1) = tot M n + (gI M 17 n).toInt := rfl
theorem tot_ge {M : MS} {s j n : Nat} (v : Int32) (h : n ≤ j) : tot (uI M s j v) n = tot M n := by
  induction n with
  | zero => rfl
  | succ n ih =>
    have c : ¬ n = j := by omega
    rw [tot_1, tot_1, ih (by omega)]
    simp [gI_uI, c]
theorem tot_c {M : MS} {j n : Nat} (v : Int32) (hj : j < n) : tot (uI M 17 j v) n = tot M n + (v.toInt - (gI M 17 j).toInt) := by
  induction n with
  | zero => omega
  | succ n ih =>
    rw [tot_1, tot_1]
    rcases Nat.lt_or_ge j n with c | c
    · have c2 : ¬ n = j := by omega
      rw [ih c]
      simp [gI_uI, c2]
      omega
    · have e : j = n := by omega
      subst e
      rw [tot_ge _ (Nat.le_refl j)]
      simp [gI_uI]
      omega
section RR
variable {e : Nat} {a : Sg} {M : MS}
theorem tot_nn (R : Rel e a M) : ∀ n, n ≤ nB M → 0 ≤ tot M n := by
  intro n
  induction n with
  | zero => intro _; exact Int.le_refl 0
  | succ n ih =>
    intro h
    rw [tot_1]
    have := ih (by omega)
    have := r_bC R n (by omega)
    omega
theorem cost_le (R : Rel e a M) {j : Nat} : ∀ n, n ≤ nB M → j < n → (gI M 17 j).toInt ≤ tot M n := by
  intro n
  induction n with
  | zero => intro _ h; omega
  | succ n ih =>
    intro h hj
    rw [tot_1]
    have h2 := r_bC R n (by omega)
    rcases Nat.lt_or_ge j n with c | c
    · have := ih (by omega) c
      omega
    · have h3 : j = n := by omega
      subst h3
      have := tot_nn R j (by omega)
      omega
theorem tot_le (R : Rel e a M) : tot M (nB M) ≤ 334926 := by
  have h1 := r_bc R
  have h2 := r_nBx R
  have h3 := r_hrx R
  have h4 : e % 7 ≤ 6 := by omega
  generalize e % 7 = e9 at h1 h4
  generalize nB M = b9 at h1 h2 ⊢
  generalize hN M = h9 at h1 h3
  generalize tot M b9 = t9 at h1 ⊢
  push_cast at h1
  omega
theorem cost_lt (R : Rel e a M) {j : Nat} (hj : j < nB M) : (gI M 17 j).toInt ≤ 334926 := Int.le_trans (cost_le R _ (Nat.le_refl _) hj) (tot_le R)
theorem totp_le (R : Rel e a M) : totp M (nB M) ≤ 1200 := by
  have h1 := r_bq R
  have h2 := r_nBx R
  omega
theorem pc_le (R : Rel e a M) {j : Nat} (hj : j < nB M) : pc M j ≤ 1200 := Nat.le_trans (sumT_le hj) (totp_le R)
theorem kd_iff (R : Rel e a M) {j i : Nat} (hj : j < nB M) (hi : i < 12) : gI M 15 j = nI i ↔ i = kd M j := by
  have h := r_bK R j hj
  rw [h.1, nI_eq (by omega) (by omega)]
  exact ⟨Eq.symm, Eq.symm⟩
theorem mInSt_nI (R : Rel e a M) (i : Nat) : mInSt M (nI i) (nB M) = nI (nInSt M i (nB M)) := by
  unfold mInSt nInSt
  refine sumN_nI fun j hj => ?_
  rw [r_bP R j hj]
  by_cases c : gI M 18 j = 3 ∧ gI M 15 j = nI i
  · rw [if_pos c, if_pos c]
  · rw [if_neg c, if_neg c, nI_0]
theorem mProm_nI (R : Rel e a M) (i : Nat) : mProm M (nI i) (nO M) = nI (nProm M i (nO M)) := by
  unfold mProm nProm
  refine sumN_nI fun j hj => ?_
  rw [r_rq R j hj]
  by_cases c : gI M 48 j = nI i ∧ gI M 52 j = -1
  · rw [if_pos c, if_pos c]
  · rw [if_neg c, if_neg c, nI_0]
theorem nInSt_le (R : Rel e a M) (i : Nat) : nInSt M i (nB M) ≤ 1200 := by
  refine Nat.le_trans (sumT_mono fun j _ => ?_) (totp_le R)
  split <;> omega
theorem pr_le (R : Rel e a M) {r : Nat} (hr : r < nO M) : pr M r ≤ 20 := by
  obtain ⟨p, h1, h2, h3⟩ := r_rp R r hr
  have h4 := r_rr R r hr
  rw [h1, nI_clamp (by omega)] at h4
  omega
theorem sumT_bd {f : Nat → Nat} {n c : Nat} (h : ∀ j, j < n → f j ≤ c) : sumT f n ≤ c * n := by
  induction n with
  | zero => exact Nat.le_refl _
  | succ n ih =>
    have := ih fun j hj => h j (by omega)
    have := h n (by omega)
    rw [sumT_1, Nat.mul_succ]
    omega
theorem nProm_le (R : Rel e a M) (i : Nat) : nProm M i (nO M) ≤ 200 := by
  have h := r_nOx R
  refine Nat.le_trans (sumT_bd (c := 20) fun j hj => ?_) (by omega)
  have := pr_le R hj
  split <;> omega
end RR
/-- a step for each number from i on, d of them -/
def iter (f : MS → Nat → MS) : Nat → Nat → MS → MS
  | _, 0, M => M
  | i, d + 1, M => iter f (i + 1) d (f M i)
theorem iter_0 (f : MS → Nat → MS) (i : Nat) (M : MS) : iter f i 0 M = M := rfl
theorem iter_1 (f : MS → Nat → MS) (i d : Nat) (M : MS) : iter f i (d + 1) M = iter f (i + 1) d (f M i) := rfl
