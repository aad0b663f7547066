/-! Taking pieces beside a write to a later slot. -/
theorem tk1_uI {M : MS} {s j i : Nat} {v : Int32} (t : Int32) (h : 18 < s) : tk1 (uI M s j v) i t = uI (tk1 M i t) s j v := by
  have h6 : ∀ i, gI (uI M s j v) 16 i = gI M 16 i := fun _ => gI_ne (by omega)
  have h7 : ∀ i, gI (uI M s j v) 17 i = gI M 17 i := fun _ => gI_ne (by omega)
  have h8 : ∀ i, gI (uI M s j v) 18 i = gI M 18 i := fun _ => gI_ne (by omega)
  unfold tk1 tkC
  simp only [h6, h7, h8]
  rw [uI_cc (show 17 < s by omega), uI_cc (show 16 < s by omega), uI_cc (show 18 < s by omega)]
theorem tkS_uI (k i : Nat) {s j : Nat} {v : Int32} (h : 18 < s) (S : TS) : tkS k (uI S.1 s j v, S.2) i = (uI (tkS k S i).1 s j v, (tkS k S i).2) := by
  have h5 : ∀ i, gI (uI S.1 s j v) 15 i = gI S.1 15 i := fun _ => gI_ne (by omega)
  have h6 : ∀ i, gI (uI S.1 s j v) 16 i = gI S.1 16 i := fun _ => gI_ne (by omega)
  have h7 : ∀ i, gI (uI S.1 s j v) 17 i = gI S.1 17 i := fun _ => gI_ne (by omega)
  have h8 : ∀ i, gI (uI S.1 s j v) 18 i = gI S.1 18 i := fun _ => gI_ne (by omega)
  have ht : tkT (uI S.1 s j v, S.2) i = tkT S i := by unfold tkT; simp only [h6]
  have hc : ∀ t, tkC (uI S.1 s j v) i t = tkC S.1 i t := fun t => by unfold tkC; rw [h7, h6]
  unfold tkS
  show (if ¬ S.2.1 ≤ 0 ∧ gI (uI S.1 s j v) 18 i = 3 ∧ gI (uI S.1 s j v) 15 i = nI k then (tk1 (uI S.1 s j v) i (tkT (uI S.1 s j v, S.2) i), S.2.1 - tkT (uI S.1 s j v, S.2) i, S.2.2.1 + tkC (uI S.1 s j v) i (tkT (uI S.1 s j v, S.2) i), S.2.2.2 ||| bit i) else (uI S.1 s j v, S.2)) = _
  rw [ht, hc, tk1_uI _ h, h8, h5]
  by_cases c : (¬ S.2.1 ≤ 0 ∧ gI S.1 18 i = 3 ∧ gI S.1 15 i = nI k)
  · rw [if_pos c, if_pos c]
  · rw [if_neg c, if_neg c]
theorem tkI_uI (k : Nat) {s j : Nat} {v : Int32} (h : 18 < s) : ∀ d i (S : TS), tkI k i d (uI S.1 s j v, S.2) = (uI (tkI k i d S).1 s j v, (tkI k i d S).2) := by
  intro d
  induction d with
  | zero => intro i S; rfl
  | succ d ih => intro i S; rw [tkI_1, tkI_1, tkS_uI k i h]; exact ih (i + 1) (tkS k S i)
theorem mMv_uI (M : MS) (k n q : Nat) {s j : Nat} {v : Int32} (h : 18 < s) (h2 : s ≠ 214) : mMv (uI M s j v) k n q = uI (mMv M k n q) s j v := by
  have e : mTk (uI M s j v) k n = (uI (mTk M k n).1 s j v, (mTk M k n).2) := by
    unfold mTk
    rw [nB_u _ _ _ _ h2]
    exact tkI_uI k h (nB M) 0 (M, nI n, 0, 0)
  have g : gI (uI M s j v) 17 q = gI M 17 q := gI_ne (by omega)
  unfold mMv
  rw [e, g]
  exact uI_cc (M := uL (mTk M k n).1 q (gL M q ||| (mTk M k n).2.2.2)) (show 17 < s by omega)
theorem mProm_52 {M : MS} {r n : Nat} (x v : Int32) (hr : r < n) (hv : v ≠ -1) (h0 : gI M 52 r = -1) : mProm (uI M 52 r v) x n = mProm M x n - (if gI M 48 r = x then gI M 51 r else 0) := by
  have e := sumN_upd (f := fun j => if gI M 48 j = x ∧ gI M 52 j = -1 then gI M 51 j else 0) (g := fun j => if gI (uI M 52 r v) 48 j = x ∧ gI (uI M 52 r v) 52 j = -1 then gI (uI M 52 r v) 51 j else 0) hr (fun q hq => by simp [gI_uI, hq])
  have g0 : (if gI (uI M 52 r v) 48 r = x ∧ gI (uI M 52 r v) 52 r = -1 then gI (uI M 52 r v) 51 r else 0) = 0 := if_neg (fun z => hv (by have z2 := z.2; rw [gI_uI, if_pos ⟨rfl, rfl⟩] at z2; exact z2))
  have f0 : (if gI M 48 r = x ∧ gI M 52 r = -1 then gI M 51 r else 0) = (if gI M 48 r = x then gI M 51 r else 0) := by simp [h0]
  have e2 : mProm (uI M 52 r v) x n = mProm M x n + ((if gI (uI M 52 r v) 48 r = x ∧ gI (uI M 52 r v) 52 r = -1 then gI (uI M 52 r v) 51 r else 0) - (if gI M 48 r = x ∧ gI M 52 r = -1 then gI M 51 r else 0)) := e
  rw [e2, g0, f0]
  grind
theorem nProm_52 {M : MS} {r n k : Nat} (v : Int32) (hr : r < n) (hv : v ≠ -1) (h0 : gI M 52 r = -1) : nProm (uI M 52 r v) k n + (if gI M 48 r = nI k then pr M r else 0) = nProm M k n := by
  have e := sumT_upd (f := fun j => if gI M 48 j = nI k ∧ gI M 52 j = -1 then pr M j else 0) (g := fun j => if gI (uI M 52 r v) 48 j = nI k ∧ gI (uI M 52 r v) 52 j = -1 then pr (uI M 52 r v) j else 0) hr (fun z hz => by simp [gI_uI, pr, hz])
  have g0 : (if gI (uI M 52 r v) 48 r = nI k ∧ gI (uI M 52 r v) 52 r = -1 then pr (uI M 52 r v) r else 0) = 0 := if_neg (fun z => hv (by have z2 := z.2; rw [gI_uI, if_pos ⟨rfl, rfl⟩] at z2; exact z2))
  have f0 : (if gI M 48 r = nI k ∧ gI M 52 r = -1 then pr M r else 0) = (if gI M 48 r = nI k then pr M r else 0) := by simp [h0]
  have e2 : nProm (uI M 52 r v) k n + (if gI M 48 r = nI k ∧ gI M 52 r = -1 then pr M r else 0) = nProm M k n + (if gI (uI M 52 r v) 48 r = nI k ∧ gI (uI M 52 r v) 52 r = -1 then pr (uI M 52 r v) r else 0) := e
  rw [g0, f0] at e2
  omega
