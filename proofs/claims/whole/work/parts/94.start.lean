/-! The start. -/
def rd (a : Sg) : MS := (fun s k => if s < 60 then sI a (tk 11 s) k else if 100 ≤ s ∧ s < 200 then sI a (tk 13 (s - 100)) k else if 200 ≤ s then sI a (tk 10 0) (s - 200) else 0, fun k => sL a (tk 12 26) k)
theorem put_rd (a : Sg) : put a (rd a) = a := by
  refine Prod.ext (funext fun t => funext fun k => ?_) (Prod.ext rfl (Prod.ext (funext fun t => funext fun k => ?_) rfl))
  · unfold put rd sI tk
    dsimp only
    split
    · rename_i h; rw [if_pos h.2, show 32 * (t / 32) + 11 = t by omega]
    · split
      · rename_i h; rw [if_neg (by omega), if_pos (by omega), show 32 * (t / 32 + 100 - 100) + 13 = t by omega]
      · split
        · rename_i h; subst h; rw [if_neg (by omega), if_neg (by omega), if_pos (by omega), show k + 200 - 200 = k by omega]
        · rfl
  · unfold put rd sL tk
    dsimp only
    split
    · rename_i h; subst h; rfl
    · rfl
def st0 : Sg := (wN (wI (wI (wI (wI (wI (wI (wI (wI (wI (wI (wI (wI (wI (wI (wI (wI (wP (wN (wP (wN (wP (wN (wP (wN (wP (wN (wP (wN (wP (wN (wP (wN (wP (wN (wP (wN (wP (wN (wP (wN (wP (wN (wP (wN (wP (wN (wP (wN (wP (wN (wP (wN (wP (wN (wP (wN (wP (wN (wP (wN (wP (wN (wP (wN (wP (wN (wP (wN (wP (wN (wP (wN (wP (wN (wP (wN (wP (wN (wP (wN (wP (wN (wP (wN (wP (wN (wP (wN (wP (wN (wP (wN (wP (wN (wP (wN (wP (wN (wP (wN (wP (wN (wP (wN (wP (wN (wP (wN (wP (wN (wP (wN (wP (wN (wP (wN (wP (wN (wP (wN (wN (wP (wI (wI (wP (wN (wP (wN (wN (wP (wI (wI (wP (wN (wP (wN (wN (wP (wI (wI (wP (wN (wP (wN (wN (wP (wI (wI (wP (wN (wP (wN (wN (wP (wI (wI (wP (wN (wP (wN (wN (wP (wI (wI (wP (wN (wP (wN (wN (wP (wI (wI (wP (wN (wP (wN (wN (wP (wI (wI (wP (wN (wP (wN (wN (wP (wI (wI (wP (wN (wP (wN (wN (wP (wI (wI (wP (wN (wP (wN (wN (wP (wI (wI (wP (wN (wP (wN (wN (wP (wI (wI (wP (wN (wP (wN (wN (wP (wP (wP (wN (wP (wN (wP (wI (wI (wI (wI (wP (wN (wP (wN (wP (wN (wN (wN (wP (wN (wN sg0 (tk 9 0)) (tk 15 0)) (tk 9 0) 0 (some (tk 15 0))) (tk 1 0)) (tk 8 0)) (tk 14 0)) (tk 8 0) 0 (some (tk 14 0))) (tk 19 0)) (tk 8 0) 2 (some (tk 19 0))) (tk 23 0)) (tk 8 0) 4 (some (tk 23 0))) (tk 23 0) 0 9) (tk 23 0) 1 9) (tk 23 0) 2 9) (tk 23 0) 3 9) (tk 1 0) 0 (some (tk 8 0))) (tk 17 0)) (tk 1 0) 1 (some (tk 17 0))) (tk 20 0)) (tk 1 0) 3 (some (tk 20 0))) (tk 9 0) 1 (some (tk 1 0))) (tk 9 0) 2 (some (tk 8 0))) (tk 2 0)) (tk 16 0)) (tk 2 0) 4 (some (tk 16 0))) (tk 18 0)) (tk 2 0) 6 (some (tk 18 0))) (tk 2 0) 8 20) (tk 2 0) 0 ((0 : Int32))) (tk 15 0) 0 (some (tk 2 0))) (tk 2 1)) (tk 16 1)) (tk 2 1) 4 (some (tk 16 1))) (tk 18 1)) (tk 2 1) 6 (some (tk 18 1))) (tk 2 1) 8 20) (tk 2 1) 0 ((0 : Int32) + 1)) (tk 15 0) 1 (some (tk 2 1))) (tk 2 2)) (tk 16 2)) (tk 2 2) 4 (some (tk 16 2))) (tk 18 2)) (tk 2 2) 6 (some (tk 18 2))) (tk 2 2) 8 20) (tk 2 2) 0 ((0 : Int32) + 1 + 1)) (tk 15 0) 2 (some (tk 2 2))) (tk 2 3)) (tk 16 3)) (tk 2 3) 4 (some (tk 16 3))) (tk 18 3)) (tk 2 3) 6 (some (tk 18 3))) (tk 2 3) 8 20) (tk 2 3) 0 ((0 : Int32) + 1 + 1 + 1)) (tk 15 0) 3 (some (tk 2 3))) (tk 2 4)) (tk 16 4)) (tk 2 4) 4 (some (tk 16 4))) (tk 18 4)) (tk 2 4) 6 (some (tk 18 4))) (tk 2 4) 8 20) (tk 2 4) 0 ((0 : Int32) + 1 + 1 + 1 + 1)) (tk 15 0) 4 (some (tk 2 4))) (tk 2 5)) (tk 16 5)) (tk 2 5) 4 (some (tk 16 5))) (tk 18 5)) (tk 2 5) 6 (some (tk 18 5))) (tk 2 5) 8 20) (tk 2 5) 0 ((0 : Int32) + 1 + 1 + 1 + 1 + 1)) (tk 15 0) 5 (some (tk 2 5))) (tk 2 6)) (tk 16 6)) (tk 2 6) 4 (some (tk 16 6))) (tk 18 6)) (tk 2 6) 6 (some (tk 18 6))) (tk 2 6) 8 20) (tk 2 6) 0 ((0 : Int32) + 1 + 1 + 1 + 1 + 1 + 1)) (tk 15 0) 6 (some (tk 2 6))) (tk 2 7)) (tk 16 7)) (tk 2 7) 4 (some (tk 16 7))) (tk 18 7)) (tk 2 7) 6 (some (tk 18 7))) (tk 2 7) 8 20) (tk 2 7) 0 ((0 : Int32) + 1 + 1 + 1 + 1 + 1 + 1 + 1)) (tk 15 0) 7 (some (tk 2 7))) (tk 2 8)) (tk 16 8)) (tk 2 8) 4 (some (tk 16 8))) (tk 18 8)) (tk 2 8) 6 (some (tk 18 8))) (tk 2 8) 8 20) (tk 2 8) 0 ((0 : Int32) + 1 + 1 + 1 + 1 + 1 + 1 + 1 + 1)) (tk 15 0) 8 (some (tk 2 8))) (tk 2 9)) (tk 16 9)) (tk 2 9) 4 (some (tk 16 9))) (tk 18 9)) (tk 2 9) 6 (some (tk 18 9))) (tk 2 9) 8 20) (tk 2 9) 0 ((0 : Int32) + 1 + 1 + 1 + 1 + 1 + 1 + 1 + 1 + 1)) (tk 15 0) 9 (some (tk 2 9))) (tk 2 10)) (tk 16 10)) (tk 2 10) 4 (some (tk 16 10))) (tk 18 10)) (tk 2 10) 6 (some (tk 18 10))) (tk 2 10) 8 20) (tk 2 10) 0 ((0 : Int32) + 1 + 1 + 1 + 1 + 1 + 1 + 1 + 1 + 1 + 1)) (tk 15 0) 10 (some (tk 2 10))) (tk 2 11)) (tk 16 11)) (tk 2 11) 4 (some (tk 16 11))) (tk 18 11)) (tk 2 11) 6 (some (tk 18 11))) (tk 2 11) 8 20) (tk 2 11) 0 ((0 : Int32) + 1 + 1 + 1 + 1 + 1 + 1 + 1 + 1 + 1 + 1 + 1)) (tk 15 0) 11 (some (tk 2 11))) (tk 10 0)) (tk 11 0)) (tk 10 0) 0 (some (tk 11 0))) (tk 11 1)) (tk 10 0) 1 (some (tk 11 1))) (tk 11 2)) (tk 10 0) 2 (some (tk 11 2))) (tk 11 3)) (tk 10 0) 3 (some (tk 11 3))) (tk 11 4)) (tk 10 0) 4 (some (tk 11 4))) (tk 11 5)) (tk 10 0) 5 (some (tk 11 5))) (tk 11 6)) (tk 10 0) 6 (some (tk 11 6))) (tk 11 7)) (tk 10 0) 7 (some (tk 11 7))) (tk 11 8)) (tk 10 0) 8 (some (tk 11 8))) (tk 11 9)) (tk 10 0) 9 (some (tk 11 9))) (tk 11 10)) (tk 10 0) 10 (some (tk 11 10))) (tk 11 11)) (tk 10 0) 11 (some (tk 11 11))) (tk 11 12)) (tk 10 0) 12 (some (tk 11 12))) (tk 13 13)) (tk 10 0) 13 (some (tk 13 13))) (tk 11 15)) (tk 10 0) 15 (some (tk 11 15))) (tk 11 16)) (tk 10 0) 16 (some (tk 11 16))) (tk 11 17)) (tk 10 0) 17 (some (tk 11 17))) (tk 11 18)) (tk 10 0) 18 (some (tk 11 18))) (tk 11 19)) (tk 10 0) 19 (some (tk 11 19))) (tk 11 20)) (tk 10 0) 20 (some (tk 11 20))) (tk 13 21)) (tk 10 0) 21 (some (tk 13 21))) (tk 13 22)) (tk 10 0) 22 (some (tk 13 22))) (tk 11 23)) (tk 10 0) 23 (some (tk 11 23))) (tk 13 24)) (tk 10 0) 24 (some (tk 13 24))) (tk 11 25)) (tk 10 0) 25 (some (tk 11 25))) (tk 12 26)) (tk 10 0) 26 (some (tk 12 26))) (tk 11 28)) (tk 10 0) 28 (some (tk 11 28))) (tk 11 29)) (tk 10 0) 29 (some (tk 11 29))) (tk 11 30)) (tk 10 0) 30 (some (tk 11 30))) (tk 11 31)) (tk 10 0) 31 (some (tk 11 31))) (tk 11 32)) (tk 10 0) 32 (some (tk 11 32))) (tk 11 33)) (tk 10 0) 33 (some (tk 11 33))) (tk 11 34)) (tk 10 0) 34 (some (tk 11 34))) (tk 11 35)) (tk 10 0) 35 (some (tk 11 35))) (tk 11 36)) (tk 10 0) 36 (some (tk 11 36))) (tk 11 37)) (tk 10 0) 37 (some (tk 11 37))) (tk 11 38)) (tk 10 0) 38 (some (tk 11 38))) (tk 11 39)) (tk 10 0) 39 (some (tk 11 39))) (tk 11 40)) (tk 10 0) 40 (some (tk 11 40))) (tk 11 42)) (tk 10 0) 42 (some (tk 11 42))) (tk 11 43)) (tk 10 0) 43 (some (tk 11 43))) (tk 11 44)) (tk 10 0) 44 (some (tk 11 44))) (tk 11 45)) (tk 10 0) 45 (some (tk 11 45))) (tk 11 46)) (tk 10 0) 46 (some (tk 11 46))) (tk 11 48)) (tk 10 0) 48 (some (tk 11 48))) (tk 11 49)) (tk 10 0) 49 (some (tk 11 49))) (tk 11 50)) (tk 10 0) 50 (some (tk 11 50))) (tk 11 51)) (tk 10 0) 51 (some (tk 11 51))) (tk 11 52)) (tk 10 0) 52 (some (tk 11 52))) (tk 11 53)) (tk 10 0) 53 (some (tk 11 53))) (tk 11 60)) (tk 10 0) 60 (some (tk 11 60))) (tk 11 61)) (tk 10 0) 61 (some (tk 11 61))) (tk 11 11) 0 20) (tk 11 11) 1 20) (tk 11 11) 2 20) (tk 11 11) 3 20) (tk 11 11) 4 20) (tk 11 11) 5 20) (tk 11 11) 6 20) (tk 11 11) 7 20) (tk 11 11) 8 20) (tk 11 11) 9 20) (tk 11 11) 10 20) (tk 11 11) 11 20) (tk 11 12) 0 9) (tk 11 12) 1 9) (tk 11 12) 2 9) (tk 11 12) 3 9) (tk 24 0))
/-- nothing is made from 2048 on -/
def Su (σ : Sg) : Prop := ∀ t, 2048 ≤ t → sX σ t = false
theorem su_P {σ : Sg} {t k : Nat} {v : Option Nat} (h : Su σ) : Su (wP σ t k v) := h
theorem su_I {σ : Sg} {t k : Nat} {v : Int32} (h : Su σ) : Su (wI σ t k v) := h
theorem su_N {σ : Sg} {t : Nat} (ht : t < 2048) (h : Su σ) : Su (wN σ t) := fun u hu => by rw [sX_wN, if_neg (by omega)]; exact h u hu
def Zt (σ : Sg) (t : Nat) : Prop := ∀ k, sI σ t k = 0
theorem zt_P {σ : Sg} {u t k : Nat} {v : Option Nat} (h : Zt σ u) : Zt (wP σ t k v) u := h
theorem zt_N {σ : Sg} {u t : Nat} (h : Zt σ u) : Zt (wN σ t) u := fun k => by rw [sI_wN]; split; rfl; exact h k
theorem zt_I {σ : Sg} {u t k : Nat} {v : Int32} (hne : u ≠ t) (h : Zt σ u) : Zt (wI σ t k v) u := fun q => by rw [sI_wI, if_neg (fun z => hne z.1)]; exact h q
def Nt (σ : Sg) : Prop := ∀ k, 62 ≤ k → sP σ (tk 10 0) k = none
theorem nt_I {σ : Sg} {t k : Nat} {v : Int32} (h : Nt σ) : Nt (wI σ t k v) := h
theorem nt_N {σ : Sg} {t : Nat} (h : Nt σ) : Nt (wN σ t) := fun k hk => by rw [sP_wN]; split; rfl; exact h k hk
theorem nt_P {σ : Sg} {t k : Nat} {v : Option Nat} (hk : k < 62) (h : Nt σ) : Nt (wP σ t k v) := fun q hq => by rw [sP_wP, if_neg (fun z => by omega)]; exact h q hq
set_option maxRecDepth 20000 in
set_option maxHeartbeats 4000000 in
theorem su_st : Su st0 := by
  unfold st0
  repeat (first | (refine su_P ?_) | (refine su_I ?_) | (refine su_N (by decide) ?_))
  intro t ht
  show (t == 25) = false
  rw [beq_eq_false_iff_ne]
  omega
set_option maxRecDepth 20000 in
set_option maxHeartbeats 4000000 in
theorem nt_st : Nt st0 := by
  unfold st0
  repeat (first | (refine nt_P (by decide) ?_) | (refine nt_I ?_) | (refine nt_N ?_))
  intro k _
  rfl
set_option maxRecDepth 20000 in
set_option maxHeartbeats 8000000 in
theorem zt_st : Zt st0 (tk 11 35) ∧ Zt st0 (tk 11 37) ∧ Zt st0 (tk 11 39) ∧ Zt st0 (tk 11 40) ∧ Zt st0 (tk 11 45) ∧ Zt st0 (tk 11 46) ∧ Zt st0 (tk 11 51) := by
  unfold st0
  refine ⟨?_, ?_, ?_, ?_, ?_, ?_, ?_⟩
  all_goals
    repeat (first | (refine zt_P ?_) | (refine zt_I (by decide) ?_) | (refine zt_N ?_))
    intro k
    rfl
theorem zr_st : Zr (rd st0) := by
  obtain ⟨z1, z2, z3, z4, z5, z6, z7⟩ := zt_st
  exact ⟨fun m _ => ⟨z1 m, z2 m, z3 m, z4 m⟩, fun q _ => ⟨z5 q, z6 q⟩, fun r _ => z7 r⟩
set_option maxRecDepth 20000 in
set_option maxHeartbeats 16000000 in
theorem rel_st0 : Rel 0 st0 (rd st0) := by
  have e1 : nB (rd st0) = 0 := by decide +kernel
  have e2 : nM (rd st0) = 0 := by decide +kernel
  have e3 : nP (rd st0) = 0 := by decide +kernel
  have e4 : nO (rd st0) = 0 := by decide +kernel
  have e5 : ∀ i, i < 12 → nLn (rd st0) i = 0 := by decide +kernel
  have e6 : ∀ i, i < 12 → nOp (rd st0) i = 0 := by decide +kernel
  unfold Rel
  refine ⟨?_, ?_, ?_, ?_, ?_, ?_, ?_, ?_, ?_, ?_, ?_, ?_, ?_, ?_, ?_, ?_, ?_, ?_, ?_, ?_, ?_, ?_, ?_, ?_, ?_, ?_, ?_, ?_, ?_, ?_, ?_, ?_, ?_, ?_, ?_, ?_, ?_, ?_, ?_, ?_, ?_, ?_, ?_, ?_, ?_, ?_, ?_, ?_, ?_, ?_, ?_, ?_, ?_, ?_, ?_, ?_, ?_, ?_, ?_, ?_, ?_, ?_, ?_, ?_, ?_, ?_, ?_, ?_, ?_, ?_, ?_, ?_, ?_, ?_, ?_, ?_, ?_, ?_, ?_, ?_, ?_, ?_, ?_, ?_, ?_, ?_, ?_, ?_, ?_, ?_, ?_, ?_, ?_, ?_, ?_, ?_, ?_, ?_, ?_, ?_, ?_, ?_, ?_, ?_, ?_, ?_, ?_, ?_, ?_, ?_, ?_, ?_, ?_, ?_, ?_, ?_, ?_, ?_, ?_, ?_, ?_, ?_, ?_, ?_, ?_, ?_, ?_, ?_, ?_, ?_, ?_, ?_, ?_, ?_, ?_, ?_, ?_, ?_, ?_, ?_, ?_, ?_, ?_, ?_, ?_, ?_, ?_, ?_, ?_⟩
  · intro k
    rcases Nat.lt_or_ge k 62 with c | c
    · exact (show ∀ k, k < 62 → sP st0 (tk 10 0) k = mp k by decide +kernel) k c
    · rw [nt_st k c]
      unfold mp
      split <;> first | rfl | omega
  · unfold Cpx0
    decide +kernel
  · unfold Cpx1
    decide +kernel
  · unfold Cpx2
    decide +kernel
  · unfold Cpf0
    decide +kernel
  · unfold Cpf1
    decide +kernel
  · unfold Cpf3
    decide +kernel
  · unfold Cps0
    decide +kernel
  · unfold Cps2
    decide +kernel
  · unfold Cps4
    decide +kernel
  · unfold Cpk
    decide +kernel
  · unfold Cpkl
    decide +kernel
  · unfold Cpko
    decide +kernel
  · unfold Cghour
    decide +kernel
  · unfold Cgstand
    decide +kernel
  · unfold Cgbought
    decide +kernel
  · unfold Cgmach
    decide +kernel
  · unfold Cgpers
    decide +kernel
  · unfold Cgworked
    decide +kernel
  · unfold Cgrep
    decide +kernel
  · unfold Cgbat
    decide +kernel
  · unfold Cgord
    decide +kernel
  · unfold Cgq
    decide +kernel
  · unfold CnB
    decide +kernel
  · unfold CnBx
    decide +kernel
  · unfold CnM
    decide +kernel
  · unfold CnMx
    decide +kernel
  · unfold CnP
    decide +kernel
  · unfold CnPx
    decide +kernel
  · unfold CnO
    decide +kernel
  · unfold CnOx
    decide +kernel
  · unfold Chr
    decide +kernel
  · unfold Chrx
    decide +kernel
  · exact Or.inl (by decide +kernel)
  · exact (by decide : 0 ≤ 7)
  · unfold Ck0
    decide +kernel
  · unfold Ck1
    decide +kernel
  · unfold Ck2
    decide +kernel
  · unfold Ck3
    decide +kernel
  · unfold Ck5
    decide +kernel
  · unfold Ck7
    decide +kernel
  · unfold Ck8
    decide +kernel
  · unfold Ck9
    decide +kernel
  · intro i hi
    rw [e1]
    exact (show ∀ i, i < 12 → sI st0 (tk 2 i) 10 = 0 by decide +kernel) i hi
  · intro i hi
    rw [e4]
    exact (show ∀ i, i < 12 → sI st0 (tk 2 i) 11 = 0 by decide +kernel) i hi
  · unfold Ck12
    decide +kernel
  · unfold Cksa
    decide +kernel
  · unfold Cksb
    decide +kernel
  · unfold Cksc
    decide +kernel
  · exact fun i hi => Or.inl ((show ∀ i, i < 12 → gI (rd st0) 113 i = 0 by decide +kernel) i hi)
  · unfold Ckl
    decide +kernel
  · unfold Cko
    decide +kernel
  · exact fun i hi => ⟨0, 0, (show ∀ i, i < 12 → gI (rd st0) 1 i = nI 0 by decide +kernel) i hi, by omega, (show ∀ i, i < 12 → gI (rd st0) 2 i = nI 0 by decide +kernel) i hi, by omega⟩
  · intro i k h1 h2
    rw [e5 i h1] at h2
    omega
  · intro i k h1 h2
    rw [e5 i h1] at h2
    omega
  · intro i k h1 h2
    rw [e5 i h1] at h2
    omega
  · intro i k h1 h2
    rw [e5 i h1] at h2
    omega
  · intro i k h1 h2
    rw [e5 i h1] at h2
    omega
  · intro i k h1 h2
    rw [e6 i h1] at h2
    omega
  · intro i k h1 h2
    rw [e6 i h1] at h2
    omega
  · intro i k h1 h2
    rw [e6 i h1] at h2
    omega
  · intro i k h1 h2
    rw [e6 i h1] at h2
    omega
  · intro i k h1 h2
    rw [e6 i h1] at h2
    omega
  · intro x0 h0
    rw [e1] at h0
    omega
  · intro x0 h0
    rw [e1] at h0
    omega
  · intro x0 h0
    rw [e1] at h0
    omega
  · intro x0 h0
    rw [e1] at h0
    omega
  · intro x0 h0
    rw [e1] at h0
    omega
  · intro x0 h0
    rw [e1] at h0
    omega
  · intro x0 h0
    rw [e1] at h0
    omega
  · intro x0 h0
    rw [e1] at h0
    omega
  · intro x0 h0
    rw [e1] at h0
    omega
  · intro x0 h0
    rw [e1] at h0
    omega
  · intro x0 h0
    rw [e1] at h0
    omega
  · intro x0 h0
    rw [e1] at h0
    omega
  · intro x0 h0
    rw [e1] at h0
    omega
  · intro x0 h0
    rw [e1] at h0
    omega
  · intro x0 h0
    rw [e1] at h0
    omega
  · intro x0 h0
    rw [e1] at h0
    omega
  · intro x0 h0
    rw [e1] at h0
    omega
  · intro x0 h0
    rw [e1] at h0
    omega
  · intro x0 h0
    rw [e1] at h0
    omega
  · intro x0 h0
    rw [e1] at h0
    omega
  · intro x0 h0
    rw [e1] at h0
    omega
  · intro x0 h0
    rw [e1] at h0
    omega
  · intro x0 h0
    rw [e1] at h0
    omega
  · unfold Cbq
    decide +kernel
  · intro _ i hi
    rw [e1, e4]
    exact Nat.le_refl _
  · intro x0 x1 h0
    rw [e1] at h0
    omega
  · unfold Cbc
    decide +kernel
  · exact fun j _ h => (show ∀ j, j < 60 → sX st0 (tk 0 j) = false by decide +kernel) j h
  · exact fun i k h1 h2 _ => (show ∀ q, q < 36 → sX st0 (tk 3 q) = false by decide +kernel) _ (by omega)
  · exact fun i k h1 h2 _ => (show ∀ q, q < 48 → sX st0 (tk 5 q) = false by decide +kernel) _ (by omega)
  · exact fun j _ h => (show ∀ j, j < 6 → sX st0 (tk 4 j) = false by decide +kernel) j h
  · exact fun j _ h => (show ∀ j, j < 6 → sX st0 (tk 7 j) = false ∧ sX st0 (tk 21 j) = false ∧ sX st0 (tk 22 j) = false by decide +kernel) j h
  · exact fun j _ h => (show ∀ j, j < 10 → sX st0 (tk 6 j) = false by decide +kernel) j h
  · exact ⟨64, Nat.le_refl _, fun c i hi => su_st _ (by unfold tk; omega)⟩
  · intro x0 h0
    rw [e2] at h0
    omega
  · intro x0 h0
    rw [e2] at h0
    omega
  · intro x0 h0
    rw [e2] at h0
    omega
  · intro x0 h0
    rw [e2] at h0
    omega
  · intro x0 h0
    rw [e2] at h0
    omega
  · intro x0 h0
    rw [e2] at h0
    omega
  · intro x0 h0
    rw [e2] at h0
    omega
  · intro x0 h0
    rw [e2] at h0
    omega
  · intro x0 h0
    rw [e2] at h0
    omega
  · intro x0 h0
    rw [e2] at h0
    omega
  · intro x0 h0
    rw [e2] at h0
    omega
  · intro x0 h0
    rw [e2] at h0
    omega
  · intro x0 h0
    rw [e2] at h0
    omega
  · intro x0 h0
    rw [e2] at h0
    omega
  · intro x0 h0
    rw [e2] at h0
    omega
  · intro x0 x1 h0
    rw [e2] at h0
    omega
  · intro x0 h0
    rw [e2] at h0
    omega
  · intro x0 h0
    rw [e2] at h0
    omega
  · intro x0 h0
    rw [e2] at h0
    omega
  · intro x0 h0
    rw [e2] at h0
    omega
  · intro x0 h0
    rw [e2] at h0
    omega
  · intro x0 h0
    rw [e2] at h0
    omega
  · intro x0 h0
    rw [e2] at h0
    omega
  · intro x0 h0
    rw [e2] at h0
    omega
  · intro x0 h0
    rw [e2] at h0
    omega
  · intro x0 h0
    rw [e2] at h0
    omega
  · intro x0 x1 h0
    rw [e2] at h0
    omega
  · intro x0 x1 h0
    rw [e2] at h0
    omega
  · intro x0 h0
    rw [e3] at h0
    omega
  · intro x0 h0
    rw [e3] at h0
    omega
  · intro x0 h0
    rw [e3] at h0
    omega
  · intro x0 h0
    rw [e3] at h0
    omega
  · intro x0 h0
    rw [e3] at h0
    omega
  · intro x0 h0
    rw [e3] at h0
    omega
  · intro x0 h0
    rw [e3] at h0
    omega
  · intro x0 h0
    rw [e3] at h0
    omega
  · intro x0 x1 h0
    rw [e3] at h0
    omega
  · intro x0 x1 h0
    rw [e3] at h0
    omega
  · intro x0 h0
    rw [e3] at h0
    omega
  · intro x0 x1 h0
    rw [e3] at h0
    omega
  · intro x0 h0
    rw [e4] at h0
    omega
  · intro x0 h0
    rw [e4] at h0
    omega
  · intro x0 h0
    rw [e4] at h0
    omega
  · intro x0 h0
    rw [e4] at h0
    omega
  · intro x0 h0
    rw [e4] at h0
    omega
  · intro x0 h0
    rw [e4] at h0
    omega
  · intro x0 h0
    rw [e4] at h0
    omega
  · intro x0 h0
    rw [e4] at h0
    omega
  · intro x0 h0
    rw [e4] at h0
    omega
  · intro x0 h0
    rw [e4] at h0
    omega
  · intro x0 h0
    rw [e4] at h0
    omega
  · intro x0 h0
    rw [e4] at h0
    omega
set_option maxRecDepth 20000 in
set_option maxHeartbeats 16000000 in
theorem law_start {L : Nat} {xs : Nat → Int32} (hL : L ≤ 3584) : wp_L_law L xs sg0 := by
  have h9 := law_loop (xs := xs) hL 513 0 st0 (rd st0) rel_st0 zr_st (by omega) (by omega)
  rw [put_rd, nI_0] at h9
  unfold wp_L_law
  refine ⟨tk 9 0, by decide +kernel, tkm 9 0 (by decide), ?_⟩
  unfold wp_X9_init
  refine ⟨tk 15 0, by decide +kernel, by rw [tkm 15 0 (by decide)]; rfl, al_15 0, tkm 9 0 (by decide), ?_⟩
  refine ⟨tk 1 0, by decide +kernel, tkm 1 0 (by decide), ?_⟩
  unfold wp_X1_init
  refine ⟨tk 8 0, by decide +kernel, tkm 8 0 (by decide), ?_⟩
  unfold wp_X8_init
  refine ⟨tk 14 0, by decide +kernel, by rw [tkm 14 0 (by decide)]; rfl, al_14 0, tkm 8 0 (by decide), ?_⟩
  refine ⟨tk 19 0, by decide +kernel, by rw [tkm 19 0 (by decide)]; rfl, al_19 0, tkm 8 0 (by decide), ?_⟩
  refine ⟨tk 23 0, by decide +kernel, by rw [tkm 23 0 (by decide)]; rfl, al_23 0, tkm 8 0 (by decide), ?_⟩
  refine ⟨(0 + 1 + 1 + 1 + 1 + 1), ?_⟩
  unfold wp_X8_init_31
  refine ⟨tkm 8 0 (by decide), fun o1 h1 => ?_⟩
  have h12 := h1.trans (show _ = some (tk 23 0) by decide +kernel)
  subst h12
  refine ⟨tk 23 0, rfl, (ar_23 0).mpr trivial, fun h => absurd h (by rw [al_23]; decide), fun _ => ⟨tkm 8 0 (by decide), fun o3 h3 => ?_⟩⟩
  have h32 := h3.trans (show _ = some (tk 23 0) by decide +kernel)
  subst h32
  refine ⟨tk 23 0, rfl, by rw [tkm 23 0 (by decide)]; rfl, 0, by decide, by rw [al_23]; decide, ?_⟩
  unfold wp_X8_init_31
  refine ⟨tkm 8 0 (by decide), fun o1 h1 => ?_⟩
  have h12 := h1.trans (show _ = some (tk 23 0) by decide +kernel)
  subst h12
  refine ⟨tk 23 0, rfl, (ar_23 0).mpr trivial, fun h => absurd h (by rw [al_23]; decide), fun _ => ⟨tkm 8 0 (by decide), fun o3 h3 => ?_⟩⟩
  have h32 := h3.trans (show _ = some (tk 23 0) by decide +kernel)
  subst h32
  refine ⟨tk 23 0, rfl, by rw [tkm 23 0 (by decide)]; rfl, 1, by decide, by rw [al_23]; decide, ?_⟩
  unfold wp_X8_init_31
  refine ⟨tkm 8 0 (by decide), fun o1 h1 => ?_⟩
  have h12 := h1.trans (show _ = some (tk 23 0) by decide +kernel)
  subst h12
  refine ⟨tk 23 0, rfl, (ar_23 0).mpr trivial, fun h => absurd h (by rw [al_23]; decide), fun _ => ⟨tkm 8 0 (by decide), fun o3 h3 => ?_⟩⟩
  have h32 := h3.trans (show _ = some (tk 23 0) by decide +kernel)
  subst h32
  refine ⟨tk 23 0, rfl, by rw [tkm 23 0 (by decide)]; rfl, 2, by decide, by rw [al_23]; decide, ?_⟩
  unfold wp_X8_init_31
  refine ⟨tkm 8 0 (by decide), fun o1 h1 => ?_⟩
  have h12 := h1.trans (show _ = some (tk 23 0) by decide +kernel)
  subst h12
  refine ⟨tk 23 0, rfl, (ar_23 0).mpr trivial, fun h => absurd h (by rw [al_23]; decide), fun _ => ⟨tkm 8 0 (by decide), fun o3 h3 => ?_⟩⟩
  have h32 := h3.trans (show _ = some (tk 23 0) by decide +kernel)
  subst h32
  refine ⟨tk 23 0, rfl, by rw [tkm 23 0 (by decide)]; rfl, 3, by decide, by rw [al_23]; decide, ?_⟩
  unfold wp_X8_init_31
  refine ⟨tkm 8 0 (by decide), fun o1 h1 => ?_⟩
  have h12 := h1.trans (show _ = some (tk 23 0) by decide +kernel)
  subst h12
  refine ⟨tk 23 0, rfl, (ar_23 0).mpr trivial, fun _ => ?_, fun h => absurd (by rw [al_23]; decide) h⟩
  rw [KV_v]
  refine ⟨tkm 1 0 (by decide), ?_⟩
  refine ⟨tk 17 0, by decide +kernel, by rw [tkm 17 0 (by decide)]; rfl, al_17 0, tkm 1 0 (by decide), ?_⟩
  refine ⟨tk 20 0, by decide +kernel, by rw [tkm 20 0 (by decide)]; rfl, al_20 0, tkm 1 0 (by decide), ?_⟩
  rw [KV_v]
  refine ⟨tkm 9 0 (by decide), tkm 9 0 (by decide), fun o4 h4 => ?_⟩
  have h42 := h4.trans (show _ = some (tk 1 0) by decide +kernel)
  subst h42
  refine ⟨tk 1 0, rfl, tkm 1 0 (by decide), fun o6 h6 => ?_⟩
  have h62 := h6.trans (show _ = some (tk 8 0) by decide +kernel)
  subst h62
  refine ⟨tkm 9 0 (by decide), ?_⟩
  show wp_X9_init_37 (0 + 1 + 1 + 1 + 1 + 1 + 1 + 1 + 1 + 1 + 1 + 1 + 1 + 1) _ _ _ _
  unfold wp_X9_init_37
  refine ⟨tkm 9 0 (by decide), fun o1 h1 => ?_⟩
  have h12 := h1.trans (show _ = some (tk 15 0) by decide +kernel)
  subst h12
  refine ⟨tk 15 0, rfl, (ar_15 0).mpr trivial, fun h => absurd h (by rw [al_15]; decide), fun _ => ⟨tkm 9 0 (by decide), fun o3 h3 => ?_⟩⟩
  have h32 := h3.trans (show _ = some (tk 15 0) by decide +kernel)
  subst h32
  refine ⟨tk 2 0, by decide +kernel, tkm 2 0 (by decide), ?_⟩
  unfold wp_X2_init
  refine ⟨tk 16 0, by decide +kernel, by rw [tkm 16 0 (by decide)]; rfl, al_16 0, tkm 2 0 (by decide), ?_⟩
  refine ⟨tk 18 0, by decide +kernel, by rw [tkm 18 0 (by decide)]; rfl, al_18 0, tkm 2 0 (by decide), ?_⟩
  refine ⟨tkm 2 0 (by decide), tkm 2 0 (by decide), ?_⟩
  rw [KV_v]
  refine ⟨tk 15 0, rfl, (cs_15 0 0).mpr trivial, 0, by decide, by rw [al_15]; decide, ?_⟩
  unfold wp_X9_init_37
  refine ⟨tkm 9 0 (by decide), fun o1 h1 => ?_⟩
  have h12 := h1.trans (show _ = some (tk 15 0) by decide +kernel)
  subst h12
  refine ⟨tk 15 0, rfl, (ar_15 0).mpr trivial, fun h => absurd h (by rw [al_15]; decide), fun _ => ⟨tkm 9 0 (by decide), fun o3 h3 => ?_⟩⟩
  have h32 := h3.trans (show _ = some (tk 15 0) by decide +kernel)
  subst h32
  refine ⟨tk 2 1, by decide +kernel, tkm 2 1 (by decide), ?_⟩
  unfold wp_X2_init
  refine ⟨tk 16 1, by decide +kernel, by rw [tkm 16 1 (by decide)]; rfl, al_16 1, tkm 2 1 (by decide), ?_⟩
  refine ⟨tk 18 1, by decide +kernel, by rw [tkm 18 1 (by decide)]; rfl, al_18 1, tkm 2 1 (by decide), ?_⟩
  refine ⟨tkm 2 1 (by decide), tkm 2 1 (by decide), ?_⟩
  rw [KV_v]
  refine ⟨tk 15 0, rfl, (cs_15 0 1).mpr trivial, 1, by decide, by rw [al_15]; decide, ?_⟩
  unfold wp_X9_init_37
  refine ⟨tkm 9 0 (by decide), fun o1 h1 => ?_⟩
  have h12 := h1.trans (show _ = some (tk 15 0) by decide +kernel)
  subst h12
  refine ⟨tk 15 0, rfl, (ar_15 0).mpr trivial, fun h => absurd h (by rw [al_15]; decide), fun _ => ⟨tkm 9 0 (by decide), fun o3 h3 => ?_⟩⟩
  have h32 := h3.trans (show _ = some (tk 15 0) by decide +kernel)
  subst h32
  refine ⟨tk 2 2, by decide +kernel, tkm 2 2 (by decide), ?_⟩
  unfold wp_X2_init
  refine ⟨tk 16 2, by decide +kernel, by rw [tkm 16 2 (by decide)]; rfl, al_16 2, tkm 2 2 (by decide), ?_⟩
  refine ⟨tk 18 2, by decide +kernel, by rw [tkm 18 2 (by decide)]; rfl, al_18 2, tkm 2 2 (by decide), ?_⟩
  refine ⟨tkm 2 2 (by decide), tkm 2 2 (by decide), ?_⟩
  rw [KV_v]
  refine ⟨tk 15 0, rfl, (cs_15 0 2).mpr trivial, 2, by decide, by rw [al_15]; decide, ?_⟩
  unfold wp_X9_init_37
  refine ⟨tkm 9 0 (by decide), fun o1 h1 => ?_⟩
  have h12 := h1.trans (show _ = some (tk 15 0) by decide +kernel)
  subst h12
  refine ⟨tk 15 0, rfl, (ar_15 0).mpr trivial, fun h => absurd h (by rw [al_15]; decide), fun _ => ⟨tkm 9 0 (by decide), fun o3 h3 => ?_⟩⟩
  have h32 := h3.trans (show _ = some (tk 15 0) by decide +kernel)
  subst h32
  refine ⟨tk 2 3, by decide +kernel, tkm 2 3 (by decide), ?_⟩
  unfold wp_X2_init
  refine ⟨tk 16 3, by decide +kernel, by rw [tkm 16 3 (by decide)]; rfl, al_16 3, tkm 2 3 (by decide), ?_⟩
  refine ⟨tk 18 3, by decide +kernel, by rw [tkm 18 3 (by decide)]; rfl, al_18 3, tkm 2 3 (by decide), ?_⟩
  refine ⟨tkm 2 3 (by decide), tkm 2 3 (by decide), ?_⟩
  rw [KV_v]
  refine ⟨tk 15 0, rfl, (cs_15 0 3).mpr trivial, 3, by decide, by rw [al_15]; decide, ?_⟩
  unfold wp_X9_init_37
  refine ⟨tkm 9 0 (by decide), fun o1 h1 => ?_⟩
  have h12 := h1.trans (show _ = some (tk 15 0) by decide +kernel)
  subst h12
  refine ⟨tk 15 0, rfl, (ar_15 0).mpr trivial, fun h => absurd h (by rw [al_15]; decide), fun _ => ⟨tkm 9 0 (by decide), fun o3 h3 => ?_⟩⟩
  have h32 := h3.trans (show _ = some (tk 15 0) by decide +kernel)
  subst h32
  refine ⟨tk 2 4, by decide +kernel, tkm 2 4 (by decide), ?_⟩
  unfold wp_X2_init
  refine ⟨tk 16 4, by decide +kernel, by rw [tkm 16 4 (by decide)]; rfl, al_16 4, tkm 2 4 (by decide), ?_⟩
  refine ⟨tk 18 4, by decide +kernel, by rw [tkm 18 4 (by decide)]; rfl, al_18 4, tkm 2 4 (by decide), ?_⟩
  refine ⟨tkm 2 4 (by decide), tkm 2 4 (by decide), ?_⟩
  rw [KV_v]
  refine ⟨tk 15 0, rfl, (cs_15 0 4).mpr trivial, 4, by decide, by rw [al_15]; decide, ?_⟩
  unfold wp_X9_init_37
  refine ⟨tkm 9 0 (by decide), fun o1 h1 => ?_⟩
  have h12 := h1.trans (show _ = some (tk 15 0) by decide +kernel)
  subst h12
  refine ⟨tk 15 0, rfl, (ar_15 0).mpr trivial, fun h => absurd h (by rw [al_15]; decide), fun _ => ⟨tkm 9 0 (by decide), fun o3 h3 => ?_⟩⟩
  have h32 := h3.trans (show _ = some (tk 15 0) by decide +kernel)
  subst h32
  refine ⟨tk 2 5, by decide +kernel, tkm 2 5 (by decide), ?_⟩
  unfold wp_X2_init
  refine ⟨tk 16 5, by decide +kernel, by rw [tkm 16 5 (by decide)]; rfl, al_16 5, tkm 2 5 (by decide), ?_⟩
  refine ⟨tk 18 5, by decide +kernel, by rw [tkm 18 5 (by decide)]; rfl, al_18 5, tkm 2 5 (by decide), ?_⟩
  refine ⟨tkm 2 5 (by decide), tkm 2 5 (by decide), ?_⟩
  rw [KV_v]
  refine ⟨tk 15 0, rfl, (cs_15 0 5).mpr trivial, 5, by decide, by rw [al_15]; decide, ?_⟩
  unfold wp_X9_init_37
  refine ⟨tkm 9 0 (by decide), fun o1 h1 => ?_⟩
  have h12 := h1.trans (show _ = some (tk 15 0) by decide +kernel)
  subst h12
  refine ⟨tk 15 0, rfl, (ar_15 0).mpr trivial, fun h => absurd h (by rw [al_15]; decide), fun _ => ⟨tkm 9 0 (by decide), fun o3 h3 => ?_⟩⟩
  have h32 := h3.trans (show _ = some (tk 15 0) by decide +kernel)
  subst h32
  refine ⟨tk 2 6, by decide +kernel, tkm 2 6 (by decide), ?_⟩
  unfold wp_X2_init
  refine ⟨tk 16 6, by decide +kernel, by rw [tkm 16 6 (by decide)]; rfl, al_16 6, tkm 2 6 (by decide), ?_⟩
  refine ⟨tk 18 6, by decide +kernel, by rw [tkm 18 6 (by decide)]; rfl, al_18 6, tkm 2 6 (by decide), ?_⟩
  refine ⟨tkm 2 6 (by decide), tkm 2 6 (by decide), ?_⟩
  rw [KV_v]
  refine ⟨tk 15 0, rfl, (cs_15 0 6).mpr trivial, 6, by decide, by rw [al_15]; decide, ?_⟩
  unfold wp_X9_init_37
  refine ⟨tkm 9 0 (by decide), fun o1 h1 => ?_⟩
  have h12 := h1.trans (show _ = some (tk 15 0) by decide +kernel)
  subst h12
  refine ⟨tk 15 0, rfl, (ar_15 0).mpr trivial, fun h => absurd h (by rw [al_15]; decide), fun _ => ⟨tkm 9 0 (by decide), fun o3 h3 => ?_⟩⟩
  have h32 := h3.trans (show _ = some (tk 15 0) by decide +kernel)
  subst h32
  refine ⟨tk 2 7, by decide +kernel, tkm 2 7 (by decide), ?_⟩
  unfold wp_X2_init
  refine ⟨tk 16 7, by decide +kernel, by rw [tkm 16 7 (by decide)]; rfl, al_16 7, tkm 2 7 (by decide), ?_⟩
  refine ⟨tk 18 7, by decide +kernel, by rw [tkm 18 7 (by decide)]; rfl, al_18 7, tkm 2 7 (by decide), ?_⟩
  refine ⟨tkm 2 7 (by decide), tkm 2 7 (by decide), ?_⟩
  rw [KV_v]
  refine ⟨tk 15 0, rfl, (cs_15 0 7).mpr trivial, 7, by decide, by rw [al_15]; decide, ?_⟩
  unfold wp_X9_init_37
  refine ⟨tkm 9 0 (by decide), fun o1 h1 => ?_⟩
  have h12 := h1.trans (show _ = some (tk 15 0) by decide +kernel)
  subst h12
  refine ⟨tk 15 0, rfl, (ar_15 0).mpr trivial, fun h => absurd h (by rw [al_15]; decide), fun _ => ⟨tkm 9 0 (by decide), fun o3 h3 => ?_⟩⟩
  have h32 := h3.trans (show _ = some (tk 15 0) by decide +kernel)
  subst h32
  refine ⟨tk 2 8, by decide +kernel, tkm 2 8 (by decide), ?_⟩
  unfold wp_X2_init
  refine ⟨tk 16 8, by decide +kernel, by rw [tkm 16 8 (by decide)]; rfl, al_16 8, tkm 2 8 (by decide), ?_⟩
  refine ⟨tk 18 8, by decide +kernel, by rw [tkm 18 8 (by decide)]; rfl, al_18 8, tkm 2 8 (by decide), ?_⟩
  refine ⟨tkm 2 8 (by decide), tkm 2 8 (by decide), ?_⟩
  rw [KV_v]
  refine ⟨tk 15 0, rfl, (cs_15 0 8).mpr trivial, 8, by decide, by rw [al_15]; decide, ?_⟩
  unfold wp_X9_init_37
  refine ⟨tkm 9 0 (by decide), fun o1 h1 => ?_⟩
  have h12 := h1.trans (show _ = some (tk 15 0) by decide +kernel)
  subst h12
  refine ⟨tk 15 0, rfl, (ar_15 0).mpr trivial, fun h => absurd h (by rw [al_15]; decide), fun _ => ⟨tkm 9 0 (by decide), fun o3 h3 => ?_⟩⟩
  have h32 := h3.trans (show _ = some (tk 15 0) by decide +kernel)
  subst h32
  refine ⟨tk 2 9, by decide +kernel, tkm 2 9 (by decide), ?_⟩
  unfold wp_X2_init
  refine ⟨tk 16 9, by decide +kernel, by rw [tkm 16 9 (by decide)]; rfl, al_16 9, tkm 2 9 (by decide), ?_⟩
  refine ⟨tk 18 9, by decide +kernel, by rw [tkm 18 9 (by decide)]; rfl, al_18 9, tkm 2 9 (by decide), ?_⟩
  refine ⟨tkm 2 9 (by decide), tkm 2 9 (by decide), ?_⟩
  rw [KV_v]
  refine ⟨tk 15 0, rfl, (cs_15 0 9).mpr trivial, 9, by decide, by rw [al_15]; decide, ?_⟩
  unfold wp_X9_init_37
  refine ⟨tkm 9 0 (by decide), fun o1 h1 => ?_⟩
  have h12 := h1.trans (show _ = some (tk 15 0) by decide +kernel)
  subst h12
  refine ⟨tk 15 0, rfl, (ar_15 0).mpr trivial, fun h => absurd h (by rw [al_15]; decide), fun _ => ⟨tkm 9 0 (by decide), fun o3 h3 => ?_⟩⟩
  have h32 := h3.trans (show _ = some (tk 15 0) by decide +kernel)
  subst h32
  refine ⟨tk 2 10, by decide +kernel, tkm 2 10 (by decide), ?_⟩
  unfold wp_X2_init
  refine ⟨tk 16 10, by decide +kernel, by rw [tkm 16 10 (by decide)]; rfl, al_16 10, tkm 2 10 (by decide), ?_⟩
  refine ⟨tk 18 10, by decide +kernel, by rw [tkm 18 10 (by decide)]; rfl, al_18 10, tkm 2 10 (by decide), ?_⟩
  refine ⟨tkm 2 10 (by decide), tkm 2 10 (by decide), ?_⟩
  rw [KV_v]
  refine ⟨tk 15 0, rfl, (cs_15 0 10).mpr trivial, 10, by decide, by rw [al_15]; decide, ?_⟩
  unfold wp_X9_init_37
  refine ⟨tkm 9 0 (by decide), fun o1 h1 => ?_⟩
  have h12 := h1.trans (show _ = some (tk 15 0) by decide +kernel)
  subst h12
  refine ⟨tk 15 0, rfl, (ar_15 0).mpr trivial, fun h => absurd h (by rw [al_15]; decide), fun _ => ⟨tkm 9 0 (by decide), fun o3 h3 => ?_⟩⟩
  have h32 := h3.trans (show _ = some (tk 15 0) by decide +kernel)
  subst h32
  refine ⟨tk 2 11, by decide +kernel, tkm 2 11 (by decide), ?_⟩
  unfold wp_X2_init
  refine ⟨tk 16 11, by decide +kernel, by rw [tkm 16 11 (by decide)]; rfl, al_16 11, tkm 2 11 (by decide), ?_⟩
  refine ⟨tk 18 11, by decide +kernel, by rw [tkm 18 11 (by decide)]; rfl, al_18 11, tkm 2 11 (by decide), ?_⟩
  refine ⟨tkm 2 11 (by decide), tkm 2 11 (by decide), ?_⟩
  rw [KV_v]
  refine ⟨tk 15 0, rfl, (cs_15 0 11).mpr trivial, 11, by decide, by rw [al_15]; decide, ?_⟩
  unfold wp_X9_init_37
  refine ⟨tkm 9 0 (by decide), fun o1 h1 => ?_⟩
  have h12 := h1.trans (show _ = some (tk 15 0) by decide +kernel)
  subst h12
  refine ⟨tk 15 0, rfl, (ar_15 0).mpr trivial, fun _ => ?_, fun h => absurd (by rw [al_15]; decide) h⟩
  rw [KV_v]
  refine ⟨tk 10 0, by decide +kernel, tkm 10 0 (by decide), ?_⟩
  unfold wp_X10_init
  refine ⟨tk 11 0, by decide +kernel, by rw [tkm 11 0 (by decide)]; rfl, al_m0, tkm 10 0 (by decide), ?_⟩
  refine ⟨tk 11 1, by decide +kernel, by rw [tkm 11 1 (by decide)]; rfl, al_m1, tkm 10 0 (by decide), ?_⟩
  refine ⟨tk 11 2, by decide +kernel, by rw [tkm 11 2 (by decide)]; rfl, al_m2, tkm 10 0 (by decide), ?_⟩
  refine ⟨tk 11 3, by decide +kernel, by rw [tkm 11 3 (by decide)]; rfl, al_m3, tkm 10 0 (by decide), ?_⟩
  refine ⟨tk 11 4, by decide +kernel, by rw [tkm 11 4 (by decide)]; rfl, al_m4, tkm 10 0 (by decide), ?_⟩
  refine ⟨tk 11 5, by decide +kernel, by rw [tkm 11 5 (by decide)]; rfl, al_m5, tkm 10 0 (by decide), ?_⟩
  refine ⟨tk 11 6, by decide +kernel, by rw [tkm 11 6 (by decide)]; rfl, al_m6, tkm 10 0 (by decide), ?_⟩
  refine ⟨tk 11 7, by decide +kernel, by rw [tkm 11 7 (by decide)]; rfl, al_m7, tkm 10 0 (by decide), ?_⟩
  refine ⟨tk 11 8, by decide +kernel, by rw [tkm 11 8 (by decide)]; rfl, al_m8, tkm 10 0 (by decide), ?_⟩
  refine ⟨tk 11 9, by decide +kernel, by rw [tkm 11 9 (by decide)]; rfl, al_m9, tkm 10 0 (by decide), ?_⟩
  refine ⟨tk 11 10, by decide +kernel, by rw [tkm 11 10 (by decide)]; rfl, al_m10, tkm 10 0 (by decide), ?_⟩
  refine ⟨tk 11 11, by decide +kernel, by rw [tkm 11 11 (by decide)]; rfl, al_m11, tkm 10 0 (by decide), ?_⟩
  refine ⟨tk 11 12, by decide +kernel, by rw [tkm 11 12 (by decide)]; rfl, al_m12, tkm 10 0 (by decide), ?_⟩
  refine ⟨tk 13 13, by decide +kernel, by rw [tkm 13 13 (by decide)]; rfl, al_m13, tkm 10 0 (by decide), ?_⟩
  refine ⟨tk 11 15, by decide +kernel, by rw [tkm 11 15 (by decide)]; rfl, al_m15, tkm 10 0 (by decide), ?_⟩
  refine ⟨tk 11 16, by decide +kernel, by rw [tkm 11 16 (by decide)]; rfl, al_m16, tkm 10 0 (by decide), ?_⟩
  refine ⟨tk 11 17, by decide +kernel, by rw [tkm 11 17 (by decide)]; rfl, al_m17, tkm 10 0 (by decide), ?_⟩
  refine ⟨tk 11 18, by decide +kernel, by rw [tkm 11 18 (by decide)]; rfl, al_m18, tkm 10 0 (by decide), ?_⟩
  refine ⟨tk 11 19, by decide +kernel, by rw [tkm 11 19 (by decide)]; rfl, al_m19, tkm 10 0 (by decide), ?_⟩
  refine ⟨tk 11 20, by decide +kernel, by rw [tkm 11 20 (by decide)]; rfl, al_m20, tkm 10 0 (by decide), ?_⟩
  refine ⟨tk 13 21, by decide +kernel, by rw [tkm 13 21 (by decide)]; rfl, al_m21, tkm 10 0 (by decide), ?_⟩
  refine ⟨tk 13 22, by decide +kernel, by rw [tkm 13 22 (by decide)]; rfl, al_m22, tkm 10 0 (by decide), ?_⟩
  refine ⟨tk 11 23, by decide +kernel, by rw [tkm 11 23 (by decide)]; rfl, al_m23, tkm 10 0 (by decide), ?_⟩
  refine ⟨tk 13 24, by decide +kernel, by rw [tkm 13 24 (by decide)]; rfl, al_m24, tkm 10 0 (by decide), ?_⟩
  refine ⟨tk 11 25, by decide +kernel, by rw [tkm 11 25 (by decide)]; rfl, al_m25, tkm 10 0 (by decide), ?_⟩
  refine ⟨tk 12 26, by decide +kernel, by rw [tkm 12 26 (by decide)]; rfl, al_m26, tkm 10 0 (by decide), ?_⟩
  refine ⟨tk 11 28, by decide +kernel, by rw [tkm 11 28 (by decide)]; rfl, al_m28, tkm 10 0 (by decide), ?_⟩
  refine ⟨tk 11 29, by decide +kernel, by rw [tkm 11 29 (by decide)]; rfl, al_m29, tkm 10 0 (by decide), ?_⟩
  refine ⟨tk 11 30, by decide +kernel, by rw [tkm 11 30 (by decide)]; rfl, al_m30, tkm 10 0 (by decide), ?_⟩
  refine ⟨tk 11 31, by decide +kernel, by rw [tkm 11 31 (by decide)]; rfl, al_m31, tkm 10 0 (by decide), ?_⟩
  refine ⟨tk 11 32, by decide +kernel, by rw [tkm 11 32 (by decide)]; rfl, al_m32, tkm 10 0 (by decide), ?_⟩
  refine ⟨tk 11 33, by decide +kernel, by rw [tkm 11 33 (by decide)]; rfl, al_m33, tkm 10 0 (by decide), ?_⟩
  refine ⟨tk 11 34, by decide +kernel, by rw [tkm 11 34 (by decide)]; rfl, al_m34, tkm 10 0 (by decide), ?_⟩
  refine ⟨tk 11 35, by decide +kernel, by rw [tkm 11 35 (by decide)]; rfl, al_m35, tkm 10 0 (by decide), ?_⟩
  refine ⟨tk 11 36, by decide +kernel, by rw [tkm 11 36 (by decide)]; rfl, al_m36, tkm 10 0 (by decide), ?_⟩
  refine ⟨tk 11 37, by decide +kernel, by rw [tkm 11 37 (by decide)]; rfl, al_m37, tkm 10 0 (by decide), ?_⟩
  refine ⟨tk 11 38, by decide +kernel, by rw [tkm 11 38 (by decide)]; rfl, al_m38, tkm 10 0 (by decide), ?_⟩
  refine ⟨tk 11 39, by decide +kernel, by rw [tkm 11 39 (by decide)]; rfl, al_m39, tkm 10 0 (by decide), ?_⟩
  refine ⟨tk 11 40, by decide +kernel, by rw [tkm 11 40 (by decide)]; rfl, al_m40, tkm 10 0 (by decide), ?_⟩
  refine ⟨tk 11 42, by decide +kernel, by rw [tkm 11 42 (by decide)]; rfl, al_m42, tkm 10 0 (by decide), ?_⟩
  refine ⟨tk 11 43, by decide +kernel, by rw [tkm 11 43 (by decide)]; rfl, al_m43, tkm 10 0 (by decide), ?_⟩
  refine ⟨tk 11 44, by decide +kernel, by rw [tkm 11 44 (by decide)]; rfl, al_m44, tkm 10 0 (by decide), ?_⟩
  refine ⟨tk 11 45, by decide +kernel, by rw [tkm 11 45 (by decide)]; rfl, al_m45, tkm 10 0 (by decide), ?_⟩
  refine ⟨tk 11 46, by decide +kernel, by rw [tkm 11 46 (by decide)]; rfl, al_m46, tkm 10 0 (by decide), ?_⟩
  refine ⟨tk 11 48, by decide +kernel, by rw [tkm 11 48 (by decide)]; rfl, al_m48, tkm 10 0 (by decide), ?_⟩
  refine ⟨tk 11 49, by decide +kernel, by rw [tkm 11 49 (by decide)]; rfl, al_m49, tkm 10 0 (by decide), ?_⟩
  refine ⟨tk 11 50, by decide +kernel, by rw [tkm 11 50 (by decide)]; rfl, al_m50, tkm 10 0 (by decide), ?_⟩
  refine ⟨tk 11 51, by decide +kernel, by rw [tkm 11 51 (by decide)]; rfl, al_m51, tkm 10 0 (by decide), ?_⟩
  refine ⟨tk 11 52, by decide +kernel, by rw [tkm 11 52 (by decide)]; rfl, al_m52, tkm 10 0 (by decide), ?_⟩
  refine ⟨tk 11 53, by decide +kernel, by rw [tkm 11 53 (by decide)]; rfl, al_m53, tkm 10 0 (by decide), ?_⟩
  refine ⟨tk 11 60, by decide +kernel, by rw [tkm 11 60 (by decide)]; rfl, al_m60, tkm 10 0 (by decide), ?_⟩
  refine ⟨tk 11 61, by decide +kernel, by rw [tkm 11 61 (by decide)]; rfl, al_m61, tkm 10 0 (by decide), ?_⟩
  refine ⟨(0 + 1 + 1 + 1 + 1 + 1 + 1 + 1 + 1 + 1 + 1 + 1 + 1 + 1), ?_⟩
  unfold wp_X10_init_420
  refine ⟨fun h => absurd h (by decide), fun _ => ⟨tkm 10 0 (by decide), fun o1 h1 => ?_⟩⟩
  have h12 := h1.trans (show _ = some (tk 11 11) by decide +kernel)
  subst h12
  refine ⟨tk 11 11, rfl, by rw [tkm 11 11 (by decide)]; rfl, 0, by decide, by rw [al_m11]; decide, ?_⟩
  unfold wp_X10_init_420
  refine ⟨fun h => absurd h (by decide), fun _ => ⟨tkm 10 0 (by decide), fun o1 h1 => ?_⟩⟩
  have h12 := h1.trans (show _ = some (tk 11 11) by decide +kernel)
  subst h12
  refine ⟨tk 11 11, rfl, by rw [tkm 11 11 (by decide)]; rfl, 1, by decide, by rw [al_m11]; decide, ?_⟩
  unfold wp_X10_init_420
  refine ⟨fun h => absurd h (by decide), fun _ => ⟨tkm 10 0 (by decide), fun o1 h1 => ?_⟩⟩
  have h12 := h1.trans (show _ = some (tk 11 11) by decide +kernel)
  subst h12
  refine ⟨tk 11 11, rfl, by rw [tkm 11 11 (by decide)]; rfl, 2, by decide, by rw [al_m11]; decide, ?_⟩
  unfold wp_X10_init_420
  refine ⟨fun h => absurd h (by decide), fun _ => ⟨tkm 10 0 (by decide), fun o1 h1 => ?_⟩⟩
  have h12 := h1.trans (show _ = some (tk 11 11) by decide +kernel)
  subst h12
  refine ⟨tk 11 11, rfl, by rw [tkm 11 11 (by decide)]; rfl, 3, by decide, by rw [al_m11]; decide, ?_⟩
  unfold wp_X10_init_420
  refine ⟨fun h => absurd h (by decide), fun _ => ⟨tkm 10 0 (by decide), fun o1 h1 => ?_⟩⟩
  have h12 := h1.trans (show _ = some (tk 11 11) by decide +kernel)
  subst h12
  refine ⟨tk 11 11, rfl, by rw [tkm 11 11 (by decide)]; rfl, 4, by decide, by rw [al_m11]; decide, ?_⟩
  unfold wp_X10_init_420
  refine ⟨fun h => absurd h (by decide), fun _ => ⟨tkm 10 0 (by decide), fun o1 h1 => ?_⟩⟩
  have h12 := h1.trans (show _ = some (tk 11 11) by decide +kernel)
  subst h12
  refine ⟨tk 11 11, rfl, by rw [tkm 11 11 (by decide)]; rfl, 5, by decide, by rw [al_m11]; decide, ?_⟩
  unfold wp_X10_init_420
  refine ⟨fun h => absurd h (by decide), fun _ => ⟨tkm 10 0 (by decide), fun o1 h1 => ?_⟩⟩
  have h12 := h1.trans (show _ = some (tk 11 11) by decide +kernel)
  subst h12
  refine ⟨tk 11 11, rfl, by rw [tkm 11 11 (by decide)]; rfl, 6, by decide, by rw [al_m11]; decide, ?_⟩
  unfold wp_X10_init_420
  refine ⟨fun h => absurd h (by decide), fun _ => ⟨tkm 10 0 (by decide), fun o1 h1 => ?_⟩⟩
  have h12 := h1.trans (show _ = some (tk 11 11) by decide +kernel)
  subst h12
  refine ⟨tk 11 11, rfl, by rw [tkm 11 11 (by decide)]; rfl, 7, by decide, by rw [al_m11]; decide, ?_⟩
  unfold wp_X10_init_420
  refine ⟨fun h => absurd h (by decide), fun _ => ⟨tkm 10 0 (by decide), fun o1 h1 => ?_⟩⟩
  have h12 := h1.trans (show _ = some (tk 11 11) by decide +kernel)
  subst h12
  refine ⟨tk 11 11, rfl, by rw [tkm 11 11 (by decide)]; rfl, 8, by decide, by rw [al_m11]; decide, ?_⟩
  unfold wp_X10_init_420
  refine ⟨fun h => absurd h (by decide), fun _ => ⟨tkm 10 0 (by decide), fun o1 h1 => ?_⟩⟩
  have h12 := h1.trans (show _ = some (tk 11 11) by decide +kernel)
  subst h12
  refine ⟨tk 11 11, rfl, by rw [tkm 11 11 (by decide)]; rfl, 9, by decide, by rw [al_m11]; decide, ?_⟩
  unfold wp_X10_init_420
  refine ⟨fun h => absurd h (by decide), fun _ => ⟨tkm 10 0 (by decide), fun o1 h1 => ?_⟩⟩
  have h12 := h1.trans (show _ = some (tk 11 11) by decide +kernel)
  subst h12
  refine ⟨tk 11 11, rfl, by rw [tkm 11 11 (by decide)]; rfl, 10, by decide, by rw [al_m11]; decide, ?_⟩
  unfold wp_X10_init_420
  refine ⟨fun h => absurd h (by decide), fun _ => ⟨tkm 10 0 (by decide), fun o1 h1 => ?_⟩⟩
  have h12 := h1.trans (show _ = some (tk 11 11) by decide +kernel)
  subst h12
  refine ⟨tk 11 11, rfl, by rw [tkm 11 11 (by decide)]; rfl, 11, by decide, by rw [al_m11]; decide, ?_⟩
  unfold wp_X10_init_420
  refine ⟨fun _ => ?_, fun h => absurd (by decide) h⟩
  refine ⟨(0 + 1 + 1 + 1 + 1 + 1), ?_⟩
  unfold wp_X10_init_442
  refine ⟨fun h => absurd h (by decide), fun _ => ⟨tkm 10 0 (by decide), fun o1 h1 => ?_⟩⟩
  have h12 := h1.trans (show _ = some (tk 11 12) by decide +kernel)
  subst h12
  refine ⟨tk 11 12, rfl, by rw [tkm 11 12 (by decide)]; rfl, 0, by decide, by rw [al_m12]; decide, ?_⟩
  unfold wp_X10_init_442
  refine ⟨fun h => absurd h (by decide), fun _ => ⟨tkm 10 0 (by decide), fun o1 h1 => ?_⟩⟩
  have h12 := h1.trans (show _ = some (tk 11 12) by decide +kernel)
  subst h12
  refine ⟨tk 11 12, rfl, by rw [tkm 11 12 (by decide)]; rfl, 1, by decide, by rw [al_m12]; decide, ?_⟩
  unfold wp_X10_init_442
  refine ⟨fun h => absurd h (by decide), fun _ => ⟨tkm 10 0 (by decide), fun o1 h1 => ?_⟩⟩
  have h12 := h1.trans (show _ = some (tk 11 12) by decide +kernel)
  subst h12
  refine ⟨tk 11 12, rfl, by rw [tkm 11 12 (by decide)]; rfl, 2, by decide, by rw [al_m12]; decide, ?_⟩
  unfold wp_X10_init_442
  refine ⟨fun h => absurd h (by decide), fun _ => ⟨tkm 10 0 (by decide), fun o1 h1 => ?_⟩⟩
  have h12 := h1.trans (show _ = some (tk 11 12) by decide +kernel)
  subst h12
  refine ⟨tk 11 12, rfl, by rw [tkm 11 12 (by decide)]; rfl, 3, by decide, by rw [al_m12]; decide, ?_⟩
  unfold wp_X10_init_442
  refine ⟨fun _ => ?_, fun h => absurd (by decide) h⟩
  rw [KV_v]
  refine ⟨tk 24 0, by decide +kernel, by rw [tkm 24 0 (by decide)]; rfl, al_24 0, ?_⟩
  exact h9
