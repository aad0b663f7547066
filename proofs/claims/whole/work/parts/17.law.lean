/-! The law's walk, by program. -/
def LX (G : Cx) (L : Nat) (xs : Nat → Int32) : Prop :=
  match G with
  | (_, _, _, _, s, _, _, _, _, _, base, bS, _, _, _, _) => va_X bS L xs s s.heap ∧ bS < s.heap.size ∧ bS < base ∧ L < 2 ^ 31
def HRT (G : Cx) (Q : State → Prop) : Prop := ∀ (pc : Nat) (lo : Lo) (σ : Sg) (k n : Nat), decode cL_law pc = .ok (.ireturn, 1) → k ≤ 700684 → n ≤ 6994052 → V G Q pc lo [.int 1] σ k n
theorem law1 {G : Cx} {Q : State → Prop} {pc : Nat} {lo : Lo} {σ : Sg} {k n : Nat} {x : Int32} (hret : HRT G Q) (d : decode cL_law pc = .ok (.ireturn, 1)) (h : x = 1) (hk : k ≤ 700684) (hn : n ≤ 6994052) : V G Q pc lo [.int x] σ k n := by
  subst h
  exact hret pc lo σ k n d hk hn
theorem V_sld {L9 : Launch} {G : Cx} {Q : State → Prop} {pc : Nat} {lo : Lo} {r : List Value} {σ : Sg} {k n : Nat} {y : MethodName} {cc : ByteArray} {mL : Nat} {ret : Option FieldType} {hh : List (Nat × Nat × Nat × Nat)} {rm : Room} {L j : Nat} {xs : Nat → Int32} {i : Int32} (hG : CX L9 G y cc mL ret hh rm) (hX : LX G L xs) (d : decode cc pc = .ok (.iaload, 1)) (hi : i = nI j) (hj : j < L) (kk : V G Q (pc + 1) lo (.int (xs j) :: r) σ k n) : V G Q pc lo (.int i :: .ref 25 :: r) σ k n := by
  obtain ⟨l, p, e, R, s, m, args, below, meth, c', base, bS, D, cA, ad0, σ0⟩ := G
  obtain ⟨hx, hb, -, hown, hts, -, -, -, -, -, -, hEv⟩ := hG
  obtain ⟨h1, h2, h3, h4⟩ := hX
  intro ad H locs ls hR hS hlen hl ho hs hx0
  subst hi
  have h9 := kk ad H locs ls hR hS hlen hl ho (oks_c trivial (oks_tl (oks_tl hs))) hx0
  have e9 : cv ad (.ref 25) = .ref bS := congrArg Value.ref hR.2.2.2.2
  have e8 : (nI j).toNatClampNeg = j := nI_clamp (Nat.lt_trans hj h4)
  rw [List.map_cons, List.map_cons, e9]
  refine va_sld hx hb h1 h2 (Nat.not_le.mpr h3) hS (vp_in_nI hj h4) d ?_
  rw [e8]
  exact h9
theorem V_slen {L9 : Launch} {G : Cx} {Q : State → Prop} {pc : Nat} {lo : Lo} {r : List Value} {σ : Sg} {k n : Nat} {y : MethodName} {cc : ByteArray} {mL : Nat} {ret : Option FieldType} {hh : List (Nat × Nat × Nat × Nat)} {rm : Room} {L : Nat} {xs : Nat → Int32} (hG : CX L9 G y cc mL ret hh rm) (hX : LX G L xs) (d : decode cc pc = .ok (.arraylength, 1)) (kk : V G Q (pc + 1) lo (.int (nI L) :: r) σ k n) : V G Q pc lo (.ref 25 :: r) σ k n := by
  obtain ⟨l, p, e, R, s, m, args, below, meth, c', base, bS, D, cA, ad0, σ0⟩ := G
  obtain ⟨hx, hb, -, hown, hts, -, -, -, -, -, -, hEv⟩ := hG
  obtain ⟨h1, h2, h3, h4⟩ := hX
  intro ad H locs ls hR hS hlen hl ho hs hx0
  have h9 := kk ad H locs ls hR hS hlen hl ho (oks_c trivial (oks_tl hs)) hx0
  have e9 : cv ad (.ref 25) = .ref bS := congrArg Value.ref hR.2.2.2.2
  rw [List.map_cons, e9]
  exact va_slen hx hb h1 h2 (Nat.not_le.mpr h3) hS d h9
def wp_L_law_2588 (L : Nat) (xs : Nat → Int32) (K23 : Nat → Nat → Nat → Int32 → Sg → Prop) (v1 : Nat) (v2 : Nat) (v3 : Nat) (v4 : Int32) (σ : Sg) : Prop := (K23 v1 v2 v3 (v4 + 7) σ)
set_option maxRecDepth 100000 in
set_option maxHeartbeats 4000000 in
theorem wv_L_law_2588 {L9 : Launch} {G : Cx} {Q : State → Prop} {L : Nat} {xs : Nat → Int32} (hl : L9.stackTraces = false) (hG : CX L9 G yL_law cL_law 7 (some .boolean) [] { frames := 13, cells := 700684, slots := 6994052, locals := 496 }) (hX : LX G L xs) (hret : HRT G Q) {K23 : Nat → Nat → Nat → Int32 → Sg → Prop} (k n : Nat) (hk : k + 8 ≤ 4206) (hn : n + 57 ≤ 30972) (hK23 : ∀ (v1 : Nat) (v2 : Nat) (v3 : Nat) (v4 : Int32) (ζ : Sg), K23 v1 v2 v3 v4 ζ → V G Q 23 [some (.ref 25), some (.ref v1), some (.ref v2), some (.ref v3), some (.int v4), none, none] [] ζ (k + 8) (n + 57)) : ∀ (v1 : Nat) (v2 : Nat) (v3 : Nat) (v4 : Int32) (σ : Sg), wp_L_law_2588 L xs K23 v1 v2 v3 v4 σ → V G Q 2588 [some (.ref 25), some (.ref v1), some (.ref v2), some (.ref v3), some (.int v4), none, none] [] σ (k + 8) (n + 57) := by
  intro v1 v2 v3 v4 σ h
  unfold wp_L_law_2588 at h
  refine V_iincv (c := 7) hG dL_law_2588 rfl (by decide) (hpV rfl rfl) ?_
  refine V_goto (tgt := 23) hG dL_law_2591 (by decide) ?_
  refine V_forget (lo' := [some (.ref 25), some (.ref v1), some (.ref v2), some (.ref v3), some (.int (v4 + 7)), none, none]) ⟨rfl, ⟨rfl, ⟨rfl, ⟨rfl, ⟨rfl, trivial⟩⟩⟩⟩⟩ ?_
  refine V_widen (k' := k + 8) (n' := n + 57) (by first | exact Nat.le_of_ble_eq_true rfl | omega | (dsimp only; omega)) (by first | exact Nat.le_of_ble_eq_true rfl | omega | (dsimp only; omega)) ?_
  exact hK23 _ _ _ _ _ h
def wp_L_law_349 (L : Nat) (xs : Nat → Int32) (K23 : Nat → Nat → Nat → Int32 → Sg → Prop) (v1 : Nat) (v2 : Nat) (v3 : Nat) (v4 : Int32) (σ : Sg) : Prop := (wp_L_law_2588 L xs K23 v1 v2 v3 v4 σ)
set_option maxRecDepth 100000 in
set_option maxHeartbeats 4000000 in
theorem wv_L_law_349 {L9 : Launch} {G : Cx} {Q : State → Prop} {L : Nat} {xs : Nat → Int32} (hl : L9.stackTraces = false) (hG : CX L9 G yL_law cL_law 7 (some .boolean) [] { frames := 13, cells := 700684, slots := 6994052, locals := 496 }) (hX : LX G L xs) (hret : HRT G Q) {K23 : Nat → Nat → Nat → Int32 → Sg → Prop} (k n : Nat) (hk : k + 8 ≤ 4206) (hn : n + 57 ≤ 30972) (hK23 : ∀ (v1 : Nat) (v2 : Nat) (v3 : Nat) (v4 : Int32) (ζ : Sg), K23 v1 v2 v3 v4 ζ → V G Q 23 [some (.ref 25), some (.ref v1), some (.ref v2), some (.ref v3), some (.int v4), none, none] [] ζ (k + 8) (n + 57)) : ∀ (v1 : Nat) (v2 : Nat) (v3 : Nat) (v4 : Int32) (σ : Sg), wp_L_law_349 L xs K23 v1 v2 v3 v4 σ → V G Q 349 [some (.ref 25), some (.ref v1), some (.ref v2), some (.ref v3), some (.int v4), none, none] [] σ (k + 8) (n + 45) := by
  intro v1 v2 v3 v4 σ h
  unfold wp_L_law_349 at h
  refine V_goto (tgt := 2588) hG dL_law_349 (by decide) ?_
  refine V_forget (lo' := [some (.ref 25), some (.ref v1), some (.ref v2), some (.ref v3), some (.int v4), none, none]) ⟨rfl, ⟨rfl, ⟨rfl, ⟨rfl, ⟨rfl, trivial⟩⟩⟩⟩⟩ ?_
  refine V_widen (k' := k + 8) (n' := n + 57) (by first | exact Nat.le_of_ble_eq_true rfl | omega | (dsimp only; omega)) (by first | exact Nat.le_of_ble_eq_true rfl | omega | (dsimp only; omega)) ?_
  exact wv_L_law_2588 hl hG hX hret k n (by omega) (by omega) hK23 _ _ _ _ _ h
def wp_L_law_441 (L : Nat) (xs : Nat → Int32) (K23 : Nat → Nat → Nat → Int32 → Sg → Prop) (v1 : Nat) (v2 : Nat) (v3 : Nat) (v4 : Int32) (σ : Sg) : Prop := (wp_L_law_2588 L xs K23 v1 v2 v3 v4 σ)
set_option maxRecDepth 100000 in
set_option maxHeartbeats 4000000 in
theorem wv_L_law_441 {L9 : Launch} {G : Cx} {Q : State → Prop} {L : Nat} {xs : Nat → Int32} (hl : L9.stackTraces = false) (hG : CX L9 G yL_law cL_law 7 (some .boolean) [] { frames := 13, cells := 700684, slots := 6994052, locals := 496 }) (hX : LX G L xs) (hret : HRT G Q) {K23 : Nat → Nat → Nat → Int32 → Sg → Prop} (k n : Nat) (hk : k + 8 ≤ 4206) (hn : n + 57 ≤ 30972) (hK23 : ∀ (v1 : Nat) (v2 : Nat) (v3 : Nat) (v4 : Int32) (ζ : Sg), K23 v1 v2 v3 v4 ζ → V G Q 23 [some (.ref 25), some (.ref v1), some (.ref v2), some (.ref v3), some (.int v4), none, none] [] ζ (k + 8) (n + 57)) : ∀ (v1 : Nat) (v2 : Nat) (v3 : Nat) (v4 : Int32) (σ : Sg), wp_L_law_441 L xs K23 v1 v2 v3 v4 σ → V G Q 441 [some (.ref 25), some (.ref v1), some (.ref v2), some (.ref v3), some (.int v4), none, none] [] σ (k + 7) (n + 39) := by
  intro v1 v2 v3 v4 σ h
  unfold wp_L_law_441 at h
  refine V_goto (tgt := 2588) hG dL_law_441 (by decide) ?_
  refine V_forget (lo' := [some (.ref 25), some (.ref v1), some (.ref v2), some (.ref v3), some (.int v4), none, none]) ⟨rfl, ⟨rfl, ⟨rfl, ⟨rfl, ⟨rfl, trivial⟩⟩⟩⟩⟩ ?_
  refine V_widen (k' := k + 8) (n' := n + 57) (by first | exact Nat.le_of_ble_eq_true rfl | omega | (dsimp only; omega)) (by first | exact Nat.le_of_ble_eq_true rfl | omega | (dsimp only; omega)) ?_
  exact wv_L_law_2588 hl hG hX hret k n (by omega) (by omega) hK23 _ _ _ _ _ h
def wp_L_law_509 (L : Nat) (xs : Nat → Int32) (K23 : Nat → Nat → Nat → Int32 → Sg → Prop) (v1 : Nat) (v2 : Nat) (v3 : Nat) (v4 : Int32) (σ : Sg) : Prop := (wp_L_law_2588 L xs K23 v1 v2 v3 v4 σ)
set_option maxRecDepth 100000 in
set_option maxHeartbeats 4000000 in
theorem wv_L_law_509 {L9 : Launch} {G : Cx} {Q : State → Prop} {L : Nat} {xs : Nat → Int32} (hl : L9.stackTraces = false) (hG : CX L9 G yL_law cL_law 7 (some .boolean) [] { frames := 13, cells := 700684, slots := 6994052, locals := 496 }) (hX : LX G L xs) (hret : HRT G Q) {K23 : Nat → Nat → Nat → Int32 → Sg → Prop} (k n : Nat) (hk : k + 8 ≤ 4206) (hn : n + 57 ≤ 30972) (hK23 : ∀ (v1 : Nat) (v2 : Nat) (v3 : Nat) (v4 : Int32) (ζ : Sg), K23 v1 v2 v3 v4 ζ → V G Q 23 [some (.ref 25), some (.ref v1), some (.ref v2), some (.ref v3), some (.int v4), none, none] [] ζ (k + 8) (n + 57)) : ∀ (v1 : Nat) (v2 : Nat) (v3 : Nat) (v4 : Int32) (σ : Sg), wp_L_law_509 L xs K23 v1 v2 v3 v4 σ → V G Q 509 [some (.ref 25), some (.ref v1), some (.ref v2), some (.ref v3), some (.int v4), none, none] [] σ (k + 2) (n + 12) := by
  intro v1 v2 v3 v4 σ h
  unfold wp_L_law_509 at h
  refine V_goto (tgt := 2588) hG dL_law_509 (by decide) ?_
  refine V_forget (lo' := [some (.ref 25), some (.ref v1), some (.ref v2), some (.ref v3), some (.int v4), none, none]) ⟨rfl, ⟨rfl, ⟨rfl, ⟨rfl, ⟨rfl, trivial⟩⟩⟩⟩⟩ ?_
  refine V_widen (k' := k + 8) (n' := n + 57) (by first | exact Nat.le_of_ble_eq_true rfl | omega | (dsimp only; omega)) (by first | exact Nat.le_of_ble_eq_true rfl | omega | (dsimp only; omega)) ?_
  exact wv_L_law_2588 hl hG hX hret k n (by omega) (by omega) hK23 _ _ _ _ _ h
def wp_L_law_577 (L : Nat) (xs : Nat → Int32) (K23 : Nat → Nat → Nat → Int32 → Sg → Prop) (v1 : Nat) (v2 : Nat) (v3 : Nat) (v4 : Int32) (σ : Sg) : Prop := (wp_L_law_2588 L xs K23 v1 v2 v3 v4 σ)
set_option maxRecDepth 100000 in
set_option maxHeartbeats 4000000 in
theorem wv_L_law_577 {L9 : Launch} {G : Cx} {Q : State → Prop} {L : Nat} {xs : Nat → Int32} (hl : L9.stackTraces = false) (hG : CX L9 G yL_law cL_law 7 (some .boolean) [] { frames := 13, cells := 700684, slots := 6994052, locals := 496 }) (hX : LX G L xs) (hret : HRT G Q) {K23 : Nat → Nat → Nat → Int32 → Sg → Prop} (k n : Nat) (hk : k + 8 ≤ 4206) (hn : n + 57 ≤ 30972) (hK23 : ∀ (v1 : Nat) (v2 : Nat) (v3 : Nat) (v4 : Int32) (ζ : Sg), K23 v1 v2 v3 v4 ζ → V G Q 23 [some (.ref 25), some (.ref v1), some (.ref v2), some (.ref v3), some (.int v4), none, none] [] ζ (k + 8) (n + 57)) : ∀ (v1 : Nat) (v2 : Nat) (v3 : Nat) (v4 : Int32) (σ : Sg), wp_L_law_577 L xs K23 v1 v2 v3 v4 σ → V G Q 577 [some (.ref 25), some (.ref v1), some (.ref v2), some (.ref v3), some (.int v4), none, none] [] σ (k + 2) (n + 12) := by
  intro v1 v2 v3 v4 σ h
  unfold wp_L_law_577 at h
  refine V_goto (tgt := 2588) hG dL_law_577 (by decide) ?_
  refine V_forget (lo' := [some (.ref 25), some (.ref v1), some (.ref v2), some (.ref v3), some (.int v4), none, none]) ⟨rfl, ⟨rfl, ⟨rfl, ⟨rfl, ⟨rfl, trivial⟩⟩⟩⟩⟩ ?_
  refine V_widen (k' := k + 8) (n' := n + 57) (by first | exact Nat.le_of_ble_eq_true rfl | omega | (dsimp only; omega)) (by first | exact Nat.le_of_ble_eq_true rfl | omega | (dsimp only; omega)) ?_
  exact wv_L_law_2588 hl hG hX hret k n (by omega) (by omega) hK23 _ _ _ _ _ h
def wp_L_law_695 (L : Nat) (xs : Nat → Int32) (K23 : Nat → Nat → Nat → Int32 → Sg → Prop) (v1 : Nat) (v2 : Nat) (v3 : Nat) (v4 : Int32) (σ : Sg) : Prop := (wp_L_law_2588 L xs K23 v1 v2 v3 v4 σ)
set_option maxRecDepth 100000 in
set_option maxHeartbeats 4000000 in
theorem wv_L_law_695 {L9 : Launch} {G : Cx} {Q : State → Prop} {L : Nat} {xs : Nat → Int32} (hl : L9.stackTraces = false) (hG : CX L9 G yL_law cL_law 7 (some .boolean) [] { frames := 13, cells := 700684, slots := 6994052, locals := 496 }) (hX : LX G L xs) (hret : HRT G Q) {K23 : Nat → Nat → Nat → Int32 → Sg → Prop} (k n : Nat) (hk : k + 8 ≤ 4206) (hn : n + 57 ≤ 30972) (hK23 : ∀ (v1 : Nat) (v2 : Nat) (v3 : Nat) (v4 : Int32) (ζ : Sg), K23 v1 v2 v3 v4 ζ → V G Q 23 [some (.ref 25), some (.ref v1), some (.ref v2), some (.ref v3), some (.int v4), none, none] [] ζ (k + 8) (n + 57)) : ∀ (v1 : Nat) (v2 : Nat) (v3 : Nat) (v4 : Int32) (σ : Sg), wp_L_law_695 L xs K23 v1 v2 v3 v4 σ → V G Q 695 [some (.ref 25), some (.ref v1), some (.ref v2), some (.ref v3), some (.int v4), none, none] [] σ (k + 8) (n + 57) := by
  intro v1 v2 v3 v4 σ h
  unfold wp_L_law_695 at h
  refine V_goto (tgt := 2588) hG dL_law_695 (by decide) ?_
  refine V_forget (lo' := [some (.ref 25), some (.ref v1), some (.ref v2), some (.ref v3), some (.int v4), none, none]) ⟨rfl, ⟨rfl, ⟨rfl, ⟨rfl, ⟨rfl, trivial⟩⟩⟩⟩⟩ ?_
  refine V_widen (k' := k + 8) (n' := n + 57) (by first | exact Nat.le_of_ble_eq_true rfl | omega | (dsimp only; omega)) (by first | exact Nat.le_of_ble_eq_true rfl | omega | (dsimp only; omega)) ?_
  exact wv_L_law_2588 hl hG hX hret k n (by omega) (by omega) hK23 _ _ _ _ _ h
def wp_L_law_775 (L : Nat) (xs : Nat → Int32) (K23 : Nat → Nat → Nat → Int32 → Sg → Prop) (v1 : Nat) (v2 : Nat) (v3 : Nat) (v4 : Int32) (σ : Sg) : Prop := (wp_L_law_2588 L xs K23 v1 v2 v3 v4 σ)
set_option maxRecDepth 100000 in
set_option maxHeartbeats 4000000 in
theorem wv_L_law_775 {L9 : Launch} {G : Cx} {Q : State → Prop} {L : Nat} {xs : Nat → Int32} (hl : L9.stackTraces = false) (hG : CX L9 G yL_law cL_law 7 (some .boolean) [] { frames := 13, cells := 700684, slots := 6994052, locals := 496 }) (hX : LX G L xs) (hret : HRT G Q) {K23 : Nat → Nat → Nat → Int32 → Sg → Prop} (k n : Nat) (hk : k + 8 ≤ 4206) (hn : n + 57 ≤ 30972) (hK23 : ∀ (v1 : Nat) (v2 : Nat) (v3 : Nat) (v4 : Int32) (ζ : Sg), K23 v1 v2 v3 v4 ζ → V G Q 23 [some (.ref 25), some (.ref v1), some (.ref v2), some (.ref v3), some (.int v4), none, none] [] ζ (k + 8) (n + 57)) : ∀ (v1 : Nat) (v2 : Nat) (v3 : Nat) (v4 : Int32) (σ : Sg), wp_L_law_775 L xs K23 v1 v2 v3 v4 σ → V G Q 775 [some (.ref 25), some (.ref v1), some (.ref v2), some (.ref v3), some (.int v4), none, none] [] σ (k + 7) (n + 39) := by
  intro v1 v2 v3 v4 σ h
  unfold wp_L_law_775 at h
  refine V_goto (tgt := 2588) hG dL_law_775 (by decide) ?_
  refine V_forget (lo' := [some (.ref 25), some (.ref v1), some (.ref v2), some (.ref v3), some (.int v4), none, none]) ⟨rfl, ⟨rfl, ⟨rfl, ⟨rfl, ⟨rfl, trivial⟩⟩⟩⟩⟩ ?_
  refine V_widen (k' := k + 8) (n' := n + 57) (by first | exact Nat.le_of_ble_eq_true rfl | omega | (dsimp only; omega)) (by first | exact Nat.le_of_ble_eq_true rfl | omega | (dsimp only; omega)) ?_
  exact wv_L_law_2588 hl hG hX hret k n (by omega) (by omega) hK23 _ _ _ _ _ h
def wp_L_law_855 (L : Nat) (xs : Nat → Int32) (K23 : Nat → Nat → Nat → Int32 → Sg → Prop) (v1 : Nat) (v2 : Nat) (v3 : Nat) (v4 : Int32) (σ : Sg) : Prop := (wp_L_law_2588 L xs K23 v1 v2 v3 v4 σ)
set_option maxRecDepth 100000 in
set_option maxHeartbeats 4000000 in
theorem wv_L_law_855 {L9 : Launch} {G : Cx} {Q : State → Prop} {L : Nat} {xs : Nat → Int32} (hl : L9.stackTraces = false) (hG : CX L9 G yL_law cL_law 7 (some .boolean) [] { frames := 13, cells := 700684, slots := 6994052, locals := 496 }) (hX : LX G L xs) (hret : HRT G Q) {K23 : Nat → Nat → Nat → Int32 → Sg → Prop} (k n : Nat) (hk : k + 8 ≤ 4206) (hn : n + 57 ≤ 30972) (hK23 : ∀ (v1 : Nat) (v2 : Nat) (v3 : Nat) (v4 : Int32) (ζ : Sg), K23 v1 v2 v3 v4 ζ → V G Q 23 [some (.ref 25), some (.ref v1), some (.ref v2), some (.ref v3), some (.int v4), none, none] [] ζ (k + 8) (n + 57)) : ∀ (v1 : Nat) (v2 : Nat) (v3 : Nat) (v4 : Int32) (σ : Sg), wp_L_law_855 L xs K23 v1 v2 v3 v4 σ → V G Q 855 [some (.ref 25), some (.ref v1), some (.ref v2), some (.ref v3), some (.int v4), none, none] [] σ (k + 3) (n + 18) := by
  intro v1 v2 v3 v4 σ h
  unfold wp_L_law_855 at h
  refine V_goto (tgt := 2588) hG dL_law_855 (by decide) ?_
  refine V_forget (lo' := [some (.ref 25), some (.ref v1), some (.ref v2), some (.ref v3), some (.int v4), none, none]) ⟨rfl, ⟨rfl, ⟨rfl, ⟨rfl, ⟨rfl, trivial⟩⟩⟩⟩⟩ ?_
  refine V_widen (k' := k + 8) (n' := n + 57) (by first | exact Nat.le_of_ble_eq_true rfl | omega | (dsimp only; omega)) (by first | exact Nat.le_of_ble_eq_true rfl | omega | (dsimp only; omega)) ?_
  exact wv_L_law_2588 hl hG hX hret k n (by omega) (by omega) hK23 _ _ _ _ _ h
def wp_L_law_923 (L : Nat) (xs : Nat → Int32) (K23 : Nat → Nat → Nat → Int32 → Sg → Prop) (v1 : Nat) (v2 : Nat) (v3 : Nat) (v4 : Int32) (σ : Sg) : Prop := (wp_L_law_2588 L xs K23 v1 v2 v3 v4 σ)
set_option maxRecDepth 100000 in
set_option maxHeartbeats 4000000 in
theorem wv_L_law_923 {L9 : Launch} {G : Cx} {Q : State → Prop} {L : Nat} {xs : Nat → Int32} (hl : L9.stackTraces = false) (hG : CX L9 G yL_law cL_law 7 (some .boolean) [] { frames := 13, cells := 700684, slots := 6994052, locals := 496 }) (hX : LX G L xs) (hret : HRT G Q) {K23 : Nat → Nat → Nat → Int32 → Sg → Prop} (k n : Nat) (hk : k + 8 ≤ 4206) (hn : n + 57 ≤ 30972) (hK23 : ∀ (v1 : Nat) (v2 : Nat) (v3 : Nat) (v4 : Int32) (ζ : Sg), K23 v1 v2 v3 v4 ζ → V G Q 23 [some (.ref 25), some (.ref v1), some (.ref v2), some (.ref v3), some (.int v4), none, none] [] ζ (k + 8) (n + 57)) : ∀ (v1 : Nat) (v2 : Nat) (v3 : Nat) (v4 : Int32) (σ : Sg), wp_L_law_923 L xs K23 v1 v2 v3 v4 σ → V G Q 923 [some (.ref 25), some (.ref v1), some (.ref v2), some (.ref v3), some (.int v4), none, none] [] σ (k + 4) (n + 30) := by
  intro v1 v2 v3 v4 σ h
  unfold wp_L_law_923 at h
  refine V_goto (tgt := 2588) hG dL_law_923 (by decide) ?_
  refine V_forget (lo' := [some (.ref 25), some (.ref v1), some (.ref v2), some (.ref v3), some (.int v4), none, none]) ⟨rfl, ⟨rfl, ⟨rfl, ⟨rfl, ⟨rfl, trivial⟩⟩⟩⟩⟩ ?_
  refine V_widen (k' := k + 8) (n' := n + 57) (by first | exact Nat.le_of_ble_eq_true rfl | omega | (dsimp only; omega)) (by first | exact Nat.le_of_ble_eq_true rfl | omega | (dsimp only; omega)) ?_
  exact wv_L_law_2588 hl hG hX hret k n (by omega) (by omega) hK23 _ _ _ _ _ h
def wp_L_law_991 (L : Nat) (xs : Nat → Int32) (K23 : Nat → Nat → Nat → Int32 → Sg → Prop) (v1 : Nat) (v2 : Nat) (v3 : Nat) (v4 : Int32) (σ : Sg) : Prop := (wp_L_law_2588 L xs K23 v1 v2 v3 v4 σ)
set_option maxRecDepth 100000 in
set_option maxHeartbeats 4000000 in
theorem wv_L_law_991 {L9 : Launch} {G : Cx} {Q : State → Prop} {L : Nat} {xs : Nat → Int32} (hl : L9.stackTraces = false) (hG : CX L9 G yL_law cL_law 7 (some .boolean) [] { frames := 13, cells := 700684, slots := 6994052, locals := 496 }) (hX : LX G L xs) (hret : HRT G Q) {K23 : Nat → Nat → Nat → Int32 → Sg → Prop} (k n : Nat) (hk : k + 8 ≤ 4206) (hn : n + 57 ≤ 30972) (hK23 : ∀ (v1 : Nat) (v2 : Nat) (v3 : Nat) (v4 : Int32) (ζ : Sg), K23 v1 v2 v3 v4 ζ → V G Q 23 [some (.ref 25), some (.ref v1), some (.ref v2), some (.ref v3), some (.int v4), none, none] [] ζ (k + 8) (n + 57)) : ∀ (v1 : Nat) (v2 : Nat) (v3 : Nat) (v4 : Int32) (σ : Sg), wp_L_law_991 L xs K23 v1 v2 v3 v4 σ → V G Q 991 [some (.ref 25), some (.ref v1), some (.ref v2), some (.ref v3), some (.int v4), none, none] [] σ (k + 3) (n + 18) := by
  intro v1 v2 v3 v4 σ h
  unfold wp_L_law_991 at h
  refine V_goto (tgt := 2588) hG dL_law_991 (by decide) ?_
  refine V_forget (lo' := [some (.ref 25), some (.ref v1), some (.ref v2), some (.ref v3), some (.int v4), none, none]) ⟨rfl, ⟨rfl, ⟨rfl, ⟨rfl, ⟨rfl, trivial⟩⟩⟩⟩⟩ ?_
  refine V_widen (k' := k + 8) (n' := n + 57) (by first | exact Nat.le_of_ble_eq_true rfl | omega | (dsimp only; omega)) (by first | exact Nat.le_of_ble_eq_true rfl | omega | (dsimp only; omega)) ?_
  exact wv_L_law_2588 hl hG hX hret k n (by omega) (by omega) hK23 _ _ _ _ _ h
def wp_L_law_1071 (L : Nat) (xs : Nat → Int32) (K23 : Nat → Nat → Nat → Int32 → Sg → Prop) (v1 : Nat) (v2 : Nat) (v3 : Nat) (v4 : Int32) (σ : Sg) : Prop := (wp_L_law_2588 L xs K23 v1 v2 v3 v4 σ)
set_option maxRecDepth 100000 in
set_option maxHeartbeats 4000000 in
theorem wv_L_law_1071 {L9 : Launch} {G : Cx} {Q : State → Prop} {L : Nat} {xs : Nat → Int32} (hl : L9.stackTraces = false) (hG : CX L9 G yL_law cL_law 7 (some .boolean) [] { frames := 13, cells := 700684, slots := 6994052, locals := 496 }) (hX : LX G L xs) (hret : HRT G Q) {K23 : Nat → Nat → Nat → Int32 → Sg → Prop} (k n : Nat) (hk : k + 8 ≤ 4206) (hn : n + 57 ≤ 30972) (hK23 : ∀ (v1 : Nat) (v2 : Nat) (v3 : Nat) (v4 : Int32) (ζ : Sg), K23 v1 v2 v3 v4 ζ → V G Q 23 [some (.ref 25), some (.ref v1), some (.ref v2), some (.ref v3), some (.int v4), none, none] [] ζ (k + 8) (n + 57)) : ∀ (v1 : Nat) (v2 : Nat) (v3 : Nat) (v4 : Int32) (σ : Sg), wp_L_law_1071 L xs K23 v1 v2 v3 v4 σ → V G Q 1071 [some (.ref 25), some (.ref v1), some (.ref v2), some (.ref v3), some (.int v4), none, none] [] σ (k + 6) (n + 42) := by
  intro v1 v2 v3 v4 σ h
  unfold wp_L_law_1071 at h
  refine V_goto (tgt := 2588) hG dL_law_1071 (by decide) ?_
  refine V_forget (lo' := [some (.ref 25), some (.ref v1), some (.ref v2), some (.ref v3), some (.int v4), none, none]) ⟨rfl, ⟨rfl, ⟨rfl, ⟨rfl, ⟨rfl, trivial⟩⟩⟩⟩⟩ ?_
  refine V_widen (k' := k + 8) (n' := n + 57) (by first | exact Nat.le_of_ble_eq_true rfl | omega | (dsimp only; omega)) (by first | exact Nat.le_of_ble_eq_true rfl | omega | (dsimp only; omega)) ?_
  exact wv_L_law_2588 hl hG hX hret k n (by omega) (by omega) hK23 _ _ _ _ _ h
def wp_L_law_1174 (L : Nat) (xs : Nat → Int32) (K23 : Nat → Nat → Nat → Int32 → Sg → Prop) (v1 : Nat) (v2 : Nat) (v3 : Nat) (v4 : Int32) (σ : Sg) : Prop := (wp_L_law_2588 L xs K23 v1 v2 v3 v4 σ)
set_option maxRecDepth 100000 in
set_option maxHeartbeats 4000000 in
theorem wv_L_law_1174 {L9 : Launch} {G : Cx} {Q : State → Prop} {L : Nat} {xs : Nat → Int32} (hl : L9.stackTraces = false) (hG : CX L9 G yL_law cL_law 7 (some .boolean) [] { frames := 13, cells := 700684, slots := 6994052, locals := 496 }) (hX : LX G L xs) (hret : HRT G Q) {K23 : Nat → Nat → Nat → Int32 → Sg → Prop} (k n : Nat) (hk : k + 8 ≤ 4206) (hn : n + 57 ≤ 30972) (hK23 : ∀ (v1 : Nat) (v2 : Nat) (v3 : Nat) (v4 : Int32) (ζ : Sg), K23 v1 v2 v3 v4 ζ → V G Q 23 [some (.ref 25), some (.ref v1), some (.ref v2), some (.ref v3), some (.int v4), none, none] [] ζ (k + 8) (n + 57)) : ∀ (v1 : Nat) (v2 : Nat) (v3 : Nat) (v4 : Int32) (σ : Sg), wp_L_law_1174 L xs K23 v1 v2 v3 v4 σ → V G Q 1174 [some (.ref 25), some (.ref v1), some (.ref v2), some (.ref v3), some (.int v4), none, none] [] σ (k + 3) (n + 18) := by
  intro v1 v2 v3 v4 σ h
  unfold wp_L_law_1174 at h
  refine V_goto (tgt := 2588) hG dL_law_1174 (by decide) ?_
  refine V_forget (lo' := [some (.ref 25), some (.ref v1), some (.ref v2), some (.ref v3), some (.int v4), none, none]) ⟨rfl, ⟨rfl, ⟨rfl, ⟨rfl, ⟨rfl, trivial⟩⟩⟩⟩⟩ ?_
  refine V_widen (k' := k + 8) (n' := n + 57) (by first | exact Nat.le_of_ble_eq_true rfl | omega | (dsimp only; omega)) (by first | exact Nat.le_of_ble_eq_true rfl | omega | (dsimp only; omega)) ?_
  exact wv_L_law_2588 hl hG hX hret k n (by omega) (by omega) hK23 _ _ _ _ _ h
def wp_L_law_1168 (L : Nat) (xs : Nat → Int32) (K23 : Nat → Nat → Nat → Int32 → Sg → Prop) (v1 : Nat) (v2 : Nat) (v3 : Nat) (v4 : Int32) (s0 : Int64) (s1 : Int64) (σ : Sg) : Prop := (((lg_cmp s0 s1) = 0 → (wp_L_law_1174 L xs K23 v1 v2 v3 v4 σ)) ∧ (¬ (lg_cmp s0 s1) = 0 → (0 : Int32) = 1))
set_option maxRecDepth 100000 in
set_option maxHeartbeats 4000000 in
theorem wv_L_law_1168 {L9 : Launch} {G : Cx} {Q : State → Prop} {L : Nat} {xs : Nat → Int32} (hl : L9.stackTraces = false) (hG : CX L9 G yL_law cL_law 7 (some .boolean) [] { frames := 13, cells := 700684, slots := 6994052, locals := 496 }) (hX : LX G L xs) (hret : HRT G Q) {K23 : Nat → Nat → Nat → Int32 → Sg → Prop} (k n : Nat) (hk : k + 8 ≤ 4206) (hn : n + 57 ≤ 30972) (hK23 : ∀ (v1 : Nat) (v2 : Nat) (v3 : Nat) (v4 : Int32) (ζ : Sg), K23 v1 v2 v3 v4 ζ → V G Q 23 [some (.ref 25), some (.ref v1), some (.ref v2), some (.ref v3), some (.int v4), none, none] [] ζ (k + 8) (n + 57)) : ∀ (v1 : Nat) (v2 : Nat) (v3 : Nat) (v4 : Int32) (s0 : Int64) (s1 : Int64) (σ : Sg), wp_L_law_1168 L xs K23 v1 v2 v3 v4 s0 s1 σ → V G Q 1168 [some (.ref 25), some (.ref v1), some (.ref v2), some (.ref v3), some (.int v4), none, none] [.long s1, .long s0] σ (k + 3) (n + 18) := by
  intro v1 v2 v3 v4 s0 s1 σ h
  unfold wp_L_law_1168 at h
  refine V_lcmp hG dL_law_1168 ?_
  refine V_if_eq (tgt := 1174) hG dL_law_1169 (by decide) (fun c => ?_) (fun c => ?_)
  · replace h := h.1 c
    refine V_forget (lo' := [some (.ref 25), some (.ref v1), some (.ref v2), some (.ref v3), some (.int v4), none, none]) ⟨rfl, ⟨rfl, ⟨rfl, ⟨rfl, ⟨rfl, trivial⟩⟩⟩⟩⟩ ?_
    refine V_widen (k' := k + 3) (n' := n + 18) (by first | exact Nat.le_of_ble_eq_true rfl | omega | (dsimp only; omega)) (by first | exact Nat.le_of_ble_eq_true rfl | omega | (dsimp only; omega)) ?_
    exact wv_L_law_1174 hl hG hX hret k n (by omega) (by omega) hK23 _ _ _ _ _ h
  · replace h := h.2 c
    refine V_iconst (v := 0) hG (by decide) dL_law_1172 ?_
    exact law1 hret dL_law_1173 h (by first | exact Nat.le_of_ble_eq_true rfl | omega | (dsimp only; omega)) (by first | exact Nat.le_of_ble_eq_true rfl | omega | (dsimp only; omega))
def wp_L_law_1134 (L : Nat) (xs : Nat → Int32) (K23 : Nat → Nat → Nat → Int32 → Sg → Prop) (v1 : Nat) (v2 : Nat) (v3 : Nat) (v4 : Int32) (v5 : Int32) (s0 : Nat) (s1 : Int32) (s2 : Int32) (s3 : Int32) (σ : Sg) : Prop := s0 % 32 = 10 ∧ wp_X10_rank s0 s1 s2 s3 σ (KI (fun x2 σ1 => v2 % 32 = 10 ∧ wp_X10_thrown v2 σ1 (KI (fun x4 σ3 => ((x4 = v5 → ((¬ v5 = 0 → (wp_L_law_1174 L xs K23 v1 v2 v3 v4 σ3)) ∧ (v5 = 0 → aty (v3 % 32) = some .long ∧ ∃ j5, (0 : Int32) = nI j5 ∧ j5 < aln v3 ∧ ((x2 = 0 → (wp_L_law_1168 L xs K23 v1 v2 v3 v4 (sL σ3 v3 j5) (0 : Int64) σ3)) ∧ (¬ x2 = 0 → (wp_L_law_1168 L xs K23 v1 v2 v3 v4 (sL σ3 v3 j5) (1 : Int64) σ3)))))) ∧ (¬ x4 = v5 → (0 : Int32) = 1))) (fun _ _ => False))) (fun _ _ => False))
set_option maxRecDepth 100000 in
set_option maxHeartbeats 4000000 in
theorem wv_L_law_1134 {L9 : Launch} {G : Cx} {Q : State → Prop} {L : Nat} {xs : Nat → Int32} (hl : L9.stackTraces = false) (hG : CX L9 G yL_law cL_law 7 (some .boolean) [] { frames := 13, cells := 700684, slots := 6994052, locals := 496 }) (hX : LX G L xs) (hret : HRT G Q) {K23 : Nat → Nat → Nat → Int32 → Sg → Prop} (k n : Nat) (hk : k + 8 ≤ 4206) (hn : n + 57 ≤ 30972) (hK23 : ∀ (v1 : Nat) (v2 : Nat) (v3 : Nat) (v4 : Int32) (ζ : Sg), K23 v1 v2 v3 v4 ζ → V G Q 23 [some (.ref 25), some (.ref v1), some (.ref v2), some (.ref v3), some (.int v4), none, none] [] ζ (k + 8) (n + 57)) : ∀ (v1 : Nat) (v2 : Nat) (v3 : Nat) (v4 : Int32) (v5 : Int32) (s0 : Nat) (s1 : Int32) (s2 : Int32) (s3 : Int32) (σ : Sg), wp_L_law_1134 L xs K23 v1 v2 v3 v4 v5 s0 s1 s2 s3 σ → V G Q 1134 [some (.ref 25), some (.ref v1), some (.ref v2), some (.ref v3), some (.int v4), some (.int v5), none] [.int s3, .int s2, .int s1, .ref s0] σ (k + 3) (n + 18) := by
  intro v1 v2 v3 v4 v5 s0 s1 s2 s3 σ h
  unfold wp_L_law_1134 at h
  obtain ⟨ht, h⟩ := h
  refine V_cVI _ _ hG dL_law_1134 (ct_X10_rank hl h) mv_X10_rank ml_L_172 ht rfl rfl rfl rfl (by first | exact Nat.le_of_ble_eq_true rfl | (simp only [List.map_cons, List.map_nil, List.sum_cons, List.sum_nil, cat_rf]; exact Nat.le_of_ble_eq_true rfl)) (by first | exact Nat.le_of_ble_eq_true rfl | omega | (dsimp only; omega)) (by first | exact Nat.le_of_ble_eq_true rfl | omega | (dsimp only; omega)) (by first | exact Nat.le_of_ble_eq_true rfl | omega | (dsimp only; omega)) (by first | exact Nat.le_of_ble_eq_true rfl | omega | (dsimp only; omega)) ?_ (fun x2 σ1 h9 => ?_)
  · exact fun _ _ hx => hx.elim
  · replace h := h9
    clear h9
    refine V_istore hG dL_law_1137 (Nat.le_of_ble_eq_true rfl) (hpV rfl rfl) ?_
    refine V_aload_n (v := .ref v2) hG dL_law_1139 rfl rfl ?_
    obtain ⟨ht, h⟩ := h
    refine V_cVI _ _ hG dL_law_1140 (ct_X10_thrown hl h) mv_X10_thrown ml_L_131 ht rfl rfl rfl rfl (by first | exact Nat.le_of_ble_eq_true rfl | (simp only [List.map_cons, List.map_nil, List.sum_cons, List.sum_nil, cat_rf]; exact Nat.le_of_ble_eq_true rfl)) (by first | exact Nat.le_of_ble_eq_true rfl | omega | (dsimp only; omega)) (by first | exact Nat.le_of_ble_eq_true rfl | omega | (dsimp only; omega)) (by first | exact Nat.le_of_ble_eq_true rfl | omega | (dsimp only; omega)) (by first | exact Nat.le_of_ble_eq_true rfl | omega | (dsimp only; omega)) ?_ (fun x4 σ3 h9 => ?_)
    · exact fun _ _ hx => hx.elim
    · replace h := h9
      clear h9
      refine V_iload hG dL_law_1143 rfl ?_
      refine V_icmp_eq (tgt := 1150) hG dL_law_1145 (by decide) (fun c => ?_) (fun c => ?_)
      · replace h := h.1 c
        refine V_iload hG dL_law_1150 rfl ?_
        refine V_if_ne (tgt := 1174) hG dL_law_1152 (by decide) (fun c => ?_) (fun c => ?_)
        · replace h := h.1 c
          refine V_forget (lo' := [some (.ref 25), some (.ref v1), some (.ref v2), some (.ref v3), some (.int v4), none, none]) ⟨rfl, ⟨rfl, ⟨rfl, ⟨rfl, ⟨rfl, trivial⟩⟩⟩⟩⟩ ?_
          refine V_widen (k' := k + 3) (n' := n + 18) (by first | exact Nat.le_of_ble_eq_true rfl | omega | (dsimp only; omega)) (by first | exact Nat.le_of_ble_eq_true rfl | omega | (dsimp only; omega)) ?_
          exact wv_L_law_1174 hl hG hX hret k n (by omega) (by omega) hK23 _ _ _ _ _ h
        · replace h := h.2 c
          refine V_aload_n (v := .ref v3) hG dL_law_1155 rfl rfl ?_
          refine V_iconst (v := 0) hG (by decide) dL_law_1156 ?_
          obtain ⟨ha, j5, hi, hj, h⟩ := h
          refine V_lald hG dL_law_1157 ha hi hj ?_
          refine V_iload hG dL_law_1158 rfl ?_
          refine V_if_eq (tgt := 1167) hG dL_law_1160 (by decide) (fun c => ?_) (fun c => ?_)
          · replace h := h.1 c
            refine V_lconst (v := 0) hG (by decide) dL_law_1167 ?_
            refine V_forget (lo' := [some (.ref 25), some (.ref v1), some (.ref v2), some (.ref v3), some (.int v4), none, none]) ⟨rfl, ⟨rfl, ⟨rfl, ⟨rfl, ⟨rfl, trivial⟩⟩⟩⟩⟩ ?_
            refine V_widen (k' := k + 3) (n' := n + 18) (by first | exact Nat.le_of_ble_eq_true rfl | omega | (dsimp only; omega)) (by first | exact Nat.le_of_ble_eq_true rfl | omega | (dsimp only; omega)) ?_
            exact wv_L_law_1168 hl hG hX hret k n (by omega) (by omega) hK23 _ _ _ _ _ _ _ h
          · replace h := h.2 c
            refine V_lconst (v := 1) hG (by decide) dL_law_1163 ?_
            refine V_goto (tgt := 1168) hG dL_law_1164 (by decide) ?_
            refine V_forget (lo' := [some (.ref 25), some (.ref v1), some (.ref v2), some (.ref v3), some (.int v4), none, none]) ⟨rfl, ⟨rfl, ⟨rfl, ⟨rfl, ⟨rfl, trivial⟩⟩⟩⟩⟩ ?_
            refine V_widen (k' := k + 3) (n' := n + 18) (by first | exact Nat.le_of_ble_eq_true rfl | omega | (dsimp only; omega)) (by first | exact Nat.le_of_ble_eq_true rfl | omega | (dsimp only; omega)) ?_
            exact wv_L_law_1168 hl hG hX hret k n (by omega) (by omega) hK23 _ _ _ _ _ _ _ h
      · replace h := h.2 c
        refine V_iconst (v := 0) hG (by decide) dL_law_1148 ?_
        exact law1 hret dL_law_1149 h (by first | exact Nat.le_of_ble_eq_true rfl | omega | (dsimp only; omega)) (by first | exact Nat.le_of_ble_eq_true rfl | omega | (dsimp only; omega))
def wp_L_law_1101 (L : Nat) (xs : Nat → Int32) (K23 : Nat → Nat → Nat → Int32 → Sg → Prop) (v1 : Nat) (v2 : Nat) (v3 : Nat) (v4 : Int32) (s0 : Nat) (s1 : Int32) (s2 : Int32) (s3 : Int32) (σ : Sg) : Prop := wp_L_rank (some s0) s1 s2 s3 (some v3) σ (KI (fun x2 σ1 => ∃ j3, (v4 + (1 : Int32)) = nI j3 ∧ j3 < L ∧ ∃ j4, (v4 + (2 : Int32)) = nI j4 ∧ j4 < L ∧ ∃ j5, (v4 + (3 : Int32)) = nI j5 ∧ j5 < L ∧ (((xs j5) = 0 → (wp_L_law_1134 L xs K23 v1 v2 v3 v4 x2 v2 (xs j3) (xs j4) (0 : Int32) σ1)) ∧ (¬ (xs j5) = 0 → (wp_L_law_1134 L xs K23 v1 v2 v3 v4 x2 v2 (xs j3) (xs j4) (1 : Int32) σ1)))) (fun _ _ => False))
set_option maxRecDepth 100000 in
set_option maxHeartbeats 4000000 in
theorem wv_L_law_1101 {L9 : Launch} {G : Cx} {Q : State → Prop} {L : Nat} {xs : Nat → Int32} (hl : L9.stackTraces = false) (hG : CX L9 G yL_law cL_law 7 (some .boolean) [] { frames := 13, cells := 700684, slots := 6994052, locals := 496 }) (hX : LX G L xs) (hret : HRT G Q) {K23 : Nat → Nat → Nat → Int32 → Sg → Prop} (k n : Nat) (hk : k + 8 ≤ 4206) (hn : n + 57 ≤ 30972) (hK23 : ∀ (v1 : Nat) (v2 : Nat) (v3 : Nat) (v4 : Int32) (ζ : Sg), K23 v1 v2 v3 v4 ζ → V G Q 23 [some (.ref 25), some (.ref v1), some (.ref v2), some (.ref v3), some (.int v4), none, none] [] ζ (k + 8) (n + 57)) : ∀ (v1 : Nat) (v2 : Nat) (v3 : Nat) (v4 : Int32) (s0 : Nat) (s1 : Int32) (s2 : Int32) (s3 : Int32) (σ : Sg), wp_L_law_1101 L xs K23 v1 v2 v3 v4 s0 s1 s2 s3 σ → V G Q 1101 [some (.ref 25), some (.ref v1), some (.ref v2), some (.ref v3), some (.int v4), none, none] [.int s3, .int s2, .int s1, .ref s0] σ (k + 0) (n + 0) := by
  intro v1 v2 v3 v4 s0 s1 s2 s3 σ h
  unfold wp_L_law_1101 at h
  refine V_aload_n (v := .ref v3) hG dL_law_1101 rfl rfl ?_
  refine V_cXI _ _ hG dL_law_1102 (ct_L_rank hl h) mv_L_rank ml_L_169 rfl rfl (by first | exact Nat.le_of_ble_eq_true rfl | (simp only [List.map_cons, List.map_nil, List.sum_cons, List.sum_nil, cat_rf]; exact Nat.le_of_ble_eq_true rfl)) (by first | exact Nat.le_of_ble_eq_true rfl | omega | (dsimp only; omega)) (by first | exact Nat.le_of_ble_eq_true rfl | omega | (dsimp only; omega)) (by first | exact Nat.le_of_ble_eq_true rfl | omega | (dsimp only; omega)) (by first | exact Nat.le_of_ble_eq_true rfl | omega | (dsimp only; omega)) ?_ (fun x2 σ1 h9 => ?_)
  · exact fun _ _ hx => hx.elim
  · replace h := h9
    clear h9
    refine V_istore hG dL_law_1105 (Nat.le_of_ble_eq_true rfl) (hpV rfl rfl) ?_
    refine V_aload_n (v := .ref v2) hG dL_law_1107 rfl rfl ?_
    refine V_aload_n (v := .ref 25) hG dL_law_1108 rfl rfl ?_
    refine V_iload hG dL_law_1109 rfl ?_
    refine V_iconst (v := 1) hG (by decide) dL_law_1111 ?_
    refine V_iadd hG dL_law_1112 ?_
    obtain ⟨j3, hi, hj, h⟩ := h
    refine V_sld hG hX dL_law_1113 hi hj ?_
    refine V_aload_n (v := .ref 25) hG dL_law_1114 rfl rfl ?_
    refine V_iload hG dL_law_1115 rfl ?_
    refine V_iconst (v := 2) hG (by decide) dL_law_1117 ?_
    refine V_iadd hG dL_law_1118 ?_
    obtain ⟨j4, hi, hj, h⟩ := h
    refine V_sld hG hX dL_law_1119 hi hj ?_
    refine V_aload_n (v := .ref 25) hG dL_law_1120 rfl rfl ?_
    refine V_iload hG dL_law_1121 rfl ?_
    refine V_iconst (v := 3) hG (by decide) dL_law_1123 ?_
    refine V_iadd hG dL_law_1124 ?_
    obtain ⟨j5, hi, hj, h⟩ := h
    refine V_sld hG hX dL_law_1125 hi hj ?_
    refine V_if_eq (tgt := 1133) hG dL_law_1126 (by decide) (fun c => ?_) (fun c => ?_)
    · replace h := h.1 c
      refine V_iconst (v := 0) hG (by decide) dL_law_1133 ?_
      refine V_forget (lo' := [some (.ref 25), some (.ref v1), some (.ref v2), some (.ref v3), some (.int v4), some (.int x2), none]) ⟨rfl, ⟨rfl, ⟨rfl, ⟨rfl, ⟨rfl, ⟨rfl, trivial⟩⟩⟩⟩⟩⟩ ?_
      refine V_widen (k' := k + 3) (n' := n + 18) (by first | exact Nat.le_of_ble_eq_true rfl | omega | (dsimp only; omega)) (by first | exact Nat.le_of_ble_eq_true rfl | omega | (dsimp only; omega)) ?_
      exact wv_L_law_1134 hl hG hX hret k n (by omega) (by omega) hK23 _ _ _ _ _ _ _ _ _ _ h
    · replace h := h.2 c
      refine V_iconst (v := 1) hG (by decide) dL_law_1129 ?_
      refine V_goto (tgt := 1134) hG dL_law_1130 (by decide) ?_
      refine V_forget (lo' := [some (.ref 25), some (.ref v1), some (.ref v2), some (.ref v3), some (.int v4), some (.int x2), none]) ⟨rfl, ⟨rfl, ⟨rfl, ⟨rfl, ⟨rfl, ⟨rfl, trivial⟩⟩⟩⟩⟩⟩ ?_
      refine V_widen (k' := k + 3) (n' := n + 18) (by first | exact Nat.le_of_ble_eq_true rfl | omega | (dsimp only; omega)) (by first | exact Nat.le_of_ble_eq_true rfl | omega | (dsimp only; omega)) ?_
      exact wv_L_law_1134 hl hG hX hret k n (by omega) (by omega) hK23 _ _ _ _ _ _ _ _ _ _ h
def wp_L_law_1242 (L : Nat) (xs : Nat → Int32) (K23 : Nat → Nat → Nat → Int32 → Sg → Prop) (v1 : Nat) (v2 : Nat) (v3 : Nat) (v4 : Int32) (σ : Sg) : Prop := (wp_L_law_2588 L xs K23 v1 v2 v3 v4 σ)
set_option maxRecDepth 100000 in
set_option maxHeartbeats 4000000 in
theorem wv_L_law_1242 {L9 : Launch} {G : Cx} {Q : State → Prop} {L : Nat} {xs : Nat → Int32} (hl : L9.stackTraces = false) (hG : CX L9 G yL_law cL_law 7 (some .boolean) [] { frames := 13, cells := 700684, slots := 6994052, locals := 496 }) (hX : LX G L xs) (hret : HRT G Q) {K23 : Nat → Nat → Nat → Int32 → Sg → Prop} (k n : Nat) (hk : k + 8 ≤ 4206) (hn : n + 57 ≤ 30972) (hK23 : ∀ (v1 : Nat) (v2 : Nat) (v3 : Nat) (v4 : Int32) (ζ : Sg), K23 v1 v2 v3 v4 ζ → V G Q 23 [some (.ref 25), some (.ref v1), some (.ref v2), some (.ref v3), some (.int v4), none, none] [] ζ (k + 8) (n + 57)) : ∀ (v1 : Nat) (v2 : Nat) (v3 : Nat) (v4 : Int32) (σ : Sg), wp_L_law_1242 L xs K23 v1 v2 v3 v4 σ → V G Q 1242 [some (.ref 25), some (.ref v1), some (.ref v2), some (.ref v3), some (.int v4), none, none] [] σ (k + 5) (n + 36) := by
  intro v1 v2 v3 v4 σ h
  unfold wp_L_law_1242 at h
  refine V_goto (tgt := 2588) hG dL_law_1242 (by decide) ?_
  refine V_forget (lo' := [some (.ref 25), some (.ref v1), some (.ref v2), some (.ref v3), some (.int v4), none, none]) ⟨rfl, ⟨rfl, ⟨rfl, ⟨rfl, ⟨rfl, trivial⟩⟩⟩⟩⟩ ?_
  refine V_widen (k' := k + 8) (n' := n + 57) (by first | exact Nat.le_of_ble_eq_true rfl | omega | (dsimp only; omega)) (by first | exact Nat.le_of_ble_eq_true rfl | omega | (dsimp only; omega)) ?_
  exact wv_L_law_2588 hl hG hX hret k n (by omega) (by omega) hK23 _ _ _ _ _ h
def wp_L_law_1310 (L : Nat) (xs : Nat → Int32) (K23 : Nat → Nat → Nat → Int32 → Sg → Prop) (v1 : Nat) (v2 : Nat) (v3 : Nat) (v4 : Int32) (σ : Sg) : Prop := (wp_L_law_2588 L xs K23 v1 v2 v3 v4 σ)
set_option maxRecDepth 100000 in
set_option maxHeartbeats 4000000 in
theorem wv_L_law_1310 {L9 : Launch} {G : Cx} {Q : State → Prop} {L : Nat} {xs : Nat → Int32} (hl : L9.stackTraces = false) (hG : CX L9 G yL_law cL_law 7 (some .boolean) [] { frames := 13, cells := 700684, slots := 6994052, locals := 496 }) (hX : LX G L xs) (hret : HRT G Q) {K23 : Nat → Nat → Nat → Int32 → Sg → Prop} (k n : Nat) (hk : k + 8 ≤ 4206) (hn : n + 57 ≤ 30972) (hK23 : ∀ (v1 : Nat) (v2 : Nat) (v3 : Nat) (v4 : Int32) (ζ : Sg), K23 v1 v2 v3 v4 ζ → V G Q 23 [some (.ref 25), some (.ref v1), some (.ref v2), some (.ref v3), some (.int v4), none, none] [] ζ (k + 8) (n + 57)) : ∀ (v1 : Nat) (v2 : Nat) (v3 : Nat) (v4 : Int32) (σ : Sg), wp_L_law_1310 L xs K23 v1 v2 v3 v4 σ → V G Q 1310 [some (.ref 25), some (.ref v1), some (.ref v2), some (.ref v3), some (.int v4), none, none] [] σ (k + 5) (n + 36) := by
  intro v1 v2 v3 v4 σ h
  unfold wp_L_law_1310 at h
  refine V_goto (tgt := 2588) hG dL_law_1310 (by decide) ?_
  refine V_forget (lo' := [some (.ref 25), some (.ref v1), some (.ref v2), some (.ref v3), some (.int v4), none, none]) ⟨rfl, ⟨rfl, ⟨rfl, ⟨rfl, ⟨rfl, trivial⟩⟩⟩⟩⟩ ?_
  refine V_widen (k' := k + 8) (n' := n + 57) (by first | exact Nat.le_of_ble_eq_true rfl | omega | (dsimp only; omega)) (by first | exact Nat.le_of_ble_eq_true rfl | omega | (dsimp only; omega)) ?_
  exact wv_L_law_2588 hl hG hX hret k n (by omega) (by omega) hK23 _ _ _ _ _ h
def wp_L_law_1366 (L : Nat) (xs : Nat → Int32) (K23 : Nat → Nat → Nat → Int32 → Sg → Prop) (v1 : Nat) (v2 : Nat) (v3 : Nat) (v4 : Int32) (σ : Sg) : Prop := (wp_L_law_2588 L xs K23 v1 v2 v3 v4 σ)
set_option maxRecDepth 100000 in
set_option maxHeartbeats 4000000 in
theorem wv_L_law_1366 {L9 : Launch} {G : Cx} {Q : State → Prop} {L : Nat} {xs : Nat → Int32} (hl : L9.stackTraces = false) (hG : CX L9 G yL_law cL_law 7 (some .boolean) [] { frames := 13, cells := 700684, slots := 6994052, locals := 496 }) (hX : LX G L xs) (hret : HRT G Q) {K23 : Nat → Nat → Nat → Int32 → Sg → Prop} (k n : Nat) (hk : k + 8 ≤ 4206) (hn : n + 57 ≤ 30972) (hK23 : ∀ (v1 : Nat) (v2 : Nat) (v3 : Nat) (v4 : Int32) (ζ : Sg), K23 v1 v2 v3 v4 ζ → V G Q 23 [some (.ref 25), some (.ref v1), some (.ref v2), some (.ref v3), some (.int v4), none, none] [] ζ (k + 8) (n + 57)) : ∀ (v1 : Nat) (v2 : Nat) (v3 : Nat) (v4 : Int32) (σ : Sg), wp_L_law_1366 L xs K23 v1 v2 v3 v4 σ → V G Q 1366 [some (.ref 25), some (.ref v1), some (.ref v2), some (.ref v3), some (.int v4), none, none] [] σ (k + 1) (n + 6) := by
  intro v1 v2 v3 v4 σ h
  unfold wp_L_law_1366 at h
  refine V_goto (tgt := 2588) hG dL_law_1366 (by decide) ?_
  refine V_forget (lo' := [some (.ref 25), some (.ref v1), some (.ref v2), some (.ref v3), some (.int v4), none, none]) ⟨rfl, ⟨rfl, ⟨rfl, ⟨rfl, ⟨rfl, trivial⟩⟩⟩⟩⟩ ?_
  refine V_widen (k' := k + 8) (n' := n + 57) (by first | exact Nat.le_of_ble_eq_true rfl | omega | (dsimp only; omega)) (by first | exact Nat.le_of_ble_eq_true rfl | omega | (dsimp only; omega)) ?_
  exact wv_L_law_2588 hl hG hX hret k n (by omega) (by omega) hK23 _ _ _ _ _ h
def wp_L_law_1446 (L : Nat) (xs : Nat → Int32) (K23 : Nat → Nat → Nat → Int32 → Sg → Prop) (v1 : Nat) (v2 : Nat) (v3 : Nat) (v4 : Int32) (σ : Sg) : Prop := (wp_L_law_2588 L xs K23 v1 v2 v3 v4 σ)
set_option maxRecDepth 100000 in
set_option maxHeartbeats 4000000 in
theorem wv_L_law_1446 {L9 : Launch} {G : Cx} {Q : State → Prop} {L : Nat} {xs : Nat → Int32} (hl : L9.stackTraces = false) (hG : CX L9 G yL_law cL_law 7 (some .boolean) [] { frames := 13, cells := 700684, slots := 6994052, locals := 496 }) (hX : LX G L xs) (hret : HRT G Q) {K23 : Nat → Nat → Nat → Int32 → Sg → Prop} (k n : Nat) (hk : k + 8 ≤ 4206) (hn : n + 57 ≤ 30972) (hK23 : ∀ (v1 : Nat) (v2 : Nat) (v3 : Nat) (v4 : Int32) (ζ : Sg), K23 v1 v2 v3 v4 ζ → V G Q 23 [some (.ref 25), some (.ref v1), some (.ref v2), some (.ref v3), some (.int v4), none, none] [] ζ (k + 8) (n + 57)) : ∀ (v1 : Nat) (v2 : Nat) (v3 : Nat) (v4 : Int32) (σ : Sg), wp_L_law_1446 L xs K23 v1 v2 v3 v4 σ → V G Q 1446 [some (.ref 25), some (.ref v1), some (.ref v2), some (.ref v3), some (.int v4), none, none] [] σ (k + 5) (n + 30) := by
  intro v1 v2 v3 v4 σ h
  unfold wp_L_law_1446 at h
  refine V_goto (tgt := 2588) hG dL_law_1446 (by decide) ?_
  refine V_forget (lo' := [some (.ref 25), some (.ref v1), some (.ref v2), some (.ref v3), some (.int v4), none, none]) ⟨rfl, ⟨rfl, ⟨rfl, ⟨rfl, ⟨rfl, trivial⟩⟩⟩⟩⟩ ?_
  refine V_widen (k' := k + 8) (n' := n + 57) (by first | exact Nat.le_of_ble_eq_true rfl | omega | (dsimp only; omega)) (by first | exact Nat.le_of_ble_eq_true rfl | omega | (dsimp only; omega)) ?_
  exact wv_L_law_2588 hl hG hX hret k n (by omega) (by omega) hK23 _ _ _ _ _ h
def wp_L_law_1502 (L : Nat) (xs : Nat → Int32) (K23 : Nat → Nat → Nat → Int32 → Sg → Prop) (v1 : Nat) (v2 : Nat) (v3 : Nat) (v4 : Int32) (σ : Sg) : Prop := (wp_L_law_2588 L xs K23 v1 v2 v3 v4 σ)
set_option maxRecDepth 100000 in
set_option maxHeartbeats 4000000 in
theorem wv_L_law_1502 {L9 : Launch} {G : Cx} {Q : State → Prop} {L : Nat} {xs : Nat → Int32} (hl : L9.stackTraces = false) (hG : CX L9 G yL_law cL_law 7 (some .boolean) [] { frames := 13, cells := 700684, slots := 6994052, locals := 496 }) (hX : LX G L xs) (hret : HRT G Q) {K23 : Nat → Nat → Nat → Int32 → Sg → Prop} (k n : Nat) (hk : k + 8 ≤ 4206) (hn : n + 57 ≤ 30972) (hK23 : ∀ (v1 : Nat) (v2 : Nat) (v3 : Nat) (v4 : Int32) (ζ : Sg), K23 v1 v2 v3 v4 ζ → V G Q 23 [some (.ref 25), some (.ref v1), some (.ref v2), some (.ref v3), some (.int v4), none, none] [] ζ (k + 8) (n + 57)) : ∀ (v1 : Nat) (v2 : Nat) (v3 : Nat) (v4 : Int32) (σ : Sg), wp_L_law_1502 L xs K23 v1 v2 v3 v4 σ → V G Q 1502 [some (.ref 25), some (.ref v1), some (.ref v2), some (.ref v3), some (.int v4), none, none] [] σ (k + 2) (n + 12) := by
  intro v1 v2 v3 v4 σ h
  unfold wp_L_law_1502 at h
  refine V_goto (tgt := 2588) hG dL_law_1502 (by decide) ?_
  refine V_forget (lo' := [some (.ref 25), some (.ref v1), some (.ref v2), some (.ref v3), some (.int v4), none, none]) ⟨rfl, ⟨rfl, ⟨rfl, ⟨rfl, ⟨rfl, trivial⟩⟩⟩⟩⟩ ?_
  refine V_widen (k' := k + 8) (n' := n + 57) (by first | exact Nat.le_of_ble_eq_true rfl | omega | (dsimp only; omega)) (by first | exact Nat.le_of_ble_eq_true rfl | omega | (dsimp only; omega)) ?_
  exact wv_L_law_2588 hl hG hX hret k n (by omega) (by omega) hK23 _ _ _ _ _ h
def wp_L_law_1558 (L : Nat) (xs : Nat → Int32) (K23 : Nat → Nat → Nat → Int32 → Sg → Prop) (v1 : Nat) (v2 : Nat) (v3 : Nat) (v4 : Int32) (σ : Sg) : Prop := (wp_L_law_2588 L xs K23 v1 v2 v3 v4 σ)
set_option maxRecDepth 100000 in
set_option maxHeartbeats 4000000 in
theorem wv_L_law_1558 {L9 : Launch} {G : Cx} {Q : State → Prop} {L : Nat} {xs : Nat → Int32} (hl : L9.stackTraces = false) (hG : CX L9 G yL_law cL_law 7 (some .boolean) [] { frames := 13, cells := 700684, slots := 6994052, locals := 496 }) (hX : LX G L xs) (hret : HRT G Q) {K23 : Nat → Nat → Nat → Int32 → Sg → Prop} (k n : Nat) (hk : k + 8 ≤ 4206) (hn : n + 57 ≤ 30972) (hK23 : ∀ (v1 : Nat) (v2 : Nat) (v3 : Nat) (v4 : Int32) (ζ : Sg), K23 v1 v2 v3 v4 ζ → V G Q 23 [some (.ref 25), some (.ref v1), some (.ref v2), some (.ref v3), some (.int v4), none, none] [] ζ (k + 8) (n + 57)) : ∀ (v1 : Nat) (v2 : Nat) (v3 : Nat) (v4 : Int32) (σ : Sg), wp_L_law_1558 L xs K23 v1 v2 v3 v4 σ → V G Q 1558 [some (.ref 25), some (.ref v1), some (.ref v2), some (.ref v3), some (.int v4), none, none] [] σ (k + 3) (n + 24) := by
  intro v1 v2 v3 v4 σ h
  unfold wp_L_law_1558 at h
  refine V_goto (tgt := 2588) hG dL_law_1558 (by decide) ?_
  refine V_forget (lo' := [some (.ref 25), some (.ref v1), some (.ref v2), some (.ref v3), some (.int v4), none, none]) ⟨rfl, ⟨rfl, ⟨rfl, ⟨rfl, ⟨rfl, trivial⟩⟩⟩⟩⟩ ?_
  refine V_widen (k' := k + 8) (n' := n + 57) (by first | exact Nat.le_of_ble_eq_true rfl | omega | (dsimp only; omega)) (by first | exact Nat.le_of_ble_eq_true rfl | omega | (dsimp only; omega)) ?_
  exact wv_L_law_2588 hl hG hX hret k n (by omega) (by omega) hK23 _ _ _ _ _ h
def wp_L_law_1594 (L : Nat) (xs : Nat → Int32) (K23 : Nat → Nat → Nat → Int32 → Sg → Prop) (v1 : Nat) (v2 : Nat) (v3 : Nat) (v4 : Int32) (s0 : Int32) (s1 : Nat) (s2 : Int32) (σ : Sg) : Prop := s1 % 32 = 10 ∧ wp_X10_stand s1 s2 σ (KI (fun x2 σ1 => ((s0 = x2 → (wp_L_law_2588 L xs K23 v1 v2 v3 v4 σ1)) ∧ (¬ s0 = x2 → (0 : Int32) = 1))) (fun _ _ => False))
set_option maxRecDepth 100000 in
set_option maxHeartbeats 4000000 in
theorem wv_L_law_1594 {L9 : Launch} {G : Cx} {Q : State → Prop} {L : Nat} {xs : Nat → Int32} (hl : L9.stackTraces = false) (hG : CX L9 G yL_law cL_law 7 (some .boolean) [] { frames := 13, cells := 700684, slots := 6994052, locals := 496 }) (hX : LX G L xs) (hret : HRT G Q) {K23 : Nat → Nat → Nat → Int32 → Sg → Prop} (k n : Nat) (hk : k + 8 ≤ 4206) (hn : n + 57 ≤ 30972) (hK23 : ∀ (v1 : Nat) (v2 : Nat) (v3 : Nat) (v4 : Int32) (ζ : Sg), K23 v1 v2 v3 v4 ζ → V G Q 23 [some (.ref 25), some (.ref v1), some (.ref v2), some (.ref v3), some (.int v4), none, none] [] ζ (k + 8) (n + 57)) : ∀ (v1 : Nat) (v2 : Nat) (v3 : Nat) (v4 : Int32) (s0 : Int32) (s1 : Nat) (s2 : Int32) (σ : Sg), wp_L_law_1594 L xs K23 v1 v2 v3 v4 s0 s1 s2 σ → V G Q 1594 [some (.ref 25), some (.ref v1), some (.ref v2), some (.ref v3), some (.int v4), none, none] [.int s2, .ref s1, .int s0] σ (k + 0) (n + 0) := by
  intro v1 v2 v3 v4 s0 s1 s2 σ h
  unfold wp_L_law_1594 at h
  obtain ⟨ht, h⟩ := h
  refine V_cVI _ _ hG dL_law_1594 (ct_X10_stand hl h) mv_X10_stand ml_L_196 ht rfl rfl rfl rfl (by first | exact Nat.le_of_ble_eq_true rfl | (simp only [List.map_cons, List.map_nil, List.sum_cons, List.sum_nil, cat_rf]; exact Nat.le_of_ble_eq_true rfl)) (by first | exact Nat.le_of_ble_eq_true rfl | omega | (dsimp only; omega)) (by first | exact Nat.le_of_ble_eq_true rfl | omega | (dsimp only; omega)) (by first | exact Nat.le_of_ble_eq_true rfl | omega | (dsimp only; omega)) (by first | exact Nat.le_of_ble_eq_true rfl | omega | (dsimp only; omega)) ?_ (fun x2 σ1 h9 => ?_)
  · exact fun _ _ hx => hx.elim
  · replace h := h9
    clear h9
    refine V_icmp_eq (tgt := 2588) hG dL_law_1597 (by decide) (fun c => ?_) (fun c => ?_)
    · replace h := h.1 c
      refine V_forget (lo' := [some (.ref 25), some (.ref v1), some (.ref v2), some (.ref v3), some (.int v4), none, none]) ⟨rfl, ⟨rfl, ⟨rfl, ⟨rfl, ⟨rfl, trivial⟩⟩⟩⟩⟩ ?_
      refine V_widen (k' := k + 8) (n' := n + 57) (by first | exact Nat.le_of_ble_eq_true rfl | omega | (dsimp only; omega)) (by first | exact Nat.le_of_ble_eq_true rfl | omega | (dsimp only; omega)) ?_
      exact wv_L_law_2588 hl hG hX hret k n (by omega) (by omega) hK23 _ _ _ _ _ h
    · replace h := h.2 c
      refine V_iconst (v := 0) hG (by decide) dL_law_1600 ?_
      exact law1 hret dL_law_1601 h (by first | exact Nat.le_of_ble_eq_true rfl | omega | (dsimp only; omega)) (by first | exact Nat.le_of_ble_eq_true rfl | omega | (dsimp only; omega))
def wp_L_law_1576 (L : Nat) (xs : Nat → Int32) (K23 : Nat → Nat → Nat → Int32 → Sg → Prop) (v1 : Nat) (v2 : Nat) (v3 : Nat) (v4 : Int32) (s0 : Nat) (s1 : Int32) (σ : Sg) : Prop := s0 % 32 = 9 ∧ wp_X9_stand s0 s1 σ (KI (fun x2 σ1 => ∃ j3, (v4 + (1 : Int32)) = nI j3 ∧ j3 < L ∧ (((xs j3) = 0 → (wp_L_law_1594 L xs K23 v1 v2 v3 v4 x2 v2 (0 : Int32) σ1)) ∧ (¬ (xs j3) = 0 → (wp_L_law_1594 L xs K23 v1 v2 v3 v4 x2 v2 (1 : Int32) σ1)))) (fun _ _ => False))
set_option maxRecDepth 100000 in
set_option maxHeartbeats 4000000 in
theorem wv_L_law_1576 {L9 : Launch} {G : Cx} {Q : State → Prop} {L : Nat} {xs : Nat → Int32} (hl : L9.stackTraces = false) (hG : CX L9 G yL_law cL_law 7 (some .boolean) [] { frames := 13, cells := 700684, slots := 6994052, locals := 496 }) (hX : LX G L xs) (hret : HRT G Q) {K23 : Nat → Nat → Nat → Int32 → Sg → Prop} (k n : Nat) (hk : k + 8 ≤ 4206) (hn : n + 57 ≤ 30972) (hK23 : ∀ (v1 : Nat) (v2 : Nat) (v3 : Nat) (v4 : Int32) (ζ : Sg), K23 v1 v2 v3 v4 ζ → V G Q 23 [some (.ref 25), some (.ref v1), some (.ref v2), some (.ref v3), some (.int v4), none, none] [] ζ (k + 8) (n + 57)) : ∀ (v1 : Nat) (v2 : Nat) (v3 : Nat) (v4 : Int32) (s0 : Nat) (s1 : Int32) (σ : Sg), wp_L_law_1576 L xs K23 v1 v2 v3 v4 s0 s1 σ → V G Q 1576 [some (.ref 25), some (.ref v1), some (.ref v2), some (.ref v3), some (.int v4), none, none] [.int s1, .ref s0] σ (k + 0) (n + 0) := by
  intro v1 v2 v3 v4 s0 s1 σ h
  unfold wp_L_law_1576 at h
  obtain ⟨ht, h⟩ := h
  refine V_cVI _ _ hG dL_law_1576 (ct_X9_stand hl h) mv_X9_stand ml_L_192 ht rfl rfl rfl rfl (by first | exact Nat.le_of_ble_eq_true rfl | (simp only [List.map_cons, List.map_nil, List.sum_cons, List.sum_nil, cat_rf]; exact Nat.le_of_ble_eq_true rfl)) (by first | exact Nat.le_of_ble_eq_true rfl | omega | (dsimp only; omega)) (by first | exact Nat.le_of_ble_eq_true rfl | omega | (dsimp only; omega)) (by first | exact Nat.le_of_ble_eq_true rfl | omega | (dsimp only; omega)) (by first | exact Nat.le_of_ble_eq_true rfl | omega | (dsimp only; omega)) ?_ (fun x2 σ1 h9 => ?_)
  · exact fun _ _ hx => hx.elim
  · replace h := h9
    clear h9
    refine V_aload_n (v := .ref v2) hG dL_law_1579 rfl rfl ?_
    refine V_aload_n (v := .ref 25) hG dL_law_1580 rfl rfl ?_
    refine V_iload hG dL_law_1581 rfl ?_
    refine V_iconst (v := 1) hG (by decide) dL_law_1583 ?_
    refine V_iadd hG dL_law_1584 ?_
    obtain ⟨j3, hi, hj, h⟩ := h
    refine V_sld hG hX dL_law_1585 hi hj ?_
    refine V_if_eq (tgt := 1593) hG dL_law_1586 (by decide) (fun c => ?_) (fun c => ?_)
    · replace h := h.1 c
      refine V_iconst (v := 0) hG (by decide) dL_law_1593 ?_
      refine V_forget (lo' := [some (.ref 25), some (.ref v1), some (.ref v2), some (.ref v3), some (.int v4), none, none]) ⟨rfl, ⟨rfl, ⟨rfl, ⟨rfl, ⟨rfl, trivial⟩⟩⟩⟩⟩ ?_
      refine V_widen (k' := k + 0) (n' := n + 0) (by first | exact Nat.le_of_ble_eq_true rfl | omega | (dsimp only; omega)) (by first | exact Nat.le_of_ble_eq_true rfl | omega | (dsimp only; omega)) ?_
      exact wv_L_law_1594 hl hG hX hret k n (by omega) (by omega) hK23 _ _ _ _ _ _ _ _ h
    · replace h := h.2 c
      refine V_iconst (v := 1) hG (by decide) dL_law_1589 ?_
      refine V_goto (tgt := 1594) hG dL_law_1590 (by decide) ?_
      refine V_forget (lo' := [some (.ref 25), some (.ref v1), some (.ref v2), some (.ref v3), some (.int v4), none, none]) ⟨rfl, ⟨rfl, ⟨rfl, ⟨rfl, ⟨rfl, trivial⟩⟩⟩⟩⟩ ?_
      refine V_widen (k' := k + 0) (n' := n + 0) (by first | exact Nat.le_of_ble_eq_true rfl | omega | (dsimp only; omega)) (by first | exact Nat.le_of_ble_eq_true rfl | omega | (dsimp only; omega)) ?_
      exact wv_L_law_1594 hl hG hX hret k n (by omega) (by omega) hK23 _ _ _ _ _ _ _ _ h
def wp_L_law_1655 (L : Nat) (xs : Nat → Int32) (K23 : Nat → Nat → Nat → Int32 → Sg → Prop) (v1 : Nat) (v2 : Nat) (v3 : Nat) (v4 : Int32) (σ : Sg) : Prop := (wp_L_law_2588 L xs K23 v1 v2 v3 v4 σ)
set_option maxRecDepth 100000 in
set_option maxHeartbeats 4000000 in
theorem wv_L_law_1655 {L9 : Launch} {G : Cx} {Q : State → Prop} {L : Nat} {xs : Nat → Int32} (hl : L9.stackTraces = false) (hG : CX L9 G yL_law cL_law 7 (some .boolean) [] { frames := 13, cells := 700684, slots := 6994052, locals := 496 }) (hX : LX G L xs) (hret : HRT G Q) {K23 : Nat → Nat → Nat → Int32 → Sg → Prop} (k n : Nat) (hk : k + 8 ≤ 4206) (hn : n + 57 ≤ 30972) (hK23 : ∀ (v1 : Nat) (v2 : Nat) (v3 : Nat) (v4 : Int32) (ζ : Sg), K23 v1 v2 v3 v4 ζ → V G Q 23 [some (.ref 25), some (.ref v1), some (.ref v2), some (.ref v3), some (.int v4), none, none] [] ζ (k + 8) (n + 57)) : ∀ (v1 : Nat) (v2 : Nat) (v3 : Nat) (v4 : Int32) (σ : Sg), wp_L_law_1655 L xs K23 v1 v2 v3 v4 σ → V G Q 1655 [some (.ref 25), some (.ref v1), some (.ref v2), some (.ref v3), some (.int v4), none, none] [] σ (k + 2) (n + 12) := by
  intro v1 v2 v3 v4 σ h
  unfold wp_L_law_1655 at h
  refine V_goto (tgt := 2588) hG dL_law_1655 (by decide) ?_
  refine V_forget (lo' := [some (.ref 25), some (.ref v1), some (.ref v2), some (.ref v3), some (.int v4), none, none]) ⟨rfl, ⟨rfl, ⟨rfl, ⟨rfl, ⟨rfl, trivial⟩⟩⟩⟩⟩ ?_
  refine V_widen (k' := k + 8) (n' := n + 57) (by first | exact Nat.le_of_ble_eq_true rfl | omega | (dsimp only; omega)) (by first | exact Nat.le_of_ble_eq_true rfl | omega | (dsimp only; omega)) ?_
  exact wv_L_law_2588 hl hG hX hret k n (by omega) (by omega) hK23 _ _ _ _ _ h
def wp_L_law_1749 (L : Nat) (xs : Nat → Int32) (K23 : Nat → Nat → Nat → Int32 → Sg → Prop) (v1 : Nat) (v2 : Nat) (v3 : Nat) (v4 : Int32) (σ : Sg) : Prop := (wp_L_law_2588 L xs K23 v1 v2 v3 v4 σ)
set_option maxRecDepth 100000 in
set_option maxHeartbeats 4000000 in
theorem wv_L_law_1749 {L9 : Launch} {G : Cx} {Q : State → Prop} {L : Nat} {xs : Nat → Int32} (hl : L9.stackTraces = false) (hG : CX L9 G yL_law cL_law 7 (some .boolean) [] { frames := 13, cells := 700684, slots := 6994052, locals := 496 }) (hX : LX G L xs) (hret : HRT G Q) {K23 : Nat → Nat → Nat → Int32 → Sg → Prop} (k n : Nat) (hk : k + 8 ≤ 4206) (hn : n + 57 ≤ 30972) (hK23 : ∀ (v1 : Nat) (v2 : Nat) (v3 : Nat) (v4 : Int32) (ζ : Sg), K23 v1 v2 v3 v4 ζ → V G Q 23 [some (.ref 25), some (.ref v1), some (.ref v2), some (.ref v3), some (.int v4), none, none] [] ζ (k + 8) (n + 57)) : ∀ (v1 : Nat) (v2 : Nat) (v3 : Nat) (v4 : Int32) (σ : Sg), wp_L_law_1749 L xs K23 v1 v2 v3 v4 σ → V G Q 1749 [some (.ref 25), some (.ref v1), some (.ref v2), some (.ref v3), some (.int v4), none, none] [] σ (k + 2) (n + 12) := by
  intro v1 v2 v3 v4 σ h
  unfold wp_L_law_1749 at h
  refine V_goto (tgt := 2588) hG dL_law_1749 (by decide) ?_
  refine V_forget (lo' := [some (.ref 25), some (.ref v1), some (.ref v2), some (.ref v3), some (.int v4), none, none]) ⟨rfl, ⟨rfl, ⟨rfl, ⟨rfl, ⟨rfl, trivial⟩⟩⟩⟩⟩ ?_
  refine V_widen (k' := k + 8) (n' := n + 57) (by first | exact Nat.le_of_ble_eq_true rfl | omega | (dsimp only; omega)) (by first | exact Nat.le_of_ble_eq_true rfl | omega | (dsimp only; omega)) ?_
  exact wv_L_law_2588 hl hG hX hret k n (by omega) (by omega) hK23 _ _ _ _ _ h
def wp_L_law_1817 (L : Nat) (xs : Nat → Int32) (K23 : Nat → Nat → Nat → Int32 → Sg → Prop) (v1 : Nat) (v2 : Nat) (v3 : Nat) (v4 : Int32) (σ : Sg) : Prop := (wp_L_law_2588 L xs K23 v1 v2 v3 v4 σ)
set_option maxRecDepth 100000 in
set_option maxHeartbeats 4000000 in
theorem wv_L_law_1817 {L9 : Launch} {G : Cx} {Q : State → Prop} {L : Nat} {xs : Nat → Int32} (hl : L9.stackTraces = false) (hG : CX L9 G yL_law cL_law 7 (some .boolean) [] { frames := 13, cells := 700684, slots := 6994052, locals := 496 }) (hX : LX G L xs) (hret : HRT G Q) {K23 : Nat → Nat → Nat → Int32 → Sg → Prop} (k n : Nat) (hk : k + 8 ≤ 4206) (hn : n + 57 ≤ 30972) (hK23 : ∀ (v1 : Nat) (v2 : Nat) (v3 : Nat) (v4 : Int32) (ζ : Sg), K23 v1 v2 v3 v4 ζ → V G Q 23 [some (.ref 25), some (.ref v1), some (.ref v2), some (.ref v3), some (.int v4), none, none] [] ζ (k + 8) (n + 57)) : ∀ (v1 : Nat) (v2 : Nat) (v3 : Nat) (v4 : Int32) (σ : Sg), wp_L_law_1817 L xs K23 v1 v2 v3 v4 σ → V G Q 1817 [some (.ref 25), some (.ref v1), some (.ref v2), some (.ref v3), some (.int v4), none, none] [] σ (k + 2) (n + 12) := by
  intro v1 v2 v3 v4 σ h
  unfold wp_L_law_1817 at h
  refine V_goto (tgt := 2588) hG dL_law_1817 (by decide) ?_
  refine V_forget (lo' := [some (.ref 25), some (.ref v1), some (.ref v2), some (.ref v3), some (.int v4), none, none]) ⟨rfl, ⟨rfl, ⟨rfl, ⟨rfl, ⟨rfl, trivial⟩⟩⟩⟩⟩ ?_
  refine V_widen (k' := k + 8) (n' := n + 57) (by first | exact Nat.le_of_ble_eq_true rfl | omega | (dsimp only; omega)) (by first | exact Nat.le_of_ble_eq_true rfl | omega | (dsimp only; omega)) ?_
  exact wv_L_law_2588 hl hG hX hret k n (by omega) (by omega) hK23 _ _ _ _ _ h
def wp_L_law_1885 (L : Nat) (xs : Nat → Int32) (K23 : Nat → Nat → Nat → Int32 → Sg → Prop) (v1 : Nat) (v2 : Nat) (v3 : Nat) (v4 : Int32) (σ : Sg) : Prop := (wp_L_law_2588 L xs K23 v1 v2 v3 v4 σ)
set_option maxRecDepth 100000 in
set_option maxHeartbeats 4000000 in
theorem wv_L_law_1885 {L9 : Launch} {G : Cx} {Q : State → Prop} {L : Nat} {xs : Nat → Int32} (hl : L9.stackTraces = false) (hG : CX L9 G yL_law cL_law 7 (some .boolean) [] { frames := 13, cells := 700684, slots := 6994052, locals := 496 }) (hX : LX G L xs) (hret : HRT G Q) {K23 : Nat → Nat → Nat → Int32 → Sg → Prop} (k n : Nat) (hk : k + 8 ≤ 4206) (hn : n + 57 ≤ 30972) (hK23 : ∀ (v1 : Nat) (v2 : Nat) (v3 : Nat) (v4 : Int32) (ζ : Sg), K23 v1 v2 v3 v4 ζ → V G Q 23 [some (.ref 25), some (.ref v1), some (.ref v2), some (.ref v3), some (.int v4), none, none] [] ζ (k + 8) (n + 57)) : ∀ (v1 : Nat) (v2 : Nat) (v3 : Nat) (v4 : Int32) (σ : Sg), wp_L_law_1885 L xs K23 v1 v2 v3 v4 σ → V G Q 1885 [some (.ref 25), some (.ref v1), some (.ref v2), some (.ref v3), some (.int v4), none, none] [] σ (k + 2) (n + 12) := by
  intro v1 v2 v3 v4 σ h
  unfold wp_L_law_1885 at h
  refine V_goto (tgt := 2588) hG dL_law_1885 (by decide) ?_
  refine V_forget (lo' := [some (.ref 25), some (.ref v1), some (.ref v2), some (.ref v3), some (.int v4), none, none]) ⟨rfl, ⟨rfl, ⟨rfl, ⟨rfl, ⟨rfl, trivial⟩⟩⟩⟩⟩ ?_
  refine V_widen (k' := k + 8) (n' := n + 57) (by first | exact Nat.le_of_ble_eq_true rfl | omega | (dsimp only; omega)) (by first | exact Nat.le_of_ble_eq_true rfl | omega | (dsimp only; omega)) ?_
  exact wv_L_law_2588 hl hG hX hret k n (by omega) (by omega) hK23 _ _ _ _ _ h
def wp_L_law_1953 (L : Nat) (xs : Nat → Int32) (K23 : Nat → Nat → Nat → Int32 → Sg → Prop) (v1 : Nat) (v2 : Nat) (v3 : Nat) (v4 : Int32) (σ : Sg) : Prop := (wp_L_law_2588 L xs K23 v1 v2 v3 v4 σ)
set_option maxRecDepth 100000 in
set_option maxHeartbeats 4000000 in
theorem wv_L_law_1953 {L9 : Launch} {G : Cx} {Q : State → Prop} {L : Nat} {xs : Nat → Int32} (hl : L9.stackTraces = false) (hG : CX L9 G yL_law cL_law 7 (some .boolean) [] { frames := 13, cells := 700684, slots := 6994052, locals := 496 }) (hX : LX G L xs) (hret : HRT G Q) {K23 : Nat → Nat → Nat → Int32 → Sg → Prop} (k n : Nat) (hk : k + 8 ≤ 4206) (hn : n + 57 ≤ 30972) (hK23 : ∀ (v1 : Nat) (v2 : Nat) (v3 : Nat) (v4 : Int32) (ζ : Sg), K23 v1 v2 v3 v4 ζ → V G Q 23 [some (.ref 25), some (.ref v1), some (.ref v2), some (.ref v3), some (.int v4), none, none] [] ζ (k + 8) (n + 57)) : ∀ (v1 : Nat) (v2 : Nat) (v3 : Nat) (v4 : Int32) (σ : Sg), wp_L_law_1953 L xs K23 v1 v2 v3 v4 σ → V G Q 1953 [some (.ref 25), some (.ref v1), some (.ref v2), some (.ref v3), some (.int v4), none, none] [] σ (k + 2) (n + 12) := by
  intro v1 v2 v3 v4 σ h
  unfold wp_L_law_1953 at h
  refine V_goto (tgt := 2588) hG dL_law_1953 (by decide) ?_
  refine V_forget (lo' := [some (.ref 25), some (.ref v1), some (.ref v2), some (.ref v3), some (.int v4), none, none]) ⟨rfl, ⟨rfl, ⟨rfl, ⟨rfl, ⟨rfl, trivial⟩⟩⟩⟩⟩ ?_
  refine V_widen (k' := k + 8) (n' := n + 57) (by first | exact Nat.le_of_ble_eq_true rfl | omega | (dsimp only; omega)) (by first | exact Nat.le_of_ble_eq_true rfl | omega | (dsimp only; omega)) ?_
  exact wv_L_law_2588 hl hG hX hret k n (by omega) (by omega) hK23 _ _ _ _ _ h
def wp_L_law_2021 (L : Nat) (xs : Nat → Int32) (K23 : Nat → Nat → Nat → Int32 → Sg → Prop) (v1 : Nat) (v2 : Nat) (v3 : Nat) (v4 : Int32) (σ : Sg) : Prop := (wp_L_law_2588 L xs K23 v1 v2 v3 v4 σ)
set_option maxRecDepth 100000 in
set_option maxHeartbeats 4000000 in
theorem wv_L_law_2021 {L9 : Launch} {G : Cx} {Q : State → Prop} {L : Nat} {xs : Nat → Int32} (hl : L9.stackTraces = false) (hG : CX L9 G yL_law cL_law 7 (some .boolean) [] { frames := 13, cells := 700684, slots := 6994052, locals := 496 }) (hX : LX G L xs) (hret : HRT G Q) {K23 : Nat → Nat → Nat → Int32 → Sg → Prop} (k n : Nat) (hk : k + 8 ≤ 4206) (hn : n + 57 ≤ 30972) (hK23 : ∀ (v1 : Nat) (v2 : Nat) (v3 : Nat) (v4 : Int32) (ζ : Sg), K23 v1 v2 v3 v4 ζ → V G Q 23 [some (.ref 25), some (.ref v1), some (.ref v2), some (.ref v3), some (.int v4), none, none] [] ζ (k + 8) (n + 57)) : ∀ (v1 : Nat) (v2 : Nat) (v3 : Nat) (v4 : Int32) (σ : Sg), wp_L_law_2021 L xs K23 v1 v2 v3 v4 σ → V G Q 2021 [some (.ref 25), some (.ref v1), some (.ref v2), some (.ref v3), some (.int v4), none, none] [] σ (k + 2) (n + 12) := by
  intro v1 v2 v3 v4 σ h
  unfold wp_L_law_2021 at h
  refine V_goto (tgt := 2588) hG dL_law_2021 (by decide) ?_
  refine V_forget (lo' := [some (.ref 25), some (.ref v1), some (.ref v2), some (.ref v3), some (.int v4), none, none]) ⟨rfl, ⟨rfl, ⟨rfl, ⟨rfl, ⟨rfl, trivial⟩⟩⟩⟩⟩ ?_
  refine V_widen (k' := k + 8) (n' := n + 57) (by first | exact Nat.le_of_ble_eq_true rfl | omega | (dsimp only; omega)) (by first | exact Nat.le_of_ble_eq_true rfl | omega | (dsimp only; omega)) ?_
  exact wv_L_law_2588 hl hG hX hret k n (by omega) (by omega) hK23 _ _ _ _ _ h
def wp_L_law_2077 (L : Nat) (xs : Nat → Int32) (K23 : Nat → Nat → Nat → Int32 → Sg → Prop) (v1 : Nat) (v2 : Nat) (v3 : Nat) (v4 : Int32) (σ : Sg) : Prop := (wp_L_law_2588 L xs K23 v1 v2 v3 v4 σ)
set_option maxRecDepth 100000 in
set_option maxHeartbeats 4000000 in
theorem wv_L_law_2077 {L9 : Launch} {G : Cx} {Q : State → Prop} {L : Nat} {xs : Nat → Int32} (hl : L9.stackTraces = false) (hG : CX L9 G yL_law cL_law 7 (some .boolean) [] { frames := 13, cells := 700684, slots := 6994052, locals := 496 }) (hX : LX G L xs) (hret : HRT G Q) {K23 : Nat → Nat → Nat → Int32 → Sg → Prop} (k n : Nat) (hk : k + 8 ≤ 4206) (hn : n + 57 ≤ 30972) (hK23 : ∀ (v1 : Nat) (v2 : Nat) (v3 : Nat) (v4 : Int32) (ζ : Sg), K23 v1 v2 v3 v4 ζ → V G Q 23 [some (.ref 25), some (.ref v1), some (.ref v2), some (.ref v3), some (.int v4), none, none] [] ζ (k + 8) (n + 57)) : ∀ (v1 : Nat) (v2 : Nat) (v3 : Nat) (v4 : Int32) (σ : Sg), wp_L_law_2077 L xs K23 v1 v2 v3 v4 σ → V G Q 2077 [some (.ref 25), some (.ref v1), some (.ref v2), some (.ref v3), some (.int v4), none, none] [] σ (k + 1) (n + 6) := by
  intro v1 v2 v3 v4 σ h
  unfold wp_L_law_2077 at h
  refine V_goto (tgt := 2588) hG dL_law_2077 (by decide) ?_
  refine V_forget (lo' := [some (.ref 25), some (.ref v1), some (.ref v2), some (.ref v3), some (.int v4), none, none]) ⟨rfl, ⟨rfl, ⟨rfl, ⟨rfl, ⟨rfl, trivial⟩⟩⟩⟩⟩ ?_
  refine V_widen (k' := k + 8) (n' := n + 57) (by first | exact Nat.le_of_ble_eq_true rfl | omega | (dsimp only; omega)) (by first | exact Nat.le_of_ble_eq_true rfl | omega | (dsimp only; omega)) ?_
  exact wv_L_law_2588 hl hG hX hret k n (by omega) (by omega) hK23 _ _ _ _ _ h
def wp_L_law_2145 (L : Nat) (xs : Nat → Int32) (K23 : Nat → Nat → Nat → Int32 → Sg → Prop) (v1 : Nat) (v2 : Nat) (v3 : Nat) (v4 : Int32) (σ : Sg) : Prop := (wp_L_law_2588 L xs K23 v1 v2 v3 v4 σ)
set_option maxRecDepth 100000 in
set_option maxHeartbeats 4000000 in
theorem wv_L_law_2145 {L9 : Launch} {G : Cx} {Q : State → Prop} {L : Nat} {xs : Nat → Int32} (hl : L9.stackTraces = false) (hG : CX L9 G yL_law cL_law 7 (some .boolean) [] { frames := 13, cells := 700684, slots := 6994052, locals := 496 }) (hX : LX G L xs) (hret : HRT G Q) {K23 : Nat → Nat → Nat → Int32 → Sg → Prop} (k n : Nat) (hk : k + 8 ≤ 4206) (hn : n + 57 ≤ 30972) (hK23 : ∀ (v1 : Nat) (v2 : Nat) (v3 : Nat) (v4 : Int32) (ζ : Sg), K23 v1 v2 v3 v4 ζ → V G Q 23 [some (.ref 25), some (.ref v1), some (.ref v2), some (.ref v3), some (.int v4), none, none] [] ζ (k + 8) (n + 57)) : ∀ (v1 : Nat) (v2 : Nat) (v3 : Nat) (v4 : Int32) (σ : Sg), wp_L_law_2145 L xs K23 v1 v2 v3 v4 σ → V G Q 2145 [some (.ref 25), some (.ref v1), some (.ref v2), some (.ref v3), some (.int v4), none, none] [] σ (k + 2) (n + 12) := by
  intro v1 v2 v3 v4 σ h
  unfold wp_L_law_2145 at h
  refine V_goto (tgt := 2588) hG dL_law_2145 (by decide) ?_
  refine V_forget (lo' := [some (.ref 25), some (.ref v1), some (.ref v2), some (.ref v3), some (.int v4), none, none]) ⟨rfl, ⟨rfl, ⟨rfl, ⟨rfl, ⟨rfl, trivial⟩⟩⟩⟩⟩ ?_
  refine V_widen (k' := k + 8) (n' := n + 57) (by first | exact Nat.le_of_ble_eq_true rfl | omega | (dsimp only; omega)) (by first | exact Nat.le_of_ble_eq_true rfl | omega | (dsimp only; omega)) ?_
  exact wv_L_law_2588 hl hG hX hret k n (by omega) (by omega) hK23 _ _ _ _ _ h
def wp_L_law_2201 (L : Nat) (xs : Nat → Int32) (K23 : Nat → Nat → Nat → Int32 → Sg → Prop) (v1 : Nat) (v2 : Nat) (v3 : Nat) (v4 : Int32) (σ : Sg) : Prop := (wp_L_law_2588 L xs K23 v1 v2 v3 v4 σ)
set_option maxRecDepth 100000 in
set_option maxHeartbeats 4000000 in
theorem wv_L_law_2201 {L9 : Launch} {G : Cx} {Q : State → Prop} {L : Nat} {xs : Nat → Int32} (hl : L9.stackTraces = false) (hG : CX L9 G yL_law cL_law 7 (some .boolean) [] { frames := 13, cells := 700684, slots := 6994052, locals := 496 }) (hX : LX G L xs) (hret : HRT G Q) {K23 : Nat → Nat → Nat → Int32 → Sg → Prop} (k n : Nat) (hk : k + 8 ≤ 4206) (hn : n + 57 ≤ 30972) (hK23 : ∀ (v1 : Nat) (v2 : Nat) (v3 : Nat) (v4 : Int32) (ζ : Sg), K23 v1 v2 v3 v4 ζ → V G Q 23 [some (.ref 25), some (.ref v1), some (.ref v2), some (.ref v3), some (.int v4), none, none] [] ζ (k + 8) (n + 57)) : ∀ (v1 : Nat) (v2 : Nat) (v3 : Nat) (v4 : Int32) (σ : Sg), wp_L_law_2201 L xs K23 v1 v2 v3 v4 σ → V G Q 2201 [some (.ref 25), some (.ref v1), some (.ref v2), some (.ref v3), some (.int v4), none, none] [] σ (k + 1) (n + 6) := by
  intro v1 v2 v3 v4 σ h
  unfold wp_L_law_2201 at h
  refine V_goto (tgt := 2588) hG dL_law_2201 (by decide) ?_
  refine V_forget (lo' := [some (.ref 25), some (.ref v1), some (.ref v2), some (.ref v3), some (.int v4), none, none]) ⟨rfl, ⟨rfl, ⟨rfl, ⟨rfl, ⟨rfl, trivial⟩⟩⟩⟩⟩ ?_
  refine V_widen (k' := k + 8) (n' := n + 57) (by first | exact Nat.le_of_ble_eq_true rfl | omega | (dsimp only; omega)) (by first | exact Nat.le_of_ble_eq_true rfl | omega | (dsimp only; omega)) ?_
  exact wv_L_law_2588 hl hG hX hret k n (by omega) (by omega) hK23 _ _ _ _ _ h
def wp_L_law_2269 (L : Nat) (xs : Nat → Int32) (K23 : Nat → Nat → Nat → Int32 → Sg → Prop) (v1 : Nat) (v2 : Nat) (v3 : Nat) (v4 : Int32) (σ : Sg) : Prop := (wp_L_law_2588 L xs K23 v1 v2 v3 v4 σ)
set_option maxRecDepth 100000 in
set_option maxHeartbeats 4000000 in
theorem wv_L_law_2269 {L9 : Launch} {G : Cx} {Q : State → Prop} {L : Nat} {xs : Nat → Int32} (hl : L9.stackTraces = false) (hG : CX L9 G yL_law cL_law 7 (some .boolean) [] { frames := 13, cells := 700684, slots := 6994052, locals := 496 }) (hX : LX G L xs) (hret : HRT G Q) {K23 : Nat → Nat → Nat → Int32 → Sg → Prop} (k n : Nat) (hk : k + 8 ≤ 4206) (hn : n + 57 ≤ 30972) (hK23 : ∀ (v1 : Nat) (v2 : Nat) (v3 : Nat) (v4 : Int32) (ζ : Sg), K23 v1 v2 v3 v4 ζ → V G Q 23 [some (.ref 25), some (.ref v1), some (.ref v2), some (.ref v3), some (.int v4), none, none] [] ζ (k + 8) (n + 57)) : ∀ (v1 : Nat) (v2 : Nat) (v3 : Nat) (v4 : Int32) (σ : Sg), wp_L_law_2269 L xs K23 v1 v2 v3 v4 σ → V G Q 2269 [some (.ref 25), some (.ref v1), some (.ref v2), some (.ref v3), some (.int v4), none, none] [] σ (k + 2) (n + 12) := by
  intro v1 v2 v3 v4 σ h
  unfold wp_L_law_2269 at h
  refine V_goto (tgt := 2588) hG dL_law_2269 (by decide) ?_
  refine V_forget (lo' := [some (.ref 25), some (.ref v1), some (.ref v2), some (.ref v3), some (.int v4), none, none]) ⟨rfl, ⟨rfl, ⟨rfl, ⟨rfl, ⟨rfl, trivial⟩⟩⟩⟩⟩ ?_
  refine V_widen (k' := k + 8) (n' := n + 57) (by first | exact Nat.le_of_ble_eq_true rfl | omega | (dsimp only; omega)) (by first | exact Nat.le_of_ble_eq_true rfl | omega | (dsimp only; omega)) ?_
  exact wv_L_law_2588 hl hG hX hret k n (by omega) (by omega) hK23 _ _ _ _ _ h
def wp_L_law_2337 (L : Nat) (xs : Nat → Int32) (K23 : Nat → Nat → Nat → Int32 → Sg → Prop) (v1 : Nat) (v2 : Nat) (v3 : Nat) (v4 : Int32) (σ : Sg) : Prop := (wp_L_law_2588 L xs K23 v1 v2 v3 v4 σ)
set_option maxRecDepth 100000 in
set_option maxHeartbeats 4000000 in
theorem wv_L_law_2337 {L9 : Launch} {G : Cx} {Q : State → Prop} {L : Nat} {xs : Nat → Int32} (hl : L9.stackTraces = false) (hG : CX L9 G yL_law cL_law 7 (some .boolean) [] { frames := 13, cells := 700684, slots := 6994052, locals := 496 }) (hX : LX G L xs) (hret : HRT G Q) {K23 : Nat → Nat → Nat → Int32 → Sg → Prop} (k n : Nat) (hk : k + 8 ≤ 4206) (hn : n + 57 ≤ 30972) (hK23 : ∀ (v1 : Nat) (v2 : Nat) (v3 : Nat) (v4 : Int32) (ζ : Sg), K23 v1 v2 v3 v4 ζ → V G Q 23 [some (.ref 25), some (.ref v1), some (.ref v2), some (.ref v3), some (.int v4), none, none] [] ζ (k + 8) (n + 57)) : ∀ (v1 : Nat) (v2 : Nat) (v3 : Nat) (v4 : Int32) (σ : Sg), wp_L_law_2337 L xs K23 v1 v2 v3 v4 σ → V G Q 2337 [some (.ref 25), some (.ref v1), some (.ref v2), some (.ref v3), some (.int v4), none, none] [] σ (k + 2) (n + 12) := by
  intro v1 v2 v3 v4 σ h
  unfold wp_L_law_2337 at h
  refine V_goto (tgt := 2588) hG dL_law_2337 (by decide) ?_
  refine V_forget (lo' := [some (.ref 25), some (.ref v1), some (.ref v2), some (.ref v3), some (.int v4), none, none]) ⟨rfl, ⟨rfl, ⟨rfl, ⟨rfl, ⟨rfl, trivial⟩⟩⟩⟩⟩ ?_
  refine V_widen (k' := k + 8) (n' := n + 57) (by first | exact Nat.le_of_ble_eq_true rfl | omega | (dsimp only; omega)) (by first | exact Nat.le_of_ble_eq_true rfl | omega | (dsimp only; omega)) ?_
  exact wv_L_law_2588 hl hG hX hret k n (by omega) (by omega) hK23 _ _ _ _ _ h
def wp_L_law_2405 (L : Nat) (xs : Nat → Int32) (K23 : Nat → Nat → Nat → Int32 → Sg → Prop) (v1 : Nat) (v2 : Nat) (v3 : Nat) (v4 : Int32) (σ : Sg) : Prop := (wp_L_law_2588 L xs K23 v1 v2 v3 v4 σ)
set_option maxRecDepth 100000 in
set_option maxHeartbeats 4000000 in
theorem wv_L_law_2405 {L9 : Launch} {G : Cx} {Q : State → Prop} {L : Nat} {xs : Nat → Int32} (hl : L9.stackTraces = false) (hG : CX L9 G yL_law cL_law 7 (some .boolean) [] { frames := 13, cells := 700684, slots := 6994052, locals := 496 }) (hX : LX G L xs) (hret : HRT G Q) {K23 : Nat → Nat → Nat → Int32 → Sg → Prop} (k n : Nat) (hk : k + 8 ≤ 4206) (hn : n + 57 ≤ 30972) (hK23 : ∀ (v1 : Nat) (v2 : Nat) (v3 : Nat) (v4 : Int32) (ζ : Sg), K23 v1 v2 v3 v4 ζ → V G Q 23 [some (.ref 25), some (.ref v1), some (.ref v2), some (.ref v3), some (.int v4), none, none] [] ζ (k + 8) (n + 57)) : ∀ (v1 : Nat) (v2 : Nat) (v3 : Nat) (v4 : Int32) (σ : Sg), wp_L_law_2405 L xs K23 v1 v2 v3 v4 σ → V G Q 2405 [some (.ref 25), some (.ref v1), some (.ref v2), some (.ref v3), some (.int v4), none, none] [] σ (k + 2) (n + 12) := by
  intro v1 v2 v3 v4 σ h
  unfold wp_L_law_2405 at h
  refine V_goto (tgt := 2588) hG dL_law_2405 (by decide) ?_
  refine V_forget (lo' := [some (.ref 25), some (.ref v1), some (.ref v2), some (.ref v3), some (.int v4), none, none]) ⟨rfl, ⟨rfl, ⟨rfl, ⟨rfl, ⟨rfl, trivial⟩⟩⟩⟩⟩ ?_
  refine V_widen (k' := k + 8) (n' := n + 57) (by first | exact Nat.le_of_ble_eq_true rfl | omega | (dsimp only; omega)) (by first | exact Nat.le_of_ble_eq_true rfl | omega | (dsimp only; omega)) ?_
  exact wv_L_law_2588 hl hG hX hret k n (by omega) (by omega) hK23 _ _ _ _ _ h
def wp_L_law_2473 (L : Nat) (xs : Nat → Int32) (K23 : Nat → Nat → Nat → Int32 → Sg → Prop) (v1 : Nat) (v2 : Nat) (v3 : Nat) (v4 : Int32) (σ : Sg) : Prop := (wp_L_law_2588 L xs K23 v1 v2 v3 v4 σ)
set_option maxRecDepth 100000 in
set_option maxHeartbeats 4000000 in
theorem wv_L_law_2473 {L9 : Launch} {G : Cx} {Q : State → Prop} {L : Nat} {xs : Nat → Int32} (hl : L9.stackTraces = false) (hG : CX L9 G yL_law cL_law 7 (some .boolean) [] { frames := 13, cells := 700684, slots := 6994052, locals := 496 }) (hX : LX G L xs) (hret : HRT G Q) {K23 : Nat → Nat → Nat → Int32 → Sg → Prop} (k n : Nat) (hk : k + 8 ≤ 4206) (hn : n + 57 ≤ 30972) (hK23 : ∀ (v1 : Nat) (v2 : Nat) (v3 : Nat) (v4 : Int32) (ζ : Sg), K23 v1 v2 v3 v4 ζ → V G Q 23 [some (.ref 25), some (.ref v1), some (.ref v2), some (.ref v3), some (.int v4), none, none] [] ζ (k + 8) (n + 57)) : ∀ (v1 : Nat) (v2 : Nat) (v3 : Nat) (v4 : Int32) (σ : Sg), wp_L_law_2473 L xs K23 v1 v2 v3 v4 σ → V G Q 2473 [some (.ref 25), some (.ref v1), some (.ref v2), some (.ref v3), some (.int v4), none, none] [] σ (k + 3) (n + 18) := by
  intro v1 v2 v3 v4 σ h
  unfold wp_L_law_2473 at h
  refine V_goto (tgt := 2588) hG dL_law_2473 (by decide) ?_
  refine V_forget (lo' := [some (.ref 25), some (.ref v1), some (.ref v2), some (.ref v3), some (.int v4), none, none]) ⟨rfl, ⟨rfl, ⟨rfl, ⟨rfl, ⟨rfl, trivial⟩⟩⟩⟩⟩ ?_
  refine V_widen (k' := k + 8) (n' := n + 57) (by first | exact Nat.le_of_ble_eq_true rfl | omega | (dsimp only; omega)) (by first | exact Nat.le_of_ble_eq_true rfl | omega | (dsimp only; omega)) ?_
  exact wv_L_law_2588 hl hG hX hret k n (by omega) (by omega) hK23 _ _ _ _ _ h
def wp_L_law_2529 (L : Nat) (xs : Nat → Int32) (K23 : Nat → Nat → Nat → Int32 → Sg → Prop) (v1 : Nat) (v2 : Nat) (v3 : Nat) (v4 : Int32) (σ : Sg) : Prop := (wp_L_law_2588 L xs K23 v1 v2 v3 v4 σ)
set_option maxRecDepth 100000 in
set_option maxHeartbeats 4000000 in
theorem wv_L_law_2529 {L9 : Launch} {G : Cx} {Q : State → Prop} {L : Nat} {xs : Nat → Int32} (hl : L9.stackTraces = false) (hG : CX L9 G yL_law cL_law 7 (some .boolean) [] { frames := 13, cells := 700684, slots := 6994052, locals := 496 }) (hX : LX G L xs) (hret : HRT G Q) {K23 : Nat → Nat → Nat → Int32 → Sg → Prop} (k n : Nat) (hk : k + 8 ≤ 4206) (hn : n + 57 ≤ 30972) (hK23 : ∀ (v1 : Nat) (v2 : Nat) (v3 : Nat) (v4 : Int32) (ζ : Sg), K23 v1 v2 v3 v4 ζ → V G Q 23 [some (.ref 25), some (.ref v1), some (.ref v2), some (.ref v3), some (.int v4), none, none] [] ζ (k + 8) (n + 57)) : ∀ (v1 : Nat) (v2 : Nat) (v3 : Nat) (v4 : Int32) (σ : Sg), wp_L_law_2529 L xs K23 v1 v2 v3 v4 σ → V G Q 2529 [some (.ref 25), some (.ref v1), some (.ref v2), some (.ref v3), some (.int v4), none, none] [] σ (k + 2) (n + 12) := by
  intro v1 v2 v3 v4 σ h
  unfold wp_L_law_2529 at h
  refine V_goto (tgt := 2588) hG dL_law_2529 (by decide) ?_
  refine V_forget (lo' := [some (.ref 25), some (.ref v1), some (.ref v2), some (.ref v3), some (.int v4), none, none]) ⟨rfl, ⟨rfl, ⟨rfl, ⟨rfl, ⟨rfl, trivial⟩⟩⟩⟩⟩ ?_
  refine V_widen (k' := k + 8) (n' := n + 57) (by first | exact Nat.le_of_ble_eq_true rfl | omega | (dsimp only; omega)) (by first | exact Nat.le_of_ble_eq_true rfl | omega | (dsimp only; omega)) ?_
  exact wv_L_law_2588 hl hG hX hret k n (by omega) (by omega) hK23 _ _ _ _ _ h
def wp_L_law_2585 (L : Nat) (xs : Nat → Int32) (K23 : Nat → Nat → Nat → Int32 → Sg → Prop) (v1 : Nat) (v2 : Nat) (v3 : Nat) (v4 : Int32) (σ : Sg) : Prop := (wp_L_law_2588 L xs K23 v1 v2 v3 v4 σ)
set_option maxRecDepth 100000 in
set_option maxHeartbeats 4000000 in
theorem wv_L_law_2585 {L9 : Launch} {G : Cx} {Q : State → Prop} {L : Nat} {xs : Nat → Int32} (hl : L9.stackTraces = false) (hG : CX L9 G yL_law cL_law 7 (some .boolean) [] { frames := 13, cells := 700684, slots := 6994052, locals := 496 }) (hX : LX G L xs) (hret : HRT G Q) {K23 : Nat → Nat → Nat → Int32 → Sg → Prop} (k n : Nat) (hk : k + 8 ≤ 4206) (hn : n + 57 ≤ 30972) (hK23 : ∀ (v1 : Nat) (v2 : Nat) (v3 : Nat) (v4 : Int32) (ζ : Sg), K23 v1 v2 v3 v4 ζ → V G Q 23 [some (.ref 25), some (.ref v1), some (.ref v2), some (.ref v3), some (.int v4), none, none] [] ζ (k + 8) (n + 57)) : ∀ (v1 : Nat) (v2 : Nat) (v3 : Nat) (v4 : Int32) (σ : Sg), wp_L_law_2585 L xs K23 v1 v2 v3 v4 σ → V G Q 2585 [some (.ref 25), some (.ref v1), some (.ref v2), some (.ref v3), some (.int v4), none, none] [] σ (k + 1) (n + 6) := by
  intro v1 v2 v3 v4 σ h
  unfold wp_L_law_2585 at h
  refine V_goto (tgt := 2588) hG dL_law_2585 (by decide) ?_
  refine V_forget (lo' := [some (.ref 25), some (.ref v1), some (.ref v2), some (.ref v3), some (.int v4), none, none]) ⟨rfl, ⟨rfl, ⟨rfl, ⟨rfl, ⟨rfl, trivial⟩⟩⟩⟩⟩ ?_
  refine V_widen (k' := k + 8) (n' := n + 57) (by first | exact Nat.le_of_ble_eq_true rfl | omega | (dsimp only; omega)) (by first | exact Nat.le_of_ble_eq_true rfl | omega | (dsimp only; omega)) ?_
  exact wv_L_law_2588 hl hG hX hret k n (by omega) (by omega) hK23 _ _ _ _ _ h
def wp_L_law_23 (L : Nat) (xs : Nat → Int32)  : Nat → Nat → Nat → Nat → Int32 → Sg → Prop
  | 0, _, _, _, _, _ => False
  | f + 1, v1, v2, v3, v4, σ => ((((nI L) - (7 : Int32)) < v4 → (1 : Int32) = 1) ∧ (¬ ((nI L) - (7 : Int32)) < v4 → ∃ j1, v4 = nI j1 ∧ j1 < L ∧ (((((xs j1) &&& (63 : Int32))).toInt < 0 ∨ 35 < (((xs j1) &&& (63 : Int32))).toInt → (wp_L_law_2588 L xs (fun z0 z1 z2 z3 ζ => wp_L_law_23 L xs f z0 z1 z2 z3 ζ) v1 v2 v3 v4 σ)) ∧ (((xs j1) &&& (63 : Int32)) = nI 0 → ∃ j2, (v4 + (1 : Int32)) = nI j2 ∧ j2 < L ∧ ∃ j3, (v4 + (2 : Int32)) = nI j3 ∧ j3 < L ∧ ∃ j4, (v4 + (3 : Int32)) = nI j4 ∧ j4 < L ∧ wp_L_setBought (some v1) (xs j2) (xs j3) (xs j4) σ (KI (fun x6 σ5 => ∃ j7, (v4 + (1 : Int32)) = nI j7 ∧ j7 < L ∧ ∃ j8, (v4 + (2 : Int32)) = nI j8 ∧ j8 < L ∧ ∃ j9, (v4 + (3 : Int32)) = nI j9 ∧ j9 < L ∧ v2 % 32 = 10 ∧ wp_X10_setBought v2 (xs j7) (xs j8) (xs j9) σ5 (KV (fun σ10 => v2 % 32 = 10 ∧ wp_X10_thrown v2 σ10 (KI (fun x12 σ11 => ((x12 = x6 → (wp_L_law_2588 L xs (fun z0 z1 z2 z3 ζ => wp_L_law_23 L xs f z0 z1 z2 z3 ζ) v1 v2 v3 v4 σ11)) ∧ (¬ x12 = x6 → (0 : Int32) = 1))) (fun _ _ => False))) (fun _ _ => False))) (fun _ _ => False))) ∧ (((xs j1) &&& (63 : Int32)) = nI 1 → ∃ j13, (v4 + (1 : Int32)) = nI j13 ∧ j13 < L ∧ ∃ j14, (v4 + (2 : Int32)) = nI j14 ∧ j14 < L ∧ ∃ j15, (v4 + (3 : Int32)) = nI j15 ∧ j15 < L ∧ ∃ j16, (v4 + (4 : Int32)) = nI j16 ∧ j16 < L ∧ wp_L_addLine (some v1) (xs j13) (xs j14) (xs j15) (xs j16) (some v3) σ (KI (fun x18 σ17 => ∃ j19, (v4 + (1 : Int32)) = nI j19 ∧ j19 < L ∧ ∃ j20, (v4 + (2 : Int32)) = nI j20 ∧ j20 < L ∧ ∃ j21, (v4 + (3 : Int32)) = nI j21 ∧ j21 < L ∧ ∃ j22, (v4 + (4 : Int32)) = nI j22 ∧ j22 < L ∧ v2 % 32 = 10 ∧ wp_X10_addLine v2 (xs j19) (xs j20) (xs j21) (xs j22) σ17 (KI (fun x24 σ23 => v2 % 32 = 10 ∧ wp_X10_thrown v2 σ23 (KI (fun x26 σ25 => ((x26 = x18 → ((¬ x18 = 0 → (wp_L_law_349 L xs (fun z0 z1 z2 z3 ζ => wp_L_law_23 L xs f z0 z1 z2 z3 ζ) v1 v2 v3 v4 σ25)) ∧ (x18 = 0 → aty (v3 % 32) = some .long ∧ ∃ j27, (0 : Int32) = nI j27 ∧ j27 < aln v3 ∧ (((lg_cmp (sL σ25 v3 j27) (Int32.toInt64 x24)) = 0 → (wp_L_law_349 L xs (fun z0 z1 z2 z3 ζ => wp_L_law_23 L xs f z0 z1 z2 z3 ζ) v1 v2 v3 v4 σ25)) ∧ (¬ (lg_cmp (sL σ25 v3 j27) (Int32.toInt64 x24)) = 0 → (0 : Int32) = 1))))) ∧ (¬ x26 = x18 → (0 : Int32) = 1))) (fun _ _ => False))) (fun _ _ => False))) (fun _ _ => False))) ∧ (((xs j1) &&& (63 : Int32)) = nI 2 → ∃ j28, (v4 + (1 : Int32)) = nI j28 ∧ j28 < L ∧ ∃ j29, (v4 + (2 : Int32)) = nI j29 ∧ j29 < L ∧ ∃ j30, (v4 + (3 : Int32)) = nI j30 ∧ j30 < L ∧ ∃ j31, (v4 + (4 : Int32)) = nI j31 ∧ j31 < L ∧ wp_L_addOperation (some v1) (xs j28) (xs j29) (xs j30) (xs j31) (some v3) σ (KI (fun x33 σ32 => ∃ j34, (v4 + (1 : Int32)) = nI j34 ∧ j34 < L ∧ ∃ j35, (v4 + (2 : Int32)) = nI j35 ∧ j35 < L ∧ ∃ j36, (v4 + (3 : Int32)) = nI j36 ∧ j36 < L ∧ ∃ j37, (v4 + (4 : Int32)) = nI j37 ∧ j37 < L ∧ v2 % 32 = 10 ∧ wp_X10_addOperation v2 (xs j34) (xs j35) (xs j36) (xs j37) σ32 (KI (fun x39 σ38 => v2 % 32 = 10 ∧ wp_X10_thrown v2 σ38 (KI (fun x41 σ40 => ((x41 = x33 → ((¬ x33 = 0 → (wp_L_law_441 L xs (fun z0 z1 z2 z3 ζ => wp_L_law_23 L xs f z0 z1 z2 z3 ζ) v1 v2 v3 v4 σ40)) ∧ (x33 = 0 → aty (v3 % 32) = some .long ∧ ∃ j42, (0 : Int32) = nI j42 ∧ j42 < aln v3 ∧ (((lg_cmp (sL σ40 v3 j42) (Int32.toInt64 x39)) = 0 → (wp_L_law_441 L xs (fun z0 z1 z2 z3 ζ => wp_L_law_23 L xs f z0 z1 z2 z3 ζ) v1 v2 v3 v4 σ40)) ∧ (¬ (lg_cmp (sL σ40 v3 j42) (Int32.toInt64 x39)) = 0 → (0 : Int32) = 1))))) ∧ (¬ x41 = x33 → (0 : Int32) = 1))) (fun _ _ => False))) (fun _ _ => False))) (fun _ _ => False))) ∧ (((xs j1) &&& (63 : Int32)) = nI 3 → ∃ j43, (v4 + (1 : Int32)) = nI j43 ∧ j43 < L ∧ ∃ j44, (v4 + (2 : Int32)) = nI j44 ∧ j44 < L ∧ wp_L_setStore (some v1) (xs j43) (xs j44) (some v3) σ (KI (fun x46 σ45 => ∃ j47, (v4 + (1 : Int32)) = nI j47 ∧ j47 < L ∧ ∃ j48, (v4 + (2 : Int32)) = nI j48 ∧ j48 < L ∧ v2 % 32 = 10 ∧ wp_X10_setStore v2 (xs j47) (xs j48) σ45 (KI (fun x50 σ49 => v2 % 32 = 10 ∧ wp_X10_thrown v2 σ49 (KI (fun x52 σ51 => ((x52 = x46 → ((¬ x46 = 0 → (wp_L_law_509 L xs (fun z0 z1 z2 z3 ζ => wp_L_law_23 L xs f z0 z1 z2 z3 ζ) v1 v2 v3 v4 σ51)) ∧ (x46 = 0 → aty (v3 % 32) = some .long ∧ ∃ j53, (0 : Int32) = nI j53 ∧ j53 < aln v3 ∧ (((lg_cmp (sL σ51 v3 j53) (Int32.toInt64 x50)) = 0 → (wp_L_law_509 L xs (fun z0 z1 z2 z3 ζ => wp_L_law_23 L xs f z0 z1 z2 z3 ζ) v1 v2 v3 v4 σ51)) ∧ (¬ (lg_cmp (sL σ51 v3 j53) (Int32.toInt64 x50)) = 0 → (0 : Int32) = 1))))) ∧ (¬ x52 = x46 → (0 : Int32) = 1))) (fun _ _ => False))) (fun _ _ => False))) (fun _ _ => False))) ∧ (((xs j1) &&& (63 : Int32)) = nI 4 → ∃ j54, (v4 + (1 : Int32)) = nI j54 ∧ j54 < L ∧ ∃ j55, (v4 + (2 : Int32)) = nI j55 ∧ j55 < L ∧ wp_L_setQueue (some v1) (xs j54) (xs j55) (some v3) σ (KI (fun x57 σ56 => ∃ j58, (v4 + (1 : Int32)) = nI j58 ∧ j58 < L ∧ ∃ j59, (v4 + (2 : Int32)) = nI j59 ∧ j59 < L ∧ v2 % 32 = 10 ∧ wp_X10_setQueue v2 (xs j58) (xs j59) σ56 (KI (fun x61 σ60 => v2 % 32 = 10 ∧ wp_X10_thrown v2 σ60 (KI (fun x63 σ62 => ((x63 = x57 → ((¬ x57 = 0 → (wp_L_law_577 L xs (fun z0 z1 z2 z3 ζ => wp_L_law_23 L xs f z0 z1 z2 z3 ζ) v1 v2 v3 v4 σ62)) ∧ (x57 = 0 → aty (v3 % 32) = some .long ∧ ∃ j64, (0 : Int32) = nI j64 ∧ j64 < aln v3 ∧ (((lg_cmp (sL σ62 v3 j64) (Int32.toInt64 x61)) = 0 → (wp_L_law_577 L xs (fun z0 z1 z2 z3 ζ => wp_L_law_23 L xs f z0 z1 z2 z3 ζ) v1 v2 v3 v4 σ62)) ∧ (¬ (lg_cmp (sL σ62 v3 j64) (Int32.toInt64 x61)) = 0 → (0 : Int32) = 1))))) ∧ (¬ x63 = x57 → (0 : Int32) = 1))) (fun _ _ => False))) (fun _ _ => False))) (fun _ _ => False))) ∧ (((xs j1) &&& (63 : Int32)) = nI 5 → ∃ j65, (v4 + (1 : Int32)) = nI j65 ∧ j65 < L ∧ ∃ j66, (v4 + (2 : Int32)) = nI j66 ∧ j66 < L ∧ ∃ j67, (v4 + (3 : Int32)) = nI j67 ∧ j67 < L ∧ ∃ j68, (v4 + (4 : Int32)) = nI j68 ∧ j68 < L ∧ ∃ j69, (v4 + (5 : Int32)) = nI j69 ∧ j69 < L ∧ ∃ j70, (v4 + (6 : Int32)) = nI j70 ∧ j70 < L ∧ wp_L_addMachine (some v1) (xs j65) (xs j66) (xs j67) (xs j68) (xs j69) (xs j70) (some v3) σ (KI (fun x72 σ71 => ∃ j73, (v4 + (1 : Int32)) = nI j73 ∧ j73 < L ∧ ∃ j74, (v4 + (2 : Int32)) = nI j74 ∧ j74 < L ∧ ∃ j75, (v4 + (3 : Int32)) = nI j75 ∧ j75 < L ∧ ∃ j76, (v4 + (4 : Int32)) = nI j76 ∧ j76 < L ∧ ∃ j77, (v4 + (5 : Int32)) = nI j77 ∧ j77 < L ∧ ∃ j78, (v4 + (6 : Int32)) = nI j78 ∧ j78 < L ∧ v2 % 32 = 10 ∧ wp_X10_addMachine v2 (xs j73) (xs j74) (xs j75) (xs j76) (xs j77) (xs j78) σ71 (KI (fun x80 σ79 => v2 % 32 = 10 ∧ wp_X10_thrown v2 σ79 (KI (fun x82 σ81 => ((x82 = x72 → ((¬ x72 = 0 → (wp_L_law_695 L xs (fun z0 z1 z2 z3 ζ => wp_L_law_23 L xs f z0 z1 z2 z3 ζ) v1 v2 v3 v4 σ81)) ∧ (x72 = 0 → aty (v3 % 32) = some .long ∧ ∃ j83, (0 : Int32) = nI j83 ∧ j83 < aln v3 ∧ (((lg_cmp (sL σ81 v3 j83) (Int32.toInt64 x80)) = 0 → (wp_L_law_695 L xs (fun z0 z1 z2 z3 ζ => wp_L_law_23 L xs f z0 z1 z2 z3 ζ) v1 v2 v3 v4 σ81)) ∧ (¬ (lg_cmp (sL σ81 v3 j83) (Int32.toInt64 x80)) = 0 → (0 : Int32) = 1))))) ∧ (¬ x82 = x72 → (0 : Int32) = 1))) (fun _ _ => False))) (fun _ _ => False))) (fun _ _ => False))) ∧ (((xs j1) &&& (63 : Int32)) = nI 6 → ∃ j84, (v4 + (1 : Int32)) = nI j84 ∧ j84 < L ∧ ∃ j85, (v4 + (2 : Int32)) = nI j85 ∧ j85 < L ∧ ∃ j86, (v4 + (3 : Int32)) = nI j86 ∧ j86 < L ∧ wp_L_addPerson (some v1) (xs j84) (xs j85) (xs j86) (some v3) σ (KI (fun x88 σ87 => ∃ j89, (v4 + (1 : Int32)) = nI j89 ∧ j89 < L ∧ ∃ j90, (v4 + (2 : Int32)) = nI j90 ∧ j90 < L ∧ ∃ j91, (v4 + (3 : Int32)) = nI j91 ∧ j91 < L ∧ v2 % 32 = 10 ∧ wp_X10_addPerson v2 (xs j89) (xs j90) (xs j91) σ87 (KI (fun x93 σ92 => v2 % 32 = 10 ∧ wp_X10_thrown v2 σ92 (KI (fun x95 σ94 => ((x95 = x88 → ((¬ x88 = 0 → (wp_L_law_775 L xs (fun z0 z1 z2 z3 ζ => wp_L_law_23 L xs f z0 z1 z2 z3 ζ) v1 v2 v3 v4 σ94)) ∧ (x88 = 0 → aty (v3 % 32) = some .long ∧ ∃ j96, (0 : Int32) = nI j96 ∧ j96 < aln v3 ∧ (((lg_cmp (sL σ94 v3 j96) (Int32.toInt64 x93)) = 0 → (wp_L_law_775 L xs (fun z0 z1 z2 z3 ζ => wp_L_law_23 L xs f z0 z1 z2 z3 ζ) v1 v2 v3 v4 σ94)) ∧ (¬ (lg_cmp (sL σ94 v3 j96) (Int32.toInt64 x93)) = 0 → (0 : Int32) = 1))))) ∧ (¬ x95 = x88 → (0 : Int32) = 1))) (fun _ _ => False))) (fun _ _ => False))) (fun _ _ => False))) ∧ (((xs j1) &&& (63 : Int32)) = nI 7 → ∃ j97, (v4 + (1 : Int32)) = nI j97 ∧ j97 < L ∧ ∃ j98, (v4 + (2 : Int32)) = nI j98 ∧ j98 < L ∧ ∃ j99, (v4 + (3 : Int32)) = nI j99 ∧ j99 < L ∧ wp_L_setLevel (some v1) (xs j97) (xs j98) (xs j99) (some v3) σ (KI (fun x101 σ100 => ∃ j102, (v4 + (1 : Int32)) = nI j102 ∧ j102 < L ∧ ∃ j103, (v4 + (2 : Int32)) = nI j103 ∧ j103 < L ∧ ∃ j104, (v4 + (3 : Int32)) = nI j104 ∧ j104 < L ∧ v2 % 32 = 10 ∧ wp_X10_setLevel v2 (xs j102) (xs j103) (xs j104) σ100 (KI (fun x106 σ105 => v2 % 32 = 10 ∧ wp_X10_thrown v2 σ105 (KI (fun x108 σ107 => ((x108 = x101 → ((¬ x101 = 0 → (wp_L_law_855 L xs (fun z0 z1 z2 z3 ζ => wp_L_law_23 L xs f z0 z1 z2 z3 ζ) v1 v2 v3 v4 σ107)) ∧ (x101 = 0 → aty (v3 % 32) = some .long ∧ ∃ j109, (0 : Int32) = nI j109 ∧ j109 < aln v3 ∧ (((lg_cmp (sL σ107 v3 j109) (Int32.toInt64 x106)) = 0 → (wp_L_law_855 L xs (fun z0 z1 z2 z3 ζ => wp_L_law_23 L xs f z0 z1 z2 z3 ζ) v1 v2 v3 v4 σ107)) ∧ (¬ (lg_cmp (sL σ107 v3 j109) (Int32.toInt64 x106)) = 0 → (0 : Int32) = 1))))) ∧ (¬ x108 = x101 → (0 : Int32) = 1))) (fun _ _ => False))) (fun _ _ => False))) (fun _ _ => False))) ∧ (((xs j1) &&& (63 : Int32)) = nI 8 → ∃ j110, (v4 + (1 : Int32)) = nI j110 ∧ j110 < L ∧ ∃ j111, (v4 + (2 : Int32)) = nI j111 ∧ j111 < L ∧ wp_L_buy (some v1) (xs j110) (xs j111) (some v3) σ (KI (fun x113 σ112 => ∃ j114, (v4 + (1 : Int32)) = nI j114 ∧ j114 < L ∧ ∃ j115, (v4 + (2 : Int32)) = nI j115 ∧ j115 < L ∧ v2 % 32 = 10 ∧ wp_X10_buy v2 (xs j114) (xs j115) σ112 (KI (fun x117 σ116 => v2 % 32 = 10 ∧ wp_X10_thrown v2 σ116 (KI (fun x119 σ118 => ((x119 = x113 → ((¬ x113 = 0 → (wp_L_law_923 L xs (fun z0 z1 z2 z3 ζ => wp_L_law_23 L xs f z0 z1 z2 z3 ζ) v1 v2 v3 v4 σ118)) ∧ (x113 = 0 → aty (v3 % 32) = some .long ∧ ∃ j120, (0 : Int32) = nI j120 ∧ j120 < aln v3 ∧ (((lg_cmp (sL σ118 v3 j120) (Int32.toInt64 x117)) = 0 → (wp_L_law_923 L xs (fun z0 z1 z2 z3 ζ => wp_L_law_23 L xs f z0 z1 z2 z3 ζ) v1 v2 v3 v4 σ118)) ∧ (¬ (lg_cmp (sL σ118 v3 j120) (Int32.toInt64 x117)) = 0 → (0 : Int32) = 1))))) ∧ (¬ x119 = x113 → (0 : Int32) = 1))) (fun _ _ => False))) (fun _ _ => False))) (fun _ _ => False))) ∧ (((xs j1) &&& (63 : Int32)) = nI 9 → ∃ j121, (v4 + (1 : Int32)) = nI j121 ∧ j121 < L ∧ ∃ j122, (v4 + (2 : Int32)) = nI j122 ∧ j122 < L ∧ wp_L_late (some v1) (xs j121) (xs j122) (some v3) σ (KI (fun x124 σ123 => ∃ j125, (v4 + (1 : Int32)) = nI j125 ∧ j125 < L ∧ ∃ j126, (v4 + (2 : Int32)) = nI j126 ∧ j126 < L ∧ v2 % 32 = 10 ∧ wp_X10_late v2 (xs j125) (xs j126) σ123 (KI (fun x128 σ127 => v2 % 32 = 10 ∧ wp_X10_thrown v2 σ127 (KI (fun x130 σ129 => ((x130 = x124 → ((¬ x124 = 0 → (wp_L_law_991 L xs (fun z0 z1 z2 z3 ζ => wp_L_law_23 L xs f z0 z1 z2 z3 ζ) v1 v2 v3 v4 σ129)) ∧ (x124 = 0 → aty (v3 % 32) = some .long ∧ ∃ j131, (0 : Int32) = nI j131 ∧ j131 < aln v3 ∧ (((lg_cmp (sL σ129 v3 j131) (Int32.toInt64 x128)) = 0 → (wp_L_law_991 L xs (fun z0 z1 z2 z3 ζ => wp_L_law_23 L xs f z0 z1 z2 z3 ζ) v1 v2 v3 v4 σ129)) ∧ (¬ (lg_cmp (sL σ129 v3 j131) (Int32.toInt64 x128)) = 0 → (0 : Int32) = 1))))) ∧ (¬ x130 = x124 → (0 : Int32) = 1))) (fun _ _ => False))) (fun _ _ => False))) (fun _ _ => False))) ∧ (((xs j1) &&& (63 : Int32)) = nI 10 → ∃ j132, (v4 + (1 : Int32)) = nI j132 ∧ j132 < L ∧ ∃ j133, (v4 + (2 : Int32)) = nI j133 ∧ j133 < L ∧ ∃ j134, (v4 + (3 : Int32)) = nI j134 ∧ j134 < L ∧ wp_L_make (some v1) (xs j132) (xs j133) (xs j134) (some v3) σ (KI (fun x136 σ135 => ∃ j137, (v4 + (1 : Int32)) = nI j137 ∧ j137 < L ∧ ∃ j138, (v4 + (2 : Int32)) = nI j138 ∧ j138 < L ∧ ∃ j139, (v4 + (3 : Int32)) = nI j139 ∧ j139 < L ∧ v2 % 32 = 10 ∧ wp_X10_make v2 (xs j137) (xs j138) (xs j139) σ135 (KI (fun x141 σ140 => v2 % 32 = 10 ∧ wp_X10_thrown v2 σ140 (KI (fun x143 σ142 => ((x143 = x136 → ((¬ x136 = 0 → (wp_L_law_1071 L xs (fun z0 z1 z2 z3 ζ => wp_L_law_23 L xs f z0 z1 z2 z3 ζ) v1 v2 v3 v4 σ142)) ∧ (x136 = 0 → aty (v3 % 32) = some .long ∧ ∃ j144, (0 : Int32) = nI j144 ∧ j144 < aln v3 ∧ (((lg_cmp (sL σ142 v3 j144) (Int32.toInt64 x141)) = 0 → (wp_L_law_1071 L xs (fun z0 z1 z2 z3 ζ => wp_L_law_23 L xs f z0 z1 z2 z3 ζ) v1 v2 v3 v4 σ142)) ∧ (¬ (lg_cmp (sL σ142 v3 j144) (Int32.toInt64 x141)) = 0 → (0 : Int32) = 1))))) ∧ (¬ x143 = x136 → (0 : Int32) = 1))) (fun _ _ => False))) (fun _ _ => False))) (fun _ _ => False))) ∧ (((xs j1) &&& (63 : Int32)) = nI 11 → ∃ j145, (v4 + (1 : Int32)) = nI j145 ∧ j145 < L ∧ ∃ j146, (v4 + (2 : Int32)) = nI j146 ∧ j146 < L ∧ ∃ j147, (v4 + (3 : Int32)) = nI j147 ∧ j147 < L ∧ (((xs j147) = 0 → (wp_L_law_1101 L xs (fun z0 z1 z2 z3 ζ => wp_L_law_23 L xs f z0 z1 z2 z3 ζ) v1 v2 v3 v4 v1 (xs j145) (xs j146) (0 : Int32) σ)) ∧ (¬ (xs j147) = 0 → (wp_L_law_1101 L xs (fun z0 z1 z2 z3 ζ => wp_L_law_23 L xs f z0 z1 z2 z3 ζ) v1 v2 v3 v4 v1 (xs j145) (xs j146) (1 : Int32) σ)))) ∧ (((xs j1) &&& (63 : Int32)) = nI 12 → ∃ j148, (v4 + (1 : Int32)) = nI j148 ∧ j148 < L ∧ ∃ j149, (v4 + (2 : Int32)) = nI j149 ∧ j149 < L ∧ wp_L_split (some v1) (xs j148) (xs j149) (some v3) σ (KI (fun x151 σ150 => ∃ j152, (v4 + (1 : Int32)) = nI j152 ∧ j152 < L ∧ ∃ j153, (v4 + (2 : Int32)) = nI j153 ∧ j153 < L ∧ v2 % 32 = 10 ∧ wp_X10_split v2 (xs j152) (xs j153) σ150 (KI (fun x155 σ154 => v2 % 32 = 10 ∧ wp_X10_thrown v2 σ154 (KI (fun x157 σ156 => ((x157 = x151 → ((¬ x151 = 0 → (wp_L_law_1242 L xs (fun z0 z1 z2 z3 ζ => wp_L_law_23 L xs f z0 z1 z2 z3 ζ) v1 v2 v3 v4 σ156)) ∧ (x151 = 0 → aty (v3 % 32) = some .long ∧ ∃ j158, (0 : Int32) = nI j158 ∧ j158 < aln v3 ∧ (((lg_cmp (sL σ156 v3 j158) (Int32.toInt64 x155)) = 0 → (wp_L_law_1242 L xs (fun z0 z1 z2 z3 ζ => wp_L_law_23 L xs f z0 z1 z2 z3 ζ) v1 v2 v3 v4 σ156)) ∧ (¬ (lg_cmp (sL σ156 v3 j158) (Int32.toInt64 x155)) = 0 → (0 : Int32) = 1))))) ∧ (¬ x157 = x151 → (0 : Int32) = 1))) (fun _ _ => False))) (fun _ _ => False))) (fun _ _ => False))) ∧ (((xs j1) &&& (63 : Int32)) = nI 13 → ∃ j159, (v4 + (1 : Int32)) = nI j159 ∧ j159 < L ∧ ∃ j160, (v4 + (2 : Int32)) = nI j160 ∧ j160 < L ∧ wp_L_join (some v1) (xs j159) (xs j160) (some v3) σ (KI (fun x162 σ161 => ∃ j163, (v4 + (1 : Int32)) = nI j163 ∧ j163 < L ∧ ∃ j164, (v4 + (2 : Int32)) = nI j164 ∧ j164 < L ∧ v2 % 32 = 10 ∧ wp_X10_join v2 (xs j163) (xs j164) σ161 (KI (fun x166 σ165 => v2 % 32 = 10 ∧ wp_X10_thrown v2 σ165 (KI (fun x168 σ167 => ((x168 = x162 → ((¬ x162 = 0 → (wp_L_law_1310 L xs (fun z0 z1 z2 z3 ζ => wp_L_law_23 L xs f z0 z1 z2 z3 ζ) v1 v2 v3 v4 σ167)) ∧ (x162 = 0 → aty (v3 % 32) = some .long ∧ ∃ j169, (0 : Int32) = nI j169 ∧ j169 < aln v3 ∧ (((lg_cmp (sL σ167 v3 j169) (Int32.toInt64 x166)) = 0 → (wp_L_law_1310 L xs (fun z0 z1 z2 z3 ζ => wp_L_law_23 L xs f z0 z1 z2 z3 ζ) v1 v2 v3 v4 σ167)) ∧ (¬ (lg_cmp (sL σ167 v3 j169) (Int32.toInt64 x166)) = 0 → (0 : Int32) = 1))))) ∧ (¬ x168 = x162 → (0 : Int32) = 1))) (fun _ _ => False))) (fun _ _ => False))) (fun _ _ => False))) ∧ (((xs j1) &&& (63 : Int32)) = nI 14 → ∃ j170, (v4 + (1 : Int32)) = nI j170 ∧ j170 < L ∧ wp_L_recall (some v1) (xs j170) (some v3) σ (KI (fun x172 σ171 => ∃ j173, (v4 + (1 : Int32)) = nI j173 ∧ j173 < L ∧ v2 % 32 = 10 ∧ wp_X10_recall v2 (xs j173) σ171 (KI (fun x175 σ174 => v2 % 32 = 10 ∧ wp_X10_thrown v2 σ174 (KI (fun x177 σ176 => ((x177 = x172 → ((¬ x172 = 0 → (wp_L_law_1366 L xs (fun z0 z1 z2 z3 ζ => wp_L_law_23 L xs f z0 z1 z2 z3 ζ) v1 v2 v3 v4 σ176)) ∧ (x172 = 0 → aty (v3 % 32) = some .long ∧ ∃ j178, (0 : Int32) = nI j178 ∧ j178 < aln v3 ∧ (((lg_cmp (sL σ176 v3 j178) (Int32.toInt64 x175)) = 0 → (wp_L_law_1366 L xs (fun z0 z1 z2 z3 ζ => wp_L_law_23 L xs f z0 z1 z2 z3 ζ) v1 v2 v3 v4 σ176)) ∧ (¬ (lg_cmp (sL σ176 v3 j178) (Int32.toInt64 x175)) = 0 → (0 : Int32) = 1))))) ∧ (¬ x177 = x172 → (0 : Int32) = 1))) (fun _ _ => False))) (fun _ _ => False))) (fun _ _ => False))) ∧ (((xs j1) &&& (63 : Int32)) = nI 15 → ∃ j179, (v4 + (1 : Int32)) = nI j179 ∧ j179 < L ∧ ∃ j180, (v4 + (2 : Int32)) = nI j180 ∧ j180 < L ∧ ∃ j181, (v4 + (3 : Int32)) = nI j181 ∧ j181 < L ∧ wp_L_order (some v1) (xs j179) (xs j180) (xs j181) (some v3) σ (KI (fun x183 σ182 => ∃ j184, (v4 + (1 : Int32)) = nI j184 ∧ j184 < L ∧ ∃ j185, (v4 + (2 : Int32)) = nI j185 ∧ j185 < L ∧ ∃ j186, (v4 + (3 : Int32)) = nI j186 ∧ j186 < L ∧ v2 % 32 = 10 ∧ wp_X10_order v2 (xs j184) (xs j185) (xs j186) σ182 (KI (fun x188 σ187 => v2 % 32 = 10 ∧ wp_X10_thrown v2 σ187 (KI (fun x190 σ189 => ((x190 = x183 → ((¬ x183 = 0 → (wp_L_law_1446 L xs (fun z0 z1 z2 z3 ζ => wp_L_law_23 L xs f z0 z1 z2 z3 ζ) v1 v2 v3 v4 σ189)) ∧ (x183 = 0 → aty (v3 % 32) = some .long ∧ ∃ j191, (0 : Int32) = nI j191 ∧ j191 < aln v3 ∧ (((lg_cmp (sL σ189 v3 j191) (Int32.toInt64 x188)) = 0 → (wp_L_law_1446 L xs (fun z0 z1 z2 z3 ζ => wp_L_law_23 L xs f z0 z1 z2 z3 ζ) v1 v2 v3 v4 σ189)) ∧ (¬ (lg_cmp (sL σ189 v3 j191) (Int32.toInt64 x188)) = 0 → (0 : Int32) = 1))))) ∧ (¬ x190 = x183 → (0 : Int32) = 1))) (fun _ _ => False))) (fun _ _ => False))) (fun _ _ => False))) ∧ (((xs j1) &&& (63 : Int32)) = nI 16 → ∃ j192, (v4 + (1 : Int32)) = nI j192 ∧ j192 < L ∧ wp_L_promise (some v1) (xs j192) (some v3) σ (KI (fun x194 σ193 => ∃ j195, (v4 + (1 : Int32)) = nI j195 ∧ j195 < L ∧ v2 % 32 = 10 ∧ wp_X10_promise v2 (xs j195) σ193 (KI (fun x197 σ196 => v2 % 32 = 10 ∧ wp_X10_thrown v2 σ196 (KI (fun x199 σ198 => ((x199 = x194 → ((¬ x194 = 0 → (wp_L_law_1502 L xs (fun z0 z1 z2 z3 ζ => wp_L_law_23 L xs f z0 z1 z2 z3 ζ) v1 v2 v3 v4 σ198)) ∧ (x194 = 0 → aty (v3 % 32) = some .long ∧ ∃ j200, (0 : Int32) = nI j200 ∧ j200 < aln v3 ∧ (((lg_cmp (sL σ198 v3 j200) (Int32.toInt64 x197)) = 0 → (wp_L_law_1502 L xs (fun z0 z1 z2 z3 ζ => wp_L_law_23 L xs f z0 z1 z2 z3 ζ) v1 v2 v3 v4 σ198)) ∧ (¬ (lg_cmp (sL σ198 v3 j200) (Int32.toInt64 x197)) = 0 → (0 : Int32) = 1))))) ∧ (¬ x199 = x194 → (0 : Int32) = 1))) (fun _ _ => False))) (fun _ _ => False))) (fun _ _ => False))) ∧ (((xs j1) &&& (63 : Int32)) = nI 17 → ∃ j201, (v4 + (1 : Int32)) = nI j201 ∧ j201 < L ∧ wp_L_ship (some v1) (xs j201) (some v3) σ (KI (fun x203 σ202 => ∃ j204, (v4 + (1 : Int32)) = nI j204 ∧ j204 < L ∧ v2 % 32 = 10 ∧ wp_X10_ship v2 (xs j204) σ202 (KI (fun x206 σ205 => v2 % 32 = 10 ∧ wp_X10_thrown v2 σ205 (KI (fun x208 σ207 => ((x208 = x203 → ((¬ x203 = 0 → (wp_L_law_1558 L xs (fun z0 z1 z2 z3 ζ => wp_L_law_23 L xs f z0 z1 z2 z3 ζ) v1 v2 v3 v4 σ207)) ∧ (x203 = 0 → aty (v3 % 32) = some .long ∧ ∃ j209, (0 : Int32) = nI j209 ∧ j209 < aln v3 ∧ (((lg_cmp (sL σ207 v3 j209) (Int32.toInt64 x206)) = 0 → (wp_L_law_1558 L xs (fun z0 z1 z2 z3 ζ => wp_L_law_23 L xs f z0 z1 z2 z3 ζ) v1 v2 v3 v4 σ207)) ∧ (¬ (lg_cmp (sL σ207 v3 j209) (Int32.toInt64 x206)) = 0 → (0 : Int32) = 1))))) ∧ (¬ x208 = x203 → (0 : Int32) = 1))) (fun _ _ => False))) (fun _ _ => False))) (fun _ _ => False))) ∧ (((xs j1) &&& (63 : Int32)) = nI 18 → ∃ j210, (v4 + (1 : Int32)) = nI j210 ∧ j210 < L ∧ (((xs j210) = 0 → (wp_L_law_1576 L xs (fun z0 z1 z2 z3 ζ => wp_L_law_23 L xs f z0 z1 z2 z3 ζ) v1 v2 v3 v4 v1 (0 : Int32) σ)) ∧ (¬ (xs j210) = 0 → (wp_L_law_1576 L xs (fun z0 z1 z2 z3 ζ => wp_L_law_23 L xs f z0 z1 z2 z3 ζ) v1 v2 v3 v4 v1 (1 : Int32) σ)))) ∧ (((xs j1) &&& (63 : Int32)) = nI 19 → ∃ j211, (v4 + (1 : Int32)) = nI j211 ∧ j211 < L ∧ wp_L_run (some v1) (xs j211) (some v3) σ (KI (fun x213 σ212 => ∃ j214, (v4 + (1 : Int32)) = nI j214 ∧ j214 < L ∧ v2 % 32 = 10 ∧ wp_X10_run v2 (xs j214) σ212 (KI (fun x216 σ215 => v2 % 32 = 10 ∧ wp_X10_thrown v2 σ215 (KI (fun x218 σ217 => ((x218 = x213 → ((¬ x213 = 0 → (wp_L_law_1655 L xs (fun z0 z1 z2 z3 ζ => wp_L_law_23 L xs f z0 z1 z2 z3 ζ) v1 v2 v3 v4 σ217)) ∧ (x213 = 0 → aty (v3 % 32) = some .long ∧ ∃ j219, (0 : Int32) = nI j219 ∧ j219 < aln v3 ∧ (((lg_cmp (sL σ217 v3 j219) (Int32.toInt64 x216)) = 0 → (wp_L_law_1655 L xs (fun z0 z1 z2 z3 ζ => wp_L_law_23 L xs f z0 z1 z2 z3 ζ) v1 v2 v3 v4 σ217)) ∧ (¬ (lg_cmp (sL σ217 v3 j219) (Int32.toInt64 x216)) = 0 → (0 : Int32) = 1))))) ∧ (¬ x218 = x213 → (0 : Int32) = 1))) (fun _ _ => False))) (fun _ _ => False))) (fun _ _ => False))) ∧ (((xs j1) &&& (63 : Int32)) = nI 20 → v1 % 32 = 9 ∧ wp_X9_hour v1 σ (KI (fun x221 σ220 => v2 % 32 = 10 ∧ wp_X10_hour v2 σ220 (KI (fun x223 σ222 => ((x221 = x223 → (wp_L_law_2588 L xs (fun z0 z1 z2 z3 ζ => wp_L_law_23 L xs f z0 z1 z2 z3 ζ) v1 v2 v3 v4 σ222)) ∧ (¬ x221 = x223 → (0 : Int32) = 1))) (fun _ _ => False))) (fun _ _ => False))) ∧ (((xs j1) &&& (63 : Int32)) = nI 21 → v1 % 32 = 9 ∧ wp_X9_batches v1 σ (KI (fun x225 σ224 => v2 % 32 = 10 ∧ wp_X10_batches v2 σ224 (KI (fun x227 σ226 => ((x225 = x227 → (wp_L_law_2588 L xs (fun z0 z1 z2 z3 ζ => wp_L_law_23 L xs f z0 z1 z2 z3 ζ) v1 v2 v3 v4 σ226)) ∧ (¬ x225 = x227 → (0 : Int32) = 1))) (fun _ _ => False))) (fun _ _ => False))) ∧ (((xs j1) &&& (63 : Int32)) = nI 22 → ∃ j228, (v4 + (1 : Int32)) = nI j228 ∧ j228 < L ∧ ∃ j229, (v4 + (2 : Int32)) = nI j229 ∧ j229 < L ∧ wp_L_batch (some v1) (xs j228) (xs j229) (some v3) σ (KI (fun x231 σ230 => ∃ j232, (v4 + (1 : Int32)) = nI j232 ∧ j232 < L ∧ ∃ j233, (v4 + (2 : Int32)) = nI j233 ∧ j233 < L ∧ v2 % 32 = 10 ∧ wp_X10_batch v2 (xs j232) (xs j233) σ230 (KI (fun x235 σ234 => v2 % 32 = 10 ∧ wp_X10_thrown v2 σ234 (KI (fun x237 σ236 => ((x237 = x231 → ((¬ x231 = 0 → (wp_L_law_1749 L xs (fun z0 z1 z2 z3 ζ => wp_L_law_23 L xs f z0 z1 z2 z3 ζ) v1 v2 v3 v4 σ236)) ∧ (x231 = 0 → aty (v3 % 32) = some .long ∧ ∃ j238, (0 : Int32) = nI j238 ∧ j238 < aln v3 ∧ (((lg_cmp (sL σ236 v3 j238) (Int32.toInt64 x235)) = 0 → (wp_L_law_1749 L xs (fun z0 z1 z2 z3 ζ => wp_L_law_23 L xs f z0 z1 z2 z3 ζ) v1 v2 v3 v4 σ236)) ∧ (¬ (lg_cmp (sL σ236 v3 j238) (Int32.toInt64 x235)) = 0 → (0 : Int32) = 1))))) ∧ (¬ x237 = x231 → (0 : Int32) = 1))) (fun _ _ => False))) (fun _ _ => False))) (fun _ _ => False))) ∧ (((xs j1) &&& (63 : Int32)) = nI 23 → ∃ j239, (v4 + (1 : Int32)) = nI j239 ∧ j239 < L ∧ ∃ j240, (v4 + (2 : Int32)) = nI j240 ∧ j240 < L ∧ wp_L_parent (some v1) (xs j239) (xs j240) (some v3) σ (KI (fun x242 σ241 => ∃ j243, (v4 + (1 : Int32)) = nI j243 ∧ j243 < L ∧ ∃ j244, (v4 + (2 : Int32)) = nI j244 ∧ j244 < L ∧ v2 % 32 = 10 ∧ wp_X10_parent v2 (xs j243) (xs j244) σ241 (KI (fun x246 σ245 => v2 % 32 = 10 ∧ wp_X10_thrown v2 σ245 (KI (fun x248 σ247 => ((x248 = x242 → ((¬ x242 = 0 → (wp_L_law_1817 L xs (fun z0 z1 z2 z3 ζ => wp_L_law_23 L xs f z0 z1 z2 z3 ζ) v1 v2 v3 v4 σ247)) ∧ (x242 = 0 → aty (v3 % 32) = some .long ∧ ∃ j249, (0 : Int32) = nI j249 ∧ j249 < aln v3 ∧ (((lg_cmp (sL σ247 v3 j249) (Int32.toInt64 x246)) = 0 → (wp_L_law_1817 L xs (fun z0 z1 z2 z3 ζ => wp_L_law_23 L xs f z0 z1 z2 z3 ζ) v1 v2 v3 v4 σ247)) ∧ (¬ (lg_cmp (sL σ247 v3 j249) (Int32.toInt64 x246)) = 0 → (0 : Int32) = 1))))) ∧ (¬ x248 = x242 → (0 : Int32) = 1))) (fun _ _ => False))) (fun _ _ => False))) (fun _ _ => False))) ∧ (((xs j1) &&& (63 : Int32)) = nI 24 → ∃ j250, (v4 + (1 : Int32)) = nI j250 ∧ j250 < L ∧ ∃ j251, (v4 + (2 : Int32)) = nI j251 ∧ j251 < L ∧ wp_L_origin (some v1) (xs j250) (xs j251) (some v3) σ (KI (fun x253 σ252 => ∃ j254, (v4 + (1 : Int32)) = nI j254 ∧ j254 < L ∧ ∃ j255, (v4 + (2 : Int32)) = nI j255 ∧ j255 < L ∧ v2 % 32 = 10 ∧ wp_X10_origin v2 (xs j254) (xs j255) σ252 (KI (fun x257 σ256 => v2 % 32 = 10 ∧ wp_X10_thrown v2 σ256 (KI (fun x259 σ258 => ((x259 = x253 → ((¬ x253 = 0 → (wp_L_law_1885 L xs (fun z0 z1 z2 z3 ζ => wp_L_law_23 L xs f z0 z1 z2 z3 ζ) v1 v2 v3 v4 σ258)) ∧ (x253 = 0 → aty (v3 % 32) = some .long ∧ ∃ j260, (0 : Int32) = nI j260 ∧ j260 < aln v3 ∧ (((lg_cmp (sL σ258 v3 j260) (Int32.toInt64 x257)) = 0 → (wp_L_law_1885 L xs (fun z0 z1 z2 z3 ζ => wp_L_law_23 L xs f z0 z1 z2 z3 ζ) v1 v2 v3 v4 σ258)) ∧ (¬ (lg_cmp (sL σ258 v3 j260) (Int32.toInt64 x257)) = 0 → (0 : Int32) = 1))))) ∧ (¬ x259 = x253 → (0 : Int32) = 1))) (fun _ _ => False))) (fun _ _ => False))) (fun _ _ => False))) ∧ (((xs j1) &&& (63 : Int32)) = nI 25 → ∃ j261, (v4 + (1 : Int32)) = nI j261 ∧ j261 < L ∧ ∃ j262, (v4 + (2 : Int32)) = nI j262 ∧ j262 < L ∧ wp_L_machine (some v1) (xs j261) (xs j262) (some v3) σ (KI (fun x264 σ263 => ∃ j265, (v4 + (1 : Int32)) = nI j265 ∧ j265 < L ∧ ∃ j266, (v4 + (2 : Int32)) = nI j266 ∧ j266 < L ∧ v2 % 32 = 10 ∧ wp_X10_machine v2 (xs j265) (xs j266) σ263 (KI (fun x268 σ267 => v2 % 32 = 10 ∧ wp_X10_thrown v2 σ267 (KI (fun x270 σ269 => ((x270 = x264 → ((¬ x264 = 0 → (wp_L_law_1953 L xs (fun z0 z1 z2 z3 ζ => wp_L_law_23 L xs f z0 z1 z2 z3 ζ) v1 v2 v3 v4 σ269)) ∧ (x264 = 0 → aty (v3 % 32) = some .long ∧ ∃ j271, (0 : Int32) = nI j271 ∧ j271 < aln v3 ∧ (((lg_cmp (sL σ269 v3 j271) (Int32.toInt64 x268)) = 0 → (wp_L_law_1953 L xs (fun z0 z1 z2 z3 ζ => wp_L_law_23 L xs f z0 z1 z2 z3 ζ) v1 v2 v3 v4 σ269)) ∧ (¬ (lg_cmp (sL σ269 v3 j271) (Int32.toInt64 x268)) = 0 → (0 : Int32) = 1))))) ∧ (¬ x270 = x264 → (0 : Int32) = 1))) (fun _ _ => False))) (fun _ _ => False))) (fun _ _ => False))) ∧ (((xs j1) &&& (63 : Int32)) = nI 26 → ∃ j272, (v4 + (1 : Int32)) = nI j272 ∧ j272 < L ∧ ∃ j273, (v4 + (2 : Int32)) = nI j273 ∧ j273 < L ∧ wp_L_level (some v1) (xs j272) (xs j273) (some v3) σ (KI (fun x275 σ274 => ∃ j276, (v4 + (1 : Int32)) = nI j276 ∧ j276 < L ∧ ∃ j277, (v4 + (2 : Int32)) = nI j277 ∧ j277 < L ∧ v2 % 32 = 10 ∧ wp_X10_level v2 (xs j276) (xs j277) σ274 (KI (fun x279 σ278 => v2 % 32 = 10 ∧ wp_X10_thrown v2 σ278 (KI (fun x281 σ280 => ((x281 = x275 → ((¬ x275 = 0 → (wp_L_law_2021 L xs (fun z0 z1 z2 z3 ζ => wp_L_law_23 L xs f z0 z1 z2 z3 ζ) v1 v2 v3 v4 σ280)) ∧ (x275 = 0 → aty (v3 % 32) = some .long ∧ ∃ j282, (0 : Int32) = nI j282 ∧ j282 < aln v3 ∧ (((lg_cmp (sL σ280 v3 j282) (Int32.toInt64 x279)) = 0 → (wp_L_law_2021 L xs (fun z0 z1 z2 z3 ζ => wp_L_law_23 L xs f z0 z1 z2 z3 ζ) v1 v2 v3 v4 σ280)) ∧ (¬ (lg_cmp (sL σ280 v3 j282) (Int32.toInt64 x279)) = 0 → (0 : Int32) = 1))))) ∧ (¬ x281 = x275 → (0 : Int32) = 1))) (fun _ _ => False))) (fun _ _ => False))) (fun _ _ => False))) ∧ (((xs j1) &&& (63 : Int32)) = nI 27 → ∃ j283, (v4 + (1 : Int32)) = nI j283 ∧ j283 < L ∧ wp_L_machineOf (some v1) (xs j283) (some v3) σ (KI (fun x285 σ284 => ∃ j286, (v4 + (1 : Int32)) = nI j286 ∧ j286 < L ∧ v2 % 32 = 10 ∧ wp_X10_machineOf v2 (xs j286) σ284 (KI (fun x288 σ287 => v2 % 32 = 10 ∧ wp_X10_thrown v2 σ287 (KI (fun x290 σ289 => ((x290 = x285 → ((¬ x285 = 0 → (wp_L_law_2077 L xs (fun z0 z1 z2 z3 ζ => wp_L_law_23 L xs f z0 z1 z2 z3 ζ) v1 v2 v3 v4 σ289)) ∧ (x285 = 0 → aty (v3 % 32) = some .long ∧ ∃ j291, (0 : Int32) = nI j291 ∧ j291 < aln v3 ∧ (((lg_cmp (sL σ289 v3 j291) (Int32.toInt64 x288)) = 0 → (wp_L_law_2077 L xs (fun z0 z1 z2 z3 ζ => wp_L_law_23 L xs f z0 z1 z2 z3 ζ) v1 v2 v3 v4 σ289)) ∧ (¬ (lg_cmp (sL σ289 v3 j291) (Int32.toInt64 x288)) = 0 → (0 : Int32) = 1))))) ∧ (¬ x290 = x285 → (0 : Int32) = 1))) (fun _ _ => False))) (fun _ _ => False))) (fun _ _ => False))) ∧ (((xs j1) &&& (63 : Int32)) = nI 28 → ∃ j292, (v4 + (1 : Int32)) = nI j292 ∧ j292 < L ∧ ∃ j293, (v4 + (2 : Int32)) = nI j293 ∧ j293 < L ∧ wp_L_store (some v1) (xs j292) (xs j293) (some v3) σ (KI (fun x295 σ294 => ∃ j296, (v4 + (1 : Int32)) = nI j296 ∧ j296 < L ∧ ∃ j297, (v4 + (2 : Int32)) = nI j297 ∧ j297 < L ∧ v2 % 32 = 10 ∧ wp_X10_store v2 (xs j296) (xs j297) σ294 (KI (fun x299 σ298 => v2 % 32 = 10 ∧ wp_X10_thrown v2 σ298 (KI (fun x301 σ300 => ((x301 = x295 → ((¬ x295 = 0 → (wp_L_law_2145 L xs (fun z0 z1 z2 z3 ζ => wp_L_law_23 L xs f z0 z1 z2 z3 ζ) v1 v2 v3 v4 σ300)) ∧ (x295 = 0 → aty (v3 % 32) = some .long ∧ ∃ j302, (0 : Int32) = nI j302 ∧ j302 < aln v3 ∧ (((lg_cmp (sL σ300 v3 j302) (Int32.toInt64 x299)) = 0 → (wp_L_law_2145 L xs (fun z0 z1 z2 z3 ζ => wp_L_law_23 L xs f z0 z1 z2 z3 ζ) v1 v2 v3 v4 σ300)) ∧ (¬ (lg_cmp (sL σ300 v3 j302) (Int32.toInt64 x299)) = 0 → (0 : Int32) = 1))))) ∧ (¬ x301 = x295 → (0 : Int32) = 1))) (fun _ _ => False))) (fun _ _ => False))) (fun _ _ => False))) ∧ (((xs j1) &&& (63 : Int32)) = nI 29 → ∃ j303, (v4 + (1 : Int32)) = nI j303 ∧ j303 < L ∧ wp_L_queue (some v1) (xs j303) (some v3) σ (KI (fun x305 σ304 => ∃ j306, (v4 + (1 : Int32)) = nI j306 ∧ j306 < L ∧ v2 % 32 = 10 ∧ wp_X10_queue v2 (xs j306) σ304 (KI (fun x308 σ307 => v2 % 32 = 10 ∧ wp_X10_thrown v2 σ307 (KI (fun x310 σ309 => ((x310 = x305 → ((¬ x305 = 0 → (wp_L_law_2201 L xs (fun z0 z1 z2 z3 ζ => wp_L_law_23 L xs f z0 z1 z2 z3 ζ) v1 v2 v3 v4 σ309)) ∧ (x305 = 0 → aty (v3 % 32) = some .long ∧ ∃ j311, (0 : Int32) = nI j311 ∧ j311 < aln v3 ∧ (((lg_cmp (sL σ309 v3 j311) (Int32.toInt64 x308)) = 0 → (wp_L_law_2201 L xs (fun z0 z1 z2 z3 ζ => wp_L_law_23 L xs f z0 z1 z2 z3 ζ) v1 v2 v3 v4 σ309)) ∧ (¬ (lg_cmp (sL σ309 v3 j311) (Int32.toInt64 x308)) = 0 → (0 : Int32) = 1))))) ∧ (¬ x310 = x305 → (0 : Int32) = 1))) (fun _ _ => False))) (fun _ _ => False))) (fun _ _ => False))) ∧ (((xs j1) &&& (63 : Int32)) = nI 30 → ∃ j312, (v4 + (1 : Int32)) = nI j312 ∧ j312 < L ∧ ∃ j313, (v4 + (2 : Int32)) = nI j313 ∧ j313 < L ∧ wp_L_queued (some v1) (xs j312) (xs j313) (some v3) σ (KI (fun x315 σ314 => ∃ j316, (v4 + (1 : Int32)) = nI j316 ∧ j316 < L ∧ ∃ j317, (v4 + (2 : Int32)) = nI j317 ∧ j317 < L ∧ v2 % 32 = 10 ∧ wp_X10_queued v2 (xs j316) (xs j317) σ314 (KI (fun x319 σ318 => v2 % 32 = 10 ∧ wp_X10_thrown v2 σ318 (KI (fun x321 σ320 => ((x321 = x315 → ((¬ x315 = 0 → (wp_L_law_2269 L xs (fun z0 z1 z2 z3 ζ => wp_L_law_23 L xs f z0 z1 z2 z3 ζ) v1 v2 v3 v4 σ320)) ∧ (x315 = 0 → aty (v3 % 32) = some .long ∧ ∃ j322, (0 : Int32) = nI j322 ∧ j322 < aln v3 ∧ (((lg_cmp (sL σ320 v3 j322) (Int32.toInt64 x319)) = 0 → (wp_L_law_2269 L xs (fun z0 z1 z2 z3 ζ => wp_L_law_23 L xs f z0 z1 z2 z3 ζ) v1 v2 v3 v4 σ320)) ∧ (¬ (lg_cmp (sL σ320 v3 j322) (Int32.toInt64 x319)) = 0 → (0 : Int32) = 1))))) ∧ (¬ x321 = x315 → (0 : Int32) = 1))) (fun _ _ => False))) (fun _ _ => False))) (fun _ _ => False))) ∧ (((xs j1) &&& (63 : Int32)) = nI 31 → ∃ j323, (v4 + (1 : Int32)) = nI j323 ∧ j323 < L ∧ ∃ j324, (v4 + (2 : Int32)) = nI j324 ∧ j324 < L ∧ wp_L_told (some v1) (xs j323) (xs j324) (some v3) σ (KI (fun x326 σ325 => ∃ j327, (v4 + (1 : Int32)) = nI j327 ∧ j327 < L ∧ ∃ j328, (v4 + (2 : Int32)) = nI j328 ∧ j328 < L ∧ v2 % 32 = 10 ∧ wp_X10_told v2 (xs j327) (xs j328) σ325 (KI (fun x330 σ329 => v2 % 32 = 10 ∧ wp_X10_thrown v2 σ329 (KI (fun x332 σ331 => ((x332 = x326 → ((¬ x326 = 0 → (wp_L_law_2337 L xs (fun z0 z1 z2 z3 ζ => wp_L_law_23 L xs f z0 z1 z2 z3 ζ) v1 v2 v3 v4 σ331)) ∧ (x326 = 0 → aty (v3 % 32) = some .long ∧ ∃ j333, (0 : Int32) = nI j333 ∧ j333 < aln v3 ∧ (((lg_cmp (sL σ331 v3 j333) (Int32.toInt64 x330)) = 0 → (wp_L_law_2337 L xs (fun z0 z1 z2 z3 ζ => wp_L_law_23 L xs f z0 z1 z2 z3 ζ) v1 v2 v3 v4 σ331)) ∧ (¬ (lg_cmp (sL σ331 v3 j333) (Int32.toInt64 x330)) = 0 → (0 : Int32) = 1))))) ∧ (¬ x332 = x326 → (0 : Int32) = 1))) (fun _ _ => False))) (fun _ _ => False))) (fun _ _ => False))) ∧ (((xs j1) &&& (63 : Int32)) = nI 32 → ∃ j334, (v4 + (1 : Int32)) = nI j334 ∧ j334 < L ∧ ∃ j335, (v4 + (2 : Int32)) = nI j335 ∧ j335 < L ∧ wp_L_why (some v1) (xs j334) (xs j335) (some v3) σ (KI (fun x337 σ336 => ∃ j338, (v4 + (1 : Int32)) = nI j338 ∧ j338 < L ∧ ∃ j339, (v4 + (2 : Int32)) = nI j339 ∧ j339 < L ∧ v2 % 32 = 10 ∧ wp_X10_why v2 (xs j338) (xs j339) σ336 (KI (fun x341 σ340 => v2 % 32 = 10 ∧ wp_X10_thrown v2 σ340 (KI (fun x343 σ342 => ((x343 = x337 → ((¬ x337 = 0 → (wp_L_law_2405 L xs (fun z0 z1 z2 z3 ζ => wp_L_law_23 L xs f z0 z1 z2 z3 ζ) v1 v2 v3 v4 σ342)) ∧ (x337 = 0 → aty (v3 % 32) = some .long ∧ ∃ j344, (0 : Int32) = nI j344 ∧ j344 < aln v3 ∧ (((lg_cmp (sL σ342 v3 j344) (Int32.toInt64 x341)) = 0 → (wp_L_law_2405 L xs (fun z0 z1 z2 z3 ζ => wp_L_law_23 L xs f z0 z1 z2 z3 ζ) v1 v2 v3 v4 σ342)) ∧ (¬ (lg_cmp (sL σ342 v3 j344) (Int32.toInt64 x341)) = 0 → (0 : Int32) = 1))))) ∧ (¬ x343 = x337 → (0 : Int32) = 1))) (fun _ _ => False))) (fun _ _ => False))) (fun _ _ => False))) ∧ (((xs j1) &&& (63 : Int32)) = nI 33 → ∃ j345, (v4 + (1 : Int32)) = nI j345 ∧ j345 < L ∧ ∃ j346, (v4 + (2 : Int32)) = nI j346 ∧ j346 < L ∧ wp_L_latest (some v1) (xs j345) (xs j346) (some v3) σ (KI (fun x348 σ347 => ∃ j349, (v4 + (1 : Int32)) = nI j349 ∧ j349 < L ∧ ∃ j350, (v4 + (2 : Int32)) = nI j350 ∧ j350 < L ∧ v2 % 32 = 10 ∧ wp_X10_latest v2 (xs j349) (xs j350) σ347 (KI (fun x352 σ351 => v2 % 32 = 10 ∧ wp_X10_thrown v2 σ351 (KI (fun x354 σ353 => ((x354 = x348 → ((¬ x348 = 0 → (wp_L_law_2473 L xs (fun z0 z1 z2 z3 ζ => wp_L_law_23 L xs f z0 z1 z2 z3 ζ) v1 v2 v3 v4 σ353)) ∧ (x348 = 0 → aty (v3 % 32) = some .long ∧ ∃ j355, (0 : Int32) = nI j355 ∧ j355 < aln v3 ∧ (((lg_cmp (sL σ353 v3 j355) (Int32.toInt64 x352)) = 0 → (wp_L_law_2473 L xs (fun z0 z1 z2 z3 ζ => wp_L_law_23 L xs f z0 z1 z2 z3 ζ) v1 v2 v3 v4 σ353)) ∧ (¬ (lg_cmp (sL σ353 v3 j355) (Int32.toInt64 x352)) = 0 → (0 : Int32) = 1))))) ∧ (¬ x354 = x348 → (0 : Int32) = 1))) (fun _ _ => False))) (fun _ _ => False))) (fun _ _ => False))) ∧ (((xs j1) &&& (63 : Int32)) = nI 34 → ∃ j356, (v4 + (1 : Int32)) = nI j356 ∧ j356 < L ∧ wp_L_earliest (some v1) (xs j356) (some v3) σ (KI (fun x358 σ357 => ∃ j359, (v4 + (1 : Int32)) = nI j359 ∧ j359 < L ∧ v2 % 32 = 10 ∧ wp_X10_earliest v2 (xs j359) σ357 (KI (fun x361 σ360 => v2 % 32 = 10 ∧ wp_X10_thrown v2 σ360 (KI (fun x363 σ362 => ((x363 = x358 → ((¬ x358 = 0 → (wp_L_law_2529 L xs (fun z0 z1 z2 z3 ζ => wp_L_law_23 L xs f z0 z1 z2 z3 ζ) v1 v2 v3 v4 σ362)) ∧ (x358 = 0 → aty (v3 % 32) = some .long ∧ ∃ j364, (0 : Int32) = nI j364 ∧ j364 < aln v3 ∧ (((lg_cmp (sL σ362 v3 j364) (Int32.toInt64 x361)) = 0 → (wp_L_law_2529 L xs (fun z0 z1 z2 z3 ζ => wp_L_law_23 L xs f z0 z1 z2 z3 ζ) v1 v2 v3 v4 σ362)) ∧ (¬ (lg_cmp (sL σ362 v3 j364) (Int32.toInt64 x361)) = 0 → (0 : Int32) = 1))))) ∧ (¬ x363 = x358 → (0 : Int32) = 1))) (fun _ _ => False))) (fun _ _ => False))) (fun _ _ => False))) ∧ (((xs j1) &&& (63 : Int32)) = nI 35 → ∃ j365, (v4 + (1 : Int32)) = nI j365 ∧ j365 < L ∧ wp_L_ledger (some v1) (xs j365) (some v3) σ (KI (fun x367 σ366 => ∃ j368, (v4 + (1 : Int32)) = nI j368 ∧ j368 < L ∧ v2 % 32 = 10 ∧ wp_X10_ledger v2 (xs j368) σ366 (KI (fun x370 σ369 => v2 % 32 = 10 ∧ wp_X10_thrown v2 σ369 (KI (fun x372 σ371 => ((x372 = x367 → ((¬ x367 = 0 → (wp_L_law_2585 L xs (fun z0 z1 z2 z3 ζ => wp_L_law_23 L xs f z0 z1 z2 z3 ζ) v1 v2 v3 v4 σ371)) ∧ (x367 = 0 → aty (v3 % 32) = some .long ∧ ∃ j373, (0 : Int32) = nI j373 ∧ j373 < aln v3 ∧ (((lg_cmp (sL σ371 v3 j373) (Int32.toInt64 x370)) = 0 → (wp_L_law_2585 L xs (fun z0 z1 z2 z3 ζ => wp_L_law_23 L xs f z0 z1 z2 z3 ζ) v1 v2 v3 v4 σ371)) ∧ (¬ (lg_cmp (sL σ371 v3 j373) (Int32.toInt64 x370)) = 0 → (0 : Int32) = 1))))) ∧ (¬ x372 = x367 → (0 : Int32) = 1))) (fun _ _ => False))) (fun _ _ => False))) (fun _ _ => False))))))
set_option maxRecDepth 100000 in
set_option maxHeartbeats 4000000 in
theorem wv_L_law_23 {L9 : Launch} {G : Cx} {Q : State → Prop} {L : Nat} {xs : Nat → Int32} (hl : L9.stackTraces = false) (hG : CX L9 G yL_law cL_law 7 (some .boolean) [] { frames := 13, cells := 700684, slots := 6994052, locals := 496 }) (hX : LX G L xs) (hret : HRT G Q)  : ∀ (f k n : Nat), k + f * 8 ≤ 4206 → n + f * 57 ≤ 30972 → ∀ (v1 : Nat) (v2 : Nat) (v3 : Nat) (v4 : Int32) (σ : Sg), wp_L_law_23 L xs f v1 v2 v3 v4 σ → V G Q 23 [some (.ref 25), some (.ref v1), some (.ref v2), some (.ref v3), some (.int v4), none, none] [] σ k n := by
  intro f
  induction f with
  | zero => intro k n _ _ _ _ _ _ σ h; exact h.elim
  | succ f ih =>
    intro k n hk hn v1 v2 v3 v4 σ h
    refine V_iload hG dL_law_23 rfl ?_
    refine V_aload_n (v := .ref 25) hG dL_law_25 rfl rfl ?_
    refine V_slen hG hX dL_law_26 ?_
    refine V_bipush (v := 7) hG (by decide) dL_law_27 ?_
    refine V_isub hG dL_law_29 ?_
    refine V_icmp_gt (tgt := 2594) hG dL_law_30 (by decide) (fun c => ?_) (fun c => ?_)
    · replace h := h.1 c
      refine V_iconst (v := 1) hG (by decide) dL_law_2594 ?_
      exact law1 hret dL_law_2595 h (by first | exact Nat.le_of_ble_eq_true rfl | omega | (dsimp only; omega)) (by first | exact Nat.le_of_ble_eq_true rfl | omega | (dsimp only; omega))
    · replace h := h.2 c
      refine V_aload_n (v := .ref 25) hG dL_law_33 rfl rfl ?_
      refine V_iload hG dL_law_34 rfl ?_
      obtain ⟨j1, hi, hj, h⟩ := h
      refine V_sld hG hX dL_law_36 hi hj ?_
      refine V_bipush (v := 63) hG (by decide) dL_law_37 ?_
      refine V_iand hG dL_law_39 ?_
      rcases sw_cases ((xs j1) &&& (63 : Int32)) 35 (by decide) with c | ⟨j, hj, c⟩
      · replace h := h.1 c
        refine V_swOut (tgt := 2588) hG dL_law_40 c (by decide) ?_
        refine V_forget (lo' := [some (.ref 25), some (.ref v1), some (.ref v2), some (.ref v3), some (.int v4), none, none]) ⟨rfl, ⟨rfl, ⟨rfl, ⟨rfl, ⟨rfl, trivial⟩⟩⟩⟩⟩ ?_
        refine V_widen (k' := k + 8) (n' := n + 57) (by first | exact Nat.le_of_ble_eq_true rfl | omega | (dsimp only; omega)) (by first | exact Nat.le_of_ble_eq_true rfl | omega | (dsimp only; omega)) ?_
        exact wv_L_law_2588 hl hG hX hret k n (by omega) (by omega) (fun z0 z1 z2 z3 ζ hz => ih _ _ (by omega) (by omega) z0 z1 z2 z3 ζ hz) _ _ _ _ _ h
      · replace h := h.2
        rcases (show j = 0 ∨ j = 1 ∨ j = 2 ∨ j = 3 ∨ j = 4 ∨ j = 5 ∨ j = 6 ∨ j = 7 ∨ j = 8 ∨ j = 9 ∨ j = 10 ∨ j = 11 ∨ j = 12 ∨ j = 13 ∨ j = 14 ∨ j = 15 ∨ j = 16 ∨ j = 17 ∨ j = 18 ∨ j = 19 ∨ j = 20 ∨ j = 21 ∨ j = 22 ∨ j = 23 ∨ j = 24 ∨ j = 25 ∨ j = 26 ∨ j = 27 ∨ j = 28 ∨ j = 29 ∨ j = 30 ∨ j = 31 ∨ j = 32 ∨ j = 33 ∨ j = 34 ∨ j = 35 by omega) with rfl | rfl | rfl | rfl | rfl | rfl | rfl | rfl | rfl | rfl | rfl | rfl | rfl | rfl | rfl | rfl | rfl | rfl | rfl | rfl | rfl | rfl | rfl | rfl | rfl | rfl | rfl | rfl | rfl | rfl | rfl | rfl | rfl | rfl | rfl | rfl
        · replace h := h.1 c
          refine V_top (congrArg Value.int c) ?_
          refine V_swIn (tgt := 200) (off := 160) hG dL_law_40 (by decide) (by decide) (by decide) (by decide) ?_
          refine V_aload_n (v := .ref v1) hG dL_law_200 rfl rfl ?_
          refine V_aload_n (v := .ref 25) hG dL_law_201 rfl rfl ?_
          refine V_iload hG dL_law_202 rfl ?_
          refine V_iconst (v := 1) hG (by decide) dL_law_204 ?_
          refine V_iadd hG dL_law_205 ?_
          obtain ⟨j2, hi, hj, h⟩ := h
          refine V_sld hG hX dL_law_206 hi hj ?_
          refine V_aload_n (v := .ref 25) hG dL_law_207 rfl rfl ?_
          refine V_iload hG dL_law_208 rfl ?_
          refine V_iconst (v := 2) hG (by decide) dL_law_210 ?_
          refine V_iadd hG dL_law_211 ?_
          obtain ⟨j3, hi, hj, h⟩ := h
          refine V_sld hG hX dL_law_212 hi hj ?_
          refine V_aload_n (v := .ref 25) hG dL_law_213 rfl rfl ?_
          refine V_iload hG dL_law_214 rfl ?_
          refine V_iconst (v := 3) hG (by decide) dL_law_216 ?_
          refine V_iadd hG dL_law_217 ?_
          obtain ⟨j4, hi, hj, h⟩ := h
          refine V_sld hG hX dL_law_218 hi hj ?_
          refine V_cXI _ _ hG dL_law_219 (ct_L_setBought hl h) mv_L_setBought ml_L_125 rfl rfl (by first | exact Nat.le_of_ble_eq_true rfl | (simp only [List.map_cons, List.map_nil, List.sum_cons, List.sum_nil, cat_rf]; exact Nat.le_of_ble_eq_true rfl)) (by first | exact Nat.le_of_ble_eq_true rfl | omega | (dsimp only; omega)) (by first | exact Nat.le_of_ble_eq_true rfl | omega | (dsimp only; omega)) (by first | exact Nat.le_of_ble_eq_true rfl | omega | (dsimp only; omega)) (by first | exact Nat.le_of_ble_eq_true rfl | omega | (dsimp only; omega)) ?_ (fun x6 σ5 h9 => ?_)
          · exact fun _ _ hx => hx.elim
          · replace h := h9
            clear h9
            refine V_istore hG dL_law_222 (Nat.le_of_ble_eq_true rfl) (hpV rfl rfl) ?_
            refine V_aload_n (v := .ref v2) hG dL_law_224 rfl rfl ?_
            refine V_aload_n (v := .ref 25) hG dL_law_225 rfl rfl ?_
            refine V_iload hG dL_law_226 rfl ?_
            refine V_iconst (v := 1) hG (by decide) dL_law_228 ?_
            refine V_iadd hG dL_law_229 ?_
            obtain ⟨j7, hi, hj, h⟩ := h
            refine V_sld hG hX dL_law_230 hi hj ?_
            refine V_aload_n (v := .ref 25) hG dL_law_231 rfl rfl ?_
            refine V_iload hG dL_law_232 rfl ?_
            refine V_iconst (v := 2) hG (by decide) dL_law_234 ?_
            refine V_iadd hG dL_law_235 ?_
            obtain ⟨j8, hi, hj, h⟩ := h
            refine V_sld hG hX dL_law_236 hi hj ?_
            refine V_aload_n (v := .ref 25) hG dL_law_237 rfl rfl ?_
            refine V_iload hG dL_law_238 rfl ?_
            refine V_iconst (v := 3) hG (by decide) dL_law_240 ?_
            refine V_iadd hG dL_law_241 ?_
            obtain ⟨j9, hi, hj, h⟩ := h
            refine V_sld hG hX dL_law_242 hi hj ?_
            obtain ⟨ht, h⟩ := h
            refine V_cVV _ _ hG dL_law_243 (ct_X10_setBought hl h) mv_X10_setBought ml_L_130 ht rfl rfl rfl rfl (by first | exact Nat.le_of_ble_eq_true rfl | (simp only [List.map_cons, List.map_nil, List.sum_cons, List.sum_nil, cat_rf]; exact Nat.le_of_ble_eq_true rfl)) (by first | exact Nat.le_of_ble_eq_true rfl | omega | (dsimp only; omega)) (by first | exact Nat.le_of_ble_eq_true rfl | omega | (dsimp only; omega)) (by first | exact Nat.le_of_ble_eq_true rfl | omega | (dsimp only; omega)) (by first | exact Nat.le_of_ble_eq_true rfl | omega | (dsimp only; omega)) ?_ (fun σ10 h9 => ?_)
            · exact fun _ _ hx => hx.elim
            · replace h := h9
              clear h9
              refine V_aload_n (v := .ref v2) hG dL_law_246 rfl rfl ?_
              obtain ⟨ht, h⟩ := h
              refine V_cVI _ _ hG dL_law_247 (ct_X10_thrown hl h) mv_X10_thrown ml_L_131 ht rfl rfl rfl rfl (by first | exact Nat.le_of_ble_eq_true rfl | (simp only [List.map_cons, List.map_nil, List.sum_cons, List.sum_nil, cat_rf]; exact Nat.le_of_ble_eq_true rfl)) (by first | exact Nat.le_of_ble_eq_true rfl | omega | (dsimp only; omega)) (by first | exact Nat.le_of_ble_eq_true rfl | omega | (dsimp only; omega)) (by first | exact Nat.le_of_ble_eq_true rfl | omega | (dsimp only; omega)) (by first | exact Nat.le_of_ble_eq_true rfl | omega | (dsimp only; omega)) ?_ (fun x12 σ11 h9 => ?_)
              · exact fun _ _ hx => hx.elim
              · replace h := h9
                clear h9
                refine V_iload hG dL_law_250 rfl ?_
                refine V_icmp_eq (tgt := 257) hG dL_law_252 (by decide) (fun c => ?_) (fun c => ?_)
                · replace h := h.1 c
                  refine V_goto (tgt := 2588) hG dL_law_257 (by decide) ?_
                  refine V_forget (lo' := [some (.ref 25), some (.ref v1), some (.ref v2), some (.ref v3), some (.int v4), none, none]) ⟨rfl, ⟨rfl, ⟨rfl, ⟨rfl, ⟨rfl, trivial⟩⟩⟩⟩⟩ ?_
                  refine V_widen (k' := k + 8) (n' := n + 57) (by first | exact Nat.le_of_ble_eq_true rfl | omega | (dsimp only; omega)) (by first | exact Nat.le_of_ble_eq_true rfl | omega | (dsimp only; omega)) ?_
                  exact wv_L_law_2588 hl hG hX hret k n (by omega) (by omega) (fun z0 z1 z2 z3 ζ hz => ih _ _ (by omega) (by omega) z0 z1 z2 z3 ζ hz) _ _ _ _ _ h
                · replace h := h.2 c
                  refine V_iconst (v := 0) hG (by decide) dL_law_255 ?_
                  exact law1 hret dL_law_256 h (by first | exact Nat.le_of_ble_eq_true rfl | omega | (dsimp only; omega)) (by first | exact Nat.le_of_ble_eq_true rfl | omega | (dsimp only; omega))
        · replace h := h.2.1 c
          refine V_top (congrArg Value.int c) ?_
          refine V_swIn (tgt := 260) (off := 220) hG dL_law_40 (by decide) (by decide) (by decide) (by decide) ?_
          refine V_aload_n (v := .ref v1) hG dL_law_260 rfl rfl ?_
          refine V_aload_n (v := .ref 25) hG dL_law_261 rfl rfl ?_
          refine V_iload hG dL_law_262 rfl ?_
          refine V_iconst (v := 1) hG (by decide) dL_law_264 ?_
          refine V_iadd hG dL_law_265 ?_
          obtain ⟨j13, hi, hj, h⟩ := h
          refine V_sld hG hX dL_law_266 hi hj ?_
          refine V_aload_n (v := .ref 25) hG dL_law_267 rfl rfl ?_
          refine V_iload hG dL_law_268 rfl ?_
          refine V_iconst (v := 2) hG (by decide) dL_law_270 ?_
          refine V_iadd hG dL_law_271 ?_
          obtain ⟨j14, hi, hj, h⟩ := h
          refine V_sld hG hX dL_law_272 hi hj ?_
          refine V_aload_n (v := .ref 25) hG dL_law_273 rfl rfl ?_
          refine V_iload hG dL_law_274 rfl ?_
          refine V_iconst (v := 3) hG (by decide) dL_law_276 ?_
          refine V_iadd hG dL_law_277 ?_
          obtain ⟨j15, hi, hj, h⟩ := h
          refine V_sld hG hX dL_law_278 hi hj ?_
          refine V_aload_n (v := .ref 25) hG dL_law_279 rfl rfl ?_
          refine V_iload hG dL_law_280 rfl ?_
          refine V_iconst (v := 4) hG (by decide) dL_law_282 ?_
          refine V_iadd hG dL_law_283 ?_
          obtain ⟨j16, hi, hj, h⟩ := h
          refine V_sld hG hX dL_law_284 hi hj ?_
          refine V_aload_n (v := .ref v3) hG dL_law_285 rfl rfl ?_
          refine V_cXI _ _ hG dL_law_286 (ct_L_addLine hl h) mv_L_addLine ml_L_135 rfl rfl (by first | exact Nat.le_of_ble_eq_true rfl | (simp only [List.map_cons, List.map_nil, List.sum_cons, List.sum_nil, cat_rf]; exact Nat.le_of_ble_eq_true rfl)) (by first | exact Nat.le_of_ble_eq_true rfl | omega | (dsimp only; omega)) (by first | exact Nat.le_of_ble_eq_true rfl | omega | (dsimp only; omega)) (by first | exact Nat.le_of_ble_eq_true rfl | omega | (dsimp only; omega)) (by first | exact Nat.le_of_ble_eq_true rfl | omega | (dsimp only; omega)) ?_ (fun x18 σ17 h9 => ?_)
          · exact fun _ _ hx => hx.elim
          · replace h := h9
            clear h9
            refine V_istore hG dL_law_289 (Nat.le_of_ble_eq_true rfl) (hpV rfl rfl) ?_
            refine V_aload_n (v := .ref v2) hG dL_law_291 rfl rfl ?_
            refine V_aload_n (v := .ref 25) hG dL_law_292 rfl rfl ?_
            refine V_iload hG dL_law_293 rfl ?_
            refine V_iconst (v := 1) hG (by decide) dL_law_295 ?_
            refine V_iadd hG dL_law_296 ?_
            obtain ⟨j19, hi, hj, h⟩ := h
            refine V_sld hG hX dL_law_297 hi hj ?_
            refine V_aload_n (v := .ref 25) hG dL_law_298 rfl rfl ?_
            refine V_iload hG dL_law_299 rfl ?_
            refine V_iconst (v := 2) hG (by decide) dL_law_301 ?_
            refine V_iadd hG dL_law_302 ?_
            obtain ⟨j20, hi, hj, h⟩ := h
            refine V_sld hG hX dL_law_303 hi hj ?_
            refine V_aload_n (v := .ref 25) hG dL_law_304 rfl rfl ?_
            refine V_iload hG dL_law_305 rfl ?_
            refine V_iconst (v := 3) hG (by decide) dL_law_307 ?_
            refine V_iadd hG dL_law_308 ?_
            obtain ⟨j21, hi, hj, h⟩ := h
            refine V_sld hG hX dL_law_309 hi hj ?_
            refine V_aload_n (v := .ref 25) hG dL_law_310 rfl rfl ?_
            refine V_iload hG dL_law_311 rfl ?_
            refine V_iconst (v := 4) hG (by decide) dL_law_313 ?_
            refine V_iadd hG dL_law_314 ?_
            obtain ⟨j22, hi, hj, h⟩ := h
            refine V_sld hG hX dL_law_315 hi hj ?_
            obtain ⟨ht, h⟩ := h
            refine V_cVI _ _ hG dL_law_316 (ct_X10_addLine hl h) mv_X10_addLine ml_L_138 ht rfl rfl rfl rfl (by first | exact Nat.le_of_ble_eq_true rfl | (simp only [List.map_cons, List.map_nil, List.sum_cons, List.sum_nil, cat_rf]; exact Nat.le_of_ble_eq_true rfl)) (by first | exact Nat.le_of_ble_eq_true rfl | omega | (dsimp only; omega)) (by first | exact Nat.le_of_ble_eq_true rfl | omega | (dsimp only; omega)) (by first | exact Nat.le_of_ble_eq_true rfl | omega | (dsimp only; omega)) (by first | exact Nat.le_of_ble_eq_true rfl | omega | (dsimp only; omega)) ?_ (fun x24 σ23 h9 => ?_)
            · exact fun _ _ hx => hx.elim
            · replace h := h9
              clear h9
              refine V_istore hG dL_law_319 (Nat.le_of_ble_eq_true rfl) (hpV rfl rfl) ?_
              refine V_aload_n (v := .ref v2) hG dL_law_321 rfl rfl ?_
              obtain ⟨ht, h⟩ := h
              refine V_cVI _ _ hG dL_law_322 (ct_X10_thrown hl h) mv_X10_thrown ml_L_131 ht rfl rfl rfl rfl (by first | exact Nat.le_of_ble_eq_true rfl | (simp only [List.map_cons, List.map_nil, List.sum_cons, List.sum_nil, cat_rf]; exact Nat.le_of_ble_eq_true rfl)) (by first | exact Nat.le_of_ble_eq_true rfl | omega | (dsimp only; omega)) (by first | exact Nat.le_of_ble_eq_true rfl | omega | (dsimp only; omega)) (by first | exact Nat.le_of_ble_eq_true rfl | omega | (dsimp only; omega)) (by first | exact Nat.le_of_ble_eq_true rfl | omega | (dsimp only; omega)) ?_ (fun x26 σ25 h9 => ?_)
              · exact fun _ _ hx => hx.elim
              · replace h := h9
                clear h9
                refine V_iload hG dL_law_325 rfl ?_
                refine V_icmp_eq (tgt := 332) hG dL_law_327 (by decide) (fun c => ?_) (fun c => ?_)
                · replace h := h.1 c
                  refine V_iload hG dL_law_332 rfl ?_
                  refine V_if_ne (tgt := 349) hG dL_law_334 (by decide) (fun c => ?_) (fun c => ?_)
                  · replace h := h.1 c
                    refine V_forget (lo' := [some (.ref 25), some (.ref v1), some (.ref v2), some (.ref v3), some (.int v4), none, none]) ⟨rfl, ⟨rfl, ⟨rfl, ⟨rfl, ⟨rfl, trivial⟩⟩⟩⟩⟩ ?_
                    refine V_widen (k' := k + 8) (n' := n + 45) (by first | exact Nat.le_of_ble_eq_true rfl | omega | (dsimp only; omega)) (by first | exact Nat.le_of_ble_eq_true rfl | omega | (dsimp only; omega)) ?_
                    exact wv_L_law_349 hl hG hX hret k n (by omega) (by omega) (fun z0 z1 z2 z3 ζ hz => ih _ _ (by omega) (by omega) z0 z1 z2 z3 ζ hz) _ _ _ _ _ h
                  · replace h := h.2 c
                    refine V_aload_n (v := .ref v3) hG dL_law_337 rfl rfl ?_
                    refine V_iconst (v := 0) hG (by decide) dL_law_338 ?_
                    obtain ⟨ha, j27, hi, hj, h⟩ := h
                    refine V_lald hG dL_law_339 ha hi hj ?_
                    refine V_iload hG dL_law_340 rfl ?_
                    refine V_i2l hG dL_law_342 ?_
                    refine V_lcmp hG dL_law_343 ?_
                    refine V_if_eq (tgt := 349) hG dL_law_344 (by decide) (fun c => ?_) (fun c => ?_)
                    · replace h := h.1 c
                      refine V_forget (lo' := [some (.ref 25), some (.ref v1), some (.ref v2), some (.ref v3), some (.int v4), none, none]) ⟨rfl, ⟨rfl, ⟨rfl, ⟨rfl, ⟨rfl, trivial⟩⟩⟩⟩⟩ ?_
                      refine V_widen (k' := k + 8) (n' := n + 45) (by first | exact Nat.le_of_ble_eq_true rfl | omega | (dsimp only; omega)) (by first | exact Nat.le_of_ble_eq_true rfl | omega | (dsimp only; omega)) ?_
                      exact wv_L_law_349 hl hG hX hret k n (by omega) (by omega) (fun z0 z1 z2 z3 ζ hz => ih _ _ (by omega) (by omega) z0 z1 z2 z3 ζ hz) _ _ _ _ _ h
                    · replace h := h.2 c
                      refine V_iconst (v := 0) hG (by decide) dL_law_347 ?_
                      exact law1 hret dL_law_348 h (by first | exact Nat.le_of_ble_eq_true rfl | omega | (dsimp only; omega)) (by first | exact Nat.le_of_ble_eq_true rfl | omega | (dsimp only; omega))
                · replace h := h.2 c
                  refine V_iconst (v := 0) hG (by decide) dL_law_330 ?_
                  exact law1 hret dL_law_331 h (by first | exact Nat.le_of_ble_eq_true rfl | omega | (dsimp only; omega)) (by first | exact Nat.le_of_ble_eq_true rfl | omega | (dsimp only; omega))
        · replace h := h.2.2.1 c
          refine V_top (congrArg Value.int c) ?_
          refine V_swIn (tgt := 352) (off := 312) hG dL_law_40 (by decide) (by decide) (by decide) (by decide) ?_
          refine V_aload_n (v := .ref v1) hG dL_law_352 rfl rfl ?_
          refine V_aload_n (v := .ref 25) hG dL_law_353 rfl rfl ?_
          refine V_iload hG dL_law_354 rfl ?_
          refine V_iconst (v := 1) hG (by decide) dL_law_356 ?_
          refine V_iadd hG dL_law_357 ?_
          obtain ⟨j28, hi, hj, h⟩ := h
          refine V_sld hG hX dL_law_358 hi hj ?_
          refine V_aload_n (v := .ref 25) hG dL_law_359 rfl rfl ?_
          refine V_iload hG dL_law_360 rfl ?_
          refine V_iconst (v := 2) hG (by decide) dL_law_362 ?_
          refine V_iadd hG dL_law_363 ?_
          obtain ⟨j29, hi, hj, h⟩ := h
          refine V_sld hG hX dL_law_364 hi hj ?_
          refine V_aload_n (v := .ref 25) hG dL_law_365 rfl rfl ?_
          refine V_iload hG dL_law_366 rfl ?_
          refine V_iconst (v := 3) hG (by decide) dL_law_368 ?_
          refine V_iadd hG dL_law_369 ?_
          obtain ⟨j30, hi, hj, h⟩ := h
          refine V_sld hG hX dL_law_370 hi hj ?_
          refine V_aload_n (v := .ref 25) hG dL_law_371 rfl rfl ?_
          refine V_iload hG dL_law_372 rfl ?_
          refine V_iconst (v := 4) hG (by decide) dL_law_374 ?_
          refine V_iadd hG dL_law_375 ?_
          obtain ⟨j31, hi, hj, h⟩ := h
          refine V_sld hG hX dL_law_376 hi hj ?_
          refine V_aload_n (v := .ref v3) hG dL_law_377 rfl rfl ?_
          refine V_cXI _ _ hG dL_law_378 (ct_L_addOperation hl h) mv_L_addOperation ml_L_139 rfl rfl (by first | exact Nat.le_of_ble_eq_true rfl | (simp only [List.map_cons, List.map_nil, List.sum_cons, List.sum_nil, cat_rf]; exact Nat.le_of_ble_eq_true rfl)) (by first | exact Nat.le_of_ble_eq_true rfl | omega | (dsimp only; omega)) (by first | exact Nat.le_of_ble_eq_true rfl | omega | (dsimp only; omega)) (by first | exact Nat.le_of_ble_eq_true rfl | omega | (dsimp only; omega)) (by first | exact Nat.le_of_ble_eq_true rfl | omega | (dsimp only; omega)) ?_ (fun x33 σ32 h9 => ?_)
          · exact fun _ _ hx => hx.elim
          · replace h := h9
            clear h9
            refine V_istore hG dL_law_381 (Nat.le_of_ble_eq_true rfl) (hpV rfl rfl) ?_
            refine V_aload_n (v := .ref v2) hG dL_law_383 rfl rfl ?_
            refine V_aload_n (v := .ref 25) hG dL_law_384 rfl rfl ?_
            refine V_iload hG dL_law_385 rfl ?_
            refine V_iconst (v := 1) hG (by decide) dL_law_387 ?_
            refine V_iadd hG dL_law_388 ?_
            obtain ⟨j34, hi, hj, h⟩ := h
            refine V_sld hG hX dL_law_389 hi hj ?_
            refine V_aload_n (v := .ref 25) hG dL_law_390 rfl rfl ?_
            refine V_iload hG dL_law_391 rfl ?_
            refine V_iconst (v := 2) hG (by decide) dL_law_393 ?_
            refine V_iadd hG dL_law_394 ?_
            obtain ⟨j35, hi, hj, h⟩ := h
            refine V_sld hG hX dL_law_395 hi hj ?_
            refine V_aload_n (v := .ref 25) hG dL_law_396 rfl rfl ?_
            refine V_iload hG dL_law_397 rfl ?_
            refine V_iconst (v := 3) hG (by decide) dL_law_399 ?_
            refine V_iadd hG dL_law_400 ?_
            obtain ⟨j36, hi, hj, h⟩ := h
            refine V_sld hG hX dL_law_401 hi hj ?_
            refine V_aload_n (v := .ref 25) hG dL_law_402 rfl rfl ?_
            refine V_iload hG dL_law_403 rfl ?_
            refine V_iconst (v := 4) hG (by decide) dL_law_405 ?_
            refine V_iadd hG dL_law_406 ?_
            obtain ⟨j37, hi, hj, h⟩ := h
            refine V_sld hG hX dL_law_407 hi hj ?_
            obtain ⟨ht, h⟩ := h
            refine V_cVI _ _ hG dL_law_408 (ct_X10_addOperation hl h) mv_X10_addOperation ml_L_141 ht rfl rfl rfl rfl (by first | exact Nat.le_of_ble_eq_true rfl | (simp only [List.map_cons, List.map_nil, List.sum_cons, List.sum_nil, cat_rf]; exact Nat.le_of_ble_eq_true rfl)) (by first | exact Nat.le_of_ble_eq_true rfl | omega | (dsimp only; omega)) (by first | exact Nat.le_of_ble_eq_true rfl | omega | (dsimp only; omega)) (by first | exact Nat.le_of_ble_eq_true rfl | omega | (dsimp only; omega)) (by first | exact Nat.le_of_ble_eq_true rfl | omega | (dsimp only; omega)) ?_ (fun x39 σ38 h9 => ?_)
            · exact fun _ _ hx => hx.elim
            · replace h := h9
              clear h9
              refine V_istore hG dL_law_411 (Nat.le_of_ble_eq_true rfl) (hpV rfl rfl) ?_
              refine V_aload_n (v := .ref v2) hG dL_law_413 rfl rfl ?_
              obtain ⟨ht, h⟩ := h
              refine V_cVI _ _ hG dL_law_414 (ct_X10_thrown hl h) mv_X10_thrown ml_L_131 ht rfl rfl rfl rfl (by first | exact Nat.le_of_ble_eq_true rfl | (simp only [List.map_cons, List.map_nil, List.sum_cons, List.sum_nil, cat_rf]; exact Nat.le_of_ble_eq_true rfl)) (by first | exact Nat.le_of_ble_eq_true rfl | omega | (dsimp only; omega)) (by first | exact Nat.le_of_ble_eq_true rfl | omega | (dsimp only; omega)) (by first | exact Nat.le_of_ble_eq_true rfl | omega | (dsimp only; omega)) (by first | exact Nat.le_of_ble_eq_true rfl | omega | (dsimp only; omega)) ?_ (fun x41 σ40 h9 => ?_)
              · exact fun _ _ hx => hx.elim
              · replace h := h9
                clear h9
                refine V_iload hG dL_law_417 rfl ?_
                refine V_icmp_eq (tgt := 424) hG dL_law_419 (by decide) (fun c => ?_) (fun c => ?_)
                · replace h := h.1 c
                  refine V_iload hG dL_law_424 rfl ?_
                  refine V_if_ne (tgt := 441) hG dL_law_426 (by decide) (fun c => ?_) (fun c => ?_)
                  · replace h := h.1 c
                    refine V_forget (lo' := [some (.ref 25), some (.ref v1), some (.ref v2), some (.ref v3), some (.int v4), none, none]) ⟨rfl, ⟨rfl, ⟨rfl, ⟨rfl, ⟨rfl, trivial⟩⟩⟩⟩⟩ ?_
                    refine V_widen (k' := k + 7) (n' := n + 39) (by first | exact Nat.le_of_ble_eq_true rfl | omega | (dsimp only; omega)) (by first | exact Nat.le_of_ble_eq_true rfl | omega | (dsimp only; omega)) ?_
                    exact wv_L_law_441 hl hG hX hret k n (by omega) (by omega) (fun z0 z1 z2 z3 ζ hz => ih _ _ (by omega) (by omega) z0 z1 z2 z3 ζ hz) _ _ _ _ _ h
                  · replace h := h.2 c
                    refine V_aload_n (v := .ref v3) hG dL_law_429 rfl rfl ?_
                    refine V_iconst (v := 0) hG (by decide) dL_law_430 ?_
                    obtain ⟨ha, j42, hi, hj, h⟩ := h
                    refine V_lald hG dL_law_431 ha hi hj ?_
                    refine V_iload hG dL_law_432 rfl ?_
                    refine V_i2l hG dL_law_434 ?_
                    refine V_lcmp hG dL_law_435 ?_
                    refine V_if_eq (tgt := 441) hG dL_law_436 (by decide) (fun c => ?_) (fun c => ?_)
                    · replace h := h.1 c
                      refine V_forget (lo' := [some (.ref 25), some (.ref v1), some (.ref v2), some (.ref v3), some (.int v4), none, none]) ⟨rfl, ⟨rfl, ⟨rfl, ⟨rfl, ⟨rfl, trivial⟩⟩⟩⟩⟩ ?_
                      refine V_widen (k' := k + 7) (n' := n + 39) (by first | exact Nat.le_of_ble_eq_true rfl | omega | (dsimp only; omega)) (by first | exact Nat.le_of_ble_eq_true rfl | omega | (dsimp only; omega)) ?_
                      exact wv_L_law_441 hl hG hX hret k n (by omega) (by omega) (fun z0 z1 z2 z3 ζ hz => ih _ _ (by omega) (by omega) z0 z1 z2 z3 ζ hz) _ _ _ _ _ h
                    · replace h := h.2 c
                      refine V_iconst (v := 0) hG (by decide) dL_law_439 ?_
                      exact law1 hret dL_law_440 h (by first | exact Nat.le_of_ble_eq_true rfl | omega | (dsimp only; omega)) (by first | exact Nat.le_of_ble_eq_true rfl | omega | (dsimp only; omega))
                · replace h := h.2 c
                  refine V_iconst (v := 0) hG (by decide) dL_law_422 ?_
                  exact law1 hret dL_law_423 h (by first | exact Nat.le_of_ble_eq_true rfl | omega | (dsimp only; omega)) (by first | exact Nat.le_of_ble_eq_true rfl | omega | (dsimp only; omega))
        · replace h := h.2.2.2.1 c
          refine V_top (congrArg Value.int c) ?_
          refine V_swIn (tgt := 444) (off := 404) hG dL_law_40 (by decide) (by decide) (by decide) (by decide) ?_
          refine V_aload_n (v := .ref v1) hG dL_law_444 rfl rfl ?_
          refine V_aload_n (v := .ref 25) hG dL_law_445 rfl rfl ?_
          refine V_iload hG dL_law_446 rfl ?_
          refine V_iconst (v := 1) hG (by decide) dL_law_448 ?_
          refine V_iadd hG dL_law_449 ?_
          obtain ⟨j43, hi, hj, h⟩ := h
          refine V_sld hG hX dL_law_450 hi hj ?_
          refine V_aload_n (v := .ref 25) hG dL_law_451 rfl rfl ?_
          refine V_iload hG dL_law_452 rfl ?_
          refine V_iconst (v := 2) hG (by decide) dL_law_454 ?_
          refine V_iadd hG dL_law_455 ?_
          obtain ⟨j44, hi, hj, h⟩ := h
          refine V_sld hG hX dL_law_456 hi hj ?_
          refine V_aload_n (v := .ref v3) hG dL_law_457 rfl rfl ?_
          refine V_cXI _ _ hG dL_law_458 (ct_L_setStore hl h) mv_L_setStore ml_L_142 rfl rfl (by first | exact Nat.le_of_ble_eq_true rfl | (simp only [List.map_cons, List.map_nil, List.sum_cons, List.sum_nil, cat_rf]; exact Nat.le_of_ble_eq_true rfl)) (by first | exact Nat.le_of_ble_eq_true rfl | omega | (dsimp only; omega)) (by first | exact Nat.le_of_ble_eq_true rfl | omega | (dsimp only; omega)) (by first | exact Nat.le_of_ble_eq_true rfl | omega | (dsimp only; omega)) (by first | exact Nat.le_of_ble_eq_true rfl | omega | (dsimp only; omega)) ?_ (fun x46 σ45 h9 => ?_)
          · exact fun _ _ hx => hx.elim
          · replace h := h9
            clear h9
            refine V_istore hG dL_law_461 (Nat.le_of_ble_eq_true rfl) (hpV rfl rfl) ?_
            refine V_aload_n (v := .ref v2) hG dL_law_463 rfl rfl ?_
            refine V_aload_n (v := .ref 25) hG dL_law_464 rfl rfl ?_
            refine V_iload hG dL_law_465 rfl ?_
            refine V_iconst (v := 1) hG (by decide) dL_law_467 ?_
            refine V_iadd hG dL_law_468 ?_
            obtain ⟨j47, hi, hj, h⟩ := h
            refine V_sld hG hX dL_law_469 hi hj ?_
            refine V_aload_n (v := .ref 25) hG dL_law_470 rfl rfl ?_
            refine V_iload hG dL_law_471 rfl ?_
            refine V_iconst (v := 2) hG (by decide) dL_law_473 ?_
            refine V_iadd hG dL_law_474 ?_
            obtain ⟨j48, hi, hj, h⟩ := h
            refine V_sld hG hX dL_law_475 hi hj ?_
            obtain ⟨ht, h⟩ := h
            refine V_cVI _ _ hG dL_law_476 (ct_X10_setStore hl h) mv_X10_setStore ml_L_145 ht rfl rfl rfl rfl (by first | exact Nat.le_of_ble_eq_true rfl | (simp only [List.map_cons, List.map_nil, List.sum_cons, List.sum_nil, cat_rf]; exact Nat.le_of_ble_eq_true rfl)) (by first | exact Nat.le_of_ble_eq_true rfl | omega | (dsimp only; omega)) (by first | exact Nat.le_of_ble_eq_true rfl | omega | (dsimp only; omega)) (by first | exact Nat.le_of_ble_eq_true rfl | omega | (dsimp only; omega)) (by first | exact Nat.le_of_ble_eq_true rfl | omega | (dsimp only; omega)) ?_ (fun x50 σ49 h9 => ?_)
            · exact fun _ _ hx => hx.elim
            · replace h := h9
              clear h9
              refine V_istore hG dL_law_479 (Nat.le_of_ble_eq_true rfl) (hpV rfl rfl) ?_
              refine V_aload_n (v := .ref v2) hG dL_law_481 rfl rfl ?_
              obtain ⟨ht, h⟩ := h
              refine V_cVI _ _ hG dL_law_482 (ct_X10_thrown hl h) mv_X10_thrown ml_L_131 ht rfl rfl rfl rfl (by first | exact Nat.le_of_ble_eq_true rfl | (simp only [List.map_cons, List.map_nil, List.sum_cons, List.sum_nil, cat_rf]; exact Nat.le_of_ble_eq_true rfl)) (by first | exact Nat.le_of_ble_eq_true rfl | omega | (dsimp only; omega)) (by first | exact Nat.le_of_ble_eq_true rfl | omega | (dsimp only; omega)) (by first | exact Nat.le_of_ble_eq_true rfl | omega | (dsimp only; omega)) (by first | exact Nat.le_of_ble_eq_true rfl | omega | (dsimp only; omega)) ?_ (fun x52 σ51 h9 => ?_)
              · exact fun _ _ hx => hx.elim
              · replace h := h9
                clear h9
                refine V_iload hG dL_law_485 rfl ?_
                refine V_icmp_eq (tgt := 492) hG dL_law_487 (by decide) (fun c => ?_) (fun c => ?_)
                · replace h := h.1 c
                  refine V_iload hG dL_law_492 rfl ?_
                  refine V_if_ne (tgt := 509) hG dL_law_494 (by decide) (fun c => ?_) (fun c => ?_)
                  · replace h := h.1 c
                    refine V_forget (lo' := [some (.ref 25), some (.ref v1), some (.ref v2), some (.ref v3), some (.int v4), none, none]) ⟨rfl, ⟨rfl, ⟨rfl, ⟨rfl, ⟨rfl, trivial⟩⟩⟩⟩⟩ ?_
                    refine V_widen (k' := k + 2) (n' := n + 12) (by first | exact Nat.le_of_ble_eq_true rfl | omega | (dsimp only; omega)) (by first | exact Nat.le_of_ble_eq_true rfl | omega | (dsimp only; omega)) ?_
                    exact wv_L_law_509 hl hG hX hret k n (by omega) (by omega) (fun z0 z1 z2 z3 ζ hz => ih _ _ (by omega) (by omega) z0 z1 z2 z3 ζ hz) _ _ _ _ _ h
                  · replace h := h.2 c
                    refine V_aload_n (v := .ref v3) hG dL_law_497 rfl rfl ?_
                    refine V_iconst (v := 0) hG (by decide) dL_law_498 ?_
                    obtain ⟨ha, j53, hi, hj, h⟩ := h
                    refine V_lald hG dL_law_499 ha hi hj ?_
                    refine V_iload hG dL_law_500 rfl ?_
                    refine V_i2l hG dL_law_502 ?_
                    refine V_lcmp hG dL_law_503 ?_
                    refine V_if_eq (tgt := 509) hG dL_law_504 (by decide) (fun c => ?_) (fun c => ?_)
                    · replace h := h.1 c
                      refine V_forget (lo' := [some (.ref 25), some (.ref v1), some (.ref v2), some (.ref v3), some (.int v4), none, none]) ⟨rfl, ⟨rfl, ⟨rfl, ⟨rfl, ⟨rfl, trivial⟩⟩⟩⟩⟩ ?_
                      refine V_widen (k' := k + 2) (n' := n + 12) (by first | exact Nat.le_of_ble_eq_true rfl | omega | (dsimp only; omega)) (by first | exact Nat.le_of_ble_eq_true rfl | omega | (dsimp only; omega)) ?_
                      exact wv_L_law_509 hl hG hX hret k n (by omega) (by omega) (fun z0 z1 z2 z3 ζ hz => ih _ _ (by omega) (by omega) z0 z1 z2 z3 ζ hz) _ _ _ _ _ h
                    · replace h := h.2 c
                      refine V_iconst (v := 0) hG (by decide) dL_law_507 ?_
                      exact law1 hret dL_law_508 h (by first | exact Nat.le_of_ble_eq_true rfl | omega | (dsimp only; omega)) (by first | exact Nat.le_of_ble_eq_true rfl | omega | (dsimp only; omega))
                · replace h := h.2 c
                  refine V_iconst (v := 0) hG (by decide) dL_law_490 ?_
                  exact law1 hret dL_law_491 h (by first | exact Nat.le_of_ble_eq_true rfl | omega | (dsimp only; omega)) (by first | exact Nat.le_of_ble_eq_true rfl | omega | (dsimp only; omega))
        · replace h := h.2.2.2.2.1 c
          refine V_top (congrArg Value.int c) ?_
          refine V_swIn (tgt := 512) (off := 472) hG dL_law_40 (by decide) (by decide) (by decide) (by decide) ?_
          refine V_aload_n (v := .ref v1) hG dL_law_512 rfl rfl ?_
          refine V_aload_n (v := .ref 25) hG dL_law_513 rfl rfl ?_
          refine V_iload hG dL_law_514 rfl ?_
          refine V_iconst (v := 1) hG (by decide) dL_law_516 ?_
          refine V_iadd hG dL_law_517 ?_
          obtain ⟨j54, hi, hj, h⟩ := h
          refine V_sld hG hX dL_law_518 hi hj ?_
          refine V_aload_n (v := .ref 25) hG dL_law_519 rfl rfl ?_
          refine V_iload hG dL_law_520 rfl ?_
          refine V_iconst (v := 2) hG (by decide) dL_law_522 ?_
          refine V_iadd hG dL_law_523 ?_
          obtain ⟨j55, hi, hj, h⟩ := h
          refine V_sld hG hX dL_law_524 hi hj ?_
          refine V_aload_n (v := .ref v3) hG dL_law_525 rfl rfl ?_
          refine V_cXI _ _ hG dL_law_526 (ct_L_setQueue hl h) mv_L_setQueue ml_L_146 rfl rfl (by first | exact Nat.le_of_ble_eq_true rfl | (simp only [List.map_cons, List.map_nil, List.sum_cons, List.sum_nil, cat_rf]; exact Nat.le_of_ble_eq_true rfl)) (by first | exact Nat.le_of_ble_eq_true rfl | omega | (dsimp only; omega)) (by first | exact Nat.le_of_ble_eq_true rfl | omega | (dsimp only; omega)) (by first | exact Nat.le_of_ble_eq_true rfl | omega | (dsimp only; omega)) (by first | exact Nat.le_of_ble_eq_true rfl | omega | (dsimp only; omega)) ?_ (fun x57 σ56 h9 => ?_)
          · exact fun _ _ hx => hx.elim
          · replace h := h9
            clear h9
            refine V_istore hG dL_law_529 (Nat.le_of_ble_eq_true rfl) (hpV rfl rfl) ?_
            refine V_aload_n (v := .ref v2) hG dL_law_531 rfl rfl ?_
            refine V_aload_n (v := .ref 25) hG dL_law_532 rfl rfl ?_
            refine V_iload hG dL_law_533 rfl ?_
            refine V_iconst (v := 1) hG (by decide) dL_law_535 ?_
            refine V_iadd hG dL_law_536 ?_
            obtain ⟨j58, hi, hj, h⟩ := h
            refine V_sld hG hX dL_law_537 hi hj ?_
            refine V_aload_n (v := .ref 25) hG dL_law_538 rfl rfl ?_
            refine V_iload hG dL_law_539 rfl ?_
            refine V_iconst (v := 2) hG (by decide) dL_law_541 ?_
            refine V_iadd hG dL_law_542 ?_
            obtain ⟨j59, hi, hj, h⟩ := h
            refine V_sld hG hX dL_law_543 hi hj ?_
            obtain ⟨ht, h⟩ := h
            refine V_cVI _ _ hG dL_law_544 (ct_X10_setQueue hl h) mv_X10_setQueue ml_L_148 ht rfl rfl rfl rfl (by first | exact Nat.le_of_ble_eq_true rfl | (simp only [List.map_cons, List.map_nil, List.sum_cons, List.sum_nil, cat_rf]; exact Nat.le_of_ble_eq_true rfl)) (by first | exact Nat.le_of_ble_eq_true rfl | omega | (dsimp only; omega)) (by first | exact Nat.le_of_ble_eq_true rfl | omega | (dsimp only; omega)) (by first | exact Nat.le_of_ble_eq_true rfl | omega | (dsimp only; omega)) (by first | exact Nat.le_of_ble_eq_true rfl | omega | (dsimp only; omega)) ?_ (fun x61 σ60 h9 => ?_)
            · exact fun _ _ hx => hx.elim
            · replace h := h9
              clear h9
              refine V_istore hG dL_law_547 (Nat.le_of_ble_eq_true rfl) (hpV rfl rfl) ?_
              refine V_aload_n (v := .ref v2) hG dL_law_549 rfl rfl ?_
              obtain ⟨ht, h⟩ := h
              refine V_cVI _ _ hG dL_law_550 (ct_X10_thrown hl h) mv_X10_thrown ml_L_131 ht rfl rfl rfl rfl (by first | exact Nat.le_of_ble_eq_true rfl | (simp only [List.map_cons, List.map_nil, List.sum_cons, List.sum_nil, cat_rf]; exact Nat.le_of_ble_eq_true rfl)) (by first | exact Nat.le_of_ble_eq_true rfl | omega | (dsimp only; omega)) (by first | exact Nat.le_of_ble_eq_true rfl | omega | (dsimp only; omega)) (by first | exact Nat.le_of_ble_eq_true rfl | omega | (dsimp only; omega)) (by first | exact Nat.le_of_ble_eq_true rfl | omega | (dsimp only; omega)) ?_ (fun x63 σ62 h9 => ?_)
              · exact fun _ _ hx => hx.elim
              · replace h := h9
                clear h9
                refine V_iload hG dL_law_553 rfl ?_
                refine V_icmp_eq (tgt := 560) hG dL_law_555 (by decide) (fun c => ?_) (fun c => ?_)
                · replace h := h.1 c
                  refine V_iload hG dL_law_560 rfl ?_
                  refine V_if_ne (tgt := 577) hG dL_law_562 (by decide) (fun c => ?_) (fun c => ?_)
                  · replace h := h.1 c
                    refine V_forget (lo' := [some (.ref 25), some (.ref v1), some (.ref v2), some (.ref v3), some (.int v4), none, none]) ⟨rfl, ⟨rfl, ⟨rfl, ⟨rfl, ⟨rfl, trivial⟩⟩⟩⟩⟩ ?_
                    refine V_widen (k' := k + 2) (n' := n + 12) (by first | exact Nat.le_of_ble_eq_true rfl | omega | (dsimp only; omega)) (by first | exact Nat.le_of_ble_eq_true rfl | omega | (dsimp only; omega)) ?_
                    exact wv_L_law_577 hl hG hX hret k n (by omega) (by omega) (fun z0 z1 z2 z3 ζ hz => ih _ _ (by omega) (by omega) z0 z1 z2 z3 ζ hz) _ _ _ _ _ h
                  · replace h := h.2 c
                    refine V_aload_n (v := .ref v3) hG dL_law_565 rfl rfl ?_
                    refine V_iconst (v := 0) hG (by decide) dL_law_566 ?_
                    obtain ⟨ha, j64, hi, hj, h⟩ := h
                    refine V_lald hG dL_law_567 ha hi hj ?_
                    refine V_iload hG dL_law_568 rfl ?_
                    refine V_i2l hG dL_law_570 ?_
                    refine V_lcmp hG dL_law_571 ?_
                    refine V_if_eq (tgt := 577) hG dL_law_572 (by decide) (fun c => ?_) (fun c => ?_)
                    · replace h := h.1 c
                      refine V_forget (lo' := [some (.ref 25), some (.ref v1), some (.ref v2), some (.ref v3), some (.int v4), none, none]) ⟨rfl, ⟨rfl, ⟨rfl, ⟨rfl, ⟨rfl, trivial⟩⟩⟩⟩⟩ ?_
                      refine V_widen (k' := k + 2) (n' := n + 12) (by first | exact Nat.le_of_ble_eq_true rfl | omega | (dsimp only; omega)) (by first | exact Nat.le_of_ble_eq_true rfl | omega | (dsimp only; omega)) ?_
                      exact wv_L_law_577 hl hG hX hret k n (by omega) (by omega) (fun z0 z1 z2 z3 ζ hz => ih _ _ (by omega) (by omega) z0 z1 z2 z3 ζ hz) _ _ _ _ _ h
                    · replace h := h.2 c
                      refine V_iconst (v := 0) hG (by decide) dL_law_575 ?_
                      exact law1 hret dL_law_576 h (by first | exact Nat.le_of_ble_eq_true rfl | omega | (dsimp only; omega)) (by first | exact Nat.le_of_ble_eq_true rfl | omega | (dsimp only; omega))
                · replace h := h.2 c
                  refine V_iconst (v := 0) hG (by decide) dL_law_558 ?_
                  exact law1 hret dL_law_559 h (by first | exact Nat.le_of_ble_eq_true rfl | omega | (dsimp only; omega)) (by first | exact Nat.le_of_ble_eq_true rfl | omega | (dsimp only; omega))
        · replace h := h.2.2.2.2.2.1 c
          refine V_top (congrArg Value.int c) ?_
          refine V_swIn (tgt := 580) (off := 540) hG dL_law_40 (by decide) (by decide) (by decide) (by decide) ?_
          refine V_aload_n (v := .ref v1) hG dL_law_580 rfl rfl ?_
          refine V_aload_n (v := .ref 25) hG dL_law_581 rfl rfl ?_
          refine V_iload hG dL_law_582 rfl ?_
          refine V_iconst (v := 1) hG (by decide) dL_law_584 ?_
          refine V_iadd hG dL_law_585 ?_
          obtain ⟨j65, hi, hj, h⟩ := h
          refine V_sld hG hX dL_law_586 hi hj ?_
          refine V_aload_n (v := .ref 25) hG dL_law_587 rfl rfl ?_
          refine V_iload hG dL_law_588 rfl ?_
          refine V_iconst (v := 2) hG (by decide) dL_law_590 ?_
          refine V_iadd hG dL_law_591 ?_
          obtain ⟨j66, hi, hj, h⟩ := h
          refine V_sld hG hX dL_law_592 hi hj ?_
          refine V_aload_n (v := .ref 25) hG dL_law_593 rfl rfl ?_
          refine V_iload hG dL_law_594 rfl ?_
          refine V_iconst (v := 3) hG (by decide) dL_law_596 ?_
          refine V_iadd hG dL_law_597 ?_
          obtain ⟨j67, hi, hj, h⟩ := h
          refine V_sld hG hX dL_law_598 hi hj ?_
          refine V_aload_n (v := .ref 25) hG dL_law_599 rfl rfl ?_
          refine V_iload hG dL_law_600 rfl ?_
          refine V_iconst (v := 4) hG (by decide) dL_law_602 ?_
          refine V_iadd hG dL_law_603 ?_
          obtain ⟨j68, hi, hj, h⟩ := h
          refine V_sld hG hX dL_law_604 hi hj ?_
          refine V_aload_n (v := .ref 25) hG dL_law_605 rfl rfl ?_
          refine V_iload hG dL_law_606 rfl ?_
          refine V_iconst (v := 5) hG (by decide) dL_law_608 ?_
          refine V_iadd hG dL_law_609 ?_
          obtain ⟨j69, hi, hj, h⟩ := h
          refine V_sld hG hX dL_law_610 hi hj ?_
          refine V_aload_n (v := .ref 25) hG dL_law_611 rfl rfl ?_
          refine V_iload hG dL_law_612 rfl ?_
          refine V_bipush (v := 6) hG (by decide) dL_law_614 ?_
          refine V_iadd hG dL_law_616 ?_
          obtain ⟨j70, hi, hj, h⟩ := h
          refine V_sld hG hX dL_law_617 hi hj ?_
          refine V_aload_n (v := .ref v3) hG dL_law_618 rfl rfl ?_
          refine V_cXI _ _ hG dL_law_619 (ct_L_addMachine hl h) mv_L_addMachine ml_L_149 rfl rfl (by first | exact Nat.le_of_ble_eq_true rfl | (simp only [List.map_cons, List.map_nil, List.sum_cons, List.sum_nil, cat_rf]; exact Nat.le_of_ble_eq_true rfl)) (by first | exact Nat.le_of_ble_eq_true rfl | omega | (dsimp only; omega)) (by first | exact Nat.le_of_ble_eq_true rfl | omega | (dsimp only; omega)) (by first | exact Nat.le_of_ble_eq_true rfl | omega | (dsimp only; omega)) (by first | exact Nat.le_of_ble_eq_true rfl | omega | (dsimp only; omega)) ?_ (fun x72 σ71 h9 => ?_)
          · exact fun _ _ hx => hx.elim
          · replace h := h9
            clear h9
            refine V_istore hG dL_law_622 (Nat.le_of_ble_eq_true rfl) (hpV rfl rfl) ?_
            refine V_aload_n (v := .ref v2) hG dL_law_624 rfl rfl ?_
            refine V_aload_n (v := .ref 25) hG dL_law_625 rfl rfl ?_
            refine V_iload hG dL_law_626 rfl ?_
            refine V_iconst (v := 1) hG (by decide) dL_law_628 ?_
            refine V_iadd hG dL_law_629 ?_
            obtain ⟨j73, hi, hj, h⟩ := h
            refine V_sld hG hX dL_law_630 hi hj ?_
            refine V_aload_n (v := .ref 25) hG dL_law_631 rfl rfl ?_
            refine V_iload hG dL_law_632 rfl ?_
            refine V_iconst (v := 2) hG (by decide) dL_law_634 ?_
            refine V_iadd hG dL_law_635 ?_
            obtain ⟨j74, hi, hj, h⟩ := h
            refine V_sld hG hX dL_law_636 hi hj ?_
            refine V_aload_n (v := .ref 25) hG dL_law_637 rfl rfl ?_
            refine V_iload hG dL_law_638 rfl ?_
            refine V_iconst (v := 3) hG (by decide) dL_law_640 ?_
            refine V_iadd hG dL_law_641 ?_
            obtain ⟨j75, hi, hj, h⟩ := h
            refine V_sld hG hX dL_law_642 hi hj ?_
            refine V_aload_n (v := .ref 25) hG dL_law_643 rfl rfl ?_
            refine V_iload hG dL_law_644 rfl ?_
            refine V_iconst (v := 4) hG (by decide) dL_law_646 ?_
            refine V_iadd hG dL_law_647 ?_
            obtain ⟨j76, hi, hj, h⟩ := h
            refine V_sld hG hX dL_law_648 hi hj ?_
            refine V_aload_n (v := .ref 25) hG dL_law_649 rfl rfl ?_
            refine V_iload hG dL_law_650 rfl ?_
            refine V_iconst (v := 5) hG (by decide) dL_law_652 ?_
            refine V_iadd hG dL_law_653 ?_
            obtain ⟨j77, hi, hj, h⟩ := h
            refine V_sld hG hX dL_law_654 hi hj ?_
            refine V_aload_n (v := .ref 25) hG dL_law_655 rfl rfl ?_
            refine V_iload hG dL_law_656 rfl ?_
            refine V_bipush (v := 6) hG (by decide) dL_law_658 ?_
            refine V_iadd hG dL_law_660 ?_
            obtain ⟨j78, hi, hj, h⟩ := h
            refine V_sld hG hX dL_law_661 hi hj ?_
            obtain ⟨ht, h⟩ := h
            refine V_cVI _ _ hG dL_law_662 (ct_X10_addMachine hl h) mv_X10_addMachine ml_L_152 ht rfl rfl rfl rfl (by first | exact Nat.le_of_ble_eq_true rfl | (simp only [List.map_cons, List.map_nil, List.sum_cons, List.sum_nil, cat_rf]; exact Nat.le_of_ble_eq_true rfl)) (by first | exact Nat.le_of_ble_eq_true rfl | omega | (dsimp only; omega)) (by first | exact Nat.le_of_ble_eq_true rfl | omega | (dsimp only; omega)) (by first | exact Nat.le_of_ble_eq_true rfl | omega | (dsimp only; omega)) (by first | exact Nat.le_of_ble_eq_true rfl | omega | (dsimp only; omega)) ?_ (fun x80 σ79 h9 => ?_)
            · exact fun _ _ hx => hx.elim
            · replace h := h9
              clear h9
              refine V_istore hG dL_law_665 (Nat.le_of_ble_eq_true rfl) (hpV rfl rfl) ?_
              refine V_aload_n (v := .ref v2) hG dL_law_667 rfl rfl ?_
              obtain ⟨ht, h⟩ := h
              refine V_cVI _ _ hG dL_law_668 (ct_X10_thrown hl h) mv_X10_thrown ml_L_131 ht rfl rfl rfl rfl (by first | exact Nat.le_of_ble_eq_true rfl | (simp only [List.map_cons, List.map_nil, List.sum_cons, List.sum_nil, cat_rf]; exact Nat.le_of_ble_eq_true rfl)) (by first | exact Nat.le_of_ble_eq_true rfl | omega | (dsimp only; omega)) (by first | exact Nat.le_of_ble_eq_true rfl | omega | (dsimp only; omega)) (by first | exact Nat.le_of_ble_eq_true rfl | omega | (dsimp only; omega)) (by first | exact Nat.le_of_ble_eq_true rfl | omega | (dsimp only; omega)) ?_ (fun x82 σ81 h9 => ?_)
              · exact fun _ _ hx => hx.elim
              · replace h := h9
                clear h9
                refine V_iload hG dL_law_671 rfl ?_
                refine V_icmp_eq (tgt := 678) hG dL_law_673 (by decide) (fun c => ?_) (fun c => ?_)
                · replace h := h.1 c
                  refine V_iload hG dL_law_678 rfl ?_
                  refine V_if_ne (tgt := 695) hG dL_law_680 (by decide) (fun c => ?_) (fun c => ?_)
                  · replace h := h.1 c
                    refine V_forget (lo' := [some (.ref 25), some (.ref v1), some (.ref v2), some (.ref v3), some (.int v4), none, none]) ⟨rfl, ⟨rfl, ⟨rfl, ⟨rfl, ⟨rfl, trivial⟩⟩⟩⟩⟩ ?_
                    refine V_widen (k' := k + 8) (n' := n + 57) (by first | exact Nat.le_of_ble_eq_true rfl | omega | (dsimp only; omega)) (by first | exact Nat.le_of_ble_eq_true rfl | omega | (dsimp only; omega)) ?_
                    exact wv_L_law_695 hl hG hX hret k n (by omega) (by omega) (fun z0 z1 z2 z3 ζ hz => ih _ _ (by omega) (by omega) z0 z1 z2 z3 ζ hz) _ _ _ _ _ h
                  · replace h := h.2 c
                    refine V_aload_n (v := .ref v3) hG dL_law_683 rfl rfl ?_
                    refine V_iconst (v := 0) hG (by decide) dL_law_684 ?_
                    obtain ⟨ha, j83, hi, hj, h⟩ := h
                    refine V_lald hG dL_law_685 ha hi hj ?_
                    refine V_iload hG dL_law_686 rfl ?_
                    refine V_i2l hG dL_law_688 ?_
                    refine V_lcmp hG dL_law_689 ?_
                    refine V_if_eq (tgt := 695) hG dL_law_690 (by decide) (fun c => ?_) (fun c => ?_)
                    · replace h := h.1 c
                      refine V_forget (lo' := [some (.ref 25), some (.ref v1), some (.ref v2), some (.ref v3), some (.int v4), none, none]) ⟨rfl, ⟨rfl, ⟨rfl, ⟨rfl, ⟨rfl, trivial⟩⟩⟩⟩⟩ ?_
                      refine V_widen (k' := k + 8) (n' := n + 57) (by first | exact Nat.le_of_ble_eq_true rfl | omega | (dsimp only; omega)) (by first | exact Nat.le_of_ble_eq_true rfl | omega | (dsimp only; omega)) ?_
                      exact wv_L_law_695 hl hG hX hret k n (by omega) (by omega) (fun z0 z1 z2 z3 ζ hz => ih _ _ (by omega) (by omega) z0 z1 z2 z3 ζ hz) _ _ _ _ _ h
                    · replace h := h.2 c
                      refine V_iconst (v := 0) hG (by decide) dL_law_693 ?_
                      exact law1 hret dL_law_694 h (by first | exact Nat.le_of_ble_eq_true rfl | omega | (dsimp only; omega)) (by first | exact Nat.le_of_ble_eq_true rfl | omega | (dsimp only; omega))
                · replace h := h.2 c
                  refine V_iconst (v := 0) hG (by decide) dL_law_676 ?_
                  exact law1 hret dL_law_677 h (by first | exact Nat.le_of_ble_eq_true rfl | omega | (dsimp only; omega)) (by first | exact Nat.le_of_ble_eq_true rfl | omega | (dsimp only; omega))
        · replace h := h.2.2.2.2.2.2.1 c
          refine V_top (congrArg Value.int c) ?_
          refine V_swIn (tgt := 698) (off := 658) hG dL_law_40 (by decide) (by decide) (by decide) (by decide) ?_
          refine V_aload_n (v := .ref v1) hG dL_law_698 rfl rfl ?_
          refine V_aload_n (v := .ref 25) hG dL_law_699 rfl rfl ?_
          refine V_iload hG dL_law_700 rfl ?_
          refine V_iconst (v := 1) hG (by decide) dL_law_702 ?_
          refine V_iadd hG dL_law_703 ?_
          obtain ⟨j84, hi, hj, h⟩ := h
          refine V_sld hG hX dL_law_704 hi hj ?_
          refine V_aload_n (v := .ref 25) hG dL_law_705 rfl rfl ?_
          refine V_iload hG dL_law_706 rfl ?_
          refine V_iconst (v := 2) hG (by decide) dL_law_708 ?_
          refine V_iadd hG dL_law_709 ?_
          obtain ⟨j85, hi, hj, h⟩ := h
          refine V_sld hG hX dL_law_710 hi hj ?_
          refine V_aload_n (v := .ref 25) hG dL_law_711 rfl rfl ?_
          refine V_iload hG dL_law_712 rfl ?_
          refine V_iconst (v := 3) hG (by decide) dL_law_714 ?_
          refine V_iadd hG dL_law_715 ?_
          obtain ⟨j86, hi, hj, h⟩ := h
          refine V_sld hG hX dL_law_716 hi hj ?_
          refine V_aload_n (v := .ref v3) hG dL_law_717 rfl rfl ?_
          refine V_cXI _ _ hG dL_law_718 (ct_L_addPerson hl h) mv_L_addPerson ml_L_153 rfl rfl (by first | exact Nat.le_of_ble_eq_true rfl | (simp only [List.map_cons, List.map_nil, List.sum_cons, List.sum_nil, cat_rf]; exact Nat.le_of_ble_eq_true rfl)) (by first | exact Nat.le_of_ble_eq_true rfl | omega | (dsimp only; omega)) (by first | exact Nat.le_of_ble_eq_true rfl | omega | (dsimp only; omega)) (by first | exact Nat.le_of_ble_eq_true rfl | omega | (dsimp only; omega)) (by first | exact Nat.le_of_ble_eq_true rfl | omega | (dsimp only; omega)) ?_ (fun x88 σ87 h9 => ?_)
          · exact fun _ _ hx => hx.elim
          · replace h := h9
            clear h9
            refine V_istore hG dL_law_721 (Nat.le_of_ble_eq_true rfl) (hpV rfl rfl) ?_
            refine V_aload_n (v := .ref v2) hG dL_law_723 rfl rfl ?_
            refine V_aload_n (v := .ref 25) hG dL_law_724 rfl rfl ?_
            refine V_iload hG dL_law_725 rfl ?_
            refine V_iconst (v := 1) hG (by decide) dL_law_727 ?_
            refine V_iadd hG dL_law_728 ?_
            obtain ⟨j89, hi, hj, h⟩ := h
            refine V_sld hG hX dL_law_729 hi hj ?_
            refine V_aload_n (v := .ref 25) hG dL_law_730 rfl rfl ?_
            refine V_iload hG dL_law_731 rfl ?_
            refine V_iconst (v := 2) hG (by decide) dL_law_733 ?_
            refine V_iadd hG dL_law_734 ?_
            obtain ⟨j90, hi, hj, h⟩ := h
            refine V_sld hG hX dL_law_735 hi hj ?_
            refine V_aload_n (v := .ref 25) hG dL_law_736 rfl rfl ?_
            refine V_iload hG dL_law_737 rfl ?_
            refine V_iconst (v := 3) hG (by decide) dL_law_739 ?_
            refine V_iadd hG dL_law_740 ?_
            obtain ⟨j91, hi, hj, h⟩ := h
            refine V_sld hG hX dL_law_741 hi hj ?_
            obtain ⟨ht, h⟩ := h
            refine V_cVI _ _ hG dL_law_742 (ct_X10_addPerson hl h) mv_X10_addPerson ml_L_156 ht rfl rfl rfl rfl (by first | exact Nat.le_of_ble_eq_true rfl | (simp only [List.map_cons, List.map_nil, List.sum_cons, List.sum_nil, cat_rf]; exact Nat.le_of_ble_eq_true rfl)) (by first | exact Nat.le_of_ble_eq_true rfl | omega | (dsimp only; omega)) (by first | exact Nat.le_of_ble_eq_true rfl | omega | (dsimp only; omega)) (by first | exact Nat.le_of_ble_eq_true rfl | omega | (dsimp only; omega)) (by first | exact Nat.le_of_ble_eq_true rfl | omega | (dsimp only; omega)) ?_ (fun x93 σ92 h9 => ?_)
            · exact fun _ _ hx => hx.elim
            · replace h := h9
              clear h9
              refine V_istore hG dL_law_745 (Nat.le_of_ble_eq_true rfl) (hpV rfl rfl) ?_
              refine V_aload_n (v := .ref v2) hG dL_law_747 rfl rfl ?_
              obtain ⟨ht, h⟩ := h
              refine V_cVI _ _ hG dL_law_748 (ct_X10_thrown hl h) mv_X10_thrown ml_L_131 ht rfl rfl rfl rfl (by first | exact Nat.le_of_ble_eq_true rfl | (simp only [List.map_cons, List.map_nil, List.sum_cons, List.sum_nil, cat_rf]; exact Nat.le_of_ble_eq_true rfl)) (by first | exact Nat.le_of_ble_eq_true rfl | omega | (dsimp only; omega)) (by first | exact Nat.le_of_ble_eq_true rfl | omega | (dsimp only; omega)) (by first | exact Nat.le_of_ble_eq_true rfl | omega | (dsimp only; omega)) (by first | exact Nat.le_of_ble_eq_true rfl | omega | (dsimp only; omega)) ?_ (fun x95 σ94 h9 => ?_)
              · exact fun _ _ hx => hx.elim
              · replace h := h9
                clear h9
                refine V_iload hG dL_law_751 rfl ?_
                refine V_icmp_eq (tgt := 758) hG dL_law_753 (by decide) (fun c => ?_) (fun c => ?_)
                · replace h := h.1 c
                  refine V_iload hG dL_law_758 rfl ?_
                  refine V_if_ne (tgt := 775) hG dL_law_760 (by decide) (fun c => ?_) (fun c => ?_)
                  · replace h := h.1 c
                    refine V_forget (lo' := [some (.ref 25), some (.ref v1), some (.ref v2), some (.ref v3), some (.int v4), none, none]) ⟨rfl, ⟨rfl, ⟨rfl, ⟨rfl, ⟨rfl, trivial⟩⟩⟩⟩⟩ ?_
                    refine V_widen (k' := k + 7) (n' := n + 39) (by first | exact Nat.le_of_ble_eq_true rfl | omega | (dsimp only; omega)) (by first | exact Nat.le_of_ble_eq_true rfl | omega | (dsimp only; omega)) ?_
                    exact wv_L_law_775 hl hG hX hret k n (by omega) (by omega) (fun z0 z1 z2 z3 ζ hz => ih _ _ (by omega) (by omega) z0 z1 z2 z3 ζ hz) _ _ _ _ _ h
                  · replace h := h.2 c
                    refine V_aload_n (v := .ref v3) hG dL_law_763 rfl rfl ?_
                    refine V_iconst (v := 0) hG (by decide) dL_law_764 ?_
                    obtain ⟨ha, j96, hi, hj, h⟩ := h
                    refine V_lald hG dL_law_765 ha hi hj ?_
                    refine V_iload hG dL_law_766 rfl ?_
                    refine V_i2l hG dL_law_768 ?_
                    refine V_lcmp hG dL_law_769 ?_
                    refine V_if_eq (tgt := 775) hG dL_law_770 (by decide) (fun c => ?_) (fun c => ?_)
                    · replace h := h.1 c
                      refine V_forget (lo' := [some (.ref 25), some (.ref v1), some (.ref v2), some (.ref v3), some (.int v4), none, none]) ⟨rfl, ⟨rfl, ⟨rfl, ⟨rfl, ⟨rfl, trivial⟩⟩⟩⟩⟩ ?_
                      refine V_widen (k' := k + 7) (n' := n + 39) (by first | exact Nat.le_of_ble_eq_true rfl | omega | (dsimp only; omega)) (by first | exact Nat.le_of_ble_eq_true rfl | omega | (dsimp only; omega)) ?_
                      exact wv_L_law_775 hl hG hX hret k n (by omega) (by omega) (fun z0 z1 z2 z3 ζ hz => ih _ _ (by omega) (by omega) z0 z1 z2 z3 ζ hz) _ _ _ _ _ h
                    · replace h := h.2 c
                      refine V_iconst (v := 0) hG (by decide) dL_law_773 ?_
                      exact law1 hret dL_law_774 h (by first | exact Nat.le_of_ble_eq_true rfl | omega | (dsimp only; omega)) (by first | exact Nat.le_of_ble_eq_true rfl | omega | (dsimp only; omega))
                · replace h := h.2 c
                  refine V_iconst (v := 0) hG (by decide) dL_law_756 ?_
                  exact law1 hret dL_law_757 h (by first | exact Nat.le_of_ble_eq_true rfl | omega | (dsimp only; omega)) (by first | exact Nat.le_of_ble_eq_true rfl | omega | (dsimp only; omega))
        · replace h := h.2.2.2.2.2.2.2.1 c
          refine V_top (congrArg Value.int c) ?_
          refine V_swIn (tgt := 778) (off := 738) hG dL_law_40 (by decide) (by decide) (by decide) (by decide) ?_
          refine V_aload_n (v := .ref v1) hG dL_law_778 rfl rfl ?_
          refine V_aload_n (v := .ref 25) hG dL_law_779 rfl rfl ?_
          refine V_iload hG dL_law_780 rfl ?_
          refine V_iconst (v := 1) hG (by decide) dL_law_782 ?_
          refine V_iadd hG dL_law_783 ?_
          obtain ⟨j97, hi, hj, h⟩ := h
          refine V_sld hG hX dL_law_784 hi hj ?_
          refine V_aload_n (v := .ref 25) hG dL_law_785 rfl rfl ?_
          refine V_iload hG dL_law_786 rfl ?_
          refine V_iconst (v := 2) hG (by decide) dL_law_788 ?_
          refine V_iadd hG dL_law_789 ?_
          obtain ⟨j98, hi, hj, h⟩ := h
          refine V_sld hG hX dL_law_790 hi hj ?_
          refine V_aload_n (v := .ref 25) hG dL_law_791 rfl rfl ?_
          refine V_iload hG dL_law_792 rfl ?_
          refine V_iconst (v := 3) hG (by decide) dL_law_794 ?_
          refine V_iadd hG dL_law_795 ?_
          obtain ⟨j99, hi, hj, h⟩ := h
          refine V_sld hG hX dL_law_796 hi hj ?_
          refine V_aload_n (v := .ref v3) hG dL_law_797 rfl rfl ?_
          refine V_cXI _ _ hG dL_law_798 (ct_L_setLevel hl h) mv_L_setLevel ml_L_157 rfl rfl (by first | exact Nat.le_of_ble_eq_true rfl | (simp only [List.map_cons, List.map_nil, List.sum_cons, List.sum_nil, cat_rf]; exact Nat.le_of_ble_eq_true rfl)) (by first | exact Nat.le_of_ble_eq_true rfl | omega | (dsimp only; omega)) (by first | exact Nat.le_of_ble_eq_true rfl | omega | (dsimp only; omega)) (by first | exact Nat.le_of_ble_eq_true rfl | omega | (dsimp only; omega)) (by first | exact Nat.le_of_ble_eq_true rfl | omega | (dsimp only; omega)) ?_ (fun x101 σ100 h9 => ?_)
          · exact fun _ _ hx => hx.elim
          · replace h := h9
            clear h9
            refine V_istore hG dL_law_801 (Nat.le_of_ble_eq_true rfl) (hpV rfl rfl) ?_
            refine V_aload_n (v := .ref v2) hG dL_law_803 rfl rfl ?_
            refine V_aload_n (v := .ref 25) hG dL_law_804 rfl rfl ?_
            refine V_iload hG dL_law_805 rfl ?_
            refine V_iconst (v := 1) hG (by decide) dL_law_807 ?_
            refine V_iadd hG dL_law_808 ?_
            obtain ⟨j102, hi, hj, h⟩ := h
            refine V_sld hG hX dL_law_809 hi hj ?_
            refine V_aload_n (v := .ref 25) hG dL_law_810 rfl rfl ?_
            refine V_iload hG dL_law_811 rfl ?_
            refine V_iconst (v := 2) hG (by decide) dL_law_813 ?_
            refine V_iadd hG dL_law_814 ?_
            obtain ⟨j103, hi, hj, h⟩ := h
            refine V_sld hG hX dL_law_815 hi hj ?_
            refine V_aload_n (v := .ref 25) hG dL_law_816 rfl rfl ?_
            refine V_iload hG dL_law_817 rfl ?_
            refine V_iconst (v := 3) hG (by decide) dL_law_819 ?_
            refine V_iadd hG dL_law_820 ?_
            obtain ⟨j104, hi, hj, h⟩ := h
            refine V_sld hG hX dL_law_821 hi hj ?_
            obtain ⟨ht, h⟩ := h
            refine V_cVI _ _ hG dL_law_822 (ct_X10_setLevel hl h) mv_X10_setLevel ml_L_159 ht rfl rfl rfl rfl (by first | exact Nat.le_of_ble_eq_true rfl | (simp only [List.map_cons, List.map_nil, List.sum_cons, List.sum_nil, cat_rf]; exact Nat.le_of_ble_eq_true rfl)) (by first | exact Nat.le_of_ble_eq_true rfl | omega | (dsimp only; omega)) (by first | exact Nat.le_of_ble_eq_true rfl | omega | (dsimp only; omega)) (by first | exact Nat.le_of_ble_eq_true rfl | omega | (dsimp only; omega)) (by first | exact Nat.le_of_ble_eq_true rfl | omega | (dsimp only; omega)) ?_ (fun x106 σ105 h9 => ?_)
            · exact fun _ _ hx => hx.elim
            · replace h := h9
              clear h9
              refine V_istore hG dL_law_825 (Nat.le_of_ble_eq_true rfl) (hpV rfl rfl) ?_
              refine V_aload_n (v := .ref v2) hG dL_law_827 rfl rfl ?_
              obtain ⟨ht, h⟩ := h
              refine V_cVI _ _ hG dL_law_828 (ct_X10_thrown hl h) mv_X10_thrown ml_L_131 ht rfl rfl rfl rfl (by first | exact Nat.le_of_ble_eq_true rfl | (simp only [List.map_cons, List.map_nil, List.sum_cons, List.sum_nil, cat_rf]; exact Nat.le_of_ble_eq_true rfl)) (by first | exact Nat.le_of_ble_eq_true rfl | omega | (dsimp only; omega)) (by first | exact Nat.le_of_ble_eq_true rfl | omega | (dsimp only; omega)) (by first | exact Nat.le_of_ble_eq_true rfl | omega | (dsimp only; omega)) (by first | exact Nat.le_of_ble_eq_true rfl | omega | (dsimp only; omega)) ?_ (fun x108 σ107 h9 => ?_)
              · exact fun _ _ hx => hx.elim
              · replace h := h9
                clear h9
                refine V_iload hG dL_law_831 rfl ?_
                refine V_icmp_eq (tgt := 838) hG dL_law_833 (by decide) (fun c => ?_) (fun c => ?_)
                · replace h := h.1 c
                  refine V_iload hG dL_law_838 rfl ?_
                  refine V_if_ne (tgt := 855) hG dL_law_840 (by decide) (fun c => ?_) (fun c => ?_)
                  · replace h := h.1 c
                    refine V_forget (lo' := [some (.ref 25), some (.ref v1), some (.ref v2), some (.ref v3), some (.int v4), none, none]) ⟨rfl, ⟨rfl, ⟨rfl, ⟨rfl, ⟨rfl, trivial⟩⟩⟩⟩⟩ ?_
                    refine V_widen (k' := k + 3) (n' := n + 18) (by first | exact Nat.le_of_ble_eq_true rfl | omega | (dsimp only; omega)) (by first | exact Nat.le_of_ble_eq_true rfl | omega | (dsimp only; omega)) ?_
                    exact wv_L_law_855 hl hG hX hret k n (by omega) (by omega) (fun z0 z1 z2 z3 ζ hz => ih _ _ (by omega) (by omega) z0 z1 z2 z3 ζ hz) _ _ _ _ _ h
                  · replace h := h.2 c
                    refine V_aload_n (v := .ref v3) hG dL_law_843 rfl rfl ?_
                    refine V_iconst (v := 0) hG (by decide) dL_law_844 ?_
                    obtain ⟨ha, j109, hi, hj, h⟩ := h
                    refine V_lald hG dL_law_845 ha hi hj ?_
                    refine V_iload hG dL_law_846 rfl ?_
                    refine V_i2l hG dL_law_848 ?_
                    refine V_lcmp hG dL_law_849 ?_
                    refine V_if_eq (tgt := 855) hG dL_law_850 (by decide) (fun c => ?_) (fun c => ?_)
                    · replace h := h.1 c
                      refine V_forget (lo' := [some (.ref 25), some (.ref v1), some (.ref v2), some (.ref v3), some (.int v4), none, none]) ⟨rfl, ⟨rfl, ⟨rfl, ⟨rfl, ⟨rfl, trivial⟩⟩⟩⟩⟩ ?_
                      refine V_widen (k' := k + 3) (n' := n + 18) (by first | exact Nat.le_of_ble_eq_true rfl | omega | (dsimp only; omega)) (by first | exact Nat.le_of_ble_eq_true rfl | omega | (dsimp only; omega)) ?_
                      exact wv_L_law_855 hl hG hX hret k n (by omega) (by omega) (fun z0 z1 z2 z3 ζ hz => ih _ _ (by omega) (by omega) z0 z1 z2 z3 ζ hz) _ _ _ _ _ h
                    · replace h := h.2 c
                      refine V_iconst (v := 0) hG (by decide) dL_law_853 ?_
                      exact law1 hret dL_law_854 h (by first | exact Nat.le_of_ble_eq_true rfl | omega | (dsimp only; omega)) (by first | exact Nat.le_of_ble_eq_true rfl | omega | (dsimp only; omega))
                · replace h := h.2 c
                  refine V_iconst (v := 0) hG (by decide) dL_law_836 ?_
                  exact law1 hret dL_law_837 h (by first | exact Nat.le_of_ble_eq_true rfl | omega | (dsimp only; omega)) (by first | exact Nat.le_of_ble_eq_true rfl | omega | (dsimp only; omega))
        · replace h := h.2.2.2.2.2.2.2.2.1 c
          refine V_top (congrArg Value.int c) ?_
          refine V_swIn (tgt := 858) (off := 818) hG dL_law_40 (by decide) (by decide) (by decide) (by decide) ?_
          refine V_aload_n (v := .ref v1) hG dL_law_858 rfl rfl ?_
          refine V_aload_n (v := .ref 25) hG dL_law_859 rfl rfl ?_
          refine V_iload hG dL_law_860 rfl ?_
          refine V_iconst (v := 1) hG (by decide) dL_law_862 ?_
          refine V_iadd hG dL_law_863 ?_
          obtain ⟨j110, hi, hj, h⟩ := h
          refine V_sld hG hX dL_law_864 hi hj ?_
          refine V_aload_n (v := .ref 25) hG dL_law_865 rfl rfl ?_
          refine V_iload hG dL_law_866 rfl ?_
          refine V_iconst (v := 2) hG (by decide) dL_law_868 ?_
          refine V_iadd hG dL_law_869 ?_
          obtain ⟨j111, hi, hj, h⟩ := h
          refine V_sld hG hX dL_law_870 hi hj ?_
          refine V_aload_n (v := .ref v3) hG dL_law_871 rfl rfl ?_
          refine V_cXI _ _ hG dL_law_872 (ct_L_buy hl h) mv_L_buy ml_L_160 rfl rfl (by first | exact Nat.le_of_ble_eq_true rfl | (simp only [List.map_cons, List.map_nil, List.sum_cons, List.sum_nil, cat_rf]; exact Nat.le_of_ble_eq_true rfl)) (by first | exact Nat.le_of_ble_eq_true rfl | omega | (dsimp only; omega)) (by first | exact Nat.le_of_ble_eq_true rfl | omega | (dsimp only; omega)) (by first | exact Nat.le_of_ble_eq_true rfl | omega | (dsimp only; omega)) (by first | exact Nat.le_of_ble_eq_true rfl | omega | (dsimp only; omega)) ?_ (fun x113 σ112 h9 => ?_)
          · exact fun _ _ hx => hx.elim
          · replace h := h9
            clear h9
            refine V_istore hG dL_law_875 (Nat.le_of_ble_eq_true rfl) (hpV rfl rfl) ?_
            refine V_aload_n (v := .ref v2) hG dL_law_877 rfl rfl ?_
            refine V_aload_n (v := .ref 25) hG dL_law_878 rfl rfl ?_
            refine V_iload hG dL_law_879 rfl ?_
            refine V_iconst (v := 1) hG (by decide) dL_law_881 ?_
            refine V_iadd hG dL_law_882 ?_
            obtain ⟨j114, hi, hj, h⟩ := h
            refine V_sld hG hX dL_law_883 hi hj ?_
            refine V_aload_n (v := .ref 25) hG dL_law_884 rfl rfl ?_
            refine V_iload hG dL_law_885 rfl ?_
            refine V_iconst (v := 2) hG (by decide) dL_law_887 ?_
            refine V_iadd hG dL_law_888 ?_
            obtain ⟨j115, hi, hj, h⟩ := h
            refine V_sld hG hX dL_law_889 hi hj ?_
            obtain ⟨ht, h⟩ := h
            refine V_cVI _ _ hG dL_law_890 (ct_X10_buy hl h) mv_X10_buy ml_L_162 ht rfl rfl rfl rfl (by first | exact Nat.le_of_ble_eq_true rfl | (simp only [List.map_cons, List.map_nil, List.sum_cons, List.sum_nil, cat_rf]; exact Nat.le_of_ble_eq_true rfl)) (by first | exact Nat.le_of_ble_eq_true rfl | omega | (dsimp only; omega)) (by first | exact Nat.le_of_ble_eq_true rfl | omega | (dsimp only; omega)) (by first | exact Nat.le_of_ble_eq_true rfl | omega | (dsimp only; omega)) (by first | exact Nat.le_of_ble_eq_true rfl | omega | (dsimp only; omega)) ?_ (fun x117 σ116 h9 => ?_)
            · exact fun _ _ hx => hx.elim
            · replace h := h9
              clear h9
              refine V_istore hG dL_law_893 (Nat.le_of_ble_eq_true rfl) (hpV rfl rfl) ?_
              refine V_aload_n (v := .ref v2) hG dL_law_895 rfl rfl ?_
              obtain ⟨ht, h⟩ := h
              refine V_cVI _ _ hG dL_law_896 (ct_X10_thrown hl h) mv_X10_thrown ml_L_131 ht rfl rfl rfl rfl (by first | exact Nat.le_of_ble_eq_true rfl | (simp only [List.map_cons, List.map_nil, List.sum_cons, List.sum_nil, cat_rf]; exact Nat.le_of_ble_eq_true rfl)) (by first | exact Nat.le_of_ble_eq_true rfl | omega | (dsimp only; omega)) (by first | exact Nat.le_of_ble_eq_true rfl | omega | (dsimp only; omega)) (by first | exact Nat.le_of_ble_eq_true rfl | omega | (dsimp only; omega)) (by first | exact Nat.le_of_ble_eq_true rfl | omega | (dsimp only; omega)) ?_ (fun x119 σ118 h9 => ?_)
              · exact fun _ _ hx => hx.elim
              · replace h := h9
                clear h9
                refine V_iload hG dL_law_899 rfl ?_
                refine V_icmp_eq (tgt := 906) hG dL_law_901 (by decide) (fun c => ?_) (fun c => ?_)
                · replace h := h.1 c
                  refine V_iload hG dL_law_906 rfl ?_
                  refine V_if_ne (tgt := 923) hG dL_law_908 (by decide) (fun c => ?_) (fun c => ?_)
                  · replace h := h.1 c
                    refine V_forget (lo' := [some (.ref 25), some (.ref v1), some (.ref v2), some (.ref v3), some (.int v4), none, none]) ⟨rfl, ⟨rfl, ⟨rfl, ⟨rfl, ⟨rfl, trivial⟩⟩⟩⟩⟩ ?_
                    refine V_widen (k' := k + 4) (n' := n + 30) (by first | exact Nat.le_of_ble_eq_true rfl | omega | (dsimp only; omega)) (by first | exact Nat.le_of_ble_eq_true rfl | omega | (dsimp only; omega)) ?_
                    exact wv_L_law_923 hl hG hX hret k n (by omega) (by omega) (fun z0 z1 z2 z3 ζ hz => ih _ _ (by omega) (by omega) z0 z1 z2 z3 ζ hz) _ _ _ _ _ h
                  · replace h := h.2 c
                    refine V_aload_n (v := .ref v3) hG dL_law_911 rfl rfl ?_
                    refine V_iconst (v := 0) hG (by decide) dL_law_912 ?_
                    obtain ⟨ha, j120, hi, hj, h⟩ := h
                    refine V_lald hG dL_law_913 ha hi hj ?_
                    refine V_iload hG dL_law_914 rfl ?_
                    refine V_i2l hG dL_law_916 ?_
                    refine V_lcmp hG dL_law_917 ?_
                    refine V_if_eq (tgt := 923) hG dL_law_918 (by decide) (fun c => ?_) (fun c => ?_)
                    · replace h := h.1 c
                      refine V_forget (lo' := [some (.ref 25), some (.ref v1), some (.ref v2), some (.ref v3), some (.int v4), none, none]) ⟨rfl, ⟨rfl, ⟨rfl, ⟨rfl, ⟨rfl, trivial⟩⟩⟩⟩⟩ ?_
                      refine V_widen (k' := k + 4) (n' := n + 30) (by first | exact Nat.le_of_ble_eq_true rfl | omega | (dsimp only; omega)) (by first | exact Nat.le_of_ble_eq_true rfl | omega | (dsimp only; omega)) ?_
                      exact wv_L_law_923 hl hG hX hret k n (by omega) (by omega) (fun z0 z1 z2 z3 ζ hz => ih _ _ (by omega) (by omega) z0 z1 z2 z3 ζ hz) _ _ _ _ _ h
                    · replace h := h.2 c
                      refine V_iconst (v := 0) hG (by decide) dL_law_921 ?_
                      exact law1 hret dL_law_922 h (by first | exact Nat.le_of_ble_eq_true rfl | omega | (dsimp only; omega)) (by first | exact Nat.le_of_ble_eq_true rfl | omega | (dsimp only; omega))
                · replace h := h.2 c
                  refine V_iconst (v := 0) hG (by decide) dL_law_904 ?_
                  exact law1 hret dL_law_905 h (by first | exact Nat.le_of_ble_eq_true rfl | omega | (dsimp only; omega)) (by first | exact Nat.le_of_ble_eq_true rfl | omega | (dsimp only; omega))
        · replace h := h.2.2.2.2.2.2.2.2.2.1 c
          refine V_top (congrArg Value.int c) ?_
          refine V_swIn (tgt := 926) (off := 886) hG dL_law_40 (by decide) (by decide) (by decide) (by decide) ?_
          refine V_aload_n (v := .ref v1) hG dL_law_926 rfl rfl ?_
          refine V_aload_n (v := .ref 25) hG dL_law_927 rfl rfl ?_
          refine V_iload hG dL_law_928 rfl ?_
          refine V_iconst (v := 1) hG (by decide) dL_law_930 ?_
          refine V_iadd hG dL_law_931 ?_
          obtain ⟨j121, hi, hj, h⟩ := h
          refine V_sld hG hX dL_law_932 hi hj ?_
          refine V_aload_n (v := .ref 25) hG dL_law_933 rfl rfl ?_
          refine V_iload hG dL_law_934 rfl ?_
          refine V_iconst (v := 2) hG (by decide) dL_law_936 ?_
          refine V_iadd hG dL_law_937 ?_
          obtain ⟨j122, hi, hj, h⟩ := h
          refine V_sld hG hX dL_law_938 hi hj ?_
          refine V_aload_n (v := .ref v3) hG dL_law_939 rfl rfl ?_
          refine V_cXI _ _ hG dL_law_940 (ct_L_late hl h) mv_L_late ml_L_163 rfl rfl (by first | exact Nat.le_of_ble_eq_true rfl | (simp only [List.map_cons, List.map_nil, List.sum_cons, List.sum_nil, cat_rf]; exact Nat.le_of_ble_eq_true rfl)) (by first | exact Nat.le_of_ble_eq_true rfl | omega | (dsimp only; omega)) (by first | exact Nat.le_of_ble_eq_true rfl | omega | (dsimp only; omega)) (by first | exact Nat.le_of_ble_eq_true rfl | omega | (dsimp only; omega)) (by first | exact Nat.le_of_ble_eq_true rfl | omega | (dsimp only; omega)) ?_ (fun x124 σ123 h9 => ?_)
          · exact fun _ _ hx => hx.elim
          · replace h := h9
            clear h9
            refine V_istore hG dL_law_943 (Nat.le_of_ble_eq_true rfl) (hpV rfl rfl) ?_
            refine V_aload_n (v := .ref v2) hG dL_law_945 rfl rfl ?_
            refine V_aload_n (v := .ref 25) hG dL_law_946 rfl rfl ?_
            refine V_iload hG dL_law_947 rfl ?_
            refine V_iconst (v := 1) hG (by decide) dL_law_949 ?_
            refine V_iadd hG dL_law_950 ?_
            obtain ⟨j125, hi, hj, h⟩ := h
            refine V_sld hG hX dL_law_951 hi hj ?_
            refine V_aload_n (v := .ref 25) hG dL_law_952 rfl rfl ?_
            refine V_iload hG dL_law_953 rfl ?_
            refine V_iconst (v := 2) hG (by decide) dL_law_955 ?_
            refine V_iadd hG dL_law_956 ?_
            obtain ⟨j126, hi, hj, h⟩ := h
            refine V_sld hG hX dL_law_957 hi hj ?_
            obtain ⟨ht, h⟩ := h
            refine V_cVI _ _ hG dL_law_958 (ct_X10_late hl h) mv_X10_late ml_L_165 ht rfl rfl rfl rfl (by first | exact Nat.le_of_ble_eq_true rfl | (simp only [List.map_cons, List.map_nil, List.sum_cons, List.sum_nil, cat_rf]; exact Nat.le_of_ble_eq_true rfl)) (by first | exact Nat.le_of_ble_eq_true rfl | omega | (dsimp only; omega)) (by first | exact Nat.le_of_ble_eq_true rfl | omega | (dsimp only; omega)) (by first | exact Nat.le_of_ble_eq_true rfl | omega | (dsimp only; omega)) (by first | exact Nat.le_of_ble_eq_true rfl | omega | (dsimp only; omega)) ?_ (fun x128 σ127 h9 => ?_)
            · exact fun _ _ hx => hx.elim
            · replace h := h9
              clear h9
              refine V_istore hG dL_law_961 (Nat.le_of_ble_eq_true rfl) (hpV rfl rfl) ?_
              refine V_aload_n (v := .ref v2) hG dL_law_963 rfl rfl ?_
              obtain ⟨ht, h⟩ := h
              refine V_cVI _ _ hG dL_law_964 (ct_X10_thrown hl h) mv_X10_thrown ml_L_131 ht rfl rfl rfl rfl (by first | exact Nat.le_of_ble_eq_true rfl | (simp only [List.map_cons, List.map_nil, List.sum_cons, List.sum_nil, cat_rf]; exact Nat.le_of_ble_eq_true rfl)) (by first | exact Nat.le_of_ble_eq_true rfl | omega | (dsimp only; omega)) (by first | exact Nat.le_of_ble_eq_true rfl | omega | (dsimp only; omega)) (by first | exact Nat.le_of_ble_eq_true rfl | omega | (dsimp only; omega)) (by first | exact Nat.le_of_ble_eq_true rfl | omega | (dsimp only; omega)) ?_ (fun x130 σ129 h9 => ?_)
              · exact fun _ _ hx => hx.elim
              · replace h := h9
                clear h9
                refine V_iload hG dL_law_967 rfl ?_
                refine V_icmp_eq (tgt := 974) hG dL_law_969 (by decide) (fun c => ?_) (fun c => ?_)
                · replace h := h.1 c
                  refine V_iload hG dL_law_974 rfl ?_
                  refine V_if_ne (tgt := 991) hG dL_law_976 (by decide) (fun c => ?_) (fun c => ?_)
                  · replace h := h.1 c
                    refine V_forget (lo' := [some (.ref 25), some (.ref v1), some (.ref v2), some (.ref v3), some (.int v4), none, none]) ⟨rfl, ⟨rfl, ⟨rfl, ⟨rfl, ⟨rfl, trivial⟩⟩⟩⟩⟩ ?_
                    refine V_widen (k' := k + 3) (n' := n + 18) (by first | exact Nat.le_of_ble_eq_true rfl | omega | (dsimp only; omega)) (by first | exact Nat.le_of_ble_eq_true rfl | omega | (dsimp only; omega)) ?_
                    exact wv_L_law_991 hl hG hX hret k n (by omega) (by omega) (fun z0 z1 z2 z3 ζ hz => ih _ _ (by omega) (by omega) z0 z1 z2 z3 ζ hz) _ _ _ _ _ h
                  · replace h := h.2 c
                    refine V_aload_n (v := .ref v3) hG dL_law_979 rfl rfl ?_
                    refine V_iconst (v := 0) hG (by decide) dL_law_980 ?_
                    obtain ⟨ha, j131, hi, hj, h⟩ := h
                    refine V_lald hG dL_law_981 ha hi hj ?_
                    refine V_iload hG dL_law_982 rfl ?_
                    refine V_i2l hG dL_law_984 ?_
                    refine V_lcmp hG dL_law_985 ?_
                    refine V_if_eq (tgt := 991) hG dL_law_986 (by decide) (fun c => ?_) (fun c => ?_)
                    · replace h := h.1 c
                      refine V_forget (lo' := [some (.ref 25), some (.ref v1), some (.ref v2), some (.ref v3), some (.int v4), none, none]) ⟨rfl, ⟨rfl, ⟨rfl, ⟨rfl, ⟨rfl, trivial⟩⟩⟩⟩⟩ ?_
                      refine V_widen (k' := k + 3) (n' := n + 18) (by first | exact Nat.le_of_ble_eq_true rfl | omega | (dsimp only; omega)) (by first | exact Nat.le_of_ble_eq_true rfl | omega | (dsimp only; omega)) ?_
                      exact wv_L_law_991 hl hG hX hret k n (by omega) (by omega) (fun z0 z1 z2 z3 ζ hz => ih _ _ (by omega) (by omega) z0 z1 z2 z3 ζ hz) _ _ _ _ _ h
                    · replace h := h.2 c
                      refine V_iconst (v := 0) hG (by decide) dL_law_989 ?_
                      exact law1 hret dL_law_990 h (by first | exact Nat.le_of_ble_eq_true rfl | omega | (dsimp only; omega)) (by first | exact Nat.le_of_ble_eq_true rfl | omega | (dsimp only; omega))
                · replace h := h.2 c
                  refine V_iconst (v := 0) hG (by decide) dL_law_972 ?_
                  exact law1 hret dL_law_973 h (by first | exact Nat.le_of_ble_eq_true rfl | omega | (dsimp only; omega)) (by first | exact Nat.le_of_ble_eq_true rfl | omega | (dsimp only; omega))
        · replace h := h.2.2.2.2.2.2.2.2.2.2.1 c
          refine V_top (congrArg Value.int c) ?_
          refine V_swIn (tgt := 994) (off := 954) hG dL_law_40 (by decide) (by decide) (by decide) (by decide) ?_
          refine V_aload_n (v := .ref v1) hG dL_law_994 rfl rfl ?_
          refine V_aload_n (v := .ref 25) hG dL_law_995 rfl rfl ?_
          refine V_iload hG dL_law_996 rfl ?_
          refine V_iconst (v := 1) hG (by decide) dL_law_998 ?_
          refine V_iadd hG dL_law_999 ?_
          obtain ⟨j132, hi, hj, h⟩ := h
          refine V_sld hG hX dL_law_1000 hi hj ?_
          refine V_aload_n (v := .ref 25) hG dL_law_1001 rfl rfl ?_
          refine V_iload hG dL_law_1002 rfl ?_
          refine V_iconst (v := 2) hG (by decide) dL_law_1004 ?_
          refine V_iadd hG dL_law_1005 ?_
          obtain ⟨j133, hi, hj, h⟩ := h
          refine V_sld hG hX dL_law_1006 hi hj ?_
          refine V_aload_n (v := .ref 25) hG dL_law_1007 rfl rfl ?_
          refine V_iload hG dL_law_1008 rfl ?_
          refine V_iconst (v := 3) hG (by decide) dL_law_1010 ?_
          refine V_iadd hG dL_law_1011 ?_
          obtain ⟨j134, hi, hj, h⟩ := h
          refine V_sld hG hX dL_law_1012 hi hj ?_
          refine V_aload_n (v := .ref v3) hG dL_law_1013 rfl rfl ?_
          refine V_cXI _ _ hG dL_law_1014 (ct_L_make hl h) mv_L_make ml_L_166 rfl rfl (by first | exact Nat.le_of_ble_eq_true rfl | (simp only [List.map_cons, List.map_nil, List.sum_cons, List.sum_nil, cat_rf]; exact Nat.le_of_ble_eq_true rfl)) (by first | exact Nat.le_of_ble_eq_true rfl | omega | (dsimp only; omega)) (by first | exact Nat.le_of_ble_eq_true rfl | omega | (dsimp only; omega)) (by first | exact Nat.le_of_ble_eq_true rfl | omega | (dsimp only; omega)) (by first | exact Nat.le_of_ble_eq_true rfl | omega | (dsimp only; omega)) ?_ (fun x136 σ135 h9 => ?_)
          · exact fun _ _ hx => hx.elim
          · replace h := h9
            clear h9
            refine V_istore hG dL_law_1017 (Nat.le_of_ble_eq_true rfl) (hpV rfl rfl) ?_
            refine V_aload_n (v := .ref v2) hG dL_law_1019 rfl rfl ?_
            refine V_aload_n (v := .ref 25) hG dL_law_1020 rfl rfl ?_
            refine V_iload hG dL_law_1021 rfl ?_
            refine V_iconst (v := 1) hG (by decide) dL_law_1023 ?_
            refine V_iadd hG dL_law_1024 ?_
            obtain ⟨j137, hi, hj, h⟩ := h
            refine V_sld hG hX dL_law_1025 hi hj ?_
            refine V_aload_n (v := .ref 25) hG dL_law_1026 rfl rfl ?_
            refine V_iload hG dL_law_1027 rfl ?_
            refine V_iconst (v := 2) hG (by decide) dL_law_1029 ?_
            refine V_iadd hG dL_law_1030 ?_
            obtain ⟨j138, hi, hj, h⟩ := h
            refine V_sld hG hX dL_law_1031 hi hj ?_
            refine V_aload_n (v := .ref 25) hG dL_law_1032 rfl rfl ?_
            refine V_iload hG dL_law_1033 rfl ?_
            refine V_iconst (v := 3) hG (by decide) dL_law_1035 ?_
            refine V_iadd hG dL_law_1036 ?_
            obtain ⟨j139, hi, hj, h⟩ := h
            refine V_sld hG hX dL_law_1037 hi hj ?_
            obtain ⟨ht, h⟩ := h
            refine V_cVI _ _ hG dL_law_1038 (ct_X10_make hl h) mv_X10_make ml_L_168 ht rfl rfl rfl rfl (by first | exact Nat.le_of_ble_eq_true rfl | (simp only [List.map_cons, List.map_nil, List.sum_cons, List.sum_nil, cat_rf]; exact Nat.le_of_ble_eq_true rfl)) (by first | exact Nat.le_of_ble_eq_true rfl | omega | (dsimp only; omega)) (by first | exact Nat.le_of_ble_eq_true rfl | omega | (dsimp only; omega)) (by first | exact Nat.le_of_ble_eq_true rfl | omega | (dsimp only; omega)) (by first | exact Nat.le_of_ble_eq_true rfl | omega | (dsimp only; omega)) ?_ (fun x141 σ140 h9 => ?_)
            · exact fun _ _ hx => hx.elim
            · replace h := h9
              clear h9
              refine V_istore hG dL_law_1041 (Nat.le_of_ble_eq_true rfl) (hpV rfl rfl) ?_
              refine V_aload_n (v := .ref v2) hG dL_law_1043 rfl rfl ?_
              obtain ⟨ht, h⟩ := h
              refine V_cVI _ _ hG dL_law_1044 (ct_X10_thrown hl h) mv_X10_thrown ml_L_131 ht rfl rfl rfl rfl (by first | exact Nat.le_of_ble_eq_true rfl | (simp only [List.map_cons, List.map_nil, List.sum_cons, List.sum_nil, cat_rf]; exact Nat.le_of_ble_eq_true rfl)) (by first | exact Nat.le_of_ble_eq_true rfl | omega | (dsimp only; omega)) (by first | exact Nat.le_of_ble_eq_true rfl | omega | (dsimp only; omega)) (by first | exact Nat.le_of_ble_eq_true rfl | omega | (dsimp only; omega)) (by first | exact Nat.le_of_ble_eq_true rfl | omega | (dsimp only; omega)) ?_ (fun x143 σ142 h9 => ?_)
              · exact fun _ _ hx => hx.elim
              · replace h := h9
                clear h9
                refine V_iload hG dL_law_1047 rfl ?_
                refine V_icmp_eq (tgt := 1054) hG dL_law_1049 (by decide) (fun c => ?_) (fun c => ?_)
                · replace h := h.1 c
                  refine V_iload hG dL_law_1054 rfl ?_
                  refine V_if_ne (tgt := 1071) hG dL_law_1056 (by decide) (fun c => ?_) (fun c => ?_)
                  · replace h := h.1 c
                    refine V_forget (lo' := [some (.ref 25), some (.ref v1), some (.ref v2), some (.ref v3), some (.int v4), none, none]) ⟨rfl, ⟨rfl, ⟨rfl, ⟨rfl, ⟨rfl, trivial⟩⟩⟩⟩⟩ ?_
                    refine V_widen (k' := k + 6) (n' := n + 42) (by first | exact Nat.le_of_ble_eq_true rfl | omega | (dsimp only; omega)) (by first | exact Nat.le_of_ble_eq_true rfl | omega | (dsimp only; omega)) ?_
                    exact wv_L_law_1071 hl hG hX hret k n (by omega) (by omega) (fun z0 z1 z2 z3 ζ hz => ih _ _ (by omega) (by omega) z0 z1 z2 z3 ζ hz) _ _ _ _ _ h
                  · replace h := h.2 c
                    refine V_aload_n (v := .ref v3) hG dL_law_1059 rfl rfl ?_
                    refine V_iconst (v := 0) hG (by decide) dL_law_1060 ?_
                    obtain ⟨ha, j144, hi, hj, h⟩ := h
                    refine V_lald hG dL_law_1061 ha hi hj ?_
                    refine V_iload hG dL_law_1062 rfl ?_
                    refine V_i2l hG dL_law_1064 ?_
                    refine V_lcmp hG dL_law_1065 ?_
                    refine V_if_eq (tgt := 1071) hG dL_law_1066 (by decide) (fun c => ?_) (fun c => ?_)
                    · replace h := h.1 c
                      refine V_forget (lo' := [some (.ref 25), some (.ref v1), some (.ref v2), some (.ref v3), some (.int v4), none, none]) ⟨rfl, ⟨rfl, ⟨rfl, ⟨rfl, ⟨rfl, trivial⟩⟩⟩⟩⟩ ?_
                      refine V_widen (k' := k + 6) (n' := n + 42) (by first | exact Nat.le_of_ble_eq_true rfl | omega | (dsimp only; omega)) (by first | exact Nat.le_of_ble_eq_true rfl | omega | (dsimp only; omega)) ?_
                      exact wv_L_law_1071 hl hG hX hret k n (by omega) (by omega) (fun z0 z1 z2 z3 ζ hz => ih _ _ (by omega) (by omega) z0 z1 z2 z3 ζ hz) _ _ _ _ _ h
                    · replace h := h.2 c
                      refine V_iconst (v := 0) hG (by decide) dL_law_1069 ?_
                      exact law1 hret dL_law_1070 h (by first | exact Nat.le_of_ble_eq_true rfl | omega | (dsimp only; omega)) (by first | exact Nat.le_of_ble_eq_true rfl | omega | (dsimp only; omega))
                · replace h := h.2 c
                  refine V_iconst (v := 0) hG (by decide) dL_law_1052 ?_
                  exact law1 hret dL_law_1053 h (by first | exact Nat.le_of_ble_eq_true rfl | omega | (dsimp only; omega)) (by first | exact Nat.le_of_ble_eq_true rfl | omega | (dsimp only; omega))
        · replace h := h.2.2.2.2.2.2.2.2.2.2.2.1 c
          refine V_top (congrArg Value.int c) ?_
          refine V_swIn (tgt := 1074) (off := 1034) hG dL_law_40 (by decide) (by decide) (by decide) (by decide) ?_
          refine V_aload_n (v := .ref v1) hG dL_law_1074 rfl rfl ?_
          refine V_aload_n (v := .ref 25) hG dL_law_1075 rfl rfl ?_
          refine V_iload hG dL_law_1076 rfl ?_
          refine V_iconst (v := 1) hG (by decide) dL_law_1078 ?_
          refine V_iadd hG dL_law_1079 ?_
          obtain ⟨j145, hi, hj, h⟩ := h
          refine V_sld hG hX dL_law_1080 hi hj ?_
          refine V_aload_n (v := .ref 25) hG dL_law_1081 rfl rfl ?_
          refine V_iload hG dL_law_1082 rfl ?_
          refine V_iconst (v := 2) hG (by decide) dL_law_1084 ?_
          refine V_iadd hG dL_law_1085 ?_
          obtain ⟨j146, hi, hj, h⟩ := h
          refine V_sld hG hX dL_law_1086 hi hj ?_
          refine V_aload_n (v := .ref 25) hG dL_law_1087 rfl rfl ?_
          refine V_iload hG dL_law_1088 rfl ?_
          refine V_iconst (v := 3) hG (by decide) dL_law_1090 ?_
          refine V_iadd hG dL_law_1091 ?_
          obtain ⟨j147, hi, hj, h⟩ := h
          refine V_sld hG hX dL_law_1092 hi hj ?_
          refine V_if_eq (tgt := 1100) hG dL_law_1093 (by decide) (fun c => ?_) (fun c => ?_)
          · replace h := h.1 c
            refine V_iconst (v := 0) hG (by decide) dL_law_1100 ?_
            refine V_forget (lo' := [some (.ref 25), some (.ref v1), some (.ref v2), some (.ref v3), some (.int v4), none, none]) ⟨rfl, ⟨rfl, ⟨rfl, ⟨rfl, ⟨rfl, trivial⟩⟩⟩⟩⟩ ?_
            refine V_widen (k' := k + 0) (n' := n + 0) (by first | exact Nat.le_of_ble_eq_true rfl | omega | (dsimp only; omega)) (by first | exact Nat.le_of_ble_eq_true rfl | omega | (dsimp only; omega)) ?_
            exact wv_L_law_1101 hl hG hX hret k n (by omega) (by omega) (fun z0 z1 z2 z3 ζ hz => ih _ _ (by omega) (by omega) z0 z1 z2 z3 ζ hz) _ _ _ _ _ _ _ _ _ h
          · replace h := h.2 c
            refine V_iconst (v := 1) hG (by decide) dL_law_1096 ?_
            refine V_goto (tgt := 1101) hG dL_law_1097 (by decide) ?_
            refine V_forget (lo' := [some (.ref 25), some (.ref v1), some (.ref v2), some (.ref v3), some (.int v4), none, none]) ⟨rfl, ⟨rfl, ⟨rfl, ⟨rfl, ⟨rfl, trivial⟩⟩⟩⟩⟩ ?_
            refine V_widen (k' := k + 0) (n' := n + 0) (by first | exact Nat.le_of_ble_eq_true rfl | omega | (dsimp only; omega)) (by first | exact Nat.le_of_ble_eq_true rfl | omega | (dsimp only; omega)) ?_
            exact wv_L_law_1101 hl hG hX hret k n (by omega) (by omega) (fun z0 z1 z2 z3 ζ hz => ih _ _ (by omega) (by omega) z0 z1 z2 z3 ζ hz) _ _ _ _ _ _ _ _ _ h
        · replace h := h.2.2.2.2.2.2.2.2.2.2.2.2.1 c
          refine V_top (congrArg Value.int c) ?_
          refine V_swIn (tgt := 1177) (off := 1137) hG dL_law_40 (by decide) (by decide) (by decide) (by decide) ?_
          refine V_aload_n (v := .ref v1) hG dL_law_1177 rfl rfl ?_
          refine V_aload_n (v := .ref 25) hG dL_law_1178 rfl rfl ?_
          refine V_iload hG dL_law_1179 rfl ?_
          refine V_iconst (v := 1) hG (by decide) dL_law_1181 ?_
          refine V_iadd hG dL_law_1182 ?_
          obtain ⟨j148, hi, hj, h⟩ := h
          refine V_sld hG hX dL_law_1183 hi hj ?_
          refine V_aload_n (v := .ref 25) hG dL_law_1184 rfl rfl ?_
          refine V_iload hG dL_law_1185 rfl ?_
          refine V_iconst (v := 2) hG (by decide) dL_law_1187 ?_
          refine V_iadd hG dL_law_1188 ?_
          obtain ⟨j149, hi, hj, h⟩ := h
          refine V_sld hG hX dL_law_1189 hi hj ?_
          refine V_aload_n (v := .ref v3) hG dL_law_1190 rfl rfl ?_
          refine V_cXI _ _ hG dL_law_1191 (ct_L_split hl h) mv_L_split ml_L_173 rfl rfl (by first | exact Nat.le_of_ble_eq_true rfl | (simp only [List.map_cons, List.map_nil, List.sum_cons, List.sum_nil, cat_rf]; exact Nat.le_of_ble_eq_true rfl)) (by first | exact Nat.le_of_ble_eq_true rfl | omega | (dsimp only; omega)) (by first | exact Nat.le_of_ble_eq_true rfl | omega | (dsimp only; omega)) (by first | exact Nat.le_of_ble_eq_true rfl | omega | (dsimp only; omega)) (by first | exact Nat.le_of_ble_eq_true rfl | omega | (dsimp only; omega)) ?_ (fun x151 σ150 h9 => ?_)
          · exact fun _ _ hx => hx.elim
          · replace h := h9
            clear h9
            refine V_istore hG dL_law_1194 (Nat.le_of_ble_eq_true rfl) (hpV rfl rfl) ?_
            refine V_aload_n (v := .ref v2) hG dL_law_1196 rfl rfl ?_
            refine V_aload_n (v := .ref 25) hG dL_law_1197 rfl rfl ?_
            refine V_iload hG dL_law_1198 rfl ?_
            refine V_iconst (v := 1) hG (by decide) dL_law_1200 ?_
            refine V_iadd hG dL_law_1201 ?_
            obtain ⟨j152, hi, hj, h⟩ := h
            refine V_sld hG hX dL_law_1202 hi hj ?_
            refine V_aload_n (v := .ref 25) hG dL_law_1203 rfl rfl ?_
            refine V_iload hG dL_law_1204 rfl ?_
            refine V_iconst (v := 2) hG (by decide) dL_law_1206 ?_
            refine V_iadd hG dL_law_1207 ?_
            obtain ⟨j153, hi, hj, h⟩ := h
            refine V_sld hG hX dL_law_1208 hi hj ?_
            obtain ⟨ht, h⟩ := h
            refine V_cVI _ _ hG dL_law_1209 (ct_X10_split hl h) mv_X10_split ml_L_175 ht rfl rfl rfl rfl (by first | exact Nat.le_of_ble_eq_true rfl | (simp only [List.map_cons, List.map_nil, List.sum_cons, List.sum_nil, cat_rf]; exact Nat.le_of_ble_eq_true rfl)) (by first | exact Nat.le_of_ble_eq_true rfl | omega | (dsimp only; omega)) (by first | exact Nat.le_of_ble_eq_true rfl | omega | (dsimp only; omega)) (by first | exact Nat.le_of_ble_eq_true rfl | omega | (dsimp only; omega)) (by first | exact Nat.le_of_ble_eq_true rfl | omega | (dsimp only; omega)) ?_ (fun x155 σ154 h9 => ?_)
            · exact fun _ _ hx => hx.elim
            · replace h := h9
              clear h9
              refine V_istore hG dL_law_1212 (Nat.le_of_ble_eq_true rfl) (hpV rfl rfl) ?_
              refine V_aload_n (v := .ref v2) hG dL_law_1214 rfl rfl ?_
              obtain ⟨ht, h⟩ := h
              refine V_cVI _ _ hG dL_law_1215 (ct_X10_thrown hl h) mv_X10_thrown ml_L_131 ht rfl rfl rfl rfl (by first | exact Nat.le_of_ble_eq_true rfl | (simp only [List.map_cons, List.map_nil, List.sum_cons, List.sum_nil, cat_rf]; exact Nat.le_of_ble_eq_true rfl)) (by first | exact Nat.le_of_ble_eq_true rfl | omega | (dsimp only; omega)) (by first | exact Nat.le_of_ble_eq_true rfl | omega | (dsimp only; omega)) (by first | exact Nat.le_of_ble_eq_true rfl | omega | (dsimp only; omega)) (by first | exact Nat.le_of_ble_eq_true rfl | omega | (dsimp only; omega)) ?_ (fun x157 σ156 h9 => ?_)
              · exact fun _ _ hx => hx.elim
              · replace h := h9
                clear h9
                refine V_iload hG dL_law_1218 rfl ?_
                refine V_icmp_eq (tgt := 1225) hG dL_law_1220 (by decide) (fun c => ?_) (fun c => ?_)
                · replace h := h.1 c
                  refine V_iload hG dL_law_1225 rfl ?_
                  refine V_if_ne (tgt := 1242) hG dL_law_1227 (by decide) (fun c => ?_) (fun c => ?_)
                  · replace h := h.1 c
                    refine V_forget (lo' := [some (.ref 25), some (.ref v1), some (.ref v2), some (.ref v3), some (.int v4), none, none]) ⟨rfl, ⟨rfl, ⟨rfl, ⟨rfl, ⟨rfl, trivial⟩⟩⟩⟩⟩ ?_
                    refine V_widen (k' := k + 5) (n' := n + 36) (by first | exact Nat.le_of_ble_eq_true rfl | omega | (dsimp only; omega)) (by first | exact Nat.le_of_ble_eq_true rfl | omega | (dsimp only; omega)) ?_
                    exact wv_L_law_1242 hl hG hX hret k n (by omega) (by omega) (fun z0 z1 z2 z3 ζ hz => ih _ _ (by omega) (by omega) z0 z1 z2 z3 ζ hz) _ _ _ _ _ h
                  · replace h := h.2 c
                    refine V_aload_n (v := .ref v3) hG dL_law_1230 rfl rfl ?_
                    refine V_iconst (v := 0) hG (by decide) dL_law_1231 ?_
                    obtain ⟨ha, j158, hi, hj, h⟩ := h
                    refine V_lald hG dL_law_1232 ha hi hj ?_
                    refine V_iload hG dL_law_1233 rfl ?_
                    refine V_i2l hG dL_law_1235 ?_
                    refine V_lcmp hG dL_law_1236 ?_
                    refine V_if_eq (tgt := 1242) hG dL_law_1237 (by decide) (fun c => ?_) (fun c => ?_)
                    · replace h := h.1 c
                      refine V_forget (lo' := [some (.ref 25), some (.ref v1), some (.ref v2), some (.ref v3), some (.int v4), none, none]) ⟨rfl, ⟨rfl, ⟨rfl, ⟨rfl, ⟨rfl, trivial⟩⟩⟩⟩⟩ ?_
                      refine V_widen (k' := k + 5) (n' := n + 36) (by first | exact Nat.le_of_ble_eq_true rfl | omega | (dsimp only; omega)) (by first | exact Nat.le_of_ble_eq_true rfl | omega | (dsimp only; omega)) ?_
                      exact wv_L_law_1242 hl hG hX hret k n (by omega) (by omega) (fun z0 z1 z2 z3 ζ hz => ih _ _ (by omega) (by omega) z0 z1 z2 z3 ζ hz) _ _ _ _ _ h
                    · replace h := h.2 c
                      refine V_iconst (v := 0) hG (by decide) dL_law_1240 ?_
                      exact law1 hret dL_law_1241 h (by first | exact Nat.le_of_ble_eq_true rfl | omega | (dsimp only; omega)) (by first | exact Nat.le_of_ble_eq_true rfl | omega | (dsimp only; omega))
                · replace h := h.2 c
                  refine V_iconst (v := 0) hG (by decide) dL_law_1223 ?_
                  exact law1 hret dL_law_1224 h (by first | exact Nat.le_of_ble_eq_true rfl | omega | (dsimp only; omega)) (by first | exact Nat.le_of_ble_eq_true rfl | omega | (dsimp only; omega))
        · replace h := h.2.2.2.2.2.2.2.2.2.2.2.2.2.1 c
          refine V_top (congrArg Value.int c) ?_
          refine V_swIn (tgt := 1245) (off := 1205) hG dL_law_40 (by decide) (by decide) (by decide) (by decide) ?_
          refine V_aload_n (v := .ref v1) hG dL_law_1245 rfl rfl ?_
          refine V_aload_n (v := .ref 25) hG dL_law_1246 rfl rfl ?_
          refine V_iload hG dL_law_1247 rfl ?_
          refine V_iconst (v := 1) hG (by decide) dL_law_1249 ?_
          refine V_iadd hG dL_law_1250 ?_
          obtain ⟨j159, hi, hj, h⟩ := h
          refine V_sld hG hX dL_law_1251 hi hj ?_
          refine V_aload_n (v := .ref 25) hG dL_law_1252 rfl rfl ?_
          refine V_iload hG dL_law_1253 rfl ?_
          refine V_iconst (v := 2) hG (by decide) dL_law_1255 ?_
          refine V_iadd hG dL_law_1256 ?_
          obtain ⟨j160, hi, hj, h⟩ := h
          refine V_sld hG hX dL_law_1257 hi hj ?_
          refine V_aload_n (v := .ref v3) hG dL_law_1258 rfl rfl ?_
          refine V_cXI _ _ hG dL_law_1259 (ct_L_join hl h) mv_L_join ml_L_176 rfl rfl (by first | exact Nat.le_of_ble_eq_true rfl | (simp only [List.map_cons, List.map_nil, List.sum_cons, List.sum_nil, cat_rf]; exact Nat.le_of_ble_eq_true rfl)) (by first | exact Nat.le_of_ble_eq_true rfl | omega | (dsimp only; omega)) (by first | exact Nat.le_of_ble_eq_true rfl | omega | (dsimp only; omega)) (by first | exact Nat.le_of_ble_eq_true rfl | omega | (dsimp only; omega)) (by first | exact Nat.le_of_ble_eq_true rfl | omega | (dsimp only; omega)) ?_ (fun x162 σ161 h9 => ?_)
          · exact fun _ _ hx => hx.elim
          · replace h := h9
            clear h9
            refine V_istore hG dL_law_1262 (Nat.le_of_ble_eq_true rfl) (hpV rfl rfl) ?_
            refine V_aload_n (v := .ref v2) hG dL_law_1264 rfl rfl ?_
            refine V_aload_n (v := .ref 25) hG dL_law_1265 rfl rfl ?_
            refine V_iload hG dL_law_1266 rfl ?_
            refine V_iconst (v := 1) hG (by decide) dL_law_1268 ?_
            refine V_iadd hG dL_law_1269 ?_
            obtain ⟨j163, hi, hj, h⟩ := h
            refine V_sld hG hX dL_law_1270 hi hj ?_
            refine V_aload_n (v := .ref 25) hG dL_law_1271 rfl rfl ?_
            refine V_iload hG dL_law_1272 rfl ?_
            refine V_iconst (v := 2) hG (by decide) dL_law_1274 ?_
            refine V_iadd hG dL_law_1275 ?_
            obtain ⟨j164, hi, hj, h⟩ := h
            refine V_sld hG hX dL_law_1276 hi hj ?_
            obtain ⟨ht, h⟩ := h
            refine V_cVI _ _ hG dL_law_1277 (ct_X10_join hl h) mv_X10_join ml_L_178 ht rfl rfl rfl rfl (by first | exact Nat.le_of_ble_eq_true rfl | (simp only [List.map_cons, List.map_nil, List.sum_cons, List.sum_nil, cat_rf]; exact Nat.le_of_ble_eq_true rfl)) (by first | exact Nat.le_of_ble_eq_true rfl | omega | (dsimp only; omega)) (by first | exact Nat.le_of_ble_eq_true rfl | omega | (dsimp only; omega)) (by first | exact Nat.le_of_ble_eq_true rfl | omega | (dsimp only; omega)) (by first | exact Nat.le_of_ble_eq_true rfl | omega | (dsimp only; omega)) ?_ (fun x166 σ165 h9 => ?_)
            · exact fun _ _ hx => hx.elim
            · replace h := h9
              clear h9
              refine V_istore hG dL_law_1280 (Nat.le_of_ble_eq_true rfl) (hpV rfl rfl) ?_
              refine V_aload_n (v := .ref v2) hG dL_law_1282 rfl rfl ?_
              obtain ⟨ht, h⟩ := h
              refine V_cVI _ _ hG dL_law_1283 (ct_X10_thrown hl h) mv_X10_thrown ml_L_131 ht rfl rfl rfl rfl (by first | exact Nat.le_of_ble_eq_true rfl | (simp only [List.map_cons, List.map_nil, List.sum_cons, List.sum_nil, cat_rf]; exact Nat.le_of_ble_eq_true rfl)) (by first | exact Nat.le_of_ble_eq_true rfl | omega | (dsimp only; omega)) (by first | exact Nat.le_of_ble_eq_true rfl | omega | (dsimp only; omega)) (by first | exact Nat.le_of_ble_eq_true rfl | omega | (dsimp only; omega)) (by first | exact Nat.le_of_ble_eq_true rfl | omega | (dsimp only; omega)) ?_ (fun x168 σ167 h9 => ?_)
              · exact fun _ _ hx => hx.elim
              · replace h := h9
                clear h9
                refine V_iload hG dL_law_1286 rfl ?_
                refine V_icmp_eq (tgt := 1293) hG dL_law_1288 (by decide) (fun c => ?_) (fun c => ?_)
                · replace h := h.1 c
                  refine V_iload hG dL_law_1293 rfl ?_
                  refine V_if_ne (tgt := 1310) hG dL_law_1295 (by decide) (fun c => ?_) (fun c => ?_)
                  · replace h := h.1 c
                    refine V_forget (lo' := [some (.ref 25), some (.ref v1), some (.ref v2), some (.ref v3), some (.int v4), none, none]) ⟨rfl, ⟨rfl, ⟨rfl, ⟨rfl, ⟨rfl, trivial⟩⟩⟩⟩⟩ ?_
                    refine V_widen (k' := k + 5) (n' := n + 36) (by first | exact Nat.le_of_ble_eq_true rfl | omega | (dsimp only; omega)) (by first | exact Nat.le_of_ble_eq_true rfl | omega | (dsimp only; omega)) ?_
                    exact wv_L_law_1310 hl hG hX hret k n (by omega) (by omega) (fun z0 z1 z2 z3 ζ hz => ih _ _ (by omega) (by omega) z0 z1 z2 z3 ζ hz) _ _ _ _ _ h
                  · replace h := h.2 c
                    refine V_aload_n (v := .ref v3) hG dL_law_1298 rfl rfl ?_
                    refine V_iconst (v := 0) hG (by decide) dL_law_1299 ?_
                    obtain ⟨ha, j169, hi, hj, h⟩ := h
                    refine V_lald hG dL_law_1300 ha hi hj ?_
                    refine V_iload hG dL_law_1301 rfl ?_
                    refine V_i2l hG dL_law_1303 ?_
                    refine V_lcmp hG dL_law_1304 ?_
                    refine V_if_eq (tgt := 1310) hG dL_law_1305 (by decide) (fun c => ?_) (fun c => ?_)
                    · replace h := h.1 c
                      refine V_forget (lo' := [some (.ref 25), some (.ref v1), some (.ref v2), some (.ref v3), some (.int v4), none, none]) ⟨rfl, ⟨rfl, ⟨rfl, ⟨rfl, ⟨rfl, trivial⟩⟩⟩⟩⟩ ?_
                      refine V_widen (k' := k + 5) (n' := n + 36) (by first | exact Nat.le_of_ble_eq_true rfl | omega | (dsimp only; omega)) (by first | exact Nat.le_of_ble_eq_true rfl | omega | (dsimp only; omega)) ?_
                      exact wv_L_law_1310 hl hG hX hret k n (by omega) (by omega) (fun z0 z1 z2 z3 ζ hz => ih _ _ (by omega) (by omega) z0 z1 z2 z3 ζ hz) _ _ _ _ _ h
                    · replace h := h.2 c
                      refine V_iconst (v := 0) hG (by decide) dL_law_1308 ?_
                      exact law1 hret dL_law_1309 h (by first | exact Nat.le_of_ble_eq_true rfl | omega | (dsimp only; omega)) (by first | exact Nat.le_of_ble_eq_true rfl | omega | (dsimp only; omega))
                · replace h := h.2 c
                  refine V_iconst (v := 0) hG (by decide) dL_law_1291 ?_
                  exact law1 hret dL_law_1292 h (by first | exact Nat.le_of_ble_eq_true rfl | omega | (dsimp only; omega)) (by first | exact Nat.le_of_ble_eq_true rfl | omega | (dsimp only; omega))
        · replace h := h.2.2.2.2.2.2.2.2.2.2.2.2.2.2.1 c
          refine V_top (congrArg Value.int c) ?_
          refine V_swIn (tgt := 1313) (off := 1273) hG dL_law_40 (by decide) (by decide) (by decide) (by decide) ?_
          refine V_aload_n (v := .ref v1) hG dL_law_1313 rfl rfl ?_
          refine V_aload_n (v := .ref 25) hG dL_law_1314 rfl rfl ?_
          refine V_iload hG dL_law_1315 rfl ?_
          refine V_iconst (v := 1) hG (by decide) dL_law_1317 ?_
          refine V_iadd hG dL_law_1318 ?_
          obtain ⟨j170, hi, hj, h⟩ := h
          refine V_sld hG hX dL_law_1319 hi hj ?_
          refine V_aload_n (v := .ref v3) hG dL_law_1320 rfl rfl ?_
          refine V_cXI _ _ hG dL_law_1321 (ct_L_recall hl h) mv_L_recall ml_L_179 rfl rfl (by first | exact Nat.le_of_ble_eq_true rfl | (simp only [List.map_cons, List.map_nil, List.sum_cons, List.sum_nil, cat_rf]; exact Nat.le_of_ble_eq_true rfl)) (by first | exact Nat.le_of_ble_eq_true rfl | omega | (dsimp only; omega)) (by first | exact Nat.le_of_ble_eq_true rfl | omega | (dsimp only; omega)) (by first | exact Nat.le_of_ble_eq_true rfl | omega | (dsimp only; omega)) (by first | exact Nat.le_of_ble_eq_true rfl | omega | (dsimp only; omega)) ?_ (fun x172 σ171 h9 => ?_)
          · exact fun _ _ hx => hx.elim
          · replace h := h9
            clear h9
            refine V_istore hG dL_law_1324 (Nat.le_of_ble_eq_true rfl) (hpV rfl rfl) ?_
            refine V_aload_n (v := .ref v2) hG dL_law_1326 rfl rfl ?_
            refine V_aload_n (v := .ref 25) hG dL_law_1327 rfl rfl ?_
            refine V_iload hG dL_law_1328 rfl ?_
            refine V_iconst (v := 1) hG (by decide) dL_law_1330 ?_
            refine V_iadd hG dL_law_1331 ?_
            obtain ⟨j173, hi, hj, h⟩ := h
            refine V_sld hG hX dL_law_1332 hi hj ?_
            obtain ⟨ht, h⟩ := h
            refine V_cVI _ _ hG dL_law_1333 (ct_X10_recall hl h) mv_X10_recall ml_L_182 ht rfl rfl rfl rfl (by first | exact Nat.le_of_ble_eq_true rfl | (simp only [List.map_cons, List.map_nil, List.sum_cons, List.sum_nil, cat_rf]; exact Nat.le_of_ble_eq_true rfl)) (by first | exact Nat.le_of_ble_eq_true rfl | omega | (dsimp only; omega)) (by first | exact Nat.le_of_ble_eq_true rfl | omega | (dsimp only; omega)) (by first | exact Nat.le_of_ble_eq_true rfl | omega | (dsimp only; omega)) (by first | exact Nat.le_of_ble_eq_true rfl | omega | (dsimp only; omega)) ?_ (fun x175 σ174 h9 => ?_)
            · exact fun _ _ hx => hx.elim
            · replace h := h9
              clear h9
              refine V_istore hG dL_law_1336 (Nat.le_of_ble_eq_true rfl) (hpV rfl rfl) ?_
              refine V_aload_n (v := .ref v2) hG dL_law_1338 rfl rfl ?_
              obtain ⟨ht, h⟩ := h
              refine V_cVI _ _ hG dL_law_1339 (ct_X10_thrown hl h) mv_X10_thrown ml_L_131 ht rfl rfl rfl rfl (by first | exact Nat.le_of_ble_eq_true rfl | (simp only [List.map_cons, List.map_nil, List.sum_cons, List.sum_nil, cat_rf]; exact Nat.le_of_ble_eq_true rfl)) (by first | exact Nat.le_of_ble_eq_true rfl | omega | (dsimp only; omega)) (by first | exact Nat.le_of_ble_eq_true rfl | omega | (dsimp only; omega)) (by first | exact Nat.le_of_ble_eq_true rfl | omega | (dsimp only; omega)) (by first | exact Nat.le_of_ble_eq_true rfl | omega | (dsimp only; omega)) ?_ (fun x177 σ176 h9 => ?_)
              · exact fun _ _ hx => hx.elim
              · replace h := h9
                clear h9
                refine V_iload hG dL_law_1342 rfl ?_
                refine V_icmp_eq (tgt := 1349) hG dL_law_1344 (by decide) (fun c => ?_) (fun c => ?_)
                · replace h := h.1 c
                  refine V_iload hG dL_law_1349 rfl ?_
                  refine V_if_ne (tgt := 1366) hG dL_law_1351 (by decide) (fun c => ?_) (fun c => ?_)
                  · replace h := h.1 c
                    refine V_forget (lo' := [some (.ref 25), some (.ref v1), some (.ref v2), some (.ref v3), some (.int v4), none, none]) ⟨rfl, ⟨rfl, ⟨rfl, ⟨rfl, ⟨rfl, trivial⟩⟩⟩⟩⟩ ?_
                    refine V_widen (k' := k + 1) (n' := n + 6) (by first | exact Nat.le_of_ble_eq_true rfl | omega | (dsimp only; omega)) (by first | exact Nat.le_of_ble_eq_true rfl | omega | (dsimp only; omega)) ?_
                    exact wv_L_law_1366 hl hG hX hret k n (by omega) (by omega) (fun z0 z1 z2 z3 ζ hz => ih _ _ (by omega) (by omega) z0 z1 z2 z3 ζ hz) _ _ _ _ _ h
                  · replace h := h.2 c
                    refine V_aload_n (v := .ref v3) hG dL_law_1354 rfl rfl ?_
                    refine V_iconst (v := 0) hG (by decide) dL_law_1355 ?_
                    obtain ⟨ha, j178, hi, hj, h⟩ := h
                    refine V_lald hG dL_law_1356 ha hi hj ?_
                    refine V_iload hG dL_law_1357 rfl ?_
                    refine V_i2l hG dL_law_1359 ?_
                    refine V_lcmp hG dL_law_1360 ?_
                    refine V_if_eq (tgt := 1366) hG dL_law_1361 (by decide) (fun c => ?_) (fun c => ?_)
                    · replace h := h.1 c
                      refine V_forget (lo' := [some (.ref 25), some (.ref v1), some (.ref v2), some (.ref v3), some (.int v4), none, none]) ⟨rfl, ⟨rfl, ⟨rfl, ⟨rfl, ⟨rfl, trivial⟩⟩⟩⟩⟩ ?_
                      refine V_widen (k' := k + 1) (n' := n + 6) (by first | exact Nat.le_of_ble_eq_true rfl | omega | (dsimp only; omega)) (by first | exact Nat.le_of_ble_eq_true rfl | omega | (dsimp only; omega)) ?_
                      exact wv_L_law_1366 hl hG hX hret k n (by omega) (by omega) (fun z0 z1 z2 z3 ζ hz => ih _ _ (by omega) (by omega) z0 z1 z2 z3 ζ hz) _ _ _ _ _ h
                    · replace h := h.2 c
                      refine V_iconst (v := 0) hG (by decide) dL_law_1364 ?_
                      exact law1 hret dL_law_1365 h (by first | exact Nat.le_of_ble_eq_true rfl | omega | (dsimp only; omega)) (by first | exact Nat.le_of_ble_eq_true rfl | omega | (dsimp only; omega))
                · replace h := h.2 c
                  refine V_iconst (v := 0) hG (by decide) dL_law_1347 ?_
                  exact law1 hret dL_law_1348 h (by first | exact Nat.le_of_ble_eq_true rfl | omega | (dsimp only; omega)) (by first | exact Nat.le_of_ble_eq_true rfl | omega | (dsimp only; omega))
        · replace h := h.2.2.2.2.2.2.2.2.2.2.2.2.2.2.2.1 c
          refine V_top (congrArg Value.int c) ?_
          refine V_swIn (tgt := 1369) (off := 1329) hG dL_law_40 (by decide) (by decide) (by decide) (by decide) ?_
          refine V_aload_n (v := .ref v1) hG dL_law_1369 rfl rfl ?_
          refine V_aload_n (v := .ref 25) hG dL_law_1370 rfl rfl ?_
          refine V_iload hG dL_law_1371 rfl ?_
          refine V_iconst (v := 1) hG (by decide) dL_law_1373 ?_
          refine V_iadd hG dL_law_1374 ?_
          obtain ⟨j179, hi, hj, h⟩ := h
          refine V_sld hG hX dL_law_1375 hi hj ?_
          refine V_aload_n (v := .ref 25) hG dL_law_1376 rfl rfl ?_
          refine V_iload hG dL_law_1377 rfl ?_
          refine V_iconst (v := 2) hG (by decide) dL_law_1379 ?_
          refine V_iadd hG dL_law_1380 ?_
          obtain ⟨j180, hi, hj, h⟩ := h
          refine V_sld hG hX dL_law_1381 hi hj ?_
          refine V_aload_n (v := .ref 25) hG dL_law_1382 rfl rfl ?_
          refine V_iload hG dL_law_1383 rfl ?_
          refine V_iconst (v := 3) hG (by decide) dL_law_1385 ?_
          refine V_iadd hG dL_law_1386 ?_
          obtain ⟨j181, hi, hj, h⟩ := h
          refine V_sld hG hX dL_law_1387 hi hj ?_
          refine V_aload_n (v := .ref v3) hG dL_law_1388 rfl rfl ?_
          refine V_cXI _ _ hG dL_law_1389 (ct_L_order hl h) mv_L_order ml_L_183 rfl rfl (by first | exact Nat.le_of_ble_eq_true rfl | (simp only [List.map_cons, List.map_nil, List.sum_cons, List.sum_nil, cat_rf]; exact Nat.le_of_ble_eq_true rfl)) (by first | exact Nat.le_of_ble_eq_true rfl | omega | (dsimp only; omega)) (by first | exact Nat.le_of_ble_eq_true rfl | omega | (dsimp only; omega)) (by first | exact Nat.le_of_ble_eq_true rfl | omega | (dsimp only; omega)) (by first | exact Nat.le_of_ble_eq_true rfl | omega | (dsimp only; omega)) ?_ (fun x183 σ182 h9 => ?_)
          · exact fun _ _ hx => hx.elim
          · replace h := h9
            clear h9
            refine V_istore hG dL_law_1392 (Nat.le_of_ble_eq_true rfl) (hpV rfl rfl) ?_
            refine V_aload_n (v := .ref v2) hG dL_law_1394 rfl rfl ?_
            refine V_aload_n (v := .ref 25) hG dL_law_1395 rfl rfl ?_
            refine V_iload hG dL_law_1396 rfl ?_
            refine V_iconst (v := 1) hG (by decide) dL_law_1398 ?_
            refine V_iadd hG dL_law_1399 ?_
            obtain ⟨j184, hi, hj, h⟩ := h
            refine V_sld hG hX dL_law_1400 hi hj ?_
            refine V_aload_n (v := .ref 25) hG dL_law_1401 rfl rfl ?_
            refine V_iload hG dL_law_1402 rfl ?_
            refine V_iconst (v := 2) hG (by decide) dL_law_1404 ?_
            refine V_iadd hG dL_law_1405 ?_
            obtain ⟨j185, hi, hj, h⟩ := h
            refine V_sld hG hX dL_law_1406 hi hj ?_
            refine V_aload_n (v := .ref 25) hG dL_law_1407 rfl rfl ?_
            refine V_iload hG dL_law_1408 rfl ?_
            refine V_iconst (v := 3) hG (by decide) dL_law_1410 ?_
            refine V_iadd hG dL_law_1411 ?_
            obtain ⟨j186, hi, hj, h⟩ := h
            refine V_sld hG hX dL_law_1412 hi hj ?_
            obtain ⟨ht, h⟩ := h
            refine V_cVI _ _ hG dL_law_1413 (ct_X10_order hl h) mv_X10_order ml_L_185 ht rfl rfl rfl rfl (by first | exact Nat.le_of_ble_eq_true rfl | (simp only [List.map_cons, List.map_nil, List.sum_cons, List.sum_nil, cat_rf]; exact Nat.le_of_ble_eq_true rfl)) (by first | exact Nat.le_of_ble_eq_true rfl | omega | (dsimp only; omega)) (by first | exact Nat.le_of_ble_eq_true rfl | omega | (dsimp only; omega)) (by first | exact Nat.le_of_ble_eq_true rfl | omega | (dsimp only; omega)) (by first | exact Nat.le_of_ble_eq_true rfl | omega | (dsimp only; omega)) ?_ (fun x188 σ187 h9 => ?_)
            · exact fun _ _ hx => hx.elim
            · replace h := h9
              clear h9
              refine V_istore hG dL_law_1416 (Nat.le_of_ble_eq_true rfl) (hpV rfl rfl) ?_
              refine V_aload_n (v := .ref v2) hG dL_law_1418 rfl rfl ?_
              obtain ⟨ht, h⟩ := h
              refine V_cVI _ _ hG dL_law_1419 (ct_X10_thrown hl h) mv_X10_thrown ml_L_131 ht rfl rfl rfl rfl (by first | exact Nat.le_of_ble_eq_true rfl | (simp only [List.map_cons, List.map_nil, List.sum_cons, List.sum_nil, cat_rf]; exact Nat.le_of_ble_eq_true rfl)) (by first | exact Nat.le_of_ble_eq_true rfl | omega | (dsimp only; omega)) (by first | exact Nat.le_of_ble_eq_true rfl | omega | (dsimp only; omega)) (by first | exact Nat.le_of_ble_eq_true rfl | omega | (dsimp only; omega)) (by first | exact Nat.le_of_ble_eq_true rfl | omega | (dsimp only; omega)) ?_ (fun x190 σ189 h9 => ?_)
              · exact fun _ _ hx => hx.elim
              · replace h := h9
                clear h9
                refine V_iload hG dL_law_1422 rfl ?_
                refine V_icmp_eq (tgt := 1429) hG dL_law_1424 (by decide) (fun c => ?_) (fun c => ?_)
                · replace h := h.1 c
                  refine V_iload hG dL_law_1429 rfl ?_
                  refine V_if_ne (tgt := 1446) hG dL_law_1431 (by decide) (fun c => ?_) (fun c => ?_)
                  · replace h := h.1 c
                    refine V_forget (lo' := [some (.ref 25), some (.ref v1), some (.ref v2), some (.ref v3), some (.int v4), none, none]) ⟨rfl, ⟨rfl, ⟨rfl, ⟨rfl, ⟨rfl, trivial⟩⟩⟩⟩⟩ ?_
                    refine V_widen (k' := k + 5) (n' := n + 30) (by first | exact Nat.le_of_ble_eq_true rfl | omega | (dsimp only; omega)) (by first | exact Nat.le_of_ble_eq_true rfl | omega | (dsimp only; omega)) ?_
                    exact wv_L_law_1446 hl hG hX hret k n (by omega) (by omega) (fun z0 z1 z2 z3 ζ hz => ih _ _ (by omega) (by omega) z0 z1 z2 z3 ζ hz) _ _ _ _ _ h
                  · replace h := h.2 c
                    refine V_aload_n (v := .ref v3) hG dL_law_1434 rfl rfl ?_
                    refine V_iconst (v := 0) hG (by decide) dL_law_1435 ?_
                    obtain ⟨ha, j191, hi, hj, h⟩ := h
                    refine V_lald hG dL_law_1436 ha hi hj ?_
                    refine V_iload hG dL_law_1437 rfl ?_
                    refine V_i2l hG dL_law_1439 ?_
                    refine V_lcmp hG dL_law_1440 ?_
                    refine V_if_eq (tgt := 1446) hG dL_law_1441 (by decide) (fun c => ?_) (fun c => ?_)
                    · replace h := h.1 c
                      refine V_forget (lo' := [some (.ref 25), some (.ref v1), some (.ref v2), some (.ref v3), some (.int v4), none, none]) ⟨rfl, ⟨rfl, ⟨rfl, ⟨rfl, ⟨rfl, trivial⟩⟩⟩⟩⟩ ?_
                      refine V_widen (k' := k + 5) (n' := n + 30) (by first | exact Nat.le_of_ble_eq_true rfl | omega | (dsimp only; omega)) (by first | exact Nat.le_of_ble_eq_true rfl | omega | (dsimp only; omega)) ?_
                      exact wv_L_law_1446 hl hG hX hret k n (by omega) (by omega) (fun z0 z1 z2 z3 ζ hz => ih _ _ (by omega) (by omega) z0 z1 z2 z3 ζ hz) _ _ _ _ _ h
                    · replace h := h.2 c
                      refine V_iconst (v := 0) hG (by decide) dL_law_1444 ?_
                      exact law1 hret dL_law_1445 h (by first | exact Nat.le_of_ble_eq_true rfl | omega | (dsimp only; omega)) (by first | exact Nat.le_of_ble_eq_true rfl | omega | (dsimp only; omega))
                · replace h := h.2 c
                  refine V_iconst (v := 0) hG (by decide) dL_law_1427 ?_
                  exact law1 hret dL_law_1428 h (by first | exact Nat.le_of_ble_eq_true rfl | omega | (dsimp only; omega)) (by first | exact Nat.le_of_ble_eq_true rfl | omega | (dsimp only; omega))
        · replace h := h.2.2.2.2.2.2.2.2.2.2.2.2.2.2.2.2.1 c
          refine V_top (congrArg Value.int c) ?_
          refine V_swIn (tgt := 1449) (off := 1409) hG dL_law_40 (by decide) (by decide) (by decide) (by decide) ?_
          refine V_aload_n (v := .ref v1) hG dL_law_1449 rfl rfl ?_
          refine V_aload_n (v := .ref 25) hG dL_law_1450 rfl rfl ?_
          refine V_iload hG dL_law_1451 rfl ?_
          refine V_iconst (v := 1) hG (by decide) dL_law_1453 ?_
          refine V_iadd hG dL_law_1454 ?_
          obtain ⟨j192, hi, hj, h⟩ := h
          refine V_sld hG hX dL_law_1455 hi hj ?_
          refine V_aload_n (v := .ref v3) hG dL_law_1456 rfl rfl ?_
          refine V_cXI _ _ hG dL_law_1457 (ct_L_promise hl h) mv_L_promise ml_L_186 rfl rfl (by first | exact Nat.le_of_ble_eq_true rfl | (simp only [List.map_cons, List.map_nil, List.sum_cons, List.sum_nil, cat_rf]; exact Nat.le_of_ble_eq_true rfl)) (by first | exact Nat.le_of_ble_eq_true rfl | omega | (dsimp only; omega)) (by first | exact Nat.le_of_ble_eq_true rfl | omega | (dsimp only; omega)) (by first | exact Nat.le_of_ble_eq_true rfl | omega | (dsimp only; omega)) (by first | exact Nat.le_of_ble_eq_true rfl | omega | (dsimp only; omega)) ?_ (fun x194 σ193 h9 => ?_)
          · exact fun _ _ hx => hx.elim
          · replace h := h9
            clear h9
            refine V_istore hG dL_law_1460 (Nat.le_of_ble_eq_true rfl) (hpV rfl rfl) ?_
            refine V_aload_n (v := .ref v2) hG dL_law_1462 rfl rfl ?_
            refine V_aload_n (v := .ref 25) hG dL_law_1463 rfl rfl ?_
            refine V_iload hG dL_law_1464 rfl ?_
            refine V_iconst (v := 1) hG (by decide) dL_law_1466 ?_
            refine V_iadd hG dL_law_1467 ?_
            obtain ⟨j195, hi, hj, h⟩ := h
            refine V_sld hG hX dL_law_1468 hi hj ?_
            obtain ⟨ht, h⟩ := h
            refine V_cVI _ _ hG dL_law_1469 (ct_X10_promise hl h) mv_X10_promise ml_L_188 ht rfl rfl rfl rfl (by first | exact Nat.le_of_ble_eq_true rfl | (simp only [List.map_cons, List.map_nil, List.sum_cons, List.sum_nil, cat_rf]; exact Nat.le_of_ble_eq_true rfl)) (by first | exact Nat.le_of_ble_eq_true rfl | omega | (dsimp only; omega)) (by first | exact Nat.le_of_ble_eq_true rfl | omega | (dsimp only; omega)) (by first | exact Nat.le_of_ble_eq_true rfl | omega | (dsimp only; omega)) (by first | exact Nat.le_of_ble_eq_true rfl | omega | (dsimp only; omega)) ?_ (fun x197 σ196 h9 => ?_)
            · exact fun _ _ hx => hx.elim
            · replace h := h9
              clear h9
              refine V_istore hG dL_law_1472 (Nat.le_of_ble_eq_true rfl) (hpV rfl rfl) ?_
              refine V_aload_n (v := .ref v2) hG dL_law_1474 rfl rfl ?_
              obtain ⟨ht, h⟩ := h
              refine V_cVI _ _ hG dL_law_1475 (ct_X10_thrown hl h) mv_X10_thrown ml_L_131 ht rfl rfl rfl rfl (by first | exact Nat.le_of_ble_eq_true rfl | (simp only [List.map_cons, List.map_nil, List.sum_cons, List.sum_nil, cat_rf]; exact Nat.le_of_ble_eq_true rfl)) (by first | exact Nat.le_of_ble_eq_true rfl | omega | (dsimp only; omega)) (by first | exact Nat.le_of_ble_eq_true rfl | omega | (dsimp only; omega)) (by first | exact Nat.le_of_ble_eq_true rfl | omega | (dsimp only; omega)) (by first | exact Nat.le_of_ble_eq_true rfl | omega | (dsimp only; omega)) ?_ (fun x199 σ198 h9 => ?_)
              · exact fun _ _ hx => hx.elim
              · replace h := h9
                clear h9
                refine V_iload hG dL_law_1478 rfl ?_
                refine V_icmp_eq (tgt := 1485) hG dL_law_1480 (by decide) (fun c => ?_) (fun c => ?_)
                · replace h := h.1 c
                  refine V_iload hG dL_law_1485 rfl ?_
                  refine V_if_ne (tgt := 1502) hG dL_law_1487 (by decide) (fun c => ?_) (fun c => ?_)
                  · replace h := h.1 c
                    refine V_forget (lo' := [some (.ref 25), some (.ref v1), some (.ref v2), some (.ref v3), some (.int v4), none, none]) ⟨rfl, ⟨rfl, ⟨rfl, ⟨rfl, ⟨rfl, trivial⟩⟩⟩⟩⟩ ?_
                    refine V_widen (k' := k + 2) (n' := n + 12) (by first | exact Nat.le_of_ble_eq_true rfl | omega | (dsimp only; omega)) (by first | exact Nat.le_of_ble_eq_true rfl | omega | (dsimp only; omega)) ?_
                    exact wv_L_law_1502 hl hG hX hret k n (by omega) (by omega) (fun z0 z1 z2 z3 ζ hz => ih _ _ (by omega) (by omega) z0 z1 z2 z3 ζ hz) _ _ _ _ _ h
                  · replace h := h.2 c
                    refine V_aload_n (v := .ref v3) hG dL_law_1490 rfl rfl ?_
                    refine V_iconst (v := 0) hG (by decide) dL_law_1491 ?_
                    obtain ⟨ha, j200, hi, hj, h⟩ := h
                    refine V_lald hG dL_law_1492 ha hi hj ?_
                    refine V_iload hG dL_law_1493 rfl ?_
                    refine V_i2l hG dL_law_1495 ?_
                    refine V_lcmp hG dL_law_1496 ?_
                    refine V_if_eq (tgt := 1502) hG dL_law_1497 (by decide) (fun c => ?_) (fun c => ?_)
                    · replace h := h.1 c
                      refine V_forget (lo' := [some (.ref 25), some (.ref v1), some (.ref v2), some (.ref v3), some (.int v4), none, none]) ⟨rfl, ⟨rfl, ⟨rfl, ⟨rfl, ⟨rfl, trivial⟩⟩⟩⟩⟩ ?_
                      refine V_widen (k' := k + 2) (n' := n + 12) (by first | exact Nat.le_of_ble_eq_true rfl | omega | (dsimp only; omega)) (by first | exact Nat.le_of_ble_eq_true rfl | omega | (dsimp only; omega)) ?_
                      exact wv_L_law_1502 hl hG hX hret k n (by omega) (by omega) (fun z0 z1 z2 z3 ζ hz => ih _ _ (by omega) (by omega) z0 z1 z2 z3 ζ hz) _ _ _ _ _ h
                    · replace h := h.2 c
                      refine V_iconst (v := 0) hG (by decide) dL_law_1500 ?_
                      exact law1 hret dL_law_1501 h (by first | exact Nat.le_of_ble_eq_true rfl | omega | (dsimp only; omega)) (by first | exact Nat.le_of_ble_eq_true rfl | omega | (dsimp only; omega))
                · replace h := h.2 c
                  refine V_iconst (v := 0) hG (by decide) dL_law_1483 ?_
                  exact law1 hret dL_law_1484 h (by first | exact Nat.le_of_ble_eq_true rfl | omega | (dsimp only; omega)) (by first | exact Nat.le_of_ble_eq_true rfl | omega | (dsimp only; omega))
        · replace h := h.2.2.2.2.2.2.2.2.2.2.2.2.2.2.2.2.2.1 c
          refine V_top (congrArg Value.int c) ?_
          refine V_swIn (tgt := 1505) (off := 1465) hG dL_law_40 (by decide) (by decide) (by decide) (by decide) ?_
          refine V_aload_n (v := .ref v1) hG dL_law_1505 rfl rfl ?_
          refine V_aload_n (v := .ref 25) hG dL_law_1506 rfl rfl ?_
          refine V_iload hG dL_law_1507 rfl ?_
          refine V_iconst (v := 1) hG (by decide) dL_law_1509 ?_
          refine V_iadd hG dL_law_1510 ?_
          obtain ⟨j201, hi, hj, h⟩ := h
          refine V_sld hG hX dL_law_1511 hi hj ?_
          refine V_aload_n (v := .ref v3) hG dL_law_1512 rfl rfl ?_
          refine V_cXI _ _ hG dL_law_1513 (ct_L_ship hl h) mv_L_ship ml_L_189 rfl rfl (by first | exact Nat.le_of_ble_eq_true rfl | (simp only [List.map_cons, List.map_nil, List.sum_cons, List.sum_nil, cat_rf]; exact Nat.le_of_ble_eq_true rfl)) (by first | exact Nat.le_of_ble_eq_true rfl | omega | (dsimp only; omega)) (by first | exact Nat.le_of_ble_eq_true rfl | omega | (dsimp only; omega)) (by first | exact Nat.le_of_ble_eq_true rfl | omega | (dsimp only; omega)) (by first | exact Nat.le_of_ble_eq_true rfl | omega | (dsimp only; omega)) ?_ (fun x203 σ202 h9 => ?_)
          · exact fun _ _ hx => hx.elim
          · replace h := h9
            clear h9
            refine V_istore hG dL_law_1516 (Nat.le_of_ble_eq_true rfl) (hpV rfl rfl) ?_
            refine V_aload_n (v := .ref v2) hG dL_law_1518 rfl rfl ?_
            refine V_aload_n (v := .ref 25) hG dL_law_1519 rfl rfl ?_
            refine V_iload hG dL_law_1520 rfl ?_
            refine V_iconst (v := 1) hG (by decide) dL_law_1522 ?_
            refine V_iadd hG dL_law_1523 ?_
            obtain ⟨j204, hi, hj, h⟩ := h
            refine V_sld hG hX dL_law_1524 hi hj ?_
            obtain ⟨ht, h⟩ := h
            refine V_cVI _ _ hG dL_law_1525 (ct_X10_ship hl h) mv_X10_ship ml_L_191 ht rfl rfl rfl rfl (by first | exact Nat.le_of_ble_eq_true rfl | (simp only [List.map_cons, List.map_nil, List.sum_cons, List.sum_nil, cat_rf]; exact Nat.le_of_ble_eq_true rfl)) (by first | exact Nat.le_of_ble_eq_true rfl | omega | (dsimp only; omega)) (by first | exact Nat.le_of_ble_eq_true rfl | omega | (dsimp only; omega)) (by first | exact Nat.le_of_ble_eq_true rfl | omega | (dsimp only; omega)) (by first | exact Nat.le_of_ble_eq_true rfl | omega | (dsimp only; omega)) ?_ (fun x206 σ205 h9 => ?_)
            · exact fun _ _ hx => hx.elim
            · replace h := h9
              clear h9
              refine V_istore hG dL_law_1528 (Nat.le_of_ble_eq_true rfl) (hpV rfl rfl) ?_
              refine V_aload_n (v := .ref v2) hG dL_law_1530 rfl rfl ?_
              obtain ⟨ht, h⟩ := h
              refine V_cVI _ _ hG dL_law_1531 (ct_X10_thrown hl h) mv_X10_thrown ml_L_131 ht rfl rfl rfl rfl (by first | exact Nat.le_of_ble_eq_true rfl | (simp only [List.map_cons, List.map_nil, List.sum_cons, List.sum_nil, cat_rf]; exact Nat.le_of_ble_eq_true rfl)) (by first | exact Nat.le_of_ble_eq_true rfl | omega | (dsimp only; omega)) (by first | exact Nat.le_of_ble_eq_true rfl | omega | (dsimp only; omega)) (by first | exact Nat.le_of_ble_eq_true rfl | omega | (dsimp only; omega)) (by first | exact Nat.le_of_ble_eq_true rfl | omega | (dsimp only; omega)) ?_ (fun x208 σ207 h9 => ?_)
              · exact fun _ _ hx => hx.elim
              · replace h := h9
                clear h9
                refine V_iload hG dL_law_1534 rfl ?_
                refine V_icmp_eq (tgt := 1541) hG dL_law_1536 (by decide) (fun c => ?_) (fun c => ?_)
                · replace h := h.1 c
                  refine V_iload hG dL_law_1541 rfl ?_
                  refine V_if_ne (tgt := 1558) hG dL_law_1543 (by decide) (fun c => ?_) (fun c => ?_)
                  · replace h := h.1 c
                    refine V_forget (lo' := [some (.ref 25), some (.ref v1), some (.ref v2), some (.ref v3), some (.int v4), none, none]) ⟨rfl, ⟨rfl, ⟨rfl, ⟨rfl, ⟨rfl, trivial⟩⟩⟩⟩⟩ ?_
                    refine V_widen (k' := k + 3) (n' := n + 24) (by first | exact Nat.le_of_ble_eq_true rfl | omega | (dsimp only; omega)) (by first | exact Nat.le_of_ble_eq_true rfl | omega | (dsimp only; omega)) ?_
                    exact wv_L_law_1558 hl hG hX hret k n (by omega) (by omega) (fun z0 z1 z2 z3 ζ hz => ih _ _ (by omega) (by omega) z0 z1 z2 z3 ζ hz) _ _ _ _ _ h
                  · replace h := h.2 c
                    refine V_aload_n (v := .ref v3) hG dL_law_1546 rfl rfl ?_
                    refine V_iconst (v := 0) hG (by decide) dL_law_1547 ?_
                    obtain ⟨ha, j209, hi, hj, h⟩ := h
                    refine V_lald hG dL_law_1548 ha hi hj ?_
                    refine V_iload hG dL_law_1549 rfl ?_
                    refine V_i2l hG dL_law_1551 ?_
                    refine V_lcmp hG dL_law_1552 ?_
                    refine V_if_eq (tgt := 1558) hG dL_law_1553 (by decide) (fun c => ?_) (fun c => ?_)
                    · replace h := h.1 c
                      refine V_forget (lo' := [some (.ref 25), some (.ref v1), some (.ref v2), some (.ref v3), some (.int v4), none, none]) ⟨rfl, ⟨rfl, ⟨rfl, ⟨rfl, ⟨rfl, trivial⟩⟩⟩⟩⟩ ?_
                      refine V_widen (k' := k + 3) (n' := n + 24) (by first | exact Nat.le_of_ble_eq_true rfl | omega | (dsimp only; omega)) (by first | exact Nat.le_of_ble_eq_true rfl | omega | (dsimp only; omega)) ?_
                      exact wv_L_law_1558 hl hG hX hret k n (by omega) (by omega) (fun z0 z1 z2 z3 ζ hz => ih _ _ (by omega) (by omega) z0 z1 z2 z3 ζ hz) _ _ _ _ _ h
                    · replace h := h.2 c
                      refine V_iconst (v := 0) hG (by decide) dL_law_1556 ?_
                      exact law1 hret dL_law_1557 h (by first | exact Nat.le_of_ble_eq_true rfl | omega | (dsimp only; omega)) (by first | exact Nat.le_of_ble_eq_true rfl | omega | (dsimp only; omega))
                · replace h := h.2 c
                  refine V_iconst (v := 0) hG (by decide) dL_law_1539 ?_
                  exact law1 hret dL_law_1540 h (by first | exact Nat.le_of_ble_eq_true rfl | omega | (dsimp only; omega)) (by first | exact Nat.le_of_ble_eq_true rfl | omega | (dsimp only; omega))
        · replace h := h.2.2.2.2.2.2.2.2.2.2.2.2.2.2.2.2.2.2.1 c
          refine V_top (congrArg Value.int c) ?_
          refine V_swIn (tgt := 1561) (off := 1521) hG dL_law_40 (by decide) (by decide) (by decide) (by decide) ?_
          refine V_aload_n (v := .ref v1) hG dL_law_1561 rfl rfl ?_
          refine V_aload_n (v := .ref 25) hG dL_law_1562 rfl rfl ?_
          refine V_iload hG dL_law_1563 rfl ?_
          refine V_iconst (v := 1) hG (by decide) dL_law_1565 ?_
          refine V_iadd hG dL_law_1566 ?_
          obtain ⟨j210, hi, hj, h⟩ := h
          refine V_sld hG hX dL_law_1567 hi hj ?_
          refine V_if_eq (tgt := 1575) hG dL_law_1568 (by decide) (fun c => ?_) (fun c => ?_)
          · replace h := h.1 c
            refine V_iconst (v := 0) hG (by decide) dL_law_1575 ?_
            refine V_forget (lo' := [some (.ref 25), some (.ref v1), some (.ref v2), some (.ref v3), some (.int v4), none, none]) ⟨rfl, ⟨rfl, ⟨rfl, ⟨rfl, ⟨rfl, trivial⟩⟩⟩⟩⟩ ?_
            refine V_widen (k' := k + 0) (n' := n + 0) (by first | exact Nat.le_of_ble_eq_true rfl | omega | (dsimp only; omega)) (by first | exact Nat.le_of_ble_eq_true rfl | omega | (dsimp only; omega)) ?_
            exact wv_L_law_1576 hl hG hX hret k n (by omega) (by omega) (fun z0 z1 z2 z3 ζ hz => ih _ _ (by omega) (by omega) z0 z1 z2 z3 ζ hz) _ _ _ _ _ _ _ h
          · replace h := h.2 c
            refine V_iconst (v := 1) hG (by decide) dL_law_1571 ?_
            refine V_goto (tgt := 1576) hG dL_law_1572 (by decide) ?_
            refine V_forget (lo' := [some (.ref 25), some (.ref v1), some (.ref v2), some (.ref v3), some (.int v4), none, none]) ⟨rfl, ⟨rfl, ⟨rfl, ⟨rfl, ⟨rfl, trivial⟩⟩⟩⟩⟩ ?_
            refine V_widen (k' := k + 0) (n' := n + 0) (by first | exact Nat.le_of_ble_eq_true rfl | omega | (dsimp only; omega)) (by first | exact Nat.le_of_ble_eq_true rfl | omega | (dsimp only; omega)) ?_
            exact wv_L_law_1576 hl hG hX hret k n (by omega) (by omega) (fun z0 z1 z2 z3 ζ hz => ih _ _ (by omega) (by omega) z0 z1 z2 z3 ζ hz) _ _ _ _ _ _ _ h
        · replace h := h.2.2.2.2.2.2.2.2.2.2.2.2.2.2.2.2.2.2.2.1 c
          refine V_top (congrArg Value.int c) ?_
          refine V_swIn (tgt := 1602) (off := 1562) hG dL_law_40 (by decide) (by decide) (by decide) (by decide) ?_
          refine V_aload_n (v := .ref v1) hG dL_law_1602 rfl rfl ?_
          refine V_aload_n (v := .ref 25) hG dL_law_1603 rfl rfl ?_
          refine V_iload hG dL_law_1604 rfl ?_
          refine V_iconst (v := 1) hG (by decide) dL_law_1606 ?_
          refine V_iadd hG dL_law_1607 ?_
          obtain ⟨j211, hi, hj, h⟩ := h
          refine V_sld hG hX dL_law_1608 hi hj ?_
          refine V_aload_n (v := .ref v3) hG dL_law_1609 rfl rfl ?_
          refine V_cXI _ _ hG dL_law_1610 (ct_L_run hl h) mv_L_run ml_L_197 rfl rfl (by first | exact Nat.le_of_ble_eq_true rfl | (simp only [List.map_cons, List.map_nil, List.sum_cons, List.sum_nil, cat_rf]; exact Nat.le_of_ble_eq_true rfl)) (by first | exact Nat.le_of_ble_eq_true rfl | omega | (dsimp only; omega)) (by first | exact Nat.le_of_ble_eq_true rfl | omega | (dsimp only; omega)) (by first | exact Nat.le_of_ble_eq_true rfl | omega | (dsimp only; omega)) (by first | exact Nat.le_of_ble_eq_true rfl | omega | (dsimp only; omega)) ?_ (fun x213 σ212 h9 => ?_)
          · exact fun _ _ hx => hx.elim
          · replace h := h9
            clear h9
            refine V_istore hG dL_law_1613 (Nat.le_of_ble_eq_true rfl) (hpV rfl rfl) ?_
            refine V_aload_n (v := .ref v2) hG dL_law_1615 rfl rfl ?_
            refine V_aload_n (v := .ref 25) hG dL_law_1616 rfl rfl ?_
            refine V_iload hG dL_law_1617 rfl ?_
            refine V_iconst (v := 1) hG (by decide) dL_law_1619 ?_
            refine V_iadd hG dL_law_1620 ?_
            obtain ⟨j214, hi, hj, h⟩ := h
            refine V_sld hG hX dL_law_1621 hi hj ?_
            obtain ⟨ht, h⟩ := h
            refine V_cVI _ _ hG dL_law_1622 (ct_X10_run hl h) mv_X10_run ml_L_199 ht rfl rfl rfl rfl (by first | exact Nat.le_of_ble_eq_true rfl | (simp only [List.map_cons, List.map_nil, List.sum_cons, List.sum_nil, cat_rf]; exact Nat.le_of_ble_eq_true rfl)) (by first | exact Nat.le_of_ble_eq_true rfl | omega | (dsimp only; omega)) (by first | exact Nat.le_of_ble_eq_true rfl | omega | (dsimp only; omega)) (by first | exact Nat.le_of_ble_eq_true rfl | omega | (dsimp only; omega)) (by first | exact Nat.le_of_ble_eq_true rfl | omega | (dsimp only; omega)) ?_ (fun x216 σ215 h9 => ?_)
            · exact fun _ _ hx => hx.elim
            · replace h := h9
              clear h9
              refine V_istore hG dL_law_1625 (Nat.le_of_ble_eq_true rfl) (hpV rfl rfl) ?_
              refine V_aload_n (v := .ref v2) hG dL_law_1627 rfl rfl ?_
              obtain ⟨ht, h⟩ := h
              refine V_cVI _ _ hG dL_law_1628 (ct_X10_thrown hl h) mv_X10_thrown ml_L_131 ht rfl rfl rfl rfl (by first | exact Nat.le_of_ble_eq_true rfl | (simp only [List.map_cons, List.map_nil, List.sum_cons, List.sum_nil, cat_rf]; exact Nat.le_of_ble_eq_true rfl)) (by first | exact Nat.le_of_ble_eq_true rfl | omega | (dsimp only; omega)) (by first | exact Nat.le_of_ble_eq_true rfl | omega | (dsimp only; omega)) (by first | exact Nat.le_of_ble_eq_true rfl | omega | (dsimp only; omega)) (by first | exact Nat.le_of_ble_eq_true rfl | omega | (dsimp only; omega)) ?_ (fun x218 σ217 h9 => ?_)
              · exact fun _ _ hx => hx.elim
              · replace h := h9
                clear h9
                refine V_iload hG dL_law_1631 rfl ?_
                refine V_icmp_eq (tgt := 1638) hG dL_law_1633 (by decide) (fun c => ?_) (fun c => ?_)
                · replace h := h.1 c
                  refine V_iload hG dL_law_1638 rfl ?_
                  refine V_if_ne (tgt := 1655) hG dL_law_1640 (by decide) (fun c => ?_) (fun c => ?_)
                  · replace h := h.1 c
                    refine V_forget (lo' := [some (.ref 25), some (.ref v1), some (.ref v2), some (.ref v3), some (.int v4), none, none]) ⟨rfl, ⟨rfl, ⟨rfl, ⟨rfl, ⟨rfl, trivial⟩⟩⟩⟩⟩ ?_
                    refine V_widen (k' := k + 2) (n' := n + 12) (by first | exact Nat.le_of_ble_eq_true rfl | omega | (dsimp only; omega)) (by first | exact Nat.le_of_ble_eq_true rfl | omega | (dsimp only; omega)) ?_
                    exact wv_L_law_1655 hl hG hX hret k n (by omega) (by omega) (fun z0 z1 z2 z3 ζ hz => ih _ _ (by omega) (by omega) z0 z1 z2 z3 ζ hz) _ _ _ _ _ h
                  · replace h := h.2 c
                    refine V_aload_n (v := .ref v3) hG dL_law_1643 rfl rfl ?_
                    refine V_iconst (v := 0) hG (by decide) dL_law_1644 ?_
                    obtain ⟨ha, j219, hi, hj, h⟩ := h
                    refine V_lald hG dL_law_1645 ha hi hj ?_
                    refine V_iload hG dL_law_1646 rfl ?_
                    refine V_i2l hG dL_law_1648 ?_
                    refine V_lcmp hG dL_law_1649 ?_
                    refine V_if_eq (tgt := 1655) hG dL_law_1650 (by decide) (fun c => ?_) (fun c => ?_)
                    · replace h := h.1 c
                      refine V_forget (lo' := [some (.ref 25), some (.ref v1), some (.ref v2), some (.ref v3), some (.int v4), none, none]) ⟨rfl, ⟨rfl, ⟨rfl, ⟨rfl, ⟨rfl, trivial⟩⟩⟩⟩⟩ ?_
                      refine V_widen (k' := k + 2) (n' := n + 12) (by first | exact Nat.le_of_ble_eq_true rfl | omega | (dsimp only; omega)) (by first | exact Nat.le_of_ble_eq_true rfl | omega | (dsimp only; omega)) ?_
                      exact wv_L_law_1655 hl hG hX hret k n (by omega) (by omega) (fun z0 z1 z2 z3 ζ hz => ih _ _ (by omega) (by omega) z0 z1 z2 z3 ζ hz) _ _ _ _ _ h
                    · replace h := h.2 c
                      refine V_iconst (v := 0) hG (by decide) dL_law_1653 ?_
                      exact law1 hret dL_law_1654 h (by first | exact Nat.le_of_ble_eq_true rfl | omega | (dsimp only; omega)) (by first | exact Nat.le_of_ble_eq_true rfl | omega | (dsimp only; omega))
                · replace h := h.2 c
                  refine V_iconst (v := 0) hG (by decide) dL_law_1636 ?_
                  exact law1 hret dL_law_1637 h (by first | exact Nat.le_of_ble_eq_true rfl | omega | (dsimp only; omega)) (by first | exact Nat.le_of_ble_eq_true rfl | omega | (dsimp only; omega))
        · replace h := h.2.2.2.2.2.2.2.2.2.2.2.2.2.2.2.2.2.2.2.2.1 c
          refine V_top (congrArg Value.int c) ?_
          refine V_swIn (tgt := 1658) (off := 1618) hG dL_law_40 (by decide) (by decide) (by decide) (by decide) ?_
          refine V_aload_n (v := .ref v1) hG dL_law_1658 rfl rfl ?_
          obtain ⟨ht, h⟩ := h
          refine V_cVI _ _ hG dL_law_1659 (ct_X9_hour hl h) mv_X9_hour ml_L_200 ht rfl rfl rfl rfl (by first | exact Nat.le_of_ble_eq_true rfl | (simp only [List.map_cons, List.map_nil, List.sum_cons, List.sum_nil, cat_rf]; exact Nat.le_of_ble_eq_true rfl)) (by first | exact Nat.le_of_ble_eq_true rfl | omega | (dsimp only; omega)) (by first | exact Nat.le_of_ble_eq_true rfl | omega | (dsimp only; omega)) (by first | exact Nat.le_of_ble_eq_true rfl | omega | (dsimp only; omega)) (by first | exact Nat.le_of_ble_eq_true rfl | omega | (dsimp only; omega)) ?_ (fun x221 σ220 h9 => ?_)
          · exact fun _ _ hx => hx.elim
          · replace h := h9
            clear h9
            refine V_aload_n (v := .ref v2) hG dL_law_1662 rfl rfl ?_
            obtain ⟨ht, h⟩ := h
            refine V_cVI _ _ hG dL_law_1663 (ct_X10_hour hl h) mv_X10_hour ml_L_203 ht rfl rfl rfl rfl (by first | exact Nat.le_of_ble_eq_true rfl | (simp only [List.map_cons, List.map_nil, List.sum_cons, List.sum_nil, cat_rf]; exact Nat.le_of_ble_eq_true rfl)) (by first | exact Nat.le_of_ble_eq_true rfl | omega | (dsimp only; omega)) (by first | exact Nat.le_of_ble_eq_true rfl | omega | (dsimp only; omega)) (by first | exact Nat.le_of_ble_eq_true rfl | omega | (dsimp only; omega)) (by first | exact Nat.le_of_ble_eq_true rfl | omega | (dsimp only; omega)) ?_ (fun x223 σ222 h9 => ?_)
            · exact fun _ _ hx => hx.elim
            · replace h := h9
              clear h9
              refine V_icmp_eq (tgt := 2588) hG dL_law_1666 (by decide) (fun c => ?_) (fun c => ?_)
              · replace h := h.1 c
                refine V_forget (lo' := [some (.ref 25), some (.ref v1), some (.ref v2), some (.ref v3), some (.int v4), none, none]) ⟨rfl, ⟨rfl, ⟨rfl, ⟨rfl, ⟨rfl, trivial⟩⟩⟩⟩⟩ ?_
                refine V_widen (k' := k + 8) (n' := n + 57) (by first | exact Nat.le_of_ble_eq_true rfl | omega | (dsimp only; omega)) (by first | exact Nat.le_of_ble_eq_true rfl | omega | (dsimp only; omega)) ?_
                exact wv_L_law_2588 hl hG hX hret k n (by omega) (by omega) (fun z0 z1 z2 z3 ζ hz => ih _ _ (by omega) (by omega) z0 z1 z2 z3 ζ hz) _ _ _ _ _ h
              · replace h := h.2 c
                refine V_iconst (v := 0) hG (by decide) dL_law_1669 ?_
                exact law1 hret dL_law_1670 h (by first | exact Nat.le_of_ble_eq_true rfl | omega | (dsimp only; omega)) (by first | exact Nat.le_of_ble_eq_true rfl | omega | (dsimp only; omega))
        · replace h := h.2.2.2.2.2.2.2.2.2.2.2.2.2.2.2.2.2.2.2.2.2.1 c
          refine V_top (congrArg Value.int c) ?_
          refine V_swIn (tgt := 1671) (off := 1631) hG dL_law_40 (by decide) (by decide) (by decide) (by decide) ?_
          refine V_aload_n (v := .ref v1) hG dL_law_1671 rfl rfl ?_
          obtain ⟨ht, h⟩ := h
          refine V_cVI _ _ hG dL_law_1672 (ct_X9_batches hl h) mv_X9_batches ml_L_204 ht rfl rfl rfl rfl (by first | exact Nat.le_of_ble_eq_true rfl | (simp only [List.map_cons, List.map_nil, List.sum_cons, List.sum_nil, cat_rf]; exact Nat.le_of_ble_eq_true rfl)) (by first | exact Nat.le_of_ble_eq_true rfl | omega | (dsimp only; omega)) (by first | exact Nat.le_of_ble_eq_true rfl | omega | (dsimp only; omega)) (by first | exact Nat.le_of_ble_eq_true rfl | omega | (dsimp only; omega)) (by first | exact Nat.le_of_ble_eq_true rfl | omega | (dsimp only; omega)) ?_ (fun x225 σ224 h9 => ?_)
          · exact fun _ _ hx => hx.elim
          · replace h := h9
            clear h9
            refine V_aload_n (v := .ref v2) hG dL_law_1675 rfl rfl ?_
            obtain ⟨ht, h⟩ := h
            refine V_cVI _ _ hG dL_law_1676 (ct_X10_batches hl h) mv_X10_batches ml_L_207 ht rfl rfl rfl rfl (by first | exact Nat.le_of_ble_eq_true rfl | (simp only [List.map_cons, List.map_nil, List.sum_cons, List.sum_nil, cat_rf]; exact Nat.le_of_ble_eq_true rfl)) (by first | exact Nat.le_of_ble_eq_true rfl | omega | (dsimp only; omega)) (by first | exact Nat.le_of_ble_eq_true rfl | omega | (dsimp only; omega)) (by first | exact Nat.le_of_ble_eq_true rfl | omega | (dsimp only; omega)) (by first | exact Nat.le_of_ble_eq_true rfl | omega | (dsimp only; omega)) ?_ (fun x227 σ226 h9 => ?_)
            · exact fun _ _ hx => hx.elim
            · replace h := h9
              clear h9
              refine V_icmp_eq (tgt := 2588) hG dL_law_1679 (by decide) (fun c => ?_) (fun c => ?_)
              · replace h := h.1 c
                refine V_forget (lo' := [some (.ref 25), some (.ref v1), some (.ref v2), some (.ref v3), some (.int v4), none, none]) ⟨rfl, ⟨rfl, ⟨rfl, ⟨rfl, ⟨rfl, trivial⟩⟩⟩⟩⟩ ?_
                refine V_widen (k' := k + 8) (n' := n + 57) (by first | exact Nat.le_of_ble_eq_true rfl | omega | (dsimp only; omega)) (by first | exact Nat.le_of_ble_eq_true rfl | omega | (dsimp only; omega)) ?_
                exact wv_L_law_2588 hl hG hX hret k n (by omega) (by omega) (fun z0 z1 z2 z3 ζ hz => ih _ _ (by omega) (by omega) z0 z1 z2 z3 ζ hz) _ _ _ _ _ h
              · replace h := h.2 c
                refine V_iconst (v := 0) hG (by decide) dL_law_1682 ?_
                exact law1 hret dL_law_1683 h (by first | exact Nat.le_of_ble_eq_true rfl | omega | (dsimp only; omega)) (by first | exact Nat.le_of_ble_eq_true rfl | omega | (dsimp only; omega))
        · replace h := h.2.2.2.2.2.2.2.2.2.2.2.2.2.2.2.2.2.2.2.2.2.2.1 c
          refine V_top (congrArg Value.int c) ?_
          refine V_swIn (tgt := 1684) (off := 1644) hG dL_law_40 (by decide) (by decide) (by decide) (by decide) ?_
          refine V_aload_n (v := .ref v1) hG dL_law_1684 rfl rfl ?_
          refine V_aload_n (v := .ref 25) hG dL_law_1685 rfl rfl ?_
          refine V_iload hG dL_law_1686 rfl ?_
          refine V_iconst (v := 1) hG (by decide) dL_law_1688 ?_
          refine V_iadd hG dL_law_1689 ?_
          obtain ⟨j228, hi, hj, h⟩ := h
          refine V_sld hG hX dL_law_1690 hi hj ?_
          refine V_aload_n (v := .ref 25) hG dL_law_1691 rfl rfl ?_
          refine V_iload hG dL_law_1692 rfl ?_
          refine V_iconst (v := 2) hG (by decide) dL_law_1694 ?_
          refine V_iadd hG dL_law_1695 ?_
          obtain ⟨j229, hi, hj, h⟩ := h
          refine V_sld hG hX dL_law_1696 hi hj ?_
          refine V_aload_n (v := .ref v3) hG dL_law_1697 rfl rfl ?_
          refine V_cXI _ _ hG dL_law_1698 (ct_L_batch hl h) mv_L_batch ml_L_208 rfl rfl (by first | exact Nat.le_of_ble_eq_true rfl | (simp only [List.map_cons, List.map_nil, List.sum_cons, List.sum_nil, cat_rf]; exact Nat.le_of_ble_eq_true rfl)) (by first | exact Nat.le_of_ble_eq_true rfl | omega | (dsimp only; omega)) (by first | exact Nat.le_of_ble_eq_true rfl | omega | (dsimp only; omega)) (by first | exact Nat.le_of_ble_eq_true rfl | omega | (dsimp only; omega)) (by first | exact Nat.le_of_ble_eq_true rfl | omega | (dsimp only; omega)) ?_ (fun x231 σ230 h9 => ?_)
          · exact fun _ _ hx => hx.elim
          · replace h := h9
            clear h9
            refine V_istore hG dL_law_1701 (Nat.le_of_ble_eq_true rfl) (hpV rfl rfl) ?_
            refine V_aload_n (v := .ref v2) hG dL_law_1703 rfl rfl ?_
            refine V_aload_n (v := .ref 25) hG dL_law_1704 rfl rfl ?_
            refine V_iload hG dL_law_1705 rfl ?_
            refine V_iconst (v := 1) hG (by decide) dL_law_1707 ?_
            refine V_iadd hG dL_law_1708 ?_
            obtain ⟨j232, hi, hj, h⟩ := h
            refine V_sld hG hX dL_law_1709 hi hj ?_
            refine V_aload_n (v := .ref 25) hG dL_law_1710 rfl rfl ?_
            refine V_iload hG dL_law_1711 rfl ?_
            refine V_iconst (v := 2) hG (by decide) dL_law_1713 ?_
            refine V_iadd hG dL_law_1714 ?_
            obtain ⟨j233, hi, hj, h⟩ := h
            refine V_sld hG hX dL_law_1715 hi hj ?_
            obtain ⟨ht, h⟩ := h
            refine V_cVI _ _ hG dL_law_1716 (ct_X10_batch hl h) mv_X10_batch ml_L_210 ht rfl rfl rfl rfl (by first | exact Nat.le_of_ble_eq_true rfl | (simp only [List.map_cons, List.map_nil, List.sum_cons, List.sum_nil, cat_rf]; exact Nat.le_of_ble_eq_true rfl)) (by first | exact Nat.le_of_ble_eq_true rfl | omega | (dsimp only; omega)) (by first | exact Nat.le_of_ble_eq_true rfl | omega | (dsimp only; omega)) (by first | exact Nat.le_of_ble_eq_true rfl | omega | (dsimp only; omega)) (by first | exact Nat.le_of_ble_eq_true rfl | omega | (dsimp only; omega)) ?_ (fun x235 σ234 h9 => ?_)
            · exact fun _ _ hx => hx.elim
            · replace h := h9
              clear h9
              refine V_istore hG dL_law_1719 (Nat.le_of_ble_eq_true rfl) (hpV rfl rfl) ?_
              refine V_aload_n (v := .ref v2) hG dL_law_1721 rfl rfl ?_
              obtain ⟨ht, h⟩ := h
              refine V_cVI _ _ hG dL_law_1722 (ct_X10_thrown hl h) mv_X10_thrown ml_L_131 ht rfl rfl rfl rfl (by first | exact Nat.le_of_ble_eq_true rfl | (simp only [List.map_cons, List.map_nil, List.sum_cons, List.sum_nil, cat_rf]; exact Nat.le_of_ble_eq_true rfl)) (by first | exact Nat.le_of_ble_eq_true rfl | omega | (dsimp only; omega)) (by first | exact Nat.le_of_ble_eq_true rfl | omega | (dsimp only; omega)) (by first | exact Nat.le_of_ble_eq_true rfl | omega | (dsimp only; omega)) (by first | exact Nat.le_of_ble_eq_true rfl | omega | (dsimp only; omega)) ?_ (fun x237 σ236 h9 => ?_)
              · exact fun _ _ hx => hx.elim
              · replace h := h9
                clear h9
                refine V_iload hG dL_law_1725 rfl ?_
                refine V_icmp_eq (tgt := 1732) hG dL_law_1727 (by decide) (fun c => ?_) (fun c => ?_)
                · replace h := h.1 c
                  refine V_iload hG dL_law_1732 rfl ?_
                  refine V_if_ne (tgt := 1749) hG dL_law_1734 (by decide) (fun c => ?_) (fun c => ?_)
                  · replace h := h.1 c
                    refine V_forget (lo' := [some (.ref 25), some (.ref v1), some (.ref v2), some (.ref v3), some (.int v4), none, none]) ⟨rfl, ⟨rfl, ⟨rfl, ⟨rfl, ⟨rfl, trivial⟩⟩⟩⟩⟩ ?_
                    refine V_widen (k' := k + 2) (n' := n + 12) (by first | exact Nat.le_of_ble_eq_true rfl | omega | (dsimp only; omega)) (by first | exact Nat.le_of_ble_eq_true rfl | omega | (dsimp only; omega)) ?_
                    exact wv_L_law_1749 hl hG hX hret k n (by omega) (by omega) (fun z0 z1 z2 z3 ζ hz => ih _ _ (by omega) (by omega) z0 z1 z2 z3 ζ hz) _ _ _ _ _ h
                  · replace h := h.2 c
                    refine V_aload_n (v := .ref v3) hG dL_law_1737 rfl rfl ?_
                    refine V_iconst (v := 0) hG (by decide) dL_law_1738 ?_
                    obtain ⟨ha, j238, hi, hj, h⟩ := h
                    refine V_lald hG dL_law_1739 ha hi hj ?_
                    refine V_iload hG dL_law_1740 rfl ?_
                    refine V_i2l hG dL_law_1742 ?_
                    refine V_lcmp hG dL_law_1743 ?_
                    refine V_if_eq (tgt := 1749) hG dL_law_1744 (by decide) (fun c => ?_) (fun c => ?_)
                    · replace h := h.1 c
                      refine V_forget (lo' := [some (.ref 25), some (.ref v1), some (.ref v2), some (.ref v3), some (.int v4), none, none]) ⟨rfl, ⟨rfl, ⟨rfl, ⟨rfl, ⟨rfl, trivial⟩⟩⟩⟩⟩ ?_
                      refine V_widen (k' := k + 2) (n' := n + 12) (by first | exact Nat.le_of_ble_eq_true rfl | omega | (dsimp only; omega)) (by first | exact Nat.le_of_ble_eq_true rfl | omega | (dsimp only; omega)) ?_
                      exact wv_L_law_1749 hl hG hX hret k n (by omega) (by omega) (fun z0 z1 z2 z3 ζ hz => ih _ _ (by omega) (by omega) z0 z1 z2 z3 ζ hz) _ _ _ _ _ h
                    · replace h := h.2 c
                      refine V_iconst (v := 0) hG (by decide) dL_law_1747 ?_
                      exact law1 hret dL_law_1748 h (by first | exact Nat.le_of_ble_eq_true rfl | omega | (dsimp only; omega)) (by first | exact Nat.le_of_ble_eq_true rfl | omega | (dsimp only; omega))
                · replace h := h.2 c
                  refine V_iconst (v := 0) hG (by decide) dL_law_1730 ?_
                  exact law1 hret dL_law_1731 h (by first | exact Nat.le_of_ble_eq_true rfl | omega | (dsimp only; omega)) (by first | exact Nat.le_of_ble_eq_true rfl | omega | (dsimp only; omega))
        · replace h := h.2.2.2.2.2.2.2.2.2.2.2.2.2.2.2.2.2.2.2.2.2.2.2.1 c
          refine V_top (congrArg Value.int c) ?_
          refine V_swIn (tgt := 1752) (off := 1712) hG dL_law_40 (by decide) (by decide) (by decide) (by decide) ?_
          refine V_aload_n (v := .ref v1) hG dL_law_1752 rfl rfl ?_
          refine V_aload_n (v := .ref 25) hG dL_law_1753 rfl rfl ?_
          refine V_iload hG dL_law_1754 rfl ?_
          refine V_iconst (v := 1) hG (by decide) dL_law_1756 ?_
          refine V_iadd hG dL_law_1757 ?_
          obtain ⟨j239, hi, hj, h⟩ := h
          refine V_sld hG hX dL_law_1758 hi hj ?_
          refine V_aload_n (v := .ref 25) hG dL_law_1759 rfl rfl ?_
          refine V_iload hG dL_law_1760 rfl ?_
          refine V_iconst (v := 2) hG (by decide) dL_law_1762 ?_
          refine V_iadd hG dL_law_1763 ?_
          obtain ⟨j240, hi, hj, h⟩ := h
          refine V_sld hG hX dL_law_1764 hi hj ?_
          refine V_aload_n (v := .ref v3) hG dL_law_1765 rfl rfl ?_
          refine V_cXI _ _ hG dL_law_1766 (ct_L_parent hl h) mv_L_parent ml_L_211 rfl rfl (by first | exact Nat.le_of_ble_eq_true rfl | (simp only [List.map_cons, List.map_nil, List.sum_cons, List.sum_nil, cat_rf]; exact Nat.le_of_ble_eq_true rfl)) (by first | exact Nat.le_of_ble_eq_true rfl | omega | (dsimp only; omega)) (by first | exact Nat.le_of_ble_eq_true rfl | omega | (dsimp only; omega)) (by first | exact Nat.le_of_ble_eq_true rfl | omega | (dsimp only; omega)) (by first | exact Nat.le_of_ble_eq_true rfl | omega | (dsimp only; omega)) ?_ (fun x242 σ241 h9 => ?_)
          · exact fun _ _ hx => hx.elim
          · replace h := h9
            clear h9
            refine V_istore hG dL_law_1769 (Nat.le_of_ble_eq_true rfl) (hpV rfl rfl) ?_
            refine V_aload_n (v := .ref v2) hG dL_law_1771 rfl rfl ?_
            refine V_aload_n (v := .ref 25) hG dL_law_1772 rfl rfl ?_
            refine V_iload hG dL_law_1773 rfl ?_
            refine V_iconst (v := 1) hG (by decide) dL_law_1775 ?_
            refine V_iadd hG dL_law_1776 ?_
            obtain ⟨j243, hi, hj, h⟩ := h
            refine V_sld hG hX dL_law_1777 hi hj ?_
            refine V_aload_n (v := .ref 25) hG dL_law_1778 rfl rfl ?_
            refine V_iload hG dL_law_1779 rfl ?_
            refine V_iconst (v := 2) hG (by decide) dL_law_1781 ?_
            refine V_iadd hG dL_law_1782 ?_
            obtain ⟨j244, hi, hj, h⟩ := h
            refine V_sld hG hX dL_law_1783 hi hj ?_
            obtain ⟨ht, h⟩ := h
            refine V_cVI _ _ hG dL_law_1784 (ct_X10_parent hl h) mv_X10_parent ml_L_213 ht rfl rfl rfl rfl (by first | exact Nat.le_of_ble_eq_true rfl | (simp only [List.map_cons, List.map_nil, List.sum_cons, List.sum_nil, cat_rf]; exact Nat.le_of_ble_eq_true rfl)) (by first | exact Nat.le_of_ble_eq_true rfl | omega | (dsimp only; omega)) (by first | exact Nat.le_of_ble_eq_true rfl | omega | (dsimp only; omega)) (by first | exact Nat.le_of_ble_eq_true rfl | omega | (dsimp only; omega)) (by first | exact Nat.le_of_ble_eq_true rfl | omega | (dsimp only; omega)) ?_ (fun x246 σ245 h9 => ?_)
            · exact fun _ _ hx => hx.elim
            · replace h := h9
              clear h9
              refine V_istore hG dL_law_1787 (Nat.le_of_ble_eq_true rfl) (hpV rfl rfl) ?_
              refine V_aload_n (v := .ref v2) hG dL_law_1789 rfl rfl ?_
              obtain ⟨ht, h⟩ := h
              refine V_cVI _ _ hG dL_law_1790 (ct_X10_thrown hl h) mv_X10_thrown ml_L_131 ht rfl rfl rfl rfl (by first | exact Nat.le_of_ble_eq_true rfl | (simp only [List.map_cons, List.map_nil, List.sum_cons, List.sum_nil, cat_rf]; exact Nat.le_of_ble_eq_true rfl)) (by first | exact Nat.le_of_ble_eq_true rfl | omega | (dsimp only; omega)) (by first | exact Nat.le_of_ble_eq_true rfl | omega | (dsimp only; omega)) (by first | exact Nat.le_of_ble_eq_true rfl | omega | (dsimp only; omega)) (by first | exact Nat.le_of_ble_eq_true rfl | omega | (dsimp only; omega)) ?_ (fun x248 σ247 h9 => ?_)
              · exact fun _ _ hx => hx.elim
              · replace h := h9
                clear h9
                refine V_iload hG dL_law_1793 rfl ?_
                refine V_icmp_eq (tgt := 1800) hG dL_law_1795 (by decide) (fun c => ?_) (fun c => ?_)
                · replace h := h.1 c
                  refine V_iload hG dL_law_1800 rfl ?_
                  refine V_if_ne (tgt := 1817) hG dL_law_1802 (by decide) (fun c => ?_) (fun c => ?_)
                  · replace h := h.1 c
                    refine V_forget (lo' := [some (.ref 25), some (.ref v1), some (.ref v2), some (.ref v3), some (.int v4), none, none]) ⟨rfl, ⟨rfl, ⟨rfl, ⟨rfl, ⟨rfl, trivial⟩⟩⟩⟩⟩ ?_
                    refine V_widen (k' := k + 2) (n' := n + 12) (by first | exact Nat.le_of_ble_eq_true rfl | omega | (dsimp only; omega)) (by first | exact Nat.le_of_ble_eq_true rfl | omega | (dsimp only; omega)) ?_
                    exact wv_L_law_1817 hl hG hX hret k n (by omega) (by omega) (fun z0 z1 z2 z3 ζ hz => ih _ _ (by omega) (by omega) z0 z1 z2 z3 ζ hz) _ _ _ _ _ h
                  · replace h := h.2 c
                    refine V_aload_n (v := .ref v3) hG dL_law_1805 rfl rfl ?_
                    refine V_iconst (v := 0) hG (by decide) dL_law_1806 ?_
                    obtain ⟨ha, j249, hi, hj, h⟩ := h
                    refine V_lald hG dL_law_1807 ha hi hj ?_
                    refine V_iload hG dL_law_1808 rfl ?_
                    refine V_i2l hG dL_law_1810 ?_
                    refine V_lcmp hG dL_law_1811 ?_
                    refine V_if_eq (tgt := 1817) hG dL_law_1812 (by decide) (fun c => ?_) (fun c => ?_)
                    · replace h := h.1 c
                      refine V_forget (lo' := [some (.ref 25), some (.ref v1), some (.ref v2), some (.ref v3), some (.int v4), none, none]) ⟨rfl, ⟨rfl, ⟨rfl, ⟨rfl, ⟨rfl, trivial⟩⟩⟩⟩⟩ ?_
                      refine V_widen (k' := k + 2) (n' := n + 12) (by first | exact Nat.le_of_ble_eq_true rfl | omega | (dsimp only; omega)) (by first | exact Nat.le_of_ble_eq_true rfl | omega | (dsimp only; omega)) ?_
                      exact wv_L_law_1817 hl hG hX hret k n (by omega) (by omega) (fun z0 z1 z2 z3 ζ hz => ih _ _ (by omega) (by omega) z0 z1 z2 z3 ζ hz) _ _ _ _ _ h
                    · replace h := h.2 c
                      refine V_iconst (v := 0) hG (by decide) dL_law_1815 ?_
                      exact law1 hret dL_law_1816 h (by first | exact Nat.le_of_ble_eq_true rfl | omega | (dsimp only; omega)) (by first | exact Nat.le_of_ble_eq_true rfl | omega | (dsimp only; omega))
                · replace h := h.2 c
                  refine V_iconst (v := 0) hG (by decide) dL_law_1798 ?_
                  exact law1 hret dL_law_1799 h (by first | exact Nat.le_of_ble_eq_true rfl | omega | (dsimp only; omega)) (by first | exact Nat.le_of_ble_eq_true rfl | omega | (dsimp only; omega))
        · replace h := h.2.2.2.2.2.2.2.2.2.2.2.2.2.2.2.2.2.2.2.2.2.2.2.2.1 c
          refine V_top (congrArg Value.int c) ?_
          refine V_swIn (tgt := 1820) (off := 1780) hG dL_law_40 (by decide) (by decide) (by decide) (by decide) ?_
          refine V_aload_n (v := .ref v1) hG dL_law_1820 rfl rfl ?_
          refine V_aload_n (v := .ref 25) hG dL_law_1821 rfl rfl ?_
          refine V_iload hG dL_law_1822 rfl ?_
          refine V_iconst (v := 1) hG (by decide) dL_law_1824 ?_
          refine V_iadd hG dL_law_1825 ?_
          obtain ⟨j250, hi, hj, h⟩ := h
          refine V_sld hG hX dL_law_1826 hi hj ?_
          refine V_aload_n (v := .ref 25) hG dL_law_1827 rfl rfl ?_
          refine V_iload hG dL_law_1828 rfl ?_
          refine V_iconst (v := 2) hG (by decide) dL_law_1830 ?_
          refine V_iadd hG dL_law_1831 ?_
          obtain ⟨j251, hi, hj, h⟩ := h
          refine V_sld hG hX dL_law_1832 hi hj ?_
          refine V_aload_n (v := .ref v3) hG dL_law_1833 rfl rfl ?_
          refine V_cXI _ _ hG dL_law_1834 (ct_L_origin hl h) mv_L_origin ml_L_214 rfl rfl (by first | exact Nat.le_of_ble_eq_true rfl | (simp only [List.map_cons, List.map_nil, List.sum_cons, List.sum_nil, cat_rf]; exact Nat.le_of_ble_eq_true rfl)) (by first | exact Nat.le_of_ble_eq_true rfl | omega | (dsimp only; omega)) (by first | exact Nat.le_of_ble_eq_true rfl | omega | (dsimp only; omega)) (by first | exact Nat.le_of_ble_eq_true rfl | omega | (dsimp only; omega)) (by first | exact Nat.le_of_ble_eq_true rfl | omega | (dsimp only; omega)) ?_ (fun x253 σ252 h9 => ?_)
          · exact fun _ _ hx => hx.elim
          · replace h := h9
            clear h9
            refine V_istore hG dL_law_1837 (Nat.le_of_ble_eq_true rfl) (hpV rfl rfl) ?_
            refine V_aload_n (v := .ref v2) hG dL_law_1839 rfl rfl ?_
            refine V_aload_n (v := .ref 25) hG dL_law_1840 rfl rfl ?_
            refine V_iload hG dL_law_1841 rfl ?_
            refine V_iconst (v := 1) hG (by decide) dL_law_1843 ?_
            refine V_iadd hG dL_law_1844 ?_
            obtain ⟨j254, hi, hj, h⟩ := h
            refine V_sld hG hX dL_law_1845 hi hj ?_
            refine V_aload_n (v := .ref 25) hG dL_law_1846 rfl rfl ?_
            refine V_iload hG dL_law_1847 rfl ?_
            refine V_iconst (v := 2) hG (by decide) dL_law_1849 ?_
            refine V_iadd hG dL_law_1850 ?_
            obtain ⟨j255, hi, hj, h⟩ := h
            refine V_sld hG hX dL_law_1851 hi hj ?_
            obtain ⟨ht, h⟩ := h
            refine V_cVI _ _ hG dL_law_1852 (ct_X10_origin hl h) mv_X10_origin ml_L_216 ht rfl rfl rfl rfl (by first | exact Nat.le_of_ble_eq_true rfl | (simp only [List.map_cons, List.map_nil, List.sum_cons, List.sum_nil, cat_rf]; exact Nat.le_of_ble_eq_true rfl)) (by first | exact Nat.le_of_ble_eq_true rfl | omega | (dsimp only; omega)) (by first | exact Nat.le_of_ble_eq_true rfl | omega | (dsimp only; omega)) (by first | exact Nat.le_of_ble_eq_true rfl | omega | (dsimp only; omega)) (by first | exact Nat.le_of_ble_eq_true rfl | omega | (dsimp only; omega)) ?_ (fun x257 σ256 h9 => ?_)
            · exact fun _ _ hx => hx.elim
            · replace h := h9
              clear h9
              refine V_istore hG dL_law_1855 (Nat.le_of_ble_eq_true rfl) (hpV rfl rfl) ?_
              refine V_aload_n (v := .ref v2) hG dL_law_1857 rfl rfl ?_
              obtain ⟨ht, h⟩ := h
              refine V_cVI _ _ hG dL_law_1858 (ct_X10_thrown hl h) mv_X10_thrown ml_L_131 ht rfl rfl rfl rfl (by first | exact Nat.le_of_ble_eq_true rfl | (simp only [List.map_cons, List.map_nil, List.sum_cons, List.sum_nil, cat_rf]; exact Nat.le_of_ble_eq_true rfl)) (by first | exact Nat.le_of_ble_eq_true rfl | omega | (dsimp only; omega)) (by first | exact Nat.le_of_ble_eq_true rfl | omega | (dsimp only; omega)) (by first | exact Nat.le_of_ble_eq_true rfl | omega | (dsimp only; omega)) (by first | exact Nat.le_of_ble_eq_true rfl | omega | (dsimp only; omega)) ?_ (fun x259 σ258 h9 => ?_)
              · exact fun _ _ hx => hx.elim
              · replace h := h9
                clear h9
                refine V_iload hG dL_law_1861 rfl ?_
                refine V_icmp_eq (tgt := 1868) hG dL_law_1863 (by decide) (fun c => ?_) (fun c => ?_)
                · replace h := h.1 c
                  refine V_iload hG dL_law_1868 rfl ?_
                  refine V_if_ne (tgt := 1885) hG dL_law_1870 (by decide) (fun c => ?_) (fun c => ?_)
                  · replace h := h.1 c
                    refine V_forget (lo' := [some (.ref 25), some (.ref v1), some (.ref v2), some (.ref v3), some (.int v4), none, none]) ⟨rfl, ⟨rfl, ⟨rfl, ⟨rfl, ⟨rfl, trivial⟩⟩⟩⟩⟩ ?_
                    refine V_widen (k' := k + 2) (n' := n + 12) (by first | exact Nat.le_of_ble_eq_true rfl | omega | (dsimp only; omega)) (by first | exact Nat.le_of_ble_eq_true rfl | omega | (dsimp only; omega)) ?_
                    exact wv_L_law_1885 hl hG hX hret k n (by omega) (by omega) (fun z0 z1 z2 z3 ζ hz => ih _ _ (by omega) (by omega) z0 z1 z2 z3 ζ hz) _ _ _ _ _ h
                  · replace h := h.2 c
                    refine V_aload_n (v := .ref v3) hG dL_law_1873 rfl rfl ?_
                    refine V_iconst (v := 0) hG (by decide) dL_law_1874 ?_
                    obtain ⟨ha, j260, hi, hj, h⟩ := h
                    refine V_lald hG dL_law_1875 ha hi hj ?_
                    refine V_iload hG dL_law_1876 rfl ?_
                    refine V_i2l hG dL_law_1878 ?_
                    refine V_lcmp hG dL_law_1879 ?_
                    refine V_if_eq (tgt := 1885) hG dL_law_1880 (by decide) (fun c => ?_) (fun c => ?_)
                    · replace h := h.1 c
                      refine V_forget (lo' := [some (.ref 25), some (.ref v1), some (.ref v2), some (.ref v3), some (.int v4), none, none]) ⟨rfl, ⟨rfl, ⟨rfl, ⟨rfl, ⟨rfl, trivial⟩⟩⟩⟩⟩ ?_
                      refine V_widen (k' := k + 2) (n' := n + 12) (by first | exact Nat.le_of_ble_eq_true rfl | omega | (dsimp only; omega)) (by first | exact Nat.le_of_ble_eq_true rfl | omega | (dsimp only; omega)) ?_
                      exact wv_L_law_1885 hl hG hX hret k n (by omega) (by omega) (fun z0 z1 z2 z3 ζ hz => ih _ _ (by omega) (by omega) z0 z1 z2 z3 ζ hz) _ _ _ _ _ h
                    · replace h := h.2 c
                      refine V_iconst (v := 0) hG (by decide) dL_law_1883 ?_
                      exact law1 hret dL_law_1884 h (by first | exact Nat.le_of_ble_eq_true rfl | omega | (dsimp only; omega)) (by first | exact Nat.le_of_ble_eq_true rfl | omega | (dsimp only; omega))
                · replace h := h.2 c
                  refine V_iconst (v := 0) hG (by decide) dL_law_1866 ?_
                  exact law1 hret dL_law_1867 h (by first | exact Nat.le_of_ble_eq_true rfl | omega | (dsimp only; omega)) (by first | exact Nat.le_of_ble_eq_true rfl | omega | (dsimp only; omega))
        · replace h := h.2.2.2.2.2.2.2.2.2.2.2.2.2.2.2.2.2.2.2.2.2.2.2.2.2.1 c
          refine V_top (congrArg Value.int c) ?_
          refine V_swIn (tgt := 1888) (off := 1848) hG dL_law_40 (by decide) (by decide) (by decide) (by decide) ?_
          refine V_aload_n (v := .ref v1) hG dL_law_1888 rfl rfl ?_
          refine V_aload_n (v := .ref 25) hG dL_law_1889 rfl rfl ?_
          refine V_iload hG dL_law_1890 rfl ?_
          refine V_iconst (v := 1) hG (by decide) dL_law_1892 ?_
          refine V_iadd hG dL_law_1893 ?_
          obtain ⟨j261, hi, hj, h⟩ := h
          refine V_sld hG hX dL_law_1894 hi hj ?_
          refine V_aload_n (v := .ref 25) hG dL_law_1895 rfl rfl ?_
          refine V_iload hG dL_law_1896 rfl ?_
          refine V_iconst (v := 2) hG (by decide) dL_law_1898 ?_
          refine V_iadd hG dL_law_1899 ?_
          obtain ⟨j262, hi, hj, h⟩ := h
          refine V_sld hG hX dL_law_1900 hi hj ?_
          refine V_aload_n (v := .ref v3) hG dL_law_1901 rfl rfl ?_
          refine V_cXI _ _ hG dL_law_1902 (ct_L_machine hl h) mv_L_machine ml_L_217 rfl rfl (by first | exact Nat.le_of_ble_eq_true rfl | (simp only [List.map_cons, List.map_nil, List.sum_cons, List.sum_nil, cat_rf]; exact Nat.le_of_ble_eq_true rfl)) (by first | exact Nat.le_of_ble_eq_true rfl | omega | (dsimp only; omega)) (by first | exact Nat.le_of_ble_eq_true rfl | omega | (dsimp only; omega)) (by first | exact Nat.le_of_ble_eq_true rfl | omega | (dsimp only; omega)) (by first | exact Nat.le_of_ble_eq_true rfl | omega | (dsimp only; omega)) ?_ (fun x264 σ263 h9 => ?_)
          · exact fun _ _ hx => hx.elim
          · replace h := h9
            clear h9
            refine V_istore hG dL_law_1905 (Nat.le_of_ble_eq_true rfl) (hpV rfl rfl) ?_
            refine V_aload_n (v := .ref v2) hG dL_law_1907 rfl rfl ?_
            refine V_aload_n (v := .ref 25) hG dL_law_1908 rfl rfl ?_
            refine V_iload hG dL_law_1909 rfl ?_
            refine V_iconst (v := 1) hG (by decide) dL_law_1911 ?_
            refine V_iadd hG dL_law_1912 ?_
            obtain ⟨j265, hi, hj, h⟩ := h
            refine V_sld hG hX dL_law_1913 hi hj ?_
            refine V_aload_n (v := .ref 25) hG dL_law_1914 rfl rfl ?_
            refine V_iload hG dL_law_1915 rfl ?_
            refine V_iconst (v := 2) hG (by decide) dL_law_1917 ?_
            refine V_iadd hG dL_law_1918 ?_
            obtain ⟨j266, hi, hj, h⟩ := h
            refine V_sld hG hX dL_law_1919 hi hj ?_
            obtain ⟨ht, h⟩ := h
            refine V_cVI _ _ hG dL_law_1920 (ct_X10_machine hl h) mv_X10_machine ml_L_219 ht rfl rfl rfl rfl (by first | exact Nat.le_of_ble_eq_true rfl | (simp only [List.map_cons, List.map_nil, List.sum_cons, List.sum_nil, cat_rf]; exact Nat.le_of_ble_eq_true rfl)) (by first | exact Nat.le_of_ble_eq_true rfl | omega | (dsimp only; omega)) (by first | exact Nat.le_of_ble_eq_true rfl | omega | (dsimp only; omega)) (by first | exact Nat.le_of_ble_eq_true rfl | omega | (dsimp only; omega)) (by first | exact Nat.le_of_ble_eq_true rfl | omega | (dsimp only; omega)) ?_ (fun x268 σ267 h9 => ?_)
            · exact fun _ _ hx => hx.elim
            · replace h := h9
              clear h9
              refine V_istore hG dL_law_1923 (Nat.le_of_ble_eq_true rfl) (hpV rfl rfl) ?_
              refine V_aload_n (v := .ref v2) hG dL_law_1925 rfl rfl ?_
              obtain ⟨ht, h⟩ := h
              refine V_cVI _ _ hG dL_law_1926 (ct_X10_thrown hl h) mv_X10_thrown ml_L_131 ht rfl rfl rfl rfl (by first | exact Nat.le_of_ble_eq_true rfl | (simp only [List.map_cons, List.map_nil, List.sum_cons, List.sum_nil, cat_rf]; exact Nat.le_of_ble_eq_true rfl)) (by first | exact Nat.le_of_ble_eq_true rfl | omega | (dsimp only; omega)) (by first | exact Nat.le_of_ble_eq_true rfl | omega | (dsimp only; omega)) (by first | exact Nat.le_of_ble_eq_true rfl | omega | (dsimp only; omega)) (by first | exact Nat.le_of_ble_eq_true rfl | omega | (dsimp only; omega)) ?_ (fun x270 σ269 h9 => ?_)
              · exact fun _ _ hx => hx.elim
              · replace h := h9
                clear h9
                refine V_iload hG dL_law_1929 rfl ?_
                refine V_icmp_eq (tgt := 1936) hG dL_law_1931 (by decide) (fun c => ?_) (fun c => ?_)
                · replace h := h.1 c
                  refine V_iload hG dL_law_1936 rfl ?_
                  refine V_if_ne (tgt := 1953) hG dL_law_1938 (by decide) (fun c => ?_) (fun c => ?_)
                  · replace h := h.1 c
                    refine V_forget (lo' := [some (.ref 25), some (.ref v1), some (.ref v2), some (.ref v3), some (.int v4), none, none]) ⟨rfl, ⟨rfl, ⟨rfl, ⟨rfl, ⟨rfl, trivial⟩⟩⟩⟩⟩ ?_
                    refine V_widen (k' := k + 2) (n' := n + 12) (by first | exact Nat.le_of_ble_eq_true rfl | omega | (dsimp only; omega)) (by first | exact Nat.le_of_ble_eq_true rfl | omega | (dsimp only; omega)) ?_
                    exact wv_L_law_1953 hl hG hX hret k n (by omega) (by omega) (fun z0 z1 z2 z3 ζ hz => ih _ _ (by omega) (by omega) z0 z1 z2 z3 ζ hz) _ _ _ _ _ h
                  · replace h := h.2 c
                    refine V_aload_n (v := .ref v3) hG dL_law_1941 rfl rfl ?_
                    refine V_iconst (v := 0) hG (by decide) dL_law_1942 ?_
                    obtain ⟨ha, j271, hi, hj, h⟩ := h
                    refine V_lald hG dL_law_1943 ha hi hj ?_
                    refine V_iload hG dL_law_1944 rfl ?_
                    refine V_i2l hG dL_law_1946 ?_
                    refine V_lcmp hG dL_law_1947 ?_
                    refine V_if_eq (tgt := 1953) hG dL_law_1948 (by decide) (fun c => ?_) (fun c => ?_)
                    · replace h := h.1 c
                      refine V_forget (lo' := [some (.ref 25), some (.ref v1), some (.ref v2), some (.ref v3), some (.int v4), none, none]) ⟨rfl, ⟨rfl, ⟨rfl, ⟨rfl, ⟨rfl, trivial⟩⟩⟩⟩⟩ ?_
                      refine V_widen (k' := k + 2) (n' := n + 12) (by first | exact Nat.le_of_ble_eq_true rfl | omega | (dsimp only; omega)) (by first | exact Nat.le_of_ble_eq_true rfl | omega | (dsimp only; omega)) ?_
                      exact wv_L_law_1953 hl hG hX hret k n (by omega) (by omega) (fun z0 z1 z2 z3 ζ hz => ih _ _ (by omega) (by omega) z0 z1 z2 z3 ζ hz) _ _ _ _ _ h
                    · replace h := h.2 c
                      refine V_iconst (v := 0) hG (by decide) dL_law_1951 ?_
                      exact law1 hret dL_law_1952 h (by first | exact Nat.le_of_ble_eq_true rfl | omega | (dsimp only; omega)) (by first | exact Nat.le_of_ble_eq_true rfl | omega | (dsimp only; omega))
                · replace h := h.2 c
                  refine V_iconst (v := 0) hG (by decide) dL_law_1934 ?_
                  exact law1 hret dL_law_1935 h (by first | exact Nat.le_of_ble_eq_true rfl | omega | (dsimp only; omega)) (by first | exact Nat.le_of_ble_eq_true rfl | omega | (dsimp only; omega))
        · replace h := h.2.2.2.2.2.2.2.2.2.2.2.2.2.2.2.2.2.2.2.2.2.2.2.2.2.2.1 c
          refine V_top (congrArg Value.int c) ?_
          refine V_swIn (tgt := 1956) (off := 1916) hG dL_law_40 (by decide) (by decide) (by decide) (by decide) ?_
          refine V_aload_n (v := .ref v1) hG dL_law_1956 rfl rfl ?_
          refine V_aload_n (v := .ref 25) hG dL_law_1957 rfl rfl ?_
          refine V_iload hG dL_law_1958 rfl ?_
          refine V_iconst (v := 1) hG (by decide) dL_law_1960 ?_
          refine V_iadd hG dL_law_1961 ?_
          obtain ⟨j272, hi, hj, h⟩ := h
          refine V_sld hG hX dL_law_1962 hi hj ?_
          refine V_aload_n (v := .ref 25) hG dL_law_1963 rfl rfl ?_
          refine V_iload hG dL_law_1964 rfl ?_
          refine V_iconst (v := 2) hG (by decide) dL_law_1966 ?_
          refine V_iadd hG dL_law_1967 ?_
          obtain ⟨j273, hi, hj, h⟩ := h
          refine V_sld hG hX dL_law_1968 hi hj ?_
          refine V_aload_n (v := .ref v3) hG dL_law_1969 rfl rfl ?_
          refine V_cXI _ _ hG dL_law_1970 (ct_L_level hl h) mv_L_level ml_L_220 rfl rfl (by first | exact Nat.le_of_ble_eq_true rfl | (simp only [List.map_cons, List.map_nil, List.sum_cons, List.sum_nil, cat_rf]; exact Nat.le_of_ble_eq_true rfl)) (by first | exact Nat.le_of_ble_eq_true rfl | omega | (dsimp only; omega)) (by first | exact Nat.le_of_ble_eq_true rfl | omega | (dsimp only; omega)) (by first | exact Nat.le_of_ble_eq_true rfl | omega | (dsimp only; omega)) (by first | exact Nat.le_of_ble_eq_true rfl | omega | (dsimp only; omega)) ?_ (fun x275 σ274 h9 => ?_)
          · exact fun _ _ hx => hx.elim
          · replace h := h9
            clear h9
            refine V_istore hG dL_law_1973 (Nat.le_of_ble_eq_true rfl) (hpV rfl rfl) ?_
            refine V_aload_n (v := .ref v2) hG dL_law_1975 rfl rfl ?_
            refine V_aload_n (v := .ref 25) hG dL_law_1976 rfl rfl ?_
            refine V_iload hG dL_law_1977 rfl ?_
            refine V_iconst (v := 1) hG (by decide) dL_law_1979 ?_
            refine V_iadd hG dL_law_1980 ?_
            obtain ⟨j276, hi, hj, h⟩ := h
            refine V_sld hG hX dL_law_1981 hi hj ?_
            refine V_aload_n (v := .ref 25) hG dL_law_1982 rfl rfl ?_
            refine V_iload hG dL_law_1983 rfl ?_
            refine V_iconst (v := 2) hG (by decide) dL_law_1985 ?_
            refine V_iadd hG dL_law_1986 ?_
            obtain ⟨j277, hi, hj, h⟩ := h
            refine V_sld hG hX dL_law_1987 hi hj ?_
            obtain ⟨ht, h⟩ := h
            refine V_cVI _ _ hG dL_law_1988 (ct_X10_level hl h) mv_X10_level ml_L_222 ht rfl rfl rfl rfl (by first | exact Nat.le_of_ble_eq_true rfl | (simp only [List.map_cons, List.map_nil, List.sum_cons, List.sum_nil, cat_rf]; exact Nat.le_of_ble_eq_true rfl)) (by first | exact Nat.le_of_ble_eq_true rfl | omega | (dsimp only; omega)) (by first | exact Nat.le_of_ble_eq_true rfl | omega | (dsimp only; omega)) (by first | exact Nat.le_of_ble_eq_true rfl | omega | (dsimp only; omega)) (by first | exact Nat.le_of_ble_eq_true rfl | omega | (dsimp only; omega)) ?_ (fun x279 σ278 h9 => ?_)
            · exact fun _ _ hx => hx.elim
            · replace h := h9
              clear h9
              refine V_istore hG dL_law_1991 (Nat.le_of_ble_eq_true rfl) (hpV rfl rfl) ?_
              refine V_aload_n (v := .ref v2) hG dL_law_1993 rfl rfl ?_
              obtain ⟨ht, h⟩ := h
              refine V_cVI _ _ hG dL_law_1994 (ct_X10_thrown hl h) mv_X10_thrown ml_L_131 ht rfl rfl rfl rfl (by first | exact Nat.le_of_ble_eq_true rfl | (simp only [List.map_cons, List.map_nil, List.sum_cons, List.sum_nil, cat_rf]; exact Nat.le_of_ble_eq_true rfl)) (by first | exact Nat.le_of_ble_eq_true rfl | omega | (dsimp only; omega)) (by first | exact Nat.le_of_ble_eq_true rfl | omega | (dsimp only; omega)) (by first | exact Nat.le_of_ble_eq_true rfl | omega | (dsimp only; omega)) (by first | exact Nat.le_of_ble_eq_true rfl | omega | (dsimp only; omega)) ?_ (fun x281 σ280 h9 => ?_)
              · exact fun _ _ hx => hx.elim
              · replace h := h9
                clear h9
                refine V_iload hG dL_law_1997 rfl ?_
                refine V_icmp_eq (tgt := 2004) hG dL_law_1999 (by decide) (fun c => ?_) (fun c => ?_)
                · replace h := h.1 c
                  refine V_iload hG dL_law_2004 rfl ?_
                  refine V_if_ne (tgt := 2021) hG dL_law_2006 (by decide) (fun c => ?_) (fun c => ?_)
                  · replace h := h.1 c
                    refine V_forget (lo' := [some (.ref 25), some (.ref v1), some (.ref v2), some (.ref v3), some (.int v4), none, none]) ⟨rfl, ⟨rfl, ⟨rfl, ⟨rfl, ⟨rfl, trivial⟩⟩⟩⟩⟩ ?_
                    refine V_widen (k' := k + 2) (n' := n + 12) (by first | exact Nat.le_of_ble_eq_true rfl | omega | (dsimp only; omega)) (by first | exact Nat.le_of_ble_eq_true rfl | omega | (dsimp only; omega)) ?_
                    exact wv_L_law_2021 hl hG hX hret k n (by omega) (by omega) (fun z0 z1 z2 z3 ζ hz => ih _ _ (by omega) (by omega) z0 z1 z2 z3 ζ hz) _ _ _ _ _ h
                  · replace h := h.2 c
                    refine V_aload_n (v := .ref v3) hG dL_law_2009 rfl rfl ?_
                    refine V_iconst (v := 0) hG (by decide) dL_law_2010 ?_
                    obtain ⟨ha, j282, hi, hj, h⟩ := h
                    refine V_lald hG dL_law_2011 ha hi hj ?_
                    refine V_iload hG dL_law_2012 rfl ?_
                    refine V_i2l hG dL_law_2014 ?_
                    refine V_lcmp hG dL_law_2015 ?_
                    refine V_if_eq (tgt := 2021) hG dL_law_2016 (by decide) (fun c => ?_) (fun c => ?_)
                    · replace h := h.1 c
                      refine V_forget (lo' := [some (.ref 25), some (.ref v1), some (.ref v2), some (.ref v3), some (.int v4), none, none]) ⟨rfl, ⟨rfl, ⟨rfl, ⟨rfl, ⟨rfl, trivial⟩⟩⟩⟩⟩ ?_
                      refine V_widen (k' := k + 2) (n' := n + 12) (by first | exact Nat.le_of_ble_eq_true rfl | omega | (dsimp only; omega)) (by first | exact Nat.le_of_ble_eq_true rfl | omega | (dsimp only; omega)) ?_
                      exact wv_L_law_2021 hl hG hX hret k n (by omega) (by omega) (fun z0 z1 z2 z3 ζ hz => ih _ _ (by omega) (by omega) z0 z1 z2 z3 ζ hz) _ _ _ _ _ h
                    · replace h := h.2 c
                      refine V_iconst (v := 0) hG (by decide) dL_law_2019 ?_
                      exact law1 hret dL_law_2020 h (by first | exact Nat.le_of_ble_eq_true rfl | omega | (dsimp only; omega)) (by first | exact Nat.le_of_ble_eq_true rfl | omega | (dsimp only; omega))
                · replace h := h.2 c
                  refine V_iconst (v := 0) hG (by decide) dL_law_2002 ?_
                  exact law1 hret dL_law_2003 h (by first | exact Nat.le_of_ble_eq_true rfl | omega | (dsimp only; omega)) (by first | exact Nat.le_of_ble_eq_true rfl | omega | (dsimp only; omega))
        · replace h := h.2.2.2.2.2.2.2.2.2.2.2.2.2.2.2.2.2.2.2.2.2.2.2.2.2.2.2.1 c
          refine V_top (congrArg Value.int c) ?_
          refine V_swIn (tgt := 2024) (off := 1984) hG dL_law_40 (by decide) (by decide) (by decide) (by decide) ?_
          refine V_aload_n (v := .ref v1) hG dL_law_2024 rfl rfl ?_
          refine V_aload_n (v := .ref 25) hG dL_law_2025 rfl rfl ?_
          refine V_iload hG dL_law_2026 rfl ?_
          refine V_iconst (v := 1) hG (by decide) dL_law_2028 ?_
          refine V_iadd hG dL_law_2029 ?_
          obtain ⟨j283, hi, hj, h⟩ := h
          refine V_sld hG hX dL_law_2030 hi hj ?_
          refine V_aload_n (v := .ref v3) hG dL_law_2031 rfl rfl ?_
          refine V_cXI _ _ hG dL_law_2032 (ct_L_machineOf hl h) mv_L_machineOf ml_L_223 rfl rfl (by first | exact Nat.le_of_ble_eq_true rfl | (simp only [List.map_cons, List.map_nil, List.sum_cons, List.sum_nil, cat_rf]; exact Nat.le_of_ble_eq_true rfl)) (by first | exact Nat.le_of_ble_eq_true rfl | omega | (dsimp only; omega)) (by first | exact Nat.le_of_ble_eq_true rfl | omega | (dsimp only; omega)) (by first | exact Nat.le_of_ble_eq_true rfl | omega | (dsimp only; omega)) (by first | exact Nat.le_of_ble_eq_true rfl | omega | (dsimp only; omega)) ?_ (fun x285 σ284 h9 => ?_)
          · exact fun _ _ hx => hx.elim
          · replace h := h9
            clear h9
            refine V_istore hG dL_law_2035 (Nat.le_of_ble_eq_true rfl) (hpV rfl rfl) ?_
            refine V_aload_n (v := .ref v2) hG dL_law_2037 rfl rfl ?_
            refine V_aload_n (v := .ref 25) hG dL_law_2038 rfl rfl ?_
            refine V_iload hG dL_law_2039 rfl ?_
            refine V_iconst (v := 1) hG (by decide) dL_law_2041 ?_
            refine V_iadd hG dL_law_2042 ?_
            obtain ⟨j286, hi, hj, h⟩ := h
            refine V_sld hG hX dL_law_2043 hi hj ?_
            obtain ⟨ht, h⟩ := h
            refine V_cVI _ _ hG dL_law_2044 (ct_X10_machineOf hl h) mv_X10_machineOf ml_L_225 ht rfl rfl rfl rfl (by first | exact Nat.le_of_ble_eq_true rfl | (simp only [List.map_cons, List.map_nil, List.sum_cons, List.sum_nil, cat_rf]; exact Nat.le_of_ble_eq_true rfl)) (by first | exact Nat.le_of_ble_eq_true rfl | omega | (dsimp only; omega)) (by first | exact Nat.le_of_ble_eq_true rfl | omega | (dsimp only; omega)) (by first | exact Nat.le_of_ble_eq_true rfl | omega | (dsimp only; omega)) (by first | exact Nat.le_of_ble_eq_true rfl | omega | (dsimp only; omega)) ?_ (fun x288 σ287 h9 => ?_)
            · exact fun _ _ hx => hx.elim
            · replace h := h9
              clear h9
              refine V_istore hG dL_law_2047 (Nat.le_of_ble_eq_true rfl) (hpV rfl rfl) ?_
              refine V_aload_n (v := .ref v2) hG dL_law_2049 rfl rfl ?_
              obtain ⟨ht, h⟩ := h
              refine V_cVI _ _ hG dL_law_2050 (ct_X10_thrown hl h) mv_X10_thrown ml_L_131 ht rfl rfl rfl rfl (by first | exact Nat.le_of_ble_eq_true rfl | (simp only [List.map_cons, List.map_nil, List.sum_cons, List.sum_nil, cat_rf]; exact Nat.le_of_ble_eq_true rfl)) (by first | exact Nat.le_of_ble_eq_true rfl | omega | (dsimp only; omega)) (by first | exact Nat.le_of_ble_eq_true rfl | omega | (dsimp only; omega)) (by first | exact Nat.le_of_ble_eq_true rfl | omega | (dsimp only; omega)) (by first | exact Nat.le_of_ble_eq_true rfl | omega | (dsimp only; omega)) ?_ (fun x290 σ289 h9 => ?_)
              · exact fun _ _ hx => hx.elim
              · replace h := h9
                clear h9
                refine V_iload hG dL_law_2053 rfl ?_
                refine V_icmp_eq (tgt := 2060) hG dL_law_2055 (by decide) (fun c => ?_) (fun c => ?_)
                · replace h := h.1 c
                  refine V_iload hG dL_law_2060 rfl ?_
                  refine V_if_ne (tgt := 2077) hG dL_law_2062 (by decide) (fun c => ?_) (fun c => ?_)
                  · replace h := h.1 c
                    refine V_forget (lo' := [some (.ref 25), some (.ref v1), some (.ref v2), some (.ref v3), some (.int v4), none, none]) ⟨rfl, ⟨rfl, ⟨rfl, ⟨rfl, ⟨rfl, trivial⟩⟩⟩⟩⟩ ?_
                    refine V_widen (k' := k + 1) (n' := n + 6) (by first | exact Nat.le_of_ble_eq_true rfl | omega | (dsimp only; omega)) (by first | exact Nat.le_of_ble_eq_true rfl | omega | (dsimp only; omega)) ?_
                    exact wv_L_law_2077 hl hG hX hret k n (by omega) (by omega) (fun z0 z1 z2 z3 ζ hz => ih _ _ (by omega) (by omega) z0 z1 z2 z3 ζ hz) _ _ _ _ _ h
                  · replace h := h.2 c
                    refine V_aload_n (v := .ref v3) hG dL_law_2065 rfl rfl ?_
                    refine V_iconst (v := 0) hG (by decide) dL_law_2066 ?_
                    obtain ⟨ha, j291, hi, hj, h⟩ := h
                    refine V_lald hG dL_law_2067 ha hi hj ?_
                    refine V_iload hG dL_law_2068 rfl ?_
                    refine V_i2l hG dL_law_2070 ?_
                    refine V_lcmp hG dL_law_2071 ?_
                    refine V_if_eq (tgt := 2077) hG dL_law_2072 (by decide) (fun c => ?_) (fun c => ?_)
                    · replace h := h.1 c
                      refine V_forget (lo' := [some (.ref 25), some (.ref v1), some (.ref v2), some (.ref v3), some (.int v4), none, none]) ⟨rfl, ⟨rfl, ⟨rfl, ⟨rfl, ⟨rfl, trivial⟩⟩⟩⟩⟩ ?_
                      refine V_widen (k' := k + 1) (n' := n + 6) (by first | exact Nat.le_of_ble_eq_true rfl | omega | (dsimp only; omega)) (by first | exact Nat.le_of_ble_eq_true rfl | omega | (dsimp only; omega)) ?_
                      exact wv_L_law_2077 hl hG hX hret k n (by omega) (by omega) (fun z0 z1 z2 z3 ζ hz => ih _ _ (by omega) (by omega) z0 z1 z2 z3 ζ hz) _ _ _ _ _ h
                    · replace h := h.2 c
                      refine V_iconst (v := 0) hG (by decide) dL_law_2075 ?_
                      exact law1 hret dL_law_2076 h (by first | exact Nat.le_of_ble_eq_true rfl | omega | (dsimp only; omega)) (by first | exact Nat.le_of_ble_eq_true rfl | omega | (dsimp only; omega))
                · replace h := h.2 c
                  refine V_iconst (v := 0) hG (by decide) dL_law_2058 ?_
                  exact law1 hret dL_law_2059 h (by first | exact Nat.le_of_ble_eq_true rfl | omega | (dsimp only; omega)) (by first | exact Nat.le_of_ble_eq_true rfl | omega | (dsimp only; omega))
        · replace h := h.2.2.2.2.2.2.2.2.2.2.2.2.2.2.2.2.2.2.2.2.2.2.2.2.2.2.2.2.1 c
          refine V_top (congrArg Value.int c) ?_
          refine V_swIn (tgt := 2080) (off := 2040) hG dL_law_40 (by decide) (by decide) (by decide) (by decide) ?_
          refine V_aload_n (v := .ref v1) hG dL_law_2080 rfl rfl ?_
          refine V_aload_n (v := .ref 25) hG dL_law_2081 rfl rfl ?_
          refine V_iload hG dL_law_2082 rfl ?_
          refine V_iconst (v := 1) hG (by decide) dL_law_2084 ?_
          refine V_iadd hG dL_law_2085 ?_
          obtain ⟨j292, hi, hj, h⟩ := h
          refine V_sld hG hX dL_law_2086 hi hj ?_
          refine V_aload_n (v := .ref 25) hG dL_law_2087 rfl rfl ?_
          refine V_iload hG dL_law_2088 rfl ?_
          refine V_iconst (v := 2) hG (by decide) dL_law_2090 ?_
          refine V_iadd hG dL_law_2091 ?_
          obtain ⟨j293, hi, hj, h⟩ := h
          refine V_sld hG hX dL_law_2092 hi hj ?_
          refine V_aload_n (v := .ref v3) hG dL_law_2093 rfl rfl ?_
          refine V_cXI _ _ hG dL_law_2094 (ct_L_store hl h) mv_L_store ml_L_226 rfl rfl (by first | exact Nat.le_of_ble_eq_true rfl | (simp only [List.map_cons, List.map_nil, List.sum_cons, List.sum_nil, cat_rf]; exact Nat.le_of_ble_eq_true rfl)) (by first | exact Nat.le_of_ble_eq_true rfl | omega | (dsimp only; omega)) (by first | exact Nat.le_of_ble_eq_true rfl | omega | (dsimp only; omega)) (by first | exact Nat.le_of_ble_eq_true rfl | omega | (dsimp only; omega)) (by first | exact Nat.le_of_ble_eq_true rfl | omega | (dsimp only; omega)) ?_ (fun x295 σ294 h9 => ?_)
          · exact fun _ _ hx => hx.elim
          · replace h := h9
            clear h9
            refine V_istore hG dL_law_2097 (Nat.le_of_ble_eq_true rfl) (hpV rfl rfl) ?_
            refine V_aload_n (v := .ref v2) hG dL_law_2099 rfl rfl ?_
            refine V_aload_n (v := .ref 25) hG dL_law_2100 rfl rfl ?_
            refine V_iload hG dL_law_2101 rfl ?_
            refine V_iconst (v := 1) hG (by decide) dL_law_2103 ?_
            refine V_iadd hG dL_law_2104 ?_
            obtain ⟨j296, hi, hj, h⟩ := h
            refine V_sld hG hX dL_law_2105 hi hj ?_
            refine V_aload_n (v := .ref 25) hG dL_law_2106 rfl rfl ?_
            refine V_iload hG dL_law_2107 rfl ?_
            refine V_iconst (v := 2) hG (by decide) dL_law_2109 ?_
            refine V_iadd hG dL_law_2110 ?_
            obtain ⟨j297, hi, hj, h⟩ := h
            refine V_sld hG hX dL_law_2111 hi hj ?_
            obtain ⟨ht, h⟩ := h
            refine V_cVI _ _ hG dL_law_2112 (ct_X10_store hl h) mv_X10_store ml_L_228 ht rfl rfl rfl rfl (by first | exact Nat.le_of_ble_eq_true rfl | (simp only [List.map_cons, List.map_nil, List.sum_cons, List.sum_nil, cat_rf]; exact Nat.le_of_ble_eq_true rfl)) (by first | exact Nat.le_of_ble_eq_true rfl | omega | (dsimp only; omega)) (by first | exact Nat.le_of_ble_eq_true rfl | omega | (dsimp only; omega)) (by first | exact Nat.le_of_ble_eq_true rfl | omega | (dsimp only; omega)) (by first | exact Nat.le_of_ble_eq_true rfl | omega | (dsimp only; omega)) ?_ (fun x299 σ298 h9 => ?_)
            · exact fun _ _ hx => hx.elim
            · replace h := h9
              clear h9
              refine V_istore hG dL_law_2115 (Nat.le_of_ble_eq_true rfl) (hpV rfl rfl) ?_
              refine V_aload_n (v := .ref v2) hG dL_law_2117 rfl rfl ?_
              obtain ⟨ht, h⟩ := h
              refine V_cVI _ _ hG dL_law_2118 (ct_X10_thrown hl h) mv_X10_thrown ml_L_131 ht rfl rfl rfl rfl (by first | exact Nat.le_of_ble_eq_true rfl | (simp only [List.map_cons, List.map_nil, List.sum_cons, List.sum_nil, cat_rf]; exact Nat.le_of_ble_eq_true rfl)) (by first | exact Nat.le_of_ble_eq_true rfl | omega | (dsimp only; omega)) (by first | exact Nat.le_of_ble_eq_true rfl | omega | (dsimp only; omega)) (by first | exact Nat.le_of_ble_eq_true rfl | omega | (dsimp only; omega)) (by first | exact Nat.le_of_ble_eq_true rfl | omega | (dsimp only; omega)) ?_ (fun x301 σ300 h9 => ?_)
              · exact fun _ _ hx => hx.elim
              · replace h := h9
                clear h9
                refine V_iload hG dL_law_2121 rfl ?_
                refine V_icmp_eq (tgt := 2128) hG dL_law_2123 (by decide) (fun c => ?_) (fun c => ?_)
                · replace h := h.1 c
                  refine V_iload hG dL_law_2128 rfl ?_
                  refine V_if_ne (tgt := 2145) hG dL_law_2130 (by decide) (fun c => ?_) (fun c => ?_)
                  · replace h := h.1 c
                    refine V_forget (lo' := [some (.ref 25), some (.ref v1), some (.ref v2), some (.ref v3), some (.int v4), none, none]) ⟨rfl, ⟨rfl, ⟨rfl, ⟨rfl, ⟨rfl, trivial⟩⟩⟩⟩⟩ ?_
                    refine V_widen (k' := k + 2) (n' := n + 12) (by first | exact Nat.le_of_ble_eq_true rfl | omega | (dsimp only; omega)) (by first | exact Nat.le_of_ble_eq_true rfl | omega | (dsimp only; omega)) ?_
                    exact wv_L_law_2145 hl hG hX hret k n (by omega) (by omega) (fun z0 z1 z2 z3 ζ hz => ih _ _ (by omega) (by omega) z0 z1 z2 z3 ζ hz) _ _ _ _ _ h
                  · replace h := h.2 c
                    refine V_aload_n (v := .ref v3) hG dL_law_2133 rfl rfl ?_
                    refine V_iconst (v := 0) hG (by decide) dL_law_2134 ?_
                    obtain ⟨ha, j302, hi, hj, h⟩ := h
                    refine V_lald hG dL_law_2135 ha hi hj ?_
                    refine V_iload hG dL_law_2136 rfl ?_
                    refine V_i2l hG dL_law_2138 ?_
                    refine V_lcmp hG dL_law_2139 ?_
                    refine V_if_eq (tgt := 2145) hG dL_law_2140 (by decide) (fun c => ?_) (fun c => ?_)
                    · replace h := h.1 c
                      refine V_forget (lo' := [some (.ref 25), some (.ref v1), some (.ref v2), some (.ref v3), some (.int v4), none, none]) ⟨rfl, ⟨rfl, ⟨rfl, ⟨rfl, ⟨rfl, trivial⟩⟩⟩⟩⟩ ?_
                      refine V_widen (k' := k + 2) (n' := n + 12) (by first | exact Nat.le_of_ble_eq_true rfl | omega | (dsimp only; omega)) (by first | exact Nat.le_of_ble_eq_true rfl | omega | (dsimp only; omega)) ?_
                      exact wv_L_law_2145 hl hG hX hret k n (by omega) (by omega) (fun z0 z1 z2 z3 ζ hz => ih _ _ (by omega) (by omega) z0 z1 z2 z3 ζ hz) _ _ _ _ _ h
                    · replace h := h.2 c
                      refine V_iconst (v := 0) hG (by decide) dL_law_2143 ?_
                      exact law1 hret dL_law_2144 h (by first | exact Nat.le_of_ble_eq_true rfl | omega | (dsimp only; omega)) (by first | exact Nat.le_of_ble_eq_true rfl | omega | (dsimp only; omega))
                · replace h := h.2 c
                  refine V_iconst (v := 0) hG (by decide) dL_law_2126 ?_
                  exact law1 hret dL_law_2127 h (by first | exact Nat.le_of_ble_eq_true rfl | omega | (dsimp only; omega)) (by first | exact Nat.le_of_ble_eq_true rfl | omega | (dsimp only; omega))
        · replace h := h.2.2.2.2.2.2.2.2.2.2.2.2.2.2.2.2.2.2.2.2.2.2.2.2.2.2.2.2.2.1 c
          refine V_top (congrArg Value.int c) ?_
          refine V_swIn (tgt := 2148) (off := 2108) hG dL_law_40 (by decide) (by decide) (by decide) (by decide) ?_
          refine V_aload_n (v := .ref v1) hG dL_law_2148 rfl rfl ?_
          refine V_aload_n (v := .ref 25) hG dL_law_2149 rfl rfl ?_
          refine V_iload hG dL_law_2150 rfl ?_
          refine V_iconst (v := 1) hG (by decide) dL_law_2152 ?_
          refine V_iadd hG dL_law_2153 ?_
          obtain ⟨j303, hi, hj, h⟩ := h
          refine V_sld hG hX dL_law_2154 hi hj ?_
          refine V_aload_n (v := .ref v3) hG dL_law_2155 rfl rfl ?_
          refine V_cXI _ _ hG dL_law_2156 (ct_L_queue hl h) mv_L_queue ml_L_229 rfl rfl (by first | exact Nat.le_of_ble_eq_true rfl | (simp only [List.map_cons, List.map_nil, List.sum_cons, List.sum_nil, cat_rf]; exact Nat.le_of_ble_eq_true rfl)) (by first | exact Nat.le_of_ble_eq_true rfl | omega | (dsimp only; omega)) (by first | exact Nat.le_of_ble_eq_true rfl | omega | (dsimp only; omega)) (by first | exact Nat.le_of_ble_eq_true rfl | omega | (dsimp only; omega)) (by first | exact Nat.le_of_ble_eq_true rfl | omega | (dsimp only; omega)) ?_ (fun x305 σ304 h9 => ?_)
          · exact fun _ _ hx => hx.elim
          · replace h := h9
            clear h9
            refine V_istore hG dL_law_2159 (Nat.le_of_ble_eq_true rfl) (hpV rfl rfl) ?_
            refine V_aload_n (v := .ref v2) hG dL_law_2161 rfl rfl ?_
            refine V_aload_n (v := .ref 25) hG dL_law_2162 rfl rfl ?_
            refine V_iload hG dL_law_2163 rfl ?_
            refine V_iconst (v := 1) hG (by decide) dL_law_2165 ?_
            refine V_iadd hG dL_law_2166 ?_
            obtain ⟨j306, hi, hj, h⟩ := h
            refine V_sld hG hX dL_law_2167 hi hj ?_
            obtain ⟨ht, h⟩ := h
            refine V_cVI _ _ hG dL_law_2168 (ct_X10_queue hl h) mv_X10_queue ml_L_231 ht rfl rfl rfl rfl (by first | exact Nat.le_of_ble_eq_true rfl | (simp only [List.map_cons, List.map_nil, List.sum_cons, List.sum_nil, cat_rf]; exact Nat.le_of_ble_eq_true rfl)) (by first | exact Nat.le_of_ble_eq_true rfl | omega | (dsimp only; omega)) (by first | exact Nat.le_of_ble_eq_true rfl | omega | (dsimp only; omega)) (by first | exact Nat.le_of_ble_eq_true rfl | omega | (dsimp only; omega)) (by first | exact Nat.le_of_ble_eq_true rfl | omega | (dsimp only; omega)) ?_ (fun x308 σ307 h9 => ?_)
            · exact fun _ _ hx => hx.elim
            · replace h := h9
              clear h9
              refine V_istore hG dL_law_2171 (Nat.le_of_ble_eq_true rfl) (hpV rfl rfl) ?_
              refine V_aload_n (v := .ref v2) hG dL_law_2173 rfl rfl ?_
              obtain ⟨ht, h⟩ := h
              refine V_cVI _ _ hG dL_law_2174 (ct_X10_thrown hl h) mv_X10_thrown ml_L_131 ht rfl rfl rfl rfl (by first | exact Nat.le_of_ble_eq_true rfl | (simp only [List.map_cons, List.map_nil, List.sum_cons, List.sum_nil, cat_rf]; exact Nat.le_of_ble_eq_true rfl)) (by first | exact Nat.le_of_ble_eq_true rfl | omega | (dsimp only; omega)) (by first | exact Nat.le_of_ble_eq_true rfl | omega | (dsimp only; omega)) (by first | exact Nat.le_of_ble_eq_true rfl | omega | (dsimp only; omega)) (by first | exact Nat.le_of_ble_eq_true rfl | omega | (dsimp only; omega)) ?_ (fun x310 σ309 h9 => ?_)
              · exact fun _ _ hx => hx.elim
              · replace h := h9
                clear h9
                refine V_iload hG dL_law_2177 rfl ?_
                refine V_icmp_eq (tgt := 2184) hG dL_law_2179 (by decide) (fun c => ?_) (fun c => ?_)
                · replace h := h.1 c
                  refine V_iload hG dL_law_2184 rfl ?_
                  refine V_if_ne (tgt := 2201) hG dL_law_2186 (by decide) (fun c => ?_) (fun c => ?_)
                  · replace h := h.1 c
                    refine V_forget (lo' := [some (.ref 25), some (.ref v1), some (.ref v2), some (.ref v3), some (.int v4), none, none]) ⟨rfl, ⟨rfl, ⟨rfl, ⟨rfl, ⟨rfl, trivial⟩⟩⟩⟩⟩ ?_
                    refine V_widen (k' := k + 1) (n' := n + 6) (by first | exact Nat.le_of_ble_eq_true rfl | omega | (dsimp only; omega)) (by first | exact Nat.le_of_ble_eq_true rfl | omega | (dsimp only; omega)) ?_
                    exact wv_L_law_2201 hl hG hX hret k n (by omega) (by omega) (fun z0 z1 z2 z3 ζ hz => ih _ _ (by omega) (by omega) z0 z1 z2 z3 ζ hz) _ _ _ _ _ h
                  · replace h := h.2 c
                    refine V_aload_n (v := .ref v3) hG dL_law_2189 rfl rfl ?_
                    refine V_iconst (v := 0) hG (by decide) dL_law_2190 ?_
                    obtain ⟨ha, j311, hi, hj, h⟩ := h
                    refine V_lald hG dL_law_2191 ha hi hj ?_
                    refine V_iload hG dL_law_2192 rfl ?_
                    refine V_i2l hG dL_law_2194 ?_
                    refine V_lcmp hG dL_law_2195 ?_
                    refine V_if_eq (tgt := 2201) hG dL_law_2196 (by decide) (fun c => ?_) (fun c => ?_)
                    · replace h := h.1 c
                      refine V_forget (lo' := [some (.ref 25), some (.ref v1), some (.ref v2), some (.ref v3), some (.int v4), none, none]) ⟨rfl, ⟨rfl, ⟨rfl, ⟨rfl, ⟨rfl, trivial⟩⟩⟩⟩⟩ ?_
                      refine V_widen (k' := k + 1) (n' := n + 6) (by first | exact Nat.le_of_ble_eq_true rfl | omega | (dsimp only; omega)) (by first | exact Nat.le_of_ble_eq_true rfl | omega | (dsimp only; omega)) ?_
                      exact wv_L_law_2201 hl hG hX hret k n (by omega) (by omega) (fun z0 z1 z2 z3 ζ hz => ih _ _ (by omega) (by omega) z0 z1 z2 z3 ζ hz) _ _ _ _ _ h
                    · replace h := h.2 c
                      refine V_iconst (v := 0) hG (by decide) dL_law_2199 ?_
                      exact law1 hret dL_law_2200 h (by first | exact Nat.le_of_ble_eq_true rfl | omega | (dsimp only; omega)) (by first | exact Nat.le_of_ble_eq_true rfl | omega | (dsimp only; omega))
                · replace h := h.2 c
                  refine V_iconst (v := 0) hG (by decide) dL_law_2182 ?_
                  exact law1 hret dL_law_2183 h (by first | exact Nat.le_of_ble_eq_true rfl | omega | (dsimp only; omega)) (by first | exact Nat.le_of_ble_eq_true rfl | omega | (dsimp only; omega))
        · replace h := h.2.2.2.2.2.2.2.2.2.2.2.2.2.2.2.2.2.2.2.2.2.2.2.2.2.2.2.2.2.2.1 c
          refine V_top (congrArg Value.int c) ?_
          refine V_swIn (tgt := 2204) (off := 2164) hG dL_law_40 (by decide) (by decide) (by decide) (by decide) ?_
          refine V_aload_n (v := .ref v1) hG dL_law_2204 rfl rfl ?_
          refine V_aload_n (v := .ref 25) hG dL_law_2205 rfl rfl ?_
          refine V_iload hG dL_law_2206 rfl ?_
          refine V_iconst (v := 1) hG (by decide) dL_law_2208 ?_
          refine V_iadd hG dL_law_2209 ?_
          obtain ⟨j312, hi, hj, h⟩ := h
          refine V_sld hG hX dL_law_2210 hi hj ?_
          refine V_aload_n (v := .ref 25) hG dL_law_2211 rfl rfl ?_
          refine V_iload hG dL_law_2212 rfl ?_
          refine V_iconst (v := 2) hG (by decide) dL_law_2214 ?_
          refine V_iadd hG dL_law_2215 ?_
          obtain ⟨j313, hi, hj, h⟩ := h
          refine V_sld hG hX dL_law_2216 hi hj ?_
          refine V_aload_n (v := .ref v3) hG dL_law_2217 rfl rfl ?_
          refine V_cXI _ _ hG dL_law_2218 (ct_L_queued hl h) mv_L_queued ml_L_232 rfl rfl (by first | exact Nat.le_of_ble_eq_true rfl | (simp only [List.map_cons, List.map_nil, List.sum_cons, List.sum_nil, cat_rf]; exact Nat.le_of_ble_eq_true rfl)) (by first | exact Nat.le_of_ble_eq_true rfl | omega | (dsimp only; omega)) (by first | exact Nat.le_of_ble_eq_true rfl | omega | (dsimp only; omega)) (by first | exact Nat.le_of_ble_eq_true rfl | omega | (dsimp only; omega)) (by first | exact Nat.le_of_ble_eq_true rfl | omega | (dsimp only; omega)) ?_ (fun x315 σ314 h9 => ?_)
          · exact fun _ _ hx => hx.elim
          · replace h := h9
            clear h9
            refine V_istore hG dL_law_2221 (Nat.le_of_ble_eq_true rfl) (hpV rfl rfl) ?_
            refine V_aload_n (v := .ref v2) hG dL_law_2223 rfl rfl ?_
            refine V_aload_n (v := .ref 25) hG dL_law_2224 rfl rfl ?_
            refine V_iload hG dL_law_2225 rfl ?_
            refine V_iconst (v := 1) hG (by decide) dL_law_2227 ?_
            refine V_iadd hG dL_law_2228 ?_
            obtain ⟨j316, hi, hj, h⟩ := h
            refine V_sld hG hX dL_law_2229 hi hj ?_
            refine V_aload_n (v := .ref 25) hG dL_law_2230 rfl rfl ?_
            refine V_iload hG dL_law_2231 rfl ?_
            refine V_iconst (v := 2) hG (by decide) dL_law_2233 ?_
            refine V_iadd hG dL_law_2234 ?_
            obtain ⟨j317, hi, hj, h⟩ := h
            refine V_sld hG hX dL_law_2235 hi hj ?_
            obtain ⟨ht, h⟩ := h
            refine V_cVI _ _ hG dL_law_2236 (ct_X10_queued hl h) mv_X10_queued ml_L_234 ht rfl rfl rfl rfl (by first | exact Nat.le_of_ble_eq_true rfl | (simp only [List.map_cons, List.map_nil, List.sum_cons, List.sum_nil, cat_rf]; exact Nat.le_of_ble_eq_true rfl)) (by first | exact Nat.le_of_ble_eq_true rfl | omega | (dsimp only; omega)) (by first | exact Nat.le_of_ble_eq_true rfl | omega | (dsimp only; omega)) (by first | exact Nat.le_of_ble_eq_true rfl | omega | (dsimp only; omega)) (by first | exact Nat.le_of_ble_eq_true rfl | omega | (dsimp only; omega)) ?_ (fun x319 σ318 h9 => ?_)
            · exact fun _ _ hx => hx.elim
            · replace h := h9
              clear h9
              refine V_istore hG dL_law_2239 (Nat.le_of_ble_eq_true rfl) (hpV rfl rfl) ?_
              refine V_aload_n (v := .ref v2) hG dL_law_2241 rfl rfl ?_
              obtain ⟨ht, h⟩ := h
              refine V_cVI _ _ hG dL_law_2242 (ct_X10_thrown hl h) mv_X10_thrown ml_L_131 ht rfl rfl rfl rfl (by first | exact Nat.le_of_ble_eq_true rfl | (simp only [List.map_cons, List.map_nil, List.sum_cons, List.sum_nil, cat_rf]; exact Nat.le_of_ble_eq_true rfl)) (by first | exact Nat.le_of_ble_eq_true rfl | omega | (dsimp only; omega)) (by first | exact Nat.le_of_ble_eq_true rfl | omega | (dsimp only; omega)) (by first | exact Nat.le_of_ble_eq_true rfl | omega | (dsimp only; omega)) (by first | exact Nat.le_of_ble_eq_true rfl | omega | (dsimp only; omega)) ?_ (fun x321 σ320 h9 => ?_)
              · exact fun _ _ hx => hx.elim
              · replace h := h9
                clear h9
                refine V_iload hG dL_law_2245 rfl ?_
                refine V_icmp_eq (tgt := 2252) hG dL_law_2247 (by decide) (fun c => ?_) (fun c => ?_)
                · replace h := h.1 c
                  refine V_iload hG dL_law_2252 rfl ?_
                  refine V_if_ne (tgt := 2269) hG dL_law_2254 (by decide) (fun c => ?_) (fun c => ?_)
                  · replace h := h.1 c
                    refine V_forget (lo' := [some (.ref 25), some (.ref v1), some (.ref v2), some (.ref v3), some (.int v4), none, none]) ⟨rfl, ⟨rfl, ⟨rfl, ⟨rfl, ⟨rfl, trivial⟩⟩⟩⟩⟩ ?_
                    refine V_widen (k' := k + 2) (n' := n + 12) (by first | exact Nat.le_of_ble_eq_true rfl | omega | (dsimp only; omega)) (by first | exact Nat.le_of_ble_eq_true rfl | omega | (dsimp only; omega)) ?_
                    exact wv_L_law_2269 hl hG hX hret k n (by omega) (by omega) (fun z0 z1 z2 z3 ζ hz => ih _ _ (by omega) (by omega) z0 z1 z2 z3 ζ hz) _ _ _ _ _ h
                  · replace h := h.2 c
                    refine V_aload_n (v := .ref v3) hG dL_law_2257 rfl rfl ?_
                    refine V_iconst (v := 0) hG (by decide) dL_law_2258 ?_
                    obtain ⟨ha, j322, hi, hj, h⟩ := h
                    refine V_lald hG dL_law_2259 ha hi hj ?_
                    refine V_iload hG dL_law_2260 rfl ?_
                    refine V_i2l hG dL_law_2262 ?_
                    refine V_lcmp hG dL_law_2263 ?_
                    refine V_if_eq (tgt := 2269) hG dL_law_2264 (by decide) (fun c => ?_) (fun c => ?_)
                    · replace h := h.1 c
                      refine V_forget (lo' := [some (.ref 25), some (.ref v1), some (.ref v2), some (.ref v3), some (.int v4), none, none]) ⟨rfl, ⟨rfl, ⟨rfl, ⟨rfl, ⟨rfl, trivial⟩⟩⟩⟩⟩ ?_
                      refine V_widen (k' := k + 2) (n' := n + 12) (by first | exact Nat.le_of_ble_eq_true rfl | omega | (dsimp only; omega)) (by first | exact Nat.le_of_ble_eq_true rfl | omega | (dsimp only; omega)) ?_
                      exact wv_L_law_2269 hl hG hX hret k n (by omega) (by omega) (fun z0 z1 z2 z3 ζ hz => ih _ _ (by omega) (by omega) z0 z1 z2 z3 ζ hz) _ _ _ _ _ h
                    · replace h := h.2 c
                      refine V_iconst (v := 0) hG (by decide) dL_law_2267 ?_
                      exact law1 hret dL_law_2268 h (by first | exact Nat.le_of_ble_eq_true rfl | omega | (dsimp only; omega)) (by first | exact Nat.le_of_ble_eq_true rfl | omega | (dsimp only; omega))
                · replace h := h.2 c
                  refine V_iconst (v := 0) hG (by decide) dL_law_2250 ?_
                  exact law1 hret dL_law_2251 h (by first | exact Nat.le_of_ble_eq_true rfl | omega | (dsimp only; omega)) (by first | exact Nat.le_of_ble_eq_true rfl | omega | (dsimp only; omega))
        · replace h := h.2.2.2.2.2.2.2.2.2.2.2.2.2.2.2.2.2.2.2.2.2.2.2.2.2.2.2.2.2.2.2.1 c
          refine V_top (congrArg Value.int c) ?_
          refine V_swIn (tgt := 2272) (off := 2232) hG dL_law_40 (by decide) (by decide) (by decide) (by decide) ?_
          refine V_aload_n (v := .ref v1) hG dL_law_2272 rfl rfl ?_
          refine V_aload_n (v := .ref 25) hG dL_law_2273 rfl rfl ?_
          refine V_iload hG dL_law_2274 rfl ?_
          refine V_iconst (v := 1) hG (by decide) dL_law_2276 ?_
          refine V_iadd hG dL_law_2277 ?_
          obtain ⟨j323, hi, hj, h⟩ := h
          refine V_sld hG hX dL_law_2278 hi hj ?_
          refine V_aload_n (v := .ref 25) hG dL_law_2279 rfl rfl ?_
          refine V_iload hG dL_law_2280 rfl ?_
          refine V_iconst (v := 2) hG (by decide) dL_law_2282 ?_
          refine V_iadd hG dL_law_2283 ?_
          obtain ⟨j324, hi, hj, h⟩ := h
          refine V_sld hG hX dL_law_2284 hi hj ?_
          refine V_aload_n (v := .ref v3) hG dL_law_2285 rfl rfl ?_
          refine V_cXI _ _ hG dL_law_2286 (ct_L_told hl h) mv_L_told ml_L_235 rfl rfl (by first | exact Nat.le_of_ble_eq_true rfl | (simp only [List.map_cons, List.map_nil, List.sum_cons, List.sum_nil, cat_rf]; exact Nat.le_of_ble_eq_true rfl)) (by first | exact Nat.le_of_ble_eq_true rfl | omega | (dsimp only; omega)) (by first | exact Nat.le_of_ble_eq_true rfl | omega | (dsimp only; omega)) (by first | exact Nat.le_of_ble_eq_true rfl | omega | (dsimp only; omega)) (by first | exact Nat.le_of_ble_eq_true rfl | omega | (dsimp only; omega)) ?_ (fun x326 σ325 h9 => ?_)
          · exact fun _ _ hx => hx.elim
          · replace h := h9
            clear h9
            refine V_istore hG dL_law_2289 (Nat.le_of_ble_eq_true rfl) (hpV rfl rfl) ?_
            refine V_aload_n (v := .ref v2) hG dL_law_2291 rfl rfl ?_
            refine V_aload_n (v := .ref 25) hG dL_law_2292 rfl rfl ?_
            refine V_iload hG dL_law_2293 rfl ?_
            refine V_iconst (v := 1) hG (by decide) dL_law_2295 ?_
            refine V_iadd hG dL_law_2296 ?_
            obtain ⟨j327, hi, hj, h⟩ := h
            refine V_sld hG hX dL_law_2297 hi hj ?_
            refine V_aload_n (v := .ref 25) hG dL_law_2298 rfl rfl ?_
            refine V_iload hG dL_law_2299 rfl ?_
            refine V_iconst (v := 2) hG (by decide) dL_law_2301 ?_
            refine V_iadd hG dL_law_2302 ?_
            obtain ⟨j328, hi, hj, h⟩ := h
            refine V_sld hG hX dL_law_2303 hi hj ?_
            obtain ⟨ht, h⟩ := h
            refine V_cVI _ _ hG dL_law_2304 (ct_X10_told hl h) mv_X10_told ml_L_237 ht rfl rfl rfl rfl (by first | exact Nat.le_of_ble_eq_true rfl | (simp only [List.map_cons, List.map_nil, List.sum_cons, List.sum_nil, cat_rf]; exact Nat.le_of_ble_eq_true rfl)) (by first | exact Nat.le_of_ble_eq_true rfl | omega | (dsimp only; omega)) (by first | exact Nat.le_of_ble_eq_true rfl | omega | (dsimp only; omega)) (by first | exact Nat.le_of_ble_eq_true rfl | omega | (dsimp only; omega)) (by first | exact Nat.le_of_ble_eq_true rfl | omega | (dsimp only; omega)) ?_ (fun x330 σ329 h9 => ?_)
            · exact fun _ _ hx => hx.elim
            · replace h := h9
              clear h9
              refine V_istore hG dL_law_2307 (Nat.le_of_ble_eq_true rfl) (hpV rfl rfl) ?_
              refine V_aload_n (v := .ref v2) hG dL_law_2309 rfl rfl ?_
              obtain ⟨ht, h⟩ := h
              refine V_cVI _ _ hG dL_law_2310 (ct_X10_thrown hl h) mv_X10_thrown ml_L_131 ht rfl rfl rfl rfl (by first | exact Nat.le_of_ble_eq_true rfl | (simp only [List.map_cons, List.map_nil, List.sum_cons, List.sum_nil, cat_rf]; exact Nat.le_of_ble_eq_true rfl)) (by first | exact Nat.le_of_ble_eq_true rfl | omega | (dsimp only; omega)) (by first | exact Nat.le_of_ble_eq_true rfl | omega | (dsimp only; omega)) (by first | exact Nat.le_of_ble_eq_true rfl | omega | (dsimp only; omega)) (by first | exact Nat.le_of_ble_eq_true rfl | omega | (dsimp only; omega)) ?_ (fun x332 σ331 h9 => ?_)
              · exact fun _ _ hx => hx.elim
              · replace h := h9
                clear h9
                refine V_iload hG dL_law_2313 rfl ?_
                refine V_icmp_eq (tgt := 2320) hG dL_law_2315 (by decide) (fun c => ?_) (fun c => ?_)
                · replace h := h.1 c
                  refine V_iload hG dL_law_2320 rfl ?_
                  refine V_if_ne (tgt := 2337) hG dL_law_2322 (by decide) (fun c => ?_) (fun c => ?_)
                  · replace h := h.1 c
                    refine V_forget (lo' := [some (.ref 25), some (.ref v1), some (.ref v2), some (.ref v3), some (.int v4), none, none]) ⟨rfl, ⟨rfl, ⟨rfl, ⟨rfl, ⟨rfl, trivial⟩⟩⟩⟩⟩ ?_
                    refine V_widen (k' := k + 2) (n' := n + 12) (by first | exact Nat.le_of_ble_eq_true rfl | omega | (dsimp only; omega)) (by first | exact Nat.le_of_ble_eq_true rfl | omega | (dsimp only; omega)) ?_
                    exact wv_L_law_2337 hl hG hX hret k n (by omega) (by omega) (fun z0 z1 z2 z3 ζ hz => ih _ _ (by omega) (by omega) z0 z1 z2 z3 ζ hz) _ _ _ _ _ h
                  · replace h := h.2 c
                    refine V_aload_n (v := .ref v3) hG dL_law_2325 rfl rfl ?_
                    refine V_iconst (v := 0) hG (by decide) dL_law_2326 ?_
                    obtain ⟨ha, j333, hi, hj, h⟩ := h
                    refine V_lald hG dL_law_2327 ha hi hj ?_
                    refine V_iload hG dL_law_2328 rfl ?_
                    refine V_i2l hG dL_law_2330 ?_
                    refine V_lcmp hG dL_law_2331 ?_
                    refine V_if_eq (tgt := 2337) hG dL_law_2332 (by decide) (fun c => ?_) (fun c => ?_)
                    · replace h := h.1 c
                      refine V_forget (lo' := [some (.ref 25), some (.ref v1), some (.ref v2), some (.ref v3), some (.int v4), none, none]) ⟨rfl, ⟨rfl, ⟨rfl, ⟨rfl, ⟨rfl, trivial⟩⟩⟩⟩⟩ ?_
                      refine V_widen (k' := k + 2) (n' := n + 12) (by first | exact Nat.le_of_ble_eq_true rfl | omega | (dsimp only; omega)) (by first | exact Nat.le_of_ble_eq_true rfl | omega | (dsimp only; omega)) ?_
                      exact wv_L_law_2337 hl hG hX hret k n (by omega) (by omega) (fun z0 z1 z2 z3 ζ hz => ih _ _ (by omega) (by omega) z0 z1 z2 z3 ζ hz) _ _ _ _ _ h
                    · replace h := h.2 c
                      refine V_iconst (v := 0) hG (by decide) dL_law_2335 ?_
                      exact law1 hret dL_law_2336 h (by first | exact Nat.le_of_ble_eq_true rfl | omega | (dsimp only; omega)) (by first | exact Nat.le_of_ble_eq_true rfl | omega | (dsimp only; omega))
                · replace h := h.2 c
                  refine V_iconst (v := 0) hG (by decide) dL_law_2318 ?_
                  exact law1 hret dL_law_2319 h (by first | exact Nat.le_of_ble_eq_true rfl | omega | (dsimp only; omega)) (by first | exact Nat.le_of_ble_eq_true rfl | omega | (dsimp only; omega))
        · replace h := h.2.2.2.2.2.2.2.2.2.2.2.2.2.2.2.2.2.2.2.2.2.2.2.2.2.2.2.2.2.2.2.2.1 c
          refine V_top (congrArg Value.int c) ?_
          refine V_swIn (tgt := 2340) (off := 2300) hG dL_law_40 (by decide) (by decide) (by decide) (by decide) ?_
          refine V_aload_n (v := .ref v1) hG dL_law_2340 rfl rfl ?_
          refine V_aload_n (v := .ref 25) hG dL_law_2341 rfl rfl ?_
          refine V_iload hG dL_law_2342 rfl ?_
          refine V_iconst (v := 1) hG (by decide) dL_law_2344 ?_
          refine V_iadd hG dL_law_2345 ?_
          obtain ⟨j334, hi, hj, h⟩ := h
          refine V_sld hG hX dL_law_2346 hi hj ?_
          refine V_aload_n (v := .ref 25) hG dL_law_2347 rfl rfl ?_
          refine V_iload hG dL_law_2348 rfl ?_
          refine V_iconst (v := 2) hG (by decide) dL_law_2350 ?_
          refine V_iadd hG dL_law_2351 ?_
          obtain ⟨j335, hi, hj, h⟩ := h
          refine V_sld hG hX dL_law_2352 hi hj ?_
          refine V_aload_n (v := .ref v3) hG dL_law_2353 rfl rfl ?_
          refine V_cXI _ _ hG dL_law_2354 (ct_L_why hl h) mv_L_why ml_L_238 rfl rfl (by first | exact Nat.le_of_ble_eq_true rfl | (simp only [List.map_cons, List.map_nil, List.sum_cons, List.sum_nil, cat_rf]; exact Nat.le_of_ble_eq_true rfl)) (by first | exact Nat.le_of_ble_eq_true rfl | omega | (dsimp only; omega)) (by first | exact Nat.le_of_ble_eq_true rfl | omega | (dsimp only; omega)) (by first | exact Nat.le_of_ble_eq_true rfl | omega | (dsimp only; omega)) (by first | exact Nat.le_of_ble_eq_true rfl | omega | (dsimp only; omega)) ?_ (fun x337 σ336 h9 => ?_)
          · exact fun _ _ hx => hx.elim
          · replace h := h9
            clear h9
            refine V_istore hG dL_law_2357 (Nat.le_of_ble_eq_true rfl) (hpV rfl rfl) ?_
            refine V_aload_n (v := .ref v2) hG dL_law_2359 rfl rfl ?_
            refine V_aload_n (v := .ref 25) hG dL_law_2360 rfl rfl ?_
            refine V_iload hG dL_law_2361 rfl ?_
            refine V_iconst (v := 1) hG (by decide) dL_law_2363 ?_
            refine V_iadd hG dL_law_2364 ?_
            obtain ⟨j338, hi, hj, h⟩ := h
            refine V_sld hG hX dL_law_2365 hi hj ?_
            refine V_aload_n (v := .ref 25) hG dL_law_2366 rfl rfl ?_
            refine V_iload hG dL_law_2367 rfl ?_
            refine V_iconst (v := 2) hG (by decide) dL_law_2369 ?_
            refine V_iadd hG dL_law_2370 ?_
            obtain ⟨j339, hi, hj, h⟩ := h
            refine V_sld hG hX dL_law_2371 hi hj ?_
            obtain ⟨ht, h⟩ := h
            refine V_cVI _ _ hG dL_law_2372 (ct_X10_why hl h) mv_X10_why ml_L_240 ht rfl rfl rfl rfl (by first | exact Nat.le_of_ble_eq_true rfl | (simp only [List.map_cons, List.map_nil, List.sum_cons, List.sum_nil, cat_rf]; exact Nat.le_of_ble_eq_true rfl)) (by first | exact Nat.le_of_ble_eq_true rfl | omega | (dsimp only; omega)) (by first | exact Nat.le_of_ble_eq_true rfl | omega | (dsimp only; omega)) (by first | exact Nat.le_of_ble_eq_true rfl | omega | (dsimp only; omega)) (by first | exact Nat.le_of_ble_eq_true rfl | omega | (dsimp only; omega)) ?_ (fun x341 σ340 h9 => ?_)
            · exact fun _ _ hx => hx.elim
            · replace h := h9
              clear h9
              refine V_istore hG dL_law_2375 (Nat.le_of_ble_eq_true rfl) (hpV rfl rfl) ?_
              refine V_aload_n (v := .ref v2) hG dL_law_2377 rfl rfl ?_
              obtain ⟨ht, h⟩ := h
              refine V_cVI _ _ hG dL_law_2378 (ct_X10_thrown hl h) mv_X10_thrown ml_L_131 ht rfl rfl rfl rfl (by first | exact Nat.le_of_ble_eq_true rfl | (simp only [List.map_cons, List.map_nil, List.sum_cons, List.sum_nil, cat_rf]; exact Nat.le_of_ble_eq_true rfl)) (by first | exact Nat.le_of_ble_eq_true rfl | omega | (dsimp only; omega)) (by first | exact Nat.le_of_ble_eq_true rfl | omega | (dsimp only; omega)) (by first | exact Nat.le_of_ble_eq_true rfl | omega | (dsimp only; omega)) (by first | exact Nat.le_of_ble_eq_true rfl | omega | (dsimp only; omega)) ?_ (fun x343 σ342 h9 => ?_)
              · exact fun _ _ hx => hx.elim
              · replace h := h9
                clear h9
                refine V_iload hG dL_law_2381 rfl ?_
                refine V_icmp_eq (tgt := 2388) hG dL_law_2383 (by decide) (fun c => ?_) (fun c => ?_)
                · replace h := h.1 c
                  refine V_iload hG dL_law_2388 rfl ?_
                  refine V_if_ne (tgt := 2405) hG dL_law_2390 (by decide) (fun c => ?_) (fun c => ?_)
                  · replace h := h.1 c
                    refine V_forget (lo' := [some (.ref 25), some (.ref v1), some (.ref v2), some (.ref v3), some (.int v4), none, none]) ⟨rfl, ⟨rfl, ⟨rfl, ⟨rfl, ⟨rfl, trivial⟩⟩⟩⟩⟩ ?_
                    refine V_widen (k' := k + 2) (n' := n + 12) (by first | exact Nat.le_of_ble_eq_true rfl | omega | (dsimp only; omega)) (by first | exact Nat.le_of_ble_eq_true rfl | omega | (dsimp only; omega)) ?_
                    exact wv_L_law_2405 hl hG hX hret k n (by omega) (by omega) (fun z0 z1 z2 z3 ζ hz => ih _ _ (by omega) (by omega) z0 z1 z2 z3 ζ hz) _ _ _ _ _ h
                  · replace h := h.2 c
                    refine V_aload_n (v := .ref v3) hG dL_law_2393 rfl rfl ?_
                    refine V_iconst (v := 0) hG (by decide) dL_law_2394 ?_
                    obtain ⟨ha, j344, hi, hj, h⟩ := h
                    refine V_lald hG dL_law_2395 ha hi hj ?_
                    refine V_iload hG dL_law_2396 rfl ?_
                    refine V_i2l hG dL_law_2398 ?_
                    refine V_lcmp hG dL_law_2399 ?_
                    refine V_if_eq (tgt := 2405) hG dL_law_2400 (by decide) (fun c => ?_) (fun c => ?_)
                    · replace h := h.1 c
                      refine V_forget (lo' := [some (.ref 25), some (.ref v1), some (.ref v2), some (.ref v3), some (.int v4), none, none]) ⟨rfl, ⟨rfl, ⟨rfl, ⟨rfl, ⟨rfl, trivial⟩⟩⟩⟩⟩ ?_
                      refine V_widen (k' := k + 2) (n' := n + 12) (by first | exact Nat.le_of_ble_eq_true rfl | omega | (dsimp only; omega)) (by first | exact Nat.le_of_ble_eq_true rfl | omega | (dsimp only; omega)) ?_
                      exact wv_L_law_2405 hl hG hX hret k n (by omega) (by omega) (fun z0 z1 z2 z3 ζ hz => ih _ _ (by omega) (by omega) z0 z1 z2 z3 ζ hz) _ _ _ _ _ h
                    · replace h := h.2 c
                      refine V_iconst (v := 0) hG (by decide) dL_law_2403 ?_
                      exact law1 hret dL_law_2404 h (by first | exact Nat.le_of_ble_eq_true rfl | omega | (dsimp only; omega)) (by first | exact Nat.le_of_ble_eq_true rfl | omega | (dsimp only; omega))
                · replace h := h.2 c
                  refine V_iconst (v := 0) hG (by decide) dL_law_2386 ?_
                  exact law1 hret dL_law_2387 h (by first | exact Nat.le_of_ble_eq_true rfl | omega | (dsimp only; omega)) (by first | exact Nat.le_of_ble_eq_true rfl | omega | (dsimp only; omega))
        · replace h := h.2.2.2.2.2.2.2.2.2.2.2.2.2.2.2.2.2.2.2.2.2.2.2.2.2.2.2.2.2.2.2.2.2.1 c
          refine V_top (congrArg Value.int c) ?_
          refine V_swIn (tgt := 2408) (off := 2368) hG dL_law_40 (by decide) (by decide) (by decide) (by decide) ?_
          refine V_aload_n (v := .ref v1) hG dL_law_2408 rfl rfl ?_
          refine V_aload_n (v := .ref 25) hG dL_law_2409 rfl rfl ?_
          refine V_iload hG dL_law_2410 rfl ?_
          refine V_iconst (v := 1) hG (by decide) dL_law_2412 ?_
          refine V_iadd hG dL_law_2413 ?_
          obtain ⟨j345, hi, hj, h⟩ := h
          refine V_sld hG hX dL_law_2414 hi hj ?_
          refine V_aload_n (v := .ref 25) hG dL_law_2415 rfl rfl ?_
          refine V_iload hG dL_law_2416 rfl ?_
          refine V_iconst (v := 2) hG (by decide) dL_law_2418 ?_
          refine V_iadd hG dL_law_2419 ?_
          obtain ⟨j346, hi, hj, h⟩ := h
          refine V_sld hG hX dL_law_2420 hi hj ?_
          refine V_aload_n (v := .ref v3) hG dL_law_2421 rfl rfl ?_
          refine V_cXI _ _ hG dL_law_2422 (ct_L_latest hl h) mv_L_latest ml_L_241 rfl rfl (by first | exact Nat.le_of_ble_eq_true rfl | (simp only [List.map_cons, List.map_nil, List.sum_cons, List.sum_nil, cat_rf]; exact Nat.le_of_ble_eq_true rfl)) (by first | exact Nat.le_of_ble_eq_true rfl | omega | (dsimp only; omega)) (by first | exact Nat.le_of_ble_eq_true rfl | omega | (dsimp only; omega)) (by first | exact Nat.le_of_ble_eq_true rfl | omega | (dsimp only; omega)) (by first | exact Nat.le_of_ble_eq_true rfl | omega | (dsimp only; omega)) ?_ (fun x348 σ347 h9 => ?_)
          · exact fun _ _ hx => hx.elim
          · replace h := h9
            clear h9
            refine V_istore hG dL_law_2425 (Nat.le_of_ble_eq_true rfl) (hpV rfl rfl) ?_
            refine V_aload_n (v := .ref v2) hG dL_law_2427 rfl rfl ?_
            refine V_aload_n (v := .ref 25) hG dL_law_2428 rfl rfl ?_
            refine V_iload hG dL_law_2429 rfl ?_
            refine V_iconst (v := 1) hG (by decide) dL_law_2431 ?_
            refine V_iadd hG dL_law_2432 ?_
            obtain ⟨j349, hi, hj, h⟩ := h
            refine V_sld hG hX dL_law_2433 hi hj ?_
            refine V_aload_n (v := .ref 25) hG dL_law_2434 rfl rfl ?_
            refine V_iload hG dL_law_2435 rfl ?_
            refine V_iconst (v := 2) hG (by decide) dL_law_2437 ?_
            refine V_iadd hG dL_law_2438 ?_
            obtain ⟨j350, hi, hj, h⟩ := h
            refine V_sld hG hX dL_law_2439 hi hj ?_
            obtain ⟨ht, h⟩ := h
            refine V_cVI _ _ hG dL_law_2440 (ct_X10_latest hl h) mv_X10_latest ml_L_243 ht rfl rfl rfl rfl (by first | exact Nat.le_of_ble_eq_true rfl | (simp only [List.map_cons, List.map_nil, List.sum_cons, List.sum_nil, cat_rf]; exact Nat.le_of_ble_eq_true rfl)) (by first | exact Nat.le_of_ble_eq_true rfl | omega | (dsimp only; omega)) (by first | exact Nat.le_of_ble_eq_true rfl | omega | (dsimp only; omega)) (by first | exact Nat.le_of_ble_eq_true rfl | omega | (dsimp only; omega)) (by first | exact Nat.le_of_ble_eq_true rfl | omega | (dsimp only; omega)) ?_ (fun x352 σ351 h9 => ?_)
            · exact fun _ _ hx => hx.elim
            · replace h := h9
              clear h9
              refine V_istore hG dL_law_2443 (Nat.le_of_ble_eq_true rfl) (hpV rfl rfl) ?_
              refine V_aload_n (v := .ref v2) hG dL_law_2445 rfl rfl ?_
              obtain ⟨ht, h⟩ := h
              refine V_cVI _ _ hG dL_law_2446 (ct_X10_thrown hl h) mv_X10_thrown ml_L_131 ht rfl rfl rfl rfl (by first | exact Nat.le_of_ble_eq_true rfl | (simp only [List.map_cons, List.map_nil, List.sum_cons, List.sum_nil, cat_rf]; exact Nat.le_of_ble_eq_true rfl)) (by first | exact Nat.le_of_ble_eq_true rfl | omega | (dsimp only; omega)) (by first | exact Nat.le_of_ble_eq_true rfl | omega | (dsimp only; omega)) (by first | exact Nat.le_of_ble_eq_true rfl | omega | (dsimp only; omega)) (by first | exact Nat.le_of_ble_eq_true rfl | omega | (dsimp only; omega)) ?_ (fun x354 σ353 h9 => ?_)
              · exact fun _ _ hx => hx.elim
              · replace h := h9
                clear h9
                refine V_iload hG dL_law_2449 rfl ?_
                refine V_icmp_eq (tgt := 2456) hG dL_law_2451 (by decide) (fun c => ?_) (fun c => ?_)
                · replace h := h.1 c
                  refine V_iload hG dL_law_2456 rfl ?_
                  refine V_if_ne (tgt := 2473) hG dL_law_2458 (by decide) (fun c => ?_) (fun c => ?_)
                  · replace h := h.1 c
                    refine V_forget (lo' := [some (.ref 25), some (.ref v1), some (.ref v2), some (.ref v3), some (.int v4), none, none]) ⟨rfl, ⟨rfl, ⟨rfl, ⟨rfl, ⟨rfl, trivial⟩⟩⟩⟩⟩ ?_
                    refine V_widen (k' := k + 3) (n' := n + 18) (by first | exact Nat.le_of_ble_eq_true rfl | omega | (dsimp only; omega)) (by first | exact Nat.le_of_ble_eq_true rfl | omega | (dsimp only; omega)) ?_
                    exact wv_L_law_2473 hl hG hX hret k n (by omega) (by omega) (fun z0 z1 z2 z3 ζ hz => ih _ _ (by omega) (by omega) z0 z1 z2 z3 ζ hz) _ _ _ _ _ h
                  · replace h := h.2 c
                    refine V_aload_n (v := .ref v3) hG dL_law_2461 rfl rfl ?_
                    refine V_iconst (v := 0) hG (by decide) dL_law_2462 ?_
                    obtain ⟨ha, j355, hi, hj, h⟩ := h
                    refine V_lald hG dL_law_2463 ha hi hj ?_
                    refine V_iload hG dL_law_2464 rfl ?_
                    refine V_i2l hG dL_law_2466 ?_
                    refine V_lcmp hG dL_law_2467 ?_
                    refine V_if_eq (tgt := 2473) hG dL_law_2468 (by decide) (fun c => ?_) (fun c => ?_)
                    · replace h := h.1 c
                      refine V_forget (lo' := [some (.ref 25), some (.ref v1), some (.ref v2), some (.ref v3), some (.int v4), none, none]) ⟨rfl, ⟨rfl, ⟨rfl, ⟨rfl, ⟨rfl, trivial⟩⟩⟩⟩⟩ ?_
                      refine V_widen (k' := k + 3) (n' := n + 18) (by first | exact Nat.le_of_ble_eq_true rfl | omega | (dsimp only; omega)) (by first | exact Nat.le_of_ble_eq_true rfl | omega | (dsimp only; omega)) ?_
                      exact wv_L_law_2473 hl hG hX hret k n (by omega) (by omega) (fun z0 z1 z2 z3 ζ hz => ih _ _ (by omega) (by omega) z0 z1 z2 z3 ζ hz) _ _ _ _ _ h
                    · replace h := h.2 c
                      refine V_iconst (v := 0) hG (by decide) dL_law_2471 ?_
                      exact law1 hret dL_law_2472 h (by first | exact Nat.le_of_ble_eq_true rfl | omega | (dsimp only; omega)) (by first | exact Nat.le_of_ble_eq_true rfl | omega | (dsimp only; omega))
                · replace h := h.2 c
                  refine V_iconst (v := 0) hG (by decide) dL_law_2454 ?_
                  exact law1 hret dL_law_2455 h (by first | exact Nat.le_of_ble_eq_true rfl | omega | (dsimp only; omega)) (by first | exact Nat.le_of_ble_eq_true rfl | omega | (dsimp only; omega))
        · replace h := h.2.2.2.2.2.2.2.2.2.2.2.2.2.2.2.2.2.2.2.2.2.2.2.2.2.2.2.2.2.2.2.2.2.2.1 c
          refine V_top (congrArg Value.int c) ?_
          refine V_swIn (tgt := 2476) (off := 2436) hG dL_law_40 (by decide) (by decide) (by decide) (by decide) ?_
          refine V_aload_n (v := .ref v1) hG dL_law_2476 rfl rfl ?_
          refine V_aload_n (v := .ref 25) hG dL_law_2477 rfl rfl ?_
          refine V_iload hG dL_law_2478 rfl ?_
          refine V_iconst (v := 1) hG (by decide) dL_law_2480 ?_
          refine V_iadd hG dL_law_2481 ?_
          obtain ⟨j356, hi, hj, h⟩ := h
          refine V_sld hG hX dL_law_2482 hi hj ?_
          refine V_aload_n (v := .ref v3) hG dL_law_2483 rfl rfl ?_
          refine V_cXI _ _ hG dL_law_2484 (ct_L_earliest hl h) mv_L_earliest ml_L_244 rfl rfl (by first | exact Nat.le_of_ble_eq_true rfl | (simp only [List.map_cons, List.map_nil, List.sum_cons, List.sum_nil, cat_rf]; exact Nat.le_of_ble_eq_true rfl)) (by first | exact Nat.le_of_ble_eq_true rfl | omega | (dsimp only; omega)) (by first | exact Nat.le_of_ble_eq_true rfl | omega | (dsimp only; omega)) (by first | exact Nat.le_of_ble_eq_true rfl | omega | (dsimp only; omega)) (by first | exact Nat.le_of_ble_eq_true rfl | omega | (dsimp only; omega)) ?_ (fun x358 σ357 h9 => ?_)
          · exact fun _ _ hx => hx.elim
          · replace h := h9
            clear h9
            refine V_istore hG dL_law_2487 (Nat.le_of_ble_eq_true rfl) (hpV rfl rfl) ?_
            refine V_aload_n (v := .ref v2) hG dL_law_2489 rfl rfl ?_
            refine V_aload_n (v := .ref 25) hG dL_law_2490 rfl rfl ?_
            refine V_iload hG dL_law_2491 rfl ?_
            refine V_iconst (v := 1) hG (by decide) dL_law_2493 ?_
            refine V_iadd hG dL_law_2494 ?_
            obtain ⟨j359, hi, hj, h⟩ := h
            refine V_sld hG hX dL_law_2495 hi hj ?_
            obtain ⟨ht, h⟩ := h
            refine V_cVI _ _ hG dL_law_2496 (ct_X10_earliest hl h) mv_X10_earliest ml_L_246 ht rfl rfl rfl rfl (by first | exact Nat.le_of_ble_eq_true rfl | (simp only [List.map_cons, List.map_nil, List.sum_cons, List.sum_nil, cat_rf]; exact Nat.le_of_ble_eq_true rfl)) (by first | exact Nat.le_of_ble_eq_true rfl | omega | (dsimp only; omega)) (by first | exact Nat.le_of_ble_eq_true rfl | omega | (dsimp only; omega)) (by first | exact Nat.le_of_ble_eq_true rfl | omega | (dsimp only; omega)) (by first | exact Nat.le_of_ble_eq_true rfl | omega | (dsimp only; omega)) ?_ (fun x361 σ360 h9 => ?_)
            · exact fun _ _ hx => hx.elim
            · replace h := h9
              clear h9
              refine V_istore hG dL_law_2499 (Nat.le_of_ble_eq_true rfl) (hpV rfl rfl) ?_
              refine V_aload_n (v := .ref v2) hG dL_law_2501 rfl rfl ?_
              obtain ⟨ht, h⟩ := h
              refine V_cVI _ _ hG dL_law_2502 (ct_X10_thrown hl h) mv_X10_thrown ml_L_131 ht rfl rfl rfl rfl (by first | exact Nat.le_of_ble_eq_true rfl | (simp only [List.map_cons, List.map_nil, List.sum_cons, List.sum_nil, cat_rf]; exact Nat.le_of_ble_eq_true rfl)) (by first | exact Nat.le_of_ble_eq_true rfl | omega | (dsimp only; omega)) (by first | exact Nat.le_of_ble_eq_true rfl | omega | (dsimp only; omega)) (by first | exact Nat.le_of_ble_eq_true rfl | omega | (dsimp only; omega)) (by first | exact Nat.le_of_ble_eq_true rfl | omega | (dsimp only; omega)) ?_ (fun x363 σ362 h9 => ?_)
              · exact fun _ _ hx => hx.elim
              · replace h := h9
                clear h9
                refine V_iload hG dL_law_2505 rfl ?_
                refine V_icmp_eq (tgt := 2512) hG dL_law_2507 (by decide) (fun c => ?_) (fun c => ?_)
                · replace h := h.1 c
                  refine V_iload hG dL_law_2512 rfl ?_
                  refine V_if_ne (tgt := 2529) hG dL_law_2514 (by decide) (fun c => ?_) (fun c => ?_)
                  · replace h := h.1 c
                    refine V_forget (lo' := [some (.ref 25), some (.ref v1), some (.ref v2), some (.ref v3), some (.int v4), none, none]) ⟨rfl, ⟨rfl, ⟨rfl, ⟨rfl, ⟨rfl, trivial⟩⟩⟩⟩⟩ ?_
                    refine V_widen (k' := k + 2) (n' := n + 12) (by first | exact Nat.le_of_ble_eq_true rfl | omega | (dsimp only; omega)) (by first | exact Nat.le_of_ble_eq_true rfl | omega | (dsimp only; omega)) ?_
                    exact wv_L_law_2529 hl hG hX hret k n (by omega) (by omega) (fun z0 z1 z2 z3 ζ hz => ih _ _ (by omega) (by omega) z0 z1 z2 z3 ζ hz) _ _ _ _ _ h
                  · replace h := h.2 c
                    refine V_aload_n (v := .ref v3) hG dL_law_2517 rfl rfl ?_
                    refine V_iconst (v := 0) hG (by decide) dL_law_2518 ?_
                    obtain ⟨ha, j364, hi, hj, h⟩ := h
                    refine V_lald hG dL_law_2519 ha hi hj ?_
                    refine V_iload hG dL_law_2520 rfl ?_
                    refine V_i2l hG dL_law_2522 ?_
                    refine V_lcmp hG dL_law_2523 ?_
                    refine V_if_eq (tgt := 2529) hG dL_law_2524 (by decide) (fun c => ?_) (fun c => ?_)
                    · replace h := h.1 c
                      refine V_forget (lo' := [some (.ref 25), some (.ref v1), some (.ref v2), some (.ref v3), some (.int v4), none, none]) ⟨rfl, ⟨rfl, ⟨rfl, ⟨rfl, ⟨rfl, trivial⟩⟩⟩⟩⟩ ?_
                      refine V_widen (k' := k + 2) (n' := n + 12) (by first | exact Nat.le_of_ble_eq_true rfl | omega | (dsimp only; omega)) (by first | exact Nat.le_of_ble_eq_true rfl | omega | (dsimp only; omega)) ?_
                      exact wv_L_law_2529 hl hG hX hret k n (by omega) (by omega) (fun z0 z1 z2 z3 ζ hz => ih _ _ (by omega) (by omega) z0 z1 z2 z3 ζ hz) _ _ _ _ _ h
                    · replace h := h.2 c
                      refine V_iconst (v := 0) hG (by decide) dL_law_2527 ?_
                      exact law1 hret dL_law_2528 h (by first | exact Nat.le_of_ble_eq_true rfl | omega | (dsimp only; omega)) (by first | exact Nat.le_of_ble_eq_true rfl | omega | (dsimp only; omega))
                · replace h := h.2 c
                  refine V_iconst (v := 0) hG (by decide) dL_law_2510 ?_
                  exact law1 hret dL_law_2511 h (by first | exact Nat.le_of_ble_eq_true rfl | omega | (dsimp only; omega)) (by first | exact Nat.le_of_ble_eq_true rfl | omega | (dsimp only; omega))
        · replace h := h.2.2.2.2.2.2.2.2.2.2.2.2.2.2.2.2.2.2.2.2.2.2.2.2.2.2.2.2.2.2.2.2.2.2.2 c
          refine V_top (congrArg Value.int c) ?_
          refine V_swIn (tgt := 2532) (off := 2492) hG dL_law_40 (by decide) (by decide) (by decide) (by decide) ?_
          refine V_aload_n (v := .ref v1) hG dL_law_2532 rfl rfl ?_
          refine V_aload_n (v := .ref 25) hG dL_law_2533 rfl rfl ?_
          refine V_iload hG dL_law_2534 rfl ?_
          refine V_iconst (v := 1) hG (by decide) dL_law_2536 ?_
          refine V_iadd hG dL_law_2537 ?_
          obtain ⟨j365, hi, hj, h⟩ := h
          refine V_sld hG hX dL_law_2538 hi hj ?_
          refine V_aload_n (v := .ref v3) hG dL_law_2539 rfl rfl ?_
          refine V_cXI _ _ hG dL_law_2540 (ct_L_ledger hl h) mv_L_ledger ml_L_247 rfl rfl (by first | exact Nat.le_of_ble_eq_true rfl | (simp only [List.map_cons, List.map_nil, List.sum_cons, List.sum_nil, cat_rf]; exact Nat.le_of_ble_eq_true rfl)) (by first | exact Nat.le_of_ble_eq_true rfl | omega | (dsimp only; omega)) (by first | exact Nat.le_of_ble_eq_true rfl | omega | (dsimp only; omega)) (by first | exact Nat.le_of_ble_eq_true rfl | omega | (dsimp only; omega)) (by first | exact Nat.le_of_ble_eq_true rfl | omega | (dsimp only; omega)) ?_ (fun x367 σ366 h9 => ?_)
          · exact fun _ _ hx => hx.elim
          · replace h := h9
            clear h9
            refine V_istore hG dL_law_2543 (Nat.le_of_ble_eq_true rfl) (hpV rfl rfl) ?_
            refine V_aload_n (v := .ref v2) hG dL_law_2545 rfl rfl ?_
            refine V_aload_n (v := .ref 25) hG dL_law_2546 rfl rfl ?_
            refine V_iload hG dL_law_2547 rfl ?_
            refine V_iconst (v := 1) hG (by decide) dL_law_2549 ?_
            refine V_iadd hG dL_law_2550 ?_
            obtain ⟨j368, hi, hj, h⟩ := h
            refine V_sld hG hX dL_law_2551 hi hj ?_
            obtain ⟨ht, h⟩ := h
            refine V_cVI _ _ hG dL_law_2552 (ct_X10_ledger hl h) mv_X10_ledger ml_L_249 ht rfl rfl rfl rfl (by first | exact Nat.le_of_ble_eq_true rfl | (simp only [List.map_cons, List.map_nil, List.sum_cons, List.sum_nil, cat_rf]; exact Nat.le_of_ble_eq_true rfl)) (by first | exact Nat.le_of_ble_eq_true rfl | omega | (dsimp only; omega)) (by first | exact Nat.le_of_ble_eq_true rfl | omega | (dsimp only; omega)) (by first | exact Nat.le_of_ble_eq_true rfl | omega | (dsimp only; omega)) (by first | exact Nat.le_of_ble_eq_true rfl | omega | (dsimp only; omega)) ?_ (fun x370 σ369 h9 => ?_)
            · exact fun _ _ hx => hx.elim
            · replace h := h9
              clear h9
              refine V_istore hG dL_law_2555 (Nat.le_of_ble_eq_true rfl) (hpV rfl rfl) ?_
              refine V_aload_n (v := .ref v2) hG dL_law_2557 rfl rfl ?_
              obtain ⟨ht, h⟩ := h
              refine V_cVI _ _ hG dL_law_2558 (ct_X10_thrown hl h) mv_X10_thrown ml_L_131 ht rfl rfl rfl rfl (by first | exact Nat.le_of_ble_eq_true rfl | (simp only [List.map_cons, List.map_nil, List.sum_cons, List.sum_nil, cat_rf]; exact Nat.le_of_ble_eq_true rfl)) (by first | exact Nat.le_of_ble_eq_true rfl | omega | (dsimp only; omega)) (by first | exact Nat.le_of_ble_eq_true rfl | omega | (dsimp only; omega)) (by first | exact Nat.le_of_ble_eq_true rfl | omega | (dsimp only; omega)) (by first | exact Nat.le_of_ble_eq_true rfl | omega | (dsimp only; omega)) ?_ (fun x372 σ371 h9 => ?_)
              · exact fun _ _ hx => hx.elim
              · replace h := h9
                clear h9
                refine V_iload hG dL_law_2561 rfl ?_
                refine V_icmp_eq (tgt := 2568) hG dL_law_2563 (by decide) (fun c => ?_) (fun c => ?_)
                · replace h := h.1 c
                  refine V_iload hG dL_law_2568 rfl ?_
                  refine V_if_ne (tgt := 2585) hG dL_law_2570 (by decide) (fun c => ?_) (fun c => ?_)
                  · replace h := h.1 c
                    refine V_forget (lo' := [some (.ref 25), some (.ref v1), some (.ref v2), some (.ref v3), some (.int v4), none, none]) ⟨rfl, ⟨rfl, ⟨rfl, ⟨rfl, ⟨rfl, trivial⟩⟩⟩⟩⟩ ?_
                    refine V_widen (k' := k + 1) (n' := n + 6) (by first | exact Nat.le_of_ble_eq_true rfl | omega | (dsimp only; omega)) (by first | exact Nat.le_of_ble_eq_true rfl | omega | (dsimp only; omega)) ?_
                    exact wv_L_law_2585 hl hG hX hret k n (by omega) (by omega) (fun z0 z1 z2 z3 ζ hz => ih _ _ (by omega) (by omega) z0 z1 z2 z3 ζ hz) _ _ _ _ _ h
                  · replace h := h.2 c
                    refine V_aload_n (v := .ref v3) hG dL_law_2573 rfl rfl ?_
                    refine V_iconst (v := 0) hG (by decide) dL_law_2574 ?_
                    obtain ⟨ha, j373, hi, hj, h⟩ := h
                    refine V_lald hG dL_law_2575 ha hi hj ?_
                    refine V_iload hG dL_law_2576 rfl ?_
                    refine V_i2l hG dL_law_2578 ?_
                    refine V_lcmp hG dL_law_2579 ?_
                    refine V_if_eq (tgt := 2585) hG dL_law_2580 (by decide) (fun c => ?_) (fun c => ?_)
                    · replace h := h.1 c
                      refine V_forget (lo' := [some (.ref 25), some (.ref v1), some (.ref v2), some (.ref v3), some (.int v4), none, none]) ⟨rfl, ⟨rfl, ⟨rfl, ⟨rfl, ⟨rfl, trivial⟩⟩⟩⟩⟩ ?_
                      refine V_widen (k' := k + 1) (n' := n + 6) (by first | exact Nat.le_of_ble_eq_true rfl | omega | (dsimp only; omega)) (by first | exact Nat.le_of_ble_eq_true rfl | omega | (dsimp only; omega)) ?_
                      exact wv_L_law_2585 hl hG hX hret k n (by omega) (by omega) (fun z0 z1 z2 z3 ζ hz => ih _ _ (by omega) (by omega) z0 z1 z2 z3 ζ hz) _ _ _ _ _ h
                    · replace h := h.2 c
                      refine V_iconst (v := 0) hG (by decide) dL_law_2583 ?_
                      exact law1 hret dL_law_2584 h (by first | exact Nat.le_of_ble_eq_true rfl | omega | (dsimp only; omega)) (by first | exact Nat.le_of_ble_eq_true rfl | omega | (dsimp only; omega))
                · replace h := h.2 c
                  refine V_iconst (v := 0) hG (by decide) dL_law_2566 ?_
                  exact law1 hret dL_law_2567 h (by first | exact Nat.le_of_ble_eq_true rfl | omega | (dsimp only; omega)) (by first | exact Nat.le_of_ble_eq_true rfl | omega | (dsimp only; omega))
def wp_L_law (L : Nat) (xs : Nat → Int32)  (σ : Sg) : Prop := ∃ u1, sX σ u1 = false ∧ u1 % 32 = 9 ∧ wp_X9_init u1 (wN σ u1) (KV (fun σ2 => ∃ u3, sX σ2 u3 = false ∧ u3 % 32 = 10 ∧ wp_X10_init u3 (wN σ2 u3) (KV (fun σ4 => ∃ u5, sX σ4 u5 = false ∧ aty (u5 % 32) = some .long ∧ aln u5 = 1 ∧ (wp_L_law_23 L xs 513 u1 u3 u5 (0 : Int32) (wN σ4 u5))) (fun _ _ => False))) (fun _ _ => False))
set_option maxRecDepth 100000 in
set_option maxHeartbeats 4000000 in
theorem wv_L_law {L9 : Launch} {G : Cx} {Q : State → Prop} {L : Nat} {xs : Nat → Int32} (hl : L9.stackTraces = false) (hG : CX L9 G yL_law cL_law 7 (some .boolean) [] { frames := 13, cells := 700684, slots := 6994052, locals := 496 }) (hX : LX G L xs) (hret : HRT G Q) {σ : Sg} (h : wp_L_law L xs σ) : V G Q 0 [some (.ref 25), none, none, none, none, none, none] [] σ 0 0 := by
  unfold wp_L_law at h
  obtain ⟨u1, hu, ht, h⟩ := h
  refine V_newn (N := 6) hG dL_law_0 hu ht rfl rfl cl_L_8 ins_X9 ini_X9 (Nat.le_of_ble_eq_true rfl) (Nat.le_of_ble_eq_true rfl) ?_
  refine V_dup (v := .ref u1) hG rfl dL_law_3 ?_
  refine V_cIV _ _ hG dL_law_4 (ct_X9_init hl h) mv_X9_init ml_L_121 rfl rfl (by first | exact Nat.le_of_ble_eq_true rfl | (simp only [List.map_cons, List.map_nil, List.sum_cons, List.sum_nil, cat_rf]; exact Nat.le_of_ble_eq_true rfl)) (Nat.le_of_ble_eq_true rfl) (Nat.le_of_ble_eq_true rfl) (by first | exact Nat.le_of_ble_eq_true rfl | omega | (dsimp only; omega)) (by first | exact Nat.le_of_ble_eq_true rfl | omega | (dsimp only; omega)) ?_ (fun σ2 h9 => ?_)
  · exact fun _ _ hx => hx.elim
  · replace h := h9
    clear h9
    refine V_astore_n hG dL_law_7 rfl (Nat.le_of_ble_eq_true rfl) (hpV rfl rfl) ?_
    obtain ⟨u3, hu, ht, h⟩ := h
    refine V_newn (N := 62) hG dL_law_8 hu ht rfl rfl cl_L_122 ins_X10 ini_X10 (Nat.le_of_ble_eq_true rfl) (Nat.le_of_ble_eq_true rfl) ?_
    refine V_dup (v := .ref u3) hG rfl dL_law_11 ?_
    refine V_cIV _ _ hG dL_law_12 (ct_X10_init hl h) mv_X10_init ml_L_124 rfl rfl (by first | exact Nat.le_of_ble_eq_true rfl | (simp only [List.map_cons, List.map_nil, List.sum_cons, List.sum_nil, cat_rf]; exact Nat.le_of_ble_eq_true rfl)) (Nat.le_of_ble_eq_true rfl) (Nat.le_of_ble_eq_true rfl) (by first | exact Nat.le_of_ble_eq_true rfl | omega | (dsimp only; omega)) (by first | exact Nat.le_of_ble_eq_true rfl | omega | (dsimp only; omega)) ?_ (fun σ4 h9 => ?_)
    · exact fun _ _ hx => hx.elim
    · replace h := h9
      clear h9
      refine V_astore_n hG dL_law_15 rfl (Nat.le_of_ble_eq_true rfl) (hpV rfl rfl) ?_
      refine V_iconst (v := 1) hG (by decide) dL_law_16 ?_
      obtain ⟨u5, hu, hy, hn, h⟩ := h
      refine V_newan (ty := .long) (N := 1) hG dL_law_17 rfl hu hy rfl (fun _ _ h => h) arr_long hn rfl (by decide) (Nat.le_of_ble_eq_true rfl) (Nat.le_of_ble_eq_true rfl) ?_
      refine V_astore_n hG dL_law_19 rfl (Nat.le_of_ble_eq_true rfl) (hpV rfl rfl) ?_
      refine V_iconst (v := 0) hG (by decide) dL_law_20 ?_
      refine V_istore hG dL_law_21 (Nat.le_of_ble_eq_true rfl) (hpV rfl rfl) ?_
      refine V_forget (lo' := [some (.ref 25), some (.ref u1), some (.ref u3), some (.ref u5), some (.int (0 : Int32)), none, none]) ⟨rfl, ⟨rfl, ⟨rfl, ⟨rfl, ⟨rfl, trivial⟩⟩⟩⟩⟩ ?_
      exact wv_L_law_23 hl hG hX hret  513 102 1731 (by omega) (by omega) _ _ _ _ _ h
