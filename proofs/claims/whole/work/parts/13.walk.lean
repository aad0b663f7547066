/-! Walks, by program. -/
def wp_X10_thrown (this : Nat) (σ : Sg) (Post : Rs → Sg → Prop) : Prop := this % 32 = 10 ∧ Post (.inl (some (.int (sI σ this 59)))) σ
set_option maxRecDepth 100000 in
set_option maxHeartbeats 4000000 in
theorem ct_X10_thrown {l : Launch} (hl : l.stackTraces = false) {this : Nat} {σ : Sg} {Post : Rs → Sg → Prop} (h : wp_X10_thrown this σ Post) : Ct l yX10_thrown (.code yX10_thrown cX10_thrown 1 (some .int)) 0 0 0 0 [.ref this] σ Post := by
  refine Ct_of [some (.ref this)] hl (by decide +kernel) rfl (fun ad => by rfl) (fun ad => by exact Nat.le_of_ble_eq_true rfl) (fun v hv => mem_lo hv rfl) ?_
  intro G hG
  unfold wp_X10_thrown at h
  refine V_aload_n (v := .ref this) hG dX10_thrown_0 rfl rfl ?_
  obtain ⟨ht, h⟩ := h
  refine V_getI hG dX10_thrown_1 fl_X10_168 rfl ht ?_
  exact V_iret hG dX10_thrown_4 (by first | exact Nat.le_of_ble_eq_true rfl | omega | (dsimp only; omega)) (by first | exact Nat.le_of_ble_eq_true rfl | omega | (dsimp only; omega)) h
def wp_X10_in (a0 : Int32) (a1 : Int32) (a2 : Int32) (σ : Sg) (Post : Rs → Sg → Prop) : Prop := ((a0 < a1 → (b01 (0 : Int32) ∧ Post (.inl (some (.int (0 : Int32)))) σ)) ∧ (¬ a0 < a1 → ((a2 < a0 → (b01 (0 : Int32) ∧ Post (.inl (some (.int (0 : Int32)))) σ)) ∧ (¬ a2 < a0 → (b01 (1 : Int32) ∧ Post (.inl (some (.int (1 : Int32)))) σ)))))
set_option maxRecDepth 100000 in
set_option maxHeartbeats 4000000 in
theorem ct_X10_in {l : Launch} (hl : l.stackTraces = false) {a0 : Int32} {a1 : Int32} {a2 : Int32} {σ : Sg} {Post : Rs → Sg → Prop} (h : wp_X10_in a0 a1 a2 σ Post) : Ct l yX10_in (.code yX10_in cX10_in 3 (some .boolean)) 0 0 0 0 [.int a0, .int a1, .int a2] σ Post := by
  refine Ct_of [some (.int a0), some (.int a1), some (.int a2)] hl (by decide +kernel) rfl (fun ad => by rfl) (fun ad => by exact Nat.le_of_ble_eq_true rfl) (fun v hv => mem_lo hv rfl) ?_
  intro G hG
  unfold wp_X10_in at h
  refine V_iload_n hG dX10_in_0 rfl ?_
  refine V_iload_n hG dX10_in_1 rfl ?_
  refine V_icmp_lt (tgt := 14) hG dX10_in_2 (by decide) (fun c => ?_) (fun c => ?_)
  · replace h := h.1 c
    refine V_iconst (v := 0) hG (by decide) dX10_in_14 ?_
    exact V_zret hG dX10_in_15 h.1 (by first | exact Nat.le_of_ble_eq_true rfl | omega | (dsimp only; omega)) (by first | exact Nat.le_of_ble_eq_true rfl | omega | (dsimp only; omega)) h.2
  · replace h := h.2 c
    refine V_iload_n hG dX10_in_5 rfl ?_
    refine V_iload_n hG dX10_in_6 rfl ?_
    refine V_icmp_gt (tgt := 14) hG dX10_in_7 (by decide) (fun c => ?_) (fun c => ?_)
    · replace h := h.1 c
      refine V_iconst (v := 0) hG (by decide) dX10_in_14 ?_
      exact V_zret hG dX10_in_15 h.1 (by first | exact Nat.le_of_ble_eq_true rfl | omega | (dsimp only; omega)) (by first | exact Nat.le_of_ble_eq_true rfl | omega | (dsimp only; omega)) h.2
    · replace h := h.2 c
      refine V_iconst (v := 1) hG (by decide) dX10_in_10 ?_
      refine V_goto (tgt := 15) hG dX10_in_11 (by decide) ?_
      exact V_zret hG dX10_in_15 h.1 (by first | exact Nat.le_of_ble_eq_true rfl | omega | (dsimp only; omega)) (by first | exact Nat.le_of_ble_eq_true rfl | omega | (dsimp only; omega)) h.2
def wp_X10_isKind (a0 : Int32) (σ : Sg) (Post : Rs → Sg → Prop) : Prop := wp_X10_in a0 (0 : Int32) (11 : Int32) σ (KI (fun x2 σ1 => (b01 x2 ∧ Post (.inl (some (.int x2))) σ1)) (fun E σ1 => Post (.inr E) σ1))
set_option maxRecDepth 100000 in
set_option maxHeartbeats 4000000 in
theorem ct_X10_isKind {l : Launch} (hl : l.stackTraces = false) {a0 : Int32} {σ : Sg} {Post : Rs → Sg → Prop} (h : wp_X10_isKind a0 σ Post) : Ct l yX10_isKind (.code yX10_isKind cX10_isKind 1 (some .boolean)) 1 22 0 0 [.int a0] σ Post := by
  refine Ct_of [some (.int a0)] hl (by decide +kernel) rfl (fun ad => by rfl) (fun ad => by exact Nat.le_of_ble_eq_true rfl) (fun v hv => mem_lo hv rfl) ?_
  intro G hG
  unfold wp_X10_isKind at h
  refine V_iload_n hG dX10_isKind_0 rfl ?_
  refine V_iconst (v := 0) hG (by decide) dX10_isKind_1 ?_
  refine V_bipush (v := 11) hG (by decide) dX10_isKind_2 ?_
  refine V_cSI _ _ hG dX10_isKind_4 (ct_X10_in hl h) mv_X10_in ml_X10_172 rfl rfl (by first | exact Nat.le_of_ble_eq_true rfl | (simp only [List.map_cons, List.map_nil, List.sum_cons, List.sum_nil, cat_rf]; exact Nat.le_of_ble_eq_true rfl)) (Nat.le_of_ble_eq_true rfl) (Nat.le_of_ble_eq_true rfl) (by first | exact Nat.le_of_ble_eq_true rfl | omega | (dsimp only; omega)) (by first | exact Nat.le_of_ble_eq_true rfl | omega | (dsimp only; omega)) ?_ (fun x2 σ1 h9 => ?_)
  · exact fun E σ1 hx => VX_out hG (by first | exact Nat.le_of_ble_eq_true rfl | omega | (dsimp only; omega)) (by first | exact Nat.le_of_ble_eq_true rfl | omega | (dsimp only; omega)) hx
  · replace h := h9
    clear h9
    exact V_zret hG dX10_isKind_7 h.1 (by first | exact Nat.le_of_ble_eq_true rfl | omega | (dsimp only; omega)) (by first | exact Nat.le_of_ble_eq_true rfl | omega | (dsimp only; omega)) h.2
def wp_X10_isBatch (this : Nat) (a0 : Int32) (σ : Sg) (Post : Rs → Sg → Prop) : Prop := this % 32 = 10 ∧ wp_X10_in a0 (0 : Int32) ((sI σ this 14) - (1 : Int32)) σ (KI (fun x2 σ1 => (b01 x2 ∧ Post (.inl (some (.int x2))) σ1)) (fun E σ1 => Post (.inr E) σ1))
set_option maxRecDepth 100000 in
set_option maxHeartbeats 4000000 in
theorem ct_X10_isBatch {l : Launch} (hl : l.stackTraces = false) {this : Nat} {a0 : Int32} {σ : Sg} {Post : Rs → Sg → Prop} (h : wp_X10_isBatch this a0 σ Post) : Ct l yX10_isBatch (.code yX10_isBatch cX10_isBatch 2 (some .boolean)) 1 22 0 0 [.ref this, .int a0] σ Post := by
  refine Ct_of [some (.ref this), some (.int a0)] hl (by decide +kernel) rfl (fun ad => by rfl) (fun ad => by exact Nat.le_of_ble_eq_true rfl) (fun v hv => mem_lo hv rfl) ?_
  intro G hG
  unfold wp_X10_isBatch at h
  refine V_iload_n hG dX10_isBatch_0 rfl ?_
  refine V_iconst (v := 0) hG (by decide) dX10_isBatch_1 ?_
  refine V_aload_n (v := .ref this) hG dX10_isBatch_2 rfl rfl ?_
  obtain ⟨ht, h⟩ := h
  refine V_getI hG dX10_isBatch_3 fl_X10_176 rfl ht ?_
  refine V_iconst (v := 1) hG (by decide) dX10_isBatch_6 ?_
  refine V_isub hG dX10_isBatch_7 ?_
  refine V_cSI _ _ hG dX10_isBatch_8 (ct_X10_in hl h) mv_X10_in ml_X10_172 rfl rfl (by first | exact Nat.le_of_ble_eq_true rfl | (simp only [List.map_cons, List.map_nil, List.sum_cons, List.sum_nil, cat_rf]; exact Nat.le_of_ble_eq_true rfl)) (Nat.le_of_ble_eq_true rfl) (Nat.le_of_ble_eq_true rfl) (by first | exact Nat.le_of_ble_eq_true rfl | omega | (dsimp only; omega)) (by first | exact Nat.le_of_ble_eq_true rfl | omega | (dsimp only; omega)) ?_ (fun x2 σ1 h9 => ?_)
  · exact fun E σ1 hx => VX_out hG (by first | exact Nat.le_of_ble_eq_true rfl | omega | (dsimp only; omega)) (by first | exact Nat.le_of_ble_eq_true rfl | omega | (dsimp only; omega)) hx
  · replace h := h9
    clear h9
    exact V_zret hG dX10_isBatch_11 h.1 (by first | exact Nat.le_of_ble_eq_true rfl | omega | (dsimp only; omega)) (by first | exact Nat.le_of_ble_eq_true rfl | omega | (dsimp only; omega)) h.2
def wp_X10_setBought_68  (this : Nat) (v1 : Int32) (v2 : Int32) (v3 : Int32) (s0 : Nat) (s1 : Int32) (σ : Sg) (Post : Rs → Sg → Prop) : Prop := s0 % 32 = 10 ∧ this % 32 = 10 ∧ ((¬ (sI (wI σ s0 59 s1) this 59) = 0 → Post (.inl none) (wI σ s0 59 s1)) ∧ ((sI (wI σ s0 59 s1) this 59) = 0 → this % 32 = 10 ∧ ∀ o1, o1 = sP (wI σ s0 59 s1) this 0 → ∃ u2, o1 = some u2 ∧ aty (u2 % 32) = some .int ∧ ∃ j3, v1 = nI j3 ∧ j3 < aln u2 ∧ this % 32 = 10 ∧ ∀ o4, o4 = sP (wI (wI σ s0 59 s1) u2 j3 (1 : Int32)) this 1 → ∃ u5, o4 = some u5 ∧ aty (u5 % 32) = some .int ∧ ∃ j6, v1 = nI j6 ∧ j6 < aln u5 ∧ this % 32 = 10 ∧ ∀ o7, o7 = sP (wI (wI (wI σ s0 59 s1) u2 j3 (1 : Int32)) u5 j6 v2) this 2 → ∃ u8, o7 = some u8 ∧ aty (u8 % 32) = some .int ∧ ∃ j9, v1 = nI j9 ∧ j9 < aln u8 ∧ Post (.inl none) (wI (wI (wI (wI σ s0 59 s1) u2 j3 (1 : Int32)) u5 j6 v2) u8 j9 v3)))
set_option maxRecDepth 100000 in
set_option maxHeartbeats 4000000 in
theorem wv_X10_setBought_68 {L9 : Launch} {G : Cx} {Post : Rs → Sg → Prop} (hl : L9.stackTraces = false) (hG : CX L9 G yX10_setBought cX10_setBought 4 none [] { frames := 2, cells := 0, slots := 0, locals := 42 })   : ∀ (this : Nat) (v1 : Int32) (v2 : Int32) (v3 : Int32) (s0 : Nat) (s1 : Int32) (σ : Sg), wp_X10_setBought_68 this v1 v2 v3 s0 s1 σ Post → V G (QM G 0 0 Post) 68 [some (.ref this), some (.int v1), some (.int v2), some (.int v3)] [.int s1, .ref s0] σ 0 0 := by
  intro this v1 v2 v3 s0 s1 σ h
  unfold wp_X10_setBought_68 at h
  obtain ⟨ht, h⟩ := h
  refine V_putI hG dX10_setBought_68 fl_X10_168 rfl (fun e => absurd e (by decide)) rfl ht ?_
  refine V_aload_n (v := .ref this) hG dX10_setBought_71 rfl rfl ?_
  obtain ⟨ht, h⟩ := h
  refine V_getI hG dX10_setBought_72 fl_X10_168 rfl ht ?_
  refine V_if_ne (tgt := 99) hG dX10_setBought_75 (by decide) (fun c => ?_) (fun c => ?_)
  · replace h := h.1 c
    exact V_vret hG dX10_setBought_99 (by first | exact Nat.le_of_ble_eq_true rfl | omega | (dsimp only; omega)) (by first | exact Nat.le_of_ble_eq_true rfl | omega | (dsimp only; omega)) h
  · replace h := h.2 c
    refine V_aload_n (v := .ref this) hG dX10_setBought_78 rfl rfl ?_
    obtain ⟨ht, h⟩ := h
    refine V_getPv hG dX10_setBought_79 fl_X10_7 rfl ht (fun o1 ho => ?_)
    replace h := h o1 ho
    refine V_iload_n hG dX10_setBought_82 rfl ?_
    refine V_iconst (v := 1) hG (by decide) dX10_setBought_83 ?_
    obtain ⟨u2, he, h⟩ := h
    subst he
    obtain ⟨ha, j3, hi, hj, h⟩ := h
    refine V_iast hG dX10_setBought_84 ha hi hj ?_
    refine V_aload_n (v := .ref this) hG dX10_setBought_85 rfl rfl ?_
    obtain ⟨ht, h⟩ := h
    refine V_getPv hG dX10_setBought_86 fl_X10_13 rfl ht (fun o4 ho => ?_)
    replace h := h o4 ho
    refine V_iload_n hG dX10_setBought_89 rfl ?_
    refine V_iload_n hG dX10_setBought_90 rfl ?_
    obtain ⟨u5, he, h⟩ := h
    subst he
    obtain ⟨ha, j6, hi, hj, h⟩ := h
    refine V_iast hG dX10_setBought_91 ha hi hj ?_
    refine V_aload_n (v := .ref this) hG dX10_setBought_92 rfl rfl ?_
    obtain ⟨ht, h⟩ := h
    refine V_getPv hG dX10_setBought_93 fl_X10_16 rfl ht (fun o7 ho => ?_)
    replace h := h o7 ho
    refine V_iload_n hG dX10_setBought_96 rfl ?_
    refine V_iload_n hG dX10_setBought_97 rfl ?_
    obtain ⟨u8, he, h⟩ := h
    subst he
    obtain ⟨ha, j9, hi, hj, h⟩ := h
    refine V_iast hG dX10_setBought_98 ha hi hj ?_
    exact V_vret hG dX10_setBought_99 (by first | exact Nat.le_of_ble_eq_true rfl | omega | (dsimp only; omega)) (by first | exact Nat.le_of_ble_eq_true rfl | omega | (dsimp only; omega)) h
def wp_X10_setBought_32  (this : Nat) (v1 : Int32) (v2 : Int32) (v3 : Int32) (s0 : Nat) (σ : Sg) (Post : Rs → Sg → Prop) : Prop := (wp_X10_setBought_68 this v1 v2 v3 s0 (2 : Int32) σ Post)
set_option maxRecDepth 100000 in
set_option maxHeartbeats 4000000 in
theorem wv_X10_setBought_32 {L9 : Launch} {G : Cx} {Post : Rs → Sg → Prop} (hl : L9.stackTraces = false) (hG : CX L9 G yX10_setBought cX10_setBought 4 none [] { frames := 2, cells := 0, slots := 0, locals := 42 })   : ∀ (this : Nat) (v1 : Int32) (v2 : Int32) (v3 : Int32) (s0 : Nat) (σ : Sg), wp_X10_setBought_32 this v1 v2 v3 s0 σ Post → V G (QM G 0 0 Post) 32 [some (.ref this), some (.int v1), some (.int v2), some (.int v3)] [.ref s0] σ 0 0 := by
  intro this v1 v2 v3 s0 σ h
  unfold wp_X10_setBought_32 at h
  refine V_iconst (v := 2) hG (by decide) dX10_setBought_32 ?_
  refine V_goto (tgt := 68) hG dX10_setBought_33 (by decide) ?_
  refine V_forget (lo' := [some (.ref this), some (.int v1), some (.int v2), some (.int v3)]) ⟨rfl, ⟨rfl, ⟨rfl, ⟨rfl, trivial⟩⟩⟩⟩ ?_
  refine V_widen (k' := 0) (n' := 0) (by first | exact Nat.le_of_ble_eq_true rfl | omega | (dsimp only; omega)) (by first | exact Nat.le_of_ble_eq_true rfl | omega | (dsimp only; omega)) ?_
  exact wv_X10_setBought_68 hl hG  _ _ _ _ _ _ _ h
def wp_X10_setBought_63  (this : Nat) (v1 : Int32) (v2 : Int32) (v3 : Int32) (s0 : Nat) (σ : Sg) (Post : Rs → Sg → Prop) : Prop := (wp_X10_setBought_68 this v1 v2 v3 s0 (3 : Int32) σ Post)
set_option maxRecDepth 100000 in
set_option maxHeartbeats 4000000 in
theorem wv_X10_setBought_63 {L9 : Launch} {G : Cx} {Post : Rs → Sg → Prop} (hl : L9.stackTraces = false) (hG : CX L9 G yX10_setBought cX10_setBought 4 none [] { frames := 2, cells := 0, slots := 0, locals := 42 })   : ∀ (this : Nat) (v1 : Int32) (v2 : Int32) (v3 : Int32) (s0 : Nat) (σ : Sg), wp_X10_setBought_63 this v1 v2 v3 s0 σ Post → V G (QM G 0 0 Post) 63 [some (.ref this), some (.int v1), some (.int v2), some (.int v3)] [.ref s0] σ 0 0 := by
  intro this v1 v2 v3 s0 σ h
  unfold wp_X10_setBought_63 at h
  refine V_iconst (v := 3) hG (by decide) dX10_setBought_63 ?_
  refine V_goto (tgt := 68) hG dX10_setBought_64 (by decide) ?_
  refine V_forget (lo' := [some (.ref this), some (.int v1), some (.int v2), some (.int v3)]) ⟨rfl, ⟨rfl, ⟨rfl, ⟨rfl, trivial⟩⟩⟩⟩ ?_
  refine V_widen (k' := 0) (n' := 0) (by first | exact Nat.le_of_ble_eq_true rfl | omega | (dsimp only; omega)) (by first | exact Nat.le_of_ble_eq_true rfl | omega | (dsimp only; omega)) ?_
  exact wv_X10_setBought_68 hl hG  _ _ _ _ _ _ _ h
def wp_X10_setBought (this : Nat) (a0 : Int32) (a1 : Int32) (a2 : Int32) (σ : Sg) (Post : Rs → Sg → Prop) : Prop := wp_X10_isKind a0 σ (KI (fun x2 σ1 => ((¬ x2 = 0 → wp_X10_in a1 (1 : Int32) (99 : Int32) σ1 (KI (fun x4 σ3 => ((x4 = 0 → (wp_X10_setBought_32 this a0 a1 a2 this σ3 Post)) ∧ (¬ x4 = 0 → wp_X10_in a2 (0 : Int32) (30 : Int32) σ3 (KI (fun x6 σ5 => ((¬ x6 = 0 → this % 32 = 10 ∧ ∀ o7, o7 = sP σ5 this 13 → ∃ u8, o7 = some u8 ∧ aty (u8 % 32) = some .boolean ∧ ∃ j9, a0 = nI j9 ∧ j9 < aln u8 ∧ ((¬ (sI σ5 u8 j9) = 0 → (wp_X10_setBought_63 this a0 a1 a2 this σ5 Post)) ∧ ((sI σ5 u8 j9) = 0 → this % 32 = 10 ∧ ∀ o10, o10 = sP σ5 this 3 → ∃ u11, o10 = some u11 ∧ aty (u11 % 32) = some .int ∧ ∃ j12, a0 = nI j12 ∧ j12 < aln u11 ∧ ((0 < (sI σ5 u11 j12) → (wp_X10_setBought_63 this a0 a1 a2 this σ5 Post)) ∧ (¬ 0 < (sI σ5 u11 j12) → this % 32 = 10 ∧ ∀ o13, o13 = sP σ5 this 7 → ∃ u14, o13 = some u14 ∧ aty (u14 % 32) = some .int ∧ ∃ j15, a0 = nI j15 ∧ j15 < aln u14 ∧ (((sI σ5 u14 j15) ≤ 0 → (wp_X10_setBought_68 this a0 a1 a2 this (0 : Int32) σ5 Post)) ∧ (¬ (sI σ5 u14 j15) ≤ 0 → (wp_X10_setBought_63 this a0 a1 a2 this σ5 Post)))))))) ∧ (x6 = 0 → (wp_X10_setBought_32 this a0 a1 a2 this σ5 Post)))) (fun E σ5 => Post (.inr E) σ5))))) (fun E σ3 => Post (.inr E) σ3))) ∧ (x2 = 0 → (wp_X10_setBought_68 this a0 a1 a2 this (1 : Int32) σ1 Post)))) (fun E σ1 => Post (.inr E) σ1))
set_option maxRecDepth 100000 in
set_option maxHeartbeats 4000000 in
theorem ct_X10_setBought {l : Launch} (hl : l.stackTraces = false) {this : Nat} {a0 : Int32} {a1 : Int32} {a2 : Int32} {σ : Sg} {Post : Rs → Sg → Prop} (h : wp_X10_setBought this a0 a1 a2 σ Post) : Ct l yX10_setBought (.code yX10_setBought cX10_setBought 4 none) 2 42 0 0 [.ref this, .int a0, .int a1, .int a2] σ Post := by
  refine Ct_of [some (.ref this), some (.int a0), some (.int a1), some (.int a2)] hl (by decide +kernel) rfl (fun ad => by rfl) (fun ad => by exact Nat.le_of_ble_eq_true rfl) (fun v hv => mem_lo hv rfl) ?_
  intro G hG
  unfold wp_X10_setBought at h
  refine V_aload_n (v := .ref this) hG dX10_setBought_0 rfl rfl ?_
  refine V_iload_n hG dX10_setBought_1 rfl ?_
  refine V_cSI _ _ hG dX10_setBought_2 (ct_X10_isKind hl h) mv_X10_isKind ml_X10_179 rfl rfl (by first | exact Nat.le_of_ble_eq_true rfl | (simp only [List.map_cons, List.map_nil, List.sum_cons, List.sum_nil, cat_rf]; exact Nat.le_of_ble_eq_true rfl)) (Nat.le_of_ble_eq_true rfl) (Nat.le_of_ble_eq_true rfl) (by first | exact Nat.le_of_ble_eq_true rfl | omega | (dsimp only; omega)) (by first | exact Nat.le_of_ble_eq_true rfl | omega | (dsimp only; omega)) ?_ (fun x2 σ1 h9 => ?_)
  · exact fun E σ1 hx => VX_out hG (by first | exact Nat.le_of_ble_eq_true rfl | omega | (dsimp only; omega)) (by first | exact Nat.le_of_ble_eq_true rfl | omega | (dsimp only; omega)) hx
  · replace h := h9
    clear h9
    refine V_if_ne (tgt := 12) hG dX10_setBought_5 (by decide) (fun c => ?_) (fun c => ?_)
    · replace h := h.1 c
      refine V_iload_n hG dX10_setBought_12 rfl ?_
      refine V_iconst (v := 1) hG (by decide) dX10_setBought_13 ?_
      refine V_bipush (v := 99) hG (by decide) dX10_setBought_14 ?_
      refine V_cSI _ _ hG dX10_setBought_16 (ct_X10_in hl h) mv_X10_in ml_X10_172 rfl rfl (by first | exact Nat.le_of_ble_eq_true rfl | (simp only [List.map_cons, List.map_nil, List.sum_cons, List.sum_nil, cat_rf]; exact Nat.le_of_ble_eq_true rfl)) (Nat.le_of_ble_eq_true rfl) (Nat.le_of_ble_eq_true rfl) (by first | exact Nat.le_of_ble_eq_true rfl | omega | (dsimp only; omega)) (by first | exact Nat.le_of_ble_eq_true rfl | omega | (dsimp only; omega)) ?_ (fun x4 σ3 h9 => ?_)
      · exact fun E σ3 hx => VX_out hG (by first | exact Nat.le_of_ble_eq_true rfl | omega | (dsimp only; omega)) (by first | exact Nat.le_of_ble_eq_true rfl | omega | (dsimp only; omega)) hx
      · replace h := h9
        clear h9
        refine V_if_eq (tgt := 32) hG dX10_setBought_19 (by decide) (fun c => ?_) (fun c => ?_)
        · replace h := h.1 c
          refine V_forget (lo' := [some (.ref this), some (.int a0), some (.int a1), some (.int a2)]) ⟨rfl, ⟨rfl, ⟨rfl, ⟨rfl, trivial⟩⟩⟩⟩ ?_
          refine V_widen (k' := 0) (n' := 0) (by first | exact Nat.le_of_ble_eq_true rfl | omega | (dsimp only; omega)) (by first | exact Nat.le_of_ble_eq_true rfl | omega | (dsimp only; omega)) ?_
          exact wv_X10_setBought_32 hl hG  _ _ _ _ _ _ h
        · replace h := h.2 c
          refine V_iload_n hG dX10_setBought_22 rfl ?_
          refine V_iconst (v := 0) hG (by decide) dX10_setBought_23 ?_
          refine V_bipush (v := 30) hG (by decide) dX10_setBought_24 ?_
          refine V_cSI _ _ hG dX10_setBought_26 (ct_X10_in hl h) mv_X10_in ml_X10_172 rfl rfl (by first | exact Nat.le_of_ble_eq_true rfl | (simp only [List.map_cons, List.map_nil, List.sum_cons, List.sum_nil, cat_rf]; exact Nat.le_of_ble_eq_true rfl)) (Nat.le_of_ble_eq_true rfl) (Nat.le_of_ble_eq_true rfl) (by first | exact Nat.le_of_ble_eq_true rfl | omega | (dsimp only; omega)) (by first | exact Nat.le_of_ble_eq_true rfl | omega | (dsimp only; omega)) ?_ (fun x6 σ5 h9 => ?_)
          · exact fun E σ5 hx => VX_out hG (by first | exact Nat.le_of_ble_eq_true rfl | omega | (dsimp only; omega)) (by first | exact Nat.le_of_ble_eq_true rfl | omega | (dsimp only; omega)) hx
          · replace h := h9
            clear h9
            refine V_if_ne (tgt := 36) hG dX10_setBought_29 (by decide) (fun c => ?_) (fun c => ?_)
            · replace h := h.1 c
              refine V_aload_n (v := .ref this) hG dX10_setBought_36 rfl rfl ?_
              obtain ⟨ht, h⟩ := h
              refine V_getPv hG dX10_setBought_37 fl_X10_49 rfl ht (fun o7 ho => ?_)
              replace h := h o7 ho
              refine V_iload_n hG dX10_setBought_40 rfl ?_
              obtain ⟨u8, he, h⟩ := h
              subst he
              obtain ⟨ha, j9, hi, hj, h⟩ := h
              refine V_zald hG dX10_setBought_41 ha hi hj ?_
              refine V_if_ne (tgt := 63) hG dX10_setBought_42 (by decide) (fun c => ?_) (fun c => ?_)
              · replace h := h.1 c
                refine V_forget (lo' := [some (.ref this), some (.int a0), some (.int a1), some (.int a2)]) ⟨rfl, ⟨rfl, ⟨rfl, ⟨rfl, trivial⟩⟩⟩⟩ ?_
                refine V_widen (k' := 0) (n' := 0) (by first | exact Nat.le_of_ble_eq_true rfl | omega | (dsimp only; omega)) (by first | exact Nat.le_of_ble_eq_true rfl | omega | (dsimp only; omega)) ?_
                exact wv_X10_setBought_63 hl hG  _ _ _ _ _ _ h
              · replace h := h.2 c
                refine V_aload_n (v := .ref this) hG dX10_setBought_45 rfl rfl ?_
                obtain ⟨ht, h⟩ := h
                refine V_getPv hG dX10_setBought_46 fl_X10_19 rfl ht (fun o10 ho => ?_)
                replace h := h o10 ho
                refine V_iload_n hG dX10_setBought_49 rfl ?_
                obtain ⟨u11, he, h⟩ := h
                subst he
                obtain ⟨ha, j12, hi, hj, h⟩ := h
                refine V_iald hG dX10_setBought_50 ha hi hj ?_
                refine V_if_gt (tgt := 63) hG dX10_setBought_51 (by decide) (fun c => ?_) (fun c => ?_)
                · replace h := h.1 c
                  refine V_forget (lo' := [some (.ref this), some (.int a0), some (.int a1), some (.int a2)]) ⟨rfl, ⟨rfl, ⟨rfl, ⟨rfl, trivial⟩⟩⟩⟩ ?_
                  refine V_widen (k' := 0) (n' := 0) (by first | exact Nat.le_of_ble_eq_true rfl | omega | (dsimp only; omega)) (by first | exact Nat.le_of_ble_eq_true rfl | omega | (dsimp only; omega)) ?_
                  exact wv_X10_setBought_63 hl hG  _ _ _ _ _ _ h
                · replace h := h.2 c
                  refine V_aload_n (v := .ref this) hG dX10_setBought_54 rfl rfl ?_
                  obtain ⟨ht, h⟩ := h
                  refine V_getPv hG dX10_setBought_55 fl_X10_31 rfl ht (fun o13 ho => ?_)
                  replace h := h o13 ho
                  refine V_iload_n hG dX10_setBought_58 rfl ?_
                  obtain ⟨u14, he, h⟩ := h
                  subst he
                  obtain ⟨ha, j15, hi, hj, h⟩ := h
                  refine V_iald hG dX10_setBought_59 ha hi hj ?_
                  refine V_if_le (tgt := 67) hG dX10_setBought_60 (by decide) (fun c => ?_) (fun c => ?_)
                  · replace h := h.1 c
                    refine V_iconst (v := 0) hG (by decide) dX10_setBought_67 ?_
                    refine V_forget (lo' := [some (.ref this), some (.int a0), some (.int a1), some (.int a2)]) ⟨rfl, ⟨rfl, ⟨rfl, ⟨rfl, trivial⟩⟩⟩⟩ ?_
                    refine V_widen (k' := 0) (n' := 0) (by first | exact Nat.le_of_ble_eq_true rfl | omega | (dsimp only; omega)) (by first | exact Nat.le_of_ble_eq_true rfl | omega | (dsimp only; omega)) ?_
                    exact wv_X10_setBought_68 hl hG  _ _ _ _ _ _ _ h
                  · replace h := h.2 c
                    refine V_forget (lo' := [some (.ref this), some (.int a0), some (.int a1), some (.int a2)]) ⟨rfl, ⟨rfl, ⟨rfl, ⟨rfl, trivial⟩⟩⟩⟩ ?_
                    refine V_widen (k' := 0) (n' := 0) (by first | exact Nat.le_of_ble_eq_true rfl | omega | (dsimp only; omega)) (by first | exact Nat.le_of_ble_eq_true rfl | omega | (dsimp only; omega)) ?_
                    exact wv_X10_setBought_63 hl hG  _ _ _ _ _ _ h
            · replace h := h.2 c
              refine V_forget (lo' := [some (.ref this), some (.int a0), some (.int a1), some (.int a2)]) ⟨rfl, ⟨rfl, ⟨rfl, ⟨rfl, trivial⟩⟩⟩⟩ ?_
              refine V_widen (k' := 0) (n' := 0) (by first | exact Nat.le_of_ble_eq_true rfl | omega | (dsimp only; omega)) (by first | exact Nat.le_of_ble_eq_true rfl | omega | (dsimp only; omega)) ?_
              exact wv_X10_setBought_32 hl hG  _ _ _ _ _ _ h
    · replace h := h.2 c
      refine V_iconst (v := 1) hG (by decide) dX10_setBought_8 ?_
      refine V_goto (tgt := 68) hG dX10_setBought_9 (by decide) ?_
      refine V_forget (lo' := [some (.ref this), some (.int a0), some (.int a1), some (.int a2)]) ⟨rfl, ⟨rfl, ⟨rfl, ⟨rfl, trivial⟩⟩⟩⟩ ?_
      refine V_widen (k' := 0) (n' := 0) (by first | exact Nat.le_of_ble_eq_true rfl | omega | (dsimp only; omega)) (by first | exact Nat.le_of_ble_eq_true rfl | omega | (dsimp only; omega)) ?_
      exact wv_X10_setBought_68 hl hG  _ _ _ _ _ _ _ h
def wp_X10_addLine_97  (this : Nat) (v1 : Int32) (v2 : Int32) (v3 : Int32) (v4 : Int32) (s0 : Nat) (s1 : Int32) (σ : Sg) (Post : Rs → Sg → Prop) : Prop := s0 % 32 = 10 ∧ this % 32 = 10 ∧ (((sI (wI σ s0 59 s1) this 59) ≤ 0 → this % 32 = 10 ∧ ∀ o1, o1 = sP (wI σ s0 59 s1) this 3 → ∃ u2, o1 = some u2 ∧ aty (u2 % 32) = some .int ∧ ∃ j3, v1 = nI j3 ∧ j3 < aln u2 ∧ this % 32 = 10 ∧ ∀ o4, o4 = sP (wI σ s0 59 s1) this 4 → ∃ u5, o4 = some u5 ∧ aty (u5 % 32) = some .int ∧ ∃ j6, (((3 : Int32) * v1) + (sI (wI σ s0 59 s1) u2 j3)) = nI j6 ∧ j6 < aln u5 ∧ this % 32 = 10 ∧ ∀ o7, o7 = sP (wI (wI σ s0 59 s1) u5 j6 v2) this 5 → ∃ u8, o7 = some u8 ∧ aty (u8 % 32) = some .int ∧ ∃ j9, (((3 : Int32) * v1) + (sI (wI σ s0 59 s1) u2 j3)) = nI j9 ∧ j9 < aln u8 ∧ this % 32 = 10 ∧ ∀ o10, o10 = sP (wI (wI (wI σ s0 59 s1) u5 j6 v2) u8 j9 v3) this 6 → ∃ u11, o10 = some u11 ∧ aty (u11 % 32) = some .int ∧ ∃ j12, (((3 : Int32) * v1) + (sI (wI σ s0 59 s1) u2 j3)) = nI j12 ∧ j12 < aln u11 ∧ this % 32 = 10 ∧ ∀ o13, o13 = sP (wI (wI (wI (wI σ s0 59 s1) u5 j6 v2) u8 j9 v3) u11 j12 v4) this 3 → ∃ u14, o13 = some u14 ∧ aty (u14 % 32) = some .int ∧ ∃ j15, v1 = nI j15 ∧ j15 < aln u14 ∧ aty (u14 % 32) = some .int ∧ ∃ j16, v1 = nI j16 ∧ j16 < aln u14 ∧ this % 32 = 10 ∧ ∀ o17, o17 = sP (wI (wI (wI (wI (wI σ s0 59 s1) u5 j6 v2) u8 j9 v3) u11 j12 v4) u14 j16 ((sI (wI (wI (wI (wI σ s0 59 s1) u5 j6 v2) u8 j9 v3) u11 j12 v4) u14 j15) + (1 : Int32))) this 3 → ∃ u18, o17 = some u18 ∧ aty (u18 % 32) = some .int ∧ ∃ j19, v1 = nI j19 ∧ j19 < aln u18 ∧ Post (.inl (some (.int (sI (wI (wI (wI (wI (wI σ s0 59 s1) u5 j6 v2) u8 j9 v3) u11 j12 v4) u14 j16 ((sI (wI (wI (wI (wI σ s0 59 s1) u5 j6 v2) u8 j9 v3) u11 j12 v4) u14 j15) + (1 : Int32))) u18 j19)))) (wI (wI (wI (wI (wI σ s0 59 s1) u5 j6 v2) u8 j9 v3) u11 j12 v4) u14 j16 ((sI (wI (wI (wI (wI σ s0 59 s1) u5 j6 v2) u8 j9 v3) u11 j12 v4) u14 j15) + (1 : Int32)))) ∧ (¬ (sI (wI σ s0 59 s1) this 59) ≤ 0 → Post (.inl (some (.int (0 : Int32)))) (wI σ s0 59 s1)))
set_option maxRecDepth 100000 in
set_option maxHeartbeats 4000000 in
theorem wv_X10_addLine_97 {L9 : Launch} {G : Cx} {Post : Rs → Sg → Prop} (hl : L9.stackTraces = false) (hG : CX L9 G yX10_addLine cX10_addLine 6 (some .int) [] { frames := 2, cells := 0, slots := 0, locals := 42 })   : ∀ (this : Nat) (v1 : Int32) (v2 : Int32) (v3 : Int32) (v4 : Int32) (s0 : Nat) (s1 : Int32) (σ : Sg), wp_X10_addLine_97 this v1 v2 v3 v4 s0 s1 σ Post → V G (QM G 0 0 Post) 97 [some (.ref this), some (.int v1), some (.int v2), some (.int v3), some (.int v4), none] [.int s1, .ref s0] σ 0 0 := by
  intro this v1 v2 v3 v4 s0 s1 σ h
  unfold wp_X10_addLine_97 at h
  obtain ⟨ht, h⟩ := h
  refine V_putI hG dX10_addLine_97 fl_X10_168 rfl (fun e => absurd e (by decide)) rfl ht ?_
  refine V_aload_n (v := .ref this) hG dX10_addLine_100 rfl rfl ?_
  obtain ⟨ht, h⟩ := h
  refine V_getI hG dX10_addLine_101 fl_X10_168 rfl ht ?_
  refine V_if_le (tgt := 109) hG dX10_addLine_104 (by decide) (fun c => ?_) (fun c => ?_)
  · replace h := h.1 c
    refine V_iconst (v := 3) hG (by decide) dX10_addLine_109 ?_
    refine V_iload_n hG dX10_addLine_110 rfl ?_
    refine V_imul hG dX10_addLine_111 ?_
    refine V_aload_n (v := .ref this) hG dX10_addLine_112 rfl rfl ?_
    obtain ⟨ht, h⟩ := h
    refine V_getPv hG dX10_addLine_113 fl_X10_19 rfl ht (fun o1 ho => ?_)
    replace h := h o1 ho
    refine V_iload_n hG dX10_addLine_116 rfl ?_
    obtain ⟨u2, he, h⟩ := h
    subst he
    obtain ⟨ha, j3, hi, hj, h⟩ := h
    refine V_iald hG dX10_addLine_117 ha hi hj ?_
    refine V_iadd hG dX10_addLine_118 ?_
    refine V_istore hG dX10_addLine_119 (Nat.le_of_ble_eq_true rfl) (hpV rfl rfl) ?_
    refine V_aload_n (v := .ref this) hG dX10_addLine_121 rfl rfl ?_
    obtain ⟨ht, h⟩ := h
    refine V_getPv hG dX10_addLine_122 fl_X10_22 rfl ht (fun o4 ho => ?_)
    replace h := h o4 ho
    refine V_iload hG dX10_addLine_125 rfl ?_
    refine V_iload_n hG dX10_addLine_127 rfl ?_
    obtain ⟨u5, he, h⟩ := h
    subst he
    obtain ⟨ha, j6, hi, hj, h⟩ := h
    refine V_iast hG dX10_addLine_128 ha hi hj ?_
    refine V_aload_n (v := .ref this) hG dX10_addLine_129 rfl rfl ?_
    obtain ⟨ht, h⟩ := h
    refine V_getPv hG dX10_addLine_130 fl_X10_25 rfl ht (fun o7 ho => ?_)
    replace h := h o7 ho
    refine V_iload hG dX10_addLine_133 rfl ?_
    refine V_iload_n hG dX10_addLine_135 rfl ?_
    obtain ⟨u8, he, h⟩ := h
    subst he
    obtain ⟨ha, j9, hi, hj, h⟩ := h
    refine V_iast hG dX10_addLine_136 ha hi hj ?_
    refine V_aload_n (v := .ref this) hG dX10_addLine_137 rfl rfl ?_
    obtain ⟨ht, h⟩ := h
    refine V_getPv hG dX10_addLine_138 fl_X10_28 rfl ht (fun o10 ho => ?_)
    replace h := h o10 ho
    refine V_iload hG dX10_addLine_141 rfl ?_
    refine V_iload hG dX10_addLine_143 rfl ?_
    obtain ⟨u11, he, h⟩ := h
    subst he
    obtain ⟨ha, j12, hi, hj, h⟩ := h
    refine V_iast hG dX10_addLine_145 ha hi hj ?_
    refine V_aload_n (v := .ref this) hG dX10_addLine_146 rfl rfl ?_
    obtain ⟨ht, h⟩ := h
    refine V_getPv hG dX10_addLine_147 fl_X10_19 rfl ht (fun o13 ho => ?_)
    replace h := h o13 ho
    refine V_iload_n hG dX10_addLine_150 rfl ?_
    refine V_dup2 hG rfl (cat_rf _) dX10_addLine_151 ?_
    obtain ⟨u14, he, h⟩ := h
    subst he
    obtain ⟨ha, j15, hi, hj, h⟩ := h
    refine V_iald hG dX10_addLine_152 ha hi hj ?_
    refine V_iconst (v := 1) hG (by decide) dX10_addLine_153 ?_
    refine V_iadd hG dX10_addLine_154 ?_
    obtain ⟨ha, j16, hi, hj, h⟩ := h
    refine V_iast hG dX10_addLine_155 ha hi hj ?_
    refine V_aload_n (v := .ref this) hG dX10_addLine_156 rfl rfl ?_
    obtain ⟨ht, h⟩ := h
    refine V_getPv hG dX10_addLine_157 fl_X10_19 rfl ht (fun o17 ho => ?_)
    replace h := h o17 ho
    refine V_iload_n hG dX10_addLine_160 rfl ?_
    obtain ⟨u18, he, h⟩ := h
    subst he
    obtain ⟨ha, j19, hi, hj, h⟩ := h
    refine V_iald hG dX10_addLine_161 ha hi hj ?_
    exact V_iret hG dX10_addLine_162 (by first | exact Nat.le_of_ble_eq_true rfl | omega | (dsimp only; omega)) (by first | exact Nat.le_of_ble_eq_true rfl | omega | (dsimp only; omega)) h
  · replace h := h.2 c
    refine V_iconst (v := 0) hG (by decide) dX10_addLine_107 ?_
    exact V_iret hG dX10_addLine_108 (by first | exact Nat.le_of_ble_eq_true rfl | omega | (dsimp only; omega)) (by first | exact Nat.le_of_ble_eq_true rfl | omega | (dsimp only; omega)) h
def wp_X10_addLine_29  (this : Nat) (v1 : Int32) (v2 : Int32) (v3 : Int32) (v4 : Int32) (s0 : Nat) (σ : Sg) (Post : Rs → Sg → Prop) : Prop := (wp_X10_addLine_97 this v1 v2 v3 v4 s0 (1 : Int32) σ Post)
set_option maxRecDepth 100000 in
set_option maxHeartbeats 4000000 in
theorem wv_X10_addLine_29 {L9 : Launch} {G : Cx} {Post : Rs → Sg → Prop} (hl : L9.stackTraces = false) (hG : CX L9 G yX10_addLine cX10_addLine 6 (some .int) [] { frames := 2, cells := 0, slots := 0, locals := 42 })   : ∀ (this : Nat) (v1 : Int32) (v2 : Int32) (v3 : Int32) (v4 : Int32) (s0 : Nat) (σ : Sg), wp_X10_addLine_29 this v1 v2 v3 v4 s0 σ Post → V G (QM G 0 0 Post) 29 [some (.ref this), some (.int v1), some (.int v2), some (.int v3), some (.int v4), none] [.ref s0] σ 0 0 := by
  intro this v1 v2 v3 v4 s0 σ h
  unfold wp_X10_addLine_29 at h
  refine V_iconst (v := 1) hG (by decide) dX10_addLine_29 ?_
  refine V_goto (tgt := 97) hG dX10_addLine_30 (by decide) ?_
  refine V_forget (lo' := [some (.ref this), some (.int v1), some (.int v2), some (.int v3), some (.int v4), none]) ⟨rfl, ⟨rfl, ⟨rfl, ⟨rfl, ⟨rfl, trivial⟩⟩⟩⟩⟩ ?_
  refine V_widen (k' := 0) (n' := 0) (by first | exact Nat.le_of_ble_eq_true rfl | omega | (dsimp only; omega)) (by first | exact Nat.le_of_ble_eq_true rfl | omega | (dsimp only; omega)) ?_
  exact wv_X10_addLine_97 hl hG  _ _ _ _ _ _ _ _ h
def wp_X10_addLine_59  (this : Nat) (v1 : Int32) (v2 : Int32) (v3 : Int32) (v4 : Int32) (s0 : Nat) (σ : Sg) (Post : Rs → Sg → Prop) : Prop := (wp_X10_addLine_97 this v1 v2 v3 v4 s0 (2 : Int32) σ Post)
set_option maxRecDepth 100000 in
set_option maxHeartbeats 4000000 in
theorem wv_X10_addLine_59 {L9 : Launch} {G : Cx} {Post : Rs → Sg → Prop} (hl : L9.stackTraces = false) (hG : CX L9 G yX10_addLine cX10_addLine 6 (some .int) [] { frames := 2, cells := 0, slots := 0, locals := 42 })   : ∀ (this : Nat) (v1 : Int32) (v2 : Int32) (v3 : Int32) (v4 : Int32) (s0 : Nat) (σ : Sg), wp_X10_addLine_59 this v1 v2 v3 v4 s0 σ Post → V G (QM G 0 0 Post) 59 [some (.ref this), some (.int v1), some (.int v2), some (.int v3), some (.int v4), none] [.ref s0] σ 0 0 := by
  intro this v1 v2 v3 v4 s0 σ h
  unfold wp_X10_addLine_59 at h
  refine V_iconst (v := 2) hG (by decide) dX10_addLine_59 ?_
  refine V_goto (tgt := 97) hG dX10_addLine_60 (by decide) ?_
  refine V_forget (lo' := [some (.ref this), some (.int v1), some (.int v2), some (.int v3), some (.int v4), none]) ⟨rfl, ⟨rfl, ⟨rfl, ⟨rfl, ⟨rfl, trivial⟩⟩⟩⟩⟩ ?_
  refine V_widen (k' := 0) (n' := 0) (by first | exact Nat.le_of_ble_eq_true rfl | omega | (dsimp only; omega)) (by first | exact Nat.le_of_ble_eq_true rfl | omega | (dsimp only; omega)) ?_
  exact wv_X10_addLine_97 hl hG  _ _ _ _ _ _ _ _ h
def wp_X10_addLine_92  (this : Nat) (v1 : Int32) (v2 : Int32) (v3 : Int32) (v4 : Int32) (s0 : Nat) (σ : Sg) (Post : Rs → Sg → Prop) : Prop := (wp_X10_addLine_97 this v1 v2 v3 v4 s0 (3 : Int32) σ Post)
set_option maxRecDepth 100000 in
set_option maxHeartbeats 4000000 in
theorem wv_X10_addLine_92 {L9 : Launch} {G : Cx} {Post : Rs → Sg → Prop} (hl : L9.stackTraces = false) (hG : CX L9 G yX10_addLine cX10_addLine 6 (some .int) [] { frames := 2, cells := 0, slots := 0, locals := 42 })   : ∀ (this : Nat) (v1 : Int32) (v2 : Int32) (v3 : Int32) (v4 : Int32) (s0 : Nat) (σ : Sg), wp_X10_addLine_92 this v1 v2 v3 v4 s0 σ Post → V G (QM G 0 0 Post) 92 [some (.ref this), some (.int v1), some (.int v2), some (.int v3), some (.int v4), none] [.ref s0] σ 0 0 := by
  intro this v1 v2 v3 v4 s0 σ h
  unfold wp_X10_addLine_92 at h
  refine V_iconst (v := 3) hG (by decide) dX10_addLine_92 ?_
  refine V_goto (tgt := 97) hG dX10_addLine_93 (by decide) ?_
  refine V_forget (lo' := [some (.ref this), some (.int v1), some (.int v2), some (.int v3), some (.int v4), none]) ⟨rfl, ⟨rfl, ⟨rfl, ⟨rfl, ⟨rfl, trivial⟩⟩⟩⟩⟩ ?_
  refine V_widen (k' := 0) (n' := 0) (by first | exact Nat.le_of_ble_eq_true rfl | omega | (dsimp only; omega)) (by first | exact Nat.le_of_ble_eq_true rfl | omega | (dsimp only; omega)) ?_
  exact wv_X10_addLine_97 hl hG  _ _ _ _ _ _ _ _ h
def wp_X10_addLine_33  (this : Nat) (v1 : Int32) (v2 : Int32) (v3 : Int32) (v4 : Int32) (s0 : Nat) (σ : Sg) (Post : Rs → Sg → Prop) : Prop := ((v1 ≤ v2 → (wp_X10_addLine_59 this v1 v2 v3 v4 s0 σ Post)) ∧ (¬ v1 ≤ v2 → ((v1 ≤ v4 → (wp_X10_addLine_59 this v1 v2 v3 v4 s0 σ Post)) ∧ (¬ v1 ≤ v4 → ((v2 = v4 → (wp_X10_addLine_59 this v1 v2 v3 v4 s0 σ Post)) ∧ (¬ v2 = v4 → wp_X10_in v3 (1 : Int32) (3 : Int32) σ (KI (fun x2 σ1 => ((¬ x2 = 0 → this % 32 = 10 ∧ ∀ o3, o3 = sP σ1 this 13 → ∃ u4, o3 = some u4 ∧ aty (u4 % 32) = some .boolean ∧ ∃ j5, v1 = nI j5 ∧ j5 < aln u4 ∧ ((¬ (sI σ1 u4 j5) = 0 → (wp_X10_addLine_92 this v1 v2 v3 v4 s0 σ1 Post)) ∧ ((sI σ1 u4 j5) = 0 → this % 32 = 10 ∧ ∀ o6, o6 = sP σ1 this 0 → ∃ u7, o6 = some u7 ∧ aty (u7 % 32) = some .int ∧ ∃ j8, v1 = nI j8 ∧ j8 < aln u7 ∧ (((sI σ1 u7 j8) = (1 : Int32) → (wp_X10_addLine_92 this v1 v2 v3 v4 s0 σ1 Post)) ∧ (¬ (sI σ1 u7 j8) = (1 : Int32) → this % 32 = 10 ∧ ∀ o9, o9 = sP σ1 this 3 → ∃ u10, o9 = some u10 ∧ aty (u10 % 32) = some .int ∧ ∃ j11, v1 = nI j11 ∧ j11 < aln u10 ∧ ((¬ (sI σ1 u10 j11) = (3 : Int32) → (wp_X10_addLine_97 this v1 v2 v3 v4 s0 (0 : Int32) σ1 Post)) ∧ ((sI σ1 u10 j11) = (3 : Int32) → (wp_X10_addLine_92 this v1 v2 v3 v4 s0 σ1 Post)))))))) ∧ (x2 = 0 → (wp_X10_addLine_59 this v1 v2 v3 v4 s0 σ1 Post)))) (fun E σ1 => Post (.inr E) σ1))))))))
set_option maxRecDepth 100000 in
set_option maxHeartbeats 4000000 in
theorem wv_X10_addLine_33 {L9 : Launch} {G : Cx} {Post : Rs → Sg → Prop} (hl : L9.stackTraces = false) (hG : CX L9 G yX10_addLine cX10_addLine 6 (some .int) [] { frames := 2, cells := 0, slots := 0, locals := 42 })   : ∀ (this : Nat) (v1 : Int32) (v2 : Int32) (v3 : Int32) (v4 : Int32) (s0 : Nat) (σ : Sg), wp_X10_addLine_33 this v1 v2 v3 v4 s0 σ Post → V G (QM G 0 0 Post) 33 [some (.ref this), some (.int v1), some (.int v2), some (.int v3), some (.int v4), none] [.ref s0] σ 0 0 := by
  intro this v1 v2 v3 v4 s0 σ h
  unfold wp_X10_addLine_33 at h
  refine V_iload_n hG dX10_addLine_33 rfl ?_
  refine V_iload_n hG dX10_addLine_34 rfl ?_
  refine V_icmp_ge (tgt := 59) hG dX10_addLine_35 (by decide) (fun c => ?_) (fun c => ?_)
  · replace h := h.1 c
    refine V_forget (lo' := [some (.ref this), some (.int v1), some (.int v2), some (.int v3), some (.int v4), none]) ⟨rfl, ⟨rfl, ⟨rfl, ⟨rfl, ⟨rfl, trivial⟩⟩⟩⟩⟩ ?_
    refine V_widen (k' := 0) (n' := 0) (by first | exact Nat.le_of_ble_eq_true rfl | omega | (dsimp only; omega)) (by first | exact Nat.le_of_ble_eq_true rfl | omega | (dsimp only; omega)) ?_
    exact wv_X10_addLine_59 hl hG  _ _ _ _ _ _ _ h
  · replace h := h.2 c
    refine V_iload hG dX10_addLine_38 rfl ?_
    refine V_iload_n hG dX10_addLine_40 rfl ?_
    refine V_icmp_ge (tgt := 59) hG dX10_addLine_41 (by decide) (fun c => ?_) (fun c => ?_)
    · replace h := h.1 c
      refine V_forget (lo' := [some (.ref this), some (.int v1), some (.int v2), some (.int v3), some (.int v4), none]) ⟨rfl, ⟨rfl, ⟨rfl, ⟨rfl, ⟨rfl, trivial⟩⟩⟩⟩⟩ ?_
      refine V_widen (k' := 0) (n' := 0) (by first | exact Nat.le_of_ble_eq_true rfl | omega | (dsimp only; omega)) (by first | exact Nat.le_of_ble_eq_true rfl | omega | (dsimp only; omega)) ?_
      exact wv_X10_addLine_59 hl hG  _ _ _ _ _ _ _ h
    · replace h := h.2 c
      refine V_iload_n hG dX10_addLine_44 rfl ?_
      refine V_iload hG dX10_addLine_45 rfl ?_
      refine V_icmp_eq (tgt := 59) hG dX10_addLine_47 (by decide) (fun c => ?_) (fun c => ?_)
      · replace h := h.1 c
        refine V_forget (lo' := [some (.ref this), some (.int v1), some (.int v2), some (.int v3), some (.int v4), none]) ⟨rfl, ⟨rfl, ⟨rfl, ⟨rfl, ⟨rfl, trivial⟩⟩⟩⟩⟩ ?_
        refine V_widen (k' := 0) (n' := 0) (by first | exact Nat.le_of_ble_eq_true rfl | omega | (dsimp only; omega)) (by first | exact Nat.le_of_ble_eq_true rfl | omega | (dsimp only; omega)) ?_
        exact wv_X10_addLine_59 hl hG  _ _ _ _ _ _ _ h
      · replace h := h.2 c
        refine V_iload_n hG dX10_addLine_50 rfl ?_
        refine V_iconst (v := 1) hG (by decide) dX10_addLine_51 ?_
        refine V_iconst (v := 3) hG (by decide) dX10_addLine_52 ?_
        refine V_cSI _ _ hG dX10_addLine_53 (ct_X10_in hl h) mv_X10_in ml_X10_172 rfl rfl (by first | exact Nat.le_of_ble_eq_true rfl | (simp only [List.map_cons, List.map_nil, List.sum_cons, List.sum_nil, cat_rf]; exact Nat.le_of_ble_eq_true rfl)) (Nat.le_of_ble_eq_true rfl) (Nat.le_of_ble_eq_true rfl) (by first | exact Nat.le_of_ble_eq_true rfl | omega | (dsimp only; omega)) (by first | exact Nat.le_of_ble_eq_true rfl | omega | (dsimp only; omega)) ?_ (fun x2 σ1 h9 => ?_)
        · exact fun E σ1 hx => VX_out hG (by first | exact Nat.le_of_ble_eq_true rfl | omega | (dsimp only; omega)) (by first | exact Nat.le_of_ble_eq_true rfl | omega | (dsimp only; omega)) hx
        · replace h := h9
          clear h9
          refine V_if_ne (tgt := 63) hG dX10_addLine_56 (by decide) (fun c => ?_) (fun c => ?_)
          · replace h := h.1 c
            refine V_aload_n (v := .ref this) hG dX10_addLine_63 rfl rfl ?_
            obtain ⟨ht, h⟩ := h
            refine V_getPv hG dX10_addLine_64 fl_X10_49 rfl ht (fun o3 ho => ?_)
            replace h := h o3 ho
            refine V_iload_n hG dX10_addLine_67 rfl ?_
            obtain ⟨u4, he, h⟩ := h
            subst he
            obtain ⟨ha, j5, hi, hj, h⟩ := h
            refine V_zald hG dX10_addLine_68 ha hi hj ?_
            refine V_if_ne (tgt := 92) hG dX10_addLine_69 (by decide) (fun c => ?_) (fun c => ?_)
            · replace h := h.1 c
              refine V_forget (lo' := [some (.ref this), some (.int v1), some (.int v2), some (.int v3), some (.int v4), none]) ⟨rfl, ⟨rfl, ⟨rfl, ⟨rfl, ⟨rfl, trivial⟩⟩⟩⟩⟩ ?_
              refine V_widen (k' := 0) (n' := 0) (by first | exact Nat.le_of_ble_eq_true rfl | omega | (dsimp only; omega)) (by first | exact Nat.le_of_ble_eq_true rfl | omega | (dsimp only; omega)) ?_
              exact wv_X10_addLine_92 hl hG  _ _ _ _ _ _ _ h
            · replace h := h.2 c
              refine V_aload_n (v := .ref this) hG dX10_addLine_72 rfl rfl ?_
              obtain ⟨ht, h⟩ := h
              refine V_getPv hG dX10_addLine_73 fl_X10_7 rfl ht (fun o6 ho => ?_)
              replace h := h o6 ho
              refine V_iload_n hG dX10_addLine_76 rfl ?_
              obtain ⟨u7, he, h⟩ := h
              subst he
              obtain ⟨ha, j8, hi, hj, h⟩ := h
              refine V_iald hG dX10_addLine_77 ha hi hj ?_
              refine V_iconst (v := 1) hG (by decide) dX10_addLine_78 ?_
              refine V_icmp_eq (tgt := 92) hG dX10_addLine_79 (by decide) (fun c => ?_) (fun c => ?_)
              · replace h := h.1 c
                refine V_forget (lo' := [some (.ref this), some (.int v1), some (.int v2), some (.int v3), some (.int v4), none]) ⟨rfl, ⟨rfl, ⟨rfl, ⟨rfl, ⟨rfl, trivial⟩⟩⟩⟩⟩ ?_
                refine V_widen (k' := 0) (n' := 0) (by first | exact Nat.le_of_ble_eq_true rfl | omega | (dsimp only; omega)) (by first | exact Nat.le_of_ble_eq_true rfl | omega | (dsimp only; omega)) ?_
                exact wv_X10_addLine_92 hl hG  _ _ _ _ _ _ _ h
              · replace h := h.2 c
                refine V_aload_n (v := .ref this) hG dX10_addLine_82 rfl rfl ?_
                obtain ⟨ht, h⟩ := h
                refine V_getPv hG dX10_addLine_83 fl_X10_19 rfl ht (fun o9 ho => ?_)
                replace h := h o9 ho
                refine V_iload_n hG dX10_addLine_86 rfl ?_
                obtain ⟨u10, he, h⟩ := h
                subst he
                obtain ⟨ha, j11, hi, hj, h⟩ := h
                refine V_iald hG dX10_addLine_87 ha hi hj ?_
                refine V_iconst (v := 3) hG (by decide) dX10_addLine_88 ?_
                refine V_icmp_ne (tgt := 96) hG dX10_addLine_89 (by decide) (fun c => ?_) (fun c => ?_)
                · replace h := h.1 c
                  refine V_iconst (v := 0) hG (by decide) dX10_addLine_96 ?_
                  refine V_forget (lo' := [some (.ref this), some (.int v1), some (.int v2), some (.int v3), some (.int v4), none]) ⟨rfl, ⟨rfl, ⟨rfl, ⟨rfl, ⟨rfl, trivial⟩⟩⟩⟩⟩ ?_
                  refine V_widen (k' := 0) (n' := 0) (by first | exact Nat.le_of_ble_eq_true rfl | omega | (dsimp only; omega)) (by first | exact Nat.le_of_ble_eq_true rfl | omega | (dsimp only; omega)) ?_
                  exact wv_X10_addLine_97 hl hG  _ _ _ _ _ _ _ _ h
                · replace h := h.2 c
                  refine V_forget (lo' := [some (.ref this), some (.int v1), some (.int v2), some (.int v3), some (.int v4), none]) ⟨rfl, ⟨rfl, ⟨rfl, ⟨rfl, ⟨rfl, trivial⟩⟩⟩⟩⟩ ?_
                  refine V_widen (k' := 0) (n' := 0) (by first | exact Nat.le_of_ble_eq_true rfl | omega | (dsimp only; omega)) (by first | exact Nat.le_of_ble_eq_true rfl | omega | (dsimp only; omega)) ?_
                  exact wv_X10_addLine_92 hl hG  _ _ _ _ _ _ _ h
          · replace h := h.2 c
            refine V_forget (lo' := [some (.ref this), some (.int v1), some (.int v2), some (.int v3), some (.int v4), none]) ⟨rfl, ⟨rfl, ⟨rfl, ⟨rfl, ⟨rfl, trivial⟩⟩⟩⟩⟩ ?_
            refine V_widen (k' := 0) (n' := 0) (by first | exact Nat.le_of_ble_eq_true rfl | omega | (dsimp only; omega)) (by first | exact Nat.le_of_ble_eq_true rfl | omega | (dsimp only; omega)) ?_
            exact wv_X10_addLine_59 hl hG  _ _ _ _ _ _ _ h
def wp_X10_addLine (this : Nat) (a0 : Int32) (a1 : Int32) (a2 : Int32) (a3 : Int32) (σ : Sg) (Post : Rs → Sg → Prop) : Prop := wp_X10_isKind a0 σ (KI (fun x2 σ1 => ((x2 = 0 → (wp_X10_addLine_29 this a0 a1 a2 a3 this σ1 Post)) ∧ (¬ x2 = 0 → wp_X10_isKind a1 σ1 (KI (fun x4 σ3 => ((x4 = 0 → (wp_X10_addLine_29 this a0 a1 a2 a3 this σ3 Post)) ∧ (¬ x4 = 0 → ((a3 = (-1 : Int32) → (wp_X10_addLine_33 this a0 a1 a2 a3 this σ3 Post)) ∧ (¬ a3 = (-1 : Int32) → wp_X10_isKind a3 σ3 (KI (fun x6 σ5 => ((¬ x6 = 0 → (wp_X10_addLine_33 this a0 a1 a2 a3 this σ5 Post)) ∧ (x6 = 0 → (wp_X10_addLine_29 this a0 a1 a2 a3 this σ5 Post)))) (fun E σ5 => Post (.inr E) σ5))))))) (fun E σ3 => Post (.inr E) σ3))))) (fun E σ1 => Post (.inr E) σ1))
set_option maxRecDepth 100000 in
set_option maxHeartbeats 4000000 in
theorem ct_X10_addLine {l : Launch} (hl : l.stackTraces = false) {this : Nat} {a0 : Int32} {a1 : Int32} {a2 : Int32} {a3 : Int32} {σ : Sg} {Post : Rs → Sg → Prop} (h : wp_X10_addLine this a0 a1 a2 a3 σ Post) : Ct l yX10_addLine (.code yX10_addLine cX10_addLine 6 (some .int)) 2 42 0 0 [.ref this, .int a0, .int a1, .int a2, .int a3] σ Post := by
  refine Ct_of [some (.ref this), some (.int a0), some (.int a1), some (.int a2), some (.int a3), none] hl (by decide +kernel) rfl (fun ad => by rfl) (fun ad => by exact Nat.le_of_ble_eq_true rfl) (fun v hv => mem_lo hv rfl) ?_
  intro G hG
  unfold wp_X10_addLine at h
  refine V_aload_n (v := .ref this) hG dX10_addLine_0 rfl rfl ?_
  refine V_iload_n hG dX10_addLine_1 rfl ?_
  refine V_cSI _ _ hG dX10_addLine_2 (ct_X10_isKind hl h) mv_X10_isKind ml_X10_179 rfl rfl (by first | exact Nat.le_of_ble_eq_true rfl | (simp only [List.map_cons, List.map_nil, List.sum_cons, List.sum_nil, cat_rf]; exact Nat.le_of_ble_eq_true rfl)) (Nat.le_of_ble_eq_true rfl) (Nat.le_of_ble_eq_true rfl) (by first | exact Nat.le_of_ble_eq_true rfl | omega | (dsimp only; omega)) (by first | exact Nat.le_of_ble_eq_true rfl | omega | (dsimp only; omega)) ?_ (fun x2 σ1 h9 => ?_)
  · exact fun E σ1 hx => VX_out hG (by first | exact Nat.le_of_ble_eq_true rfl | omega | (dsimp only; omega)) (by first | exact Nat.le_of_ble_eq_true rfl | omega | (dsimp only; omega)) hx
  · replace h := h9
    clear h9
    refine V_if_eq (tgt := 29) hG dX10_addLine_5 (by decide) (fun c => ?_) (fun c => ?_)
    · replace h := h.1 c
      refine V_forget (lo' := [some (.ref this), some (.int a0), some (.int a1), some (.int a2), some (.int a3), none]) ⟨rfl, ⟨rfl, ⟨rfl, ⟨rfl, ⟨rfl, trivial⟩⟩⟩⟩⟩ ?_
      refine V_widen (k' := 0) (n' := 0) (by first | exact Nat.le_of_ble_eq_true rfl | omega | (dsimp only; omega)) (by first | exact Nat.le_of_ble_eq_true rfl | omega | (dsimp only; omega)) ?_
      exact wv_X10_addLine_29 hl hG  _ _ _ _ _ _ _ h
    · replace h := h.2 c
      refine V_iload_n hG dX10_addLine_8 rfl ?_
      refine V_cSI _ _ hG dX10_addLine_9 (ct_X10_isKind hl h) mv_X10_isKind ml_X10_179 rfl rfl (by first | exact Nat.le_of_ble_eq_true rfl | (simp only [List.map_cons, List.map_nil, List.sum_cons, List.sum_nil, cat_rf]; exact Nat.le_of_ble_eq_true rfl)) (Nat.le_of_ble_eq_true rfl) (Nat.le_of_ble_eq_true rfl) (by first | exact Nat.le_of_ble_eq_true rfl | omega | (dsimp only; omega)) (by first | exact Nat.le_of_ble_eq_true rfl | omega | (dsimp only; omega)) ?_ (fun x4 σ3 h9 => ?_)
      · exact fun E σ3 hx => VX_out hG (by first | exact Nat.le_of_ble_eq_true rfl | omega | (dsimp only; omega)) (by first | exact Nat.le_of_ble_eq_true rfl | omega | (dsimp only; omega)) hx
      · replace h := h9
        clear h9
        refine V_if_eq (tgt := 29) hG dX10_addLine_12 (by decide) (fun c => ?_) (fun c => ?_)
        · replace h := h.1 c
          refine V_forget (lo' := [some (.ref this), some (.int a0), some (.int a1), some (.int a2), some (.int a3), none]) ⟨rfl, ⟨rfl, ⟨rfl, ⟨rfl, ⟨rfl, trivial⟩⟩⟩⟩⟩ ?_
          refine V_widen (k' := 0) (n' := 0) (by first | exact Nat.le_of_ble_eq_true rfl | omega | (dsimp only; omega)) (by first | exact Nat.le_of_ble_eq_true rfl | omega | (dsimp only; omega)) ?_
          exact wv_X10_addLine_29 hl hG  _ _ _ _ _ _ _ h
        · replace h := h.2 c
          refine V_iload hG dX10_addLine_15 rfl ?_
          refine V_iconst (v := (-1)) hG (by decide) dX10_addLine_17 ?_
          refine V_icmp_eq (tgt := 33) hG dX10_addLine_18 (by decide) (fun c => ?_) (fun c => ?_)
          · replace h := h.1 c
            refine V_forget (lo' := [some (.ref this), some (.int a0), some (.int a1), some (.int a2), some (.int a3), none]) ⟨rfl, ⟨rfl, ⟨rfl, ⟨rfl, ⟨rfl, trivial⟩⟩⟩⟩⟩ ?_
            refine V_widen (k' := 0) (n' := 0) (by first | exact Nat.le_of_ble_eq_true rfl | omega | (dsimp only; omega)) (by first | exact Nat.le_of_ble_eq_true rfl | omega | (dsimp only; omega)) ?_
            exact wv_X10_addLine_33 hl hG  _ _ _ _ _ _ _ h
          · replace h := h.2 c
            refine V_iload hG dX10_addLine_21 rfl ?_
            refine V_cSI _ _ hG dX10_addLine_23 (ct_X10_isKind hl h) mv_X10_isKind ml_X10_179 rfl rfl (by first | exact Nat.le_of_ble_eq_true rfl | (simp only [List.map_cons, List.map_nil, List.sum_cons, List.sum_nil, cat_rf]; exact Nat.le_of_ble_eq_true rfl)) (Nat.le_of_ble_eq_true rfl) (Nat.le_of_ble_eq_true rfl) (by first | exact Nat.le_of_ble_eq_true rfl | omega | (dsimp only; omega)) (by first | exact Nat.le_of_ble_eq_true rfl | omega | (dsimp only; omega)) ?_ (fun x6 σ5 h9 => ?_)
            · exact fun E σ5 hx => VX_out hG (by first | exact Nat.le_of_ble_eq_true rfl | omega | (dsimp only; omega)) (by first | exact Nat.le_of_ble_eq_true rfl | omega | (dsimp only; omega)) hx
            · replace h := h9
              clear h9
              refine V_if_ne (tgt := 33) hG dX10_addLine_26 (by decide) (fun c => ?_) (fun c => ?_)
              · replace h := h.1 c
                refine V_forget (lo' := [some (.ref this), some (.int a0), some (.int a1), some (.int a2), some (.int a3), none]) ⟨rfl, ⟨rfl, ⟨rfl, ⟨rfl, ⟨rfl, trivial⟩⟩⟩⟩⟩ ?_
                refine V_widen (k' := 0) (n' := 0) (by first | exact Nat.le_of_ble_eq_true rfl | omega | (dsimp only; omega)) (by first | exact Nat.le_of_ble_eq_true rfl | omega | (dsimp only; omega)) ?_
                exact wv_X10_addLine_33 hl hG  _ _ _ _ _ _ _ h
              · replace h := h.2 c
                refine V_forget (lo' := [some (.ref this), some (.int a0), some (.int a1), some (.int a2), some (.int a3), none]) ⟨rfl, ⟨rfl, ⟨rfl, ⟨rfl, ⟨rfl, trivial⟩⟩⟩⟩⟩ ?_
                refine V_widen (k' := 0) (n' := 0) (by first | exact Nat.le_of_ble_eq_true rfl | omega | (dsimp only; omega)) (by first | exact Nat.le_of_ble_eq_true rfl | omega | (dsimp only; omega)) ?_
                exact wv_X10_addLine_29 hl hG  _ _ _ _ _ _ _ h
def wp_X10_addOperation_79  (this : Nat) (v1 : Int32) (v2 : Int32) (v3 : Int32) (v4 : Int32) (s0 : Nat) (s1 : Int32) (σ : Sg) (Post : Rs → Sg → Prop) : Prop := s0 % 32 = 10 ∧ this % 32 = 10 ∧ (((sI (wI σ s0 59 s1) this 59) ≤ 0 → this % 32 = 10 ∧ ∀ o1, o1 = sP (wI σ s0 59 s1) this 7 → ∃ u2, o1 = some u2 ∧ aty (u2 % 32) = some .int ∧ ∃ j3, v1 = nI j3 ∧ j3 < aln u2 ∧ this % 32 = 10 ∧ ∀ o4, o4 = sP (wI σ s0 59 s1) this 8 → ∃ u5, o4 = some u5 ∧ aty (u5 % 32) = some .int ∧ ∃ j6, (((4 : Int32) * v1) + (sI (wI σ s0 59 s1) u2 j3)) = nI j6 ∧ j6 < aln u5 ∧ this % 32 = 10 ∧ ∀ o7, o7 = sP (wI (wI σ s0 59 s1) u5 j6 v2) this 9 → ∃ u8, o7 = some u8 ∧ aty (u8 % 32) = some .int ∧ ∃ j9, (((4 : Int32) * v1) + (sI (wI σ s0 59 s1) u2 j3)) = nI j9 ∧ j9 < aln u8 ∧ this % 32 = 10 ∧ ∀ o10, o10 = sP (wI (wI (wI σ s0 59 s1) u5 j6 v2) u8 j9 v3) this 10 → ∃ u11, o10 = some u11 ∧ aty (u11 % 32) = some .int ∧ ∃ j12, (((4 : Int32) * v1) + (sI (wI σ s0 59 s1) u2 j3)) = nI j12 ∧ j12 < aln u11 ∧ this % 32 = 10 ∧ ∀ o13, o13 = sP (wI (wI (wI (wI σ s0 59 s1) u5 j6 v2) u8 j9 v3) u11 j12 v4) this 0 → ∃ u14, o13 = some u14 ∧ aty (u14 % 32) = some .int ∧ ∃ j15, v1 = nI j15 ∧ j15 < aln u14 ∧ this % 32 = 10 ∧ ∀ o16, o16 = sP (wI (wI (wI (wI (wI σ s0 59 s1) u5 j6 v2) u8 j9 v3) u11 j12 v4) u14 j15 (2 : Int32)) this 7 → ∃ u17, o16 = some u17 ∧ aty (u17 % 32) = some .int ∧ ∃ j18, v1 = nI j18 ∧ j18 < aln u17 ∧ aty (u17 % 32) = some .int ∧ ∃ j19, v1 = nI j19 ∧ j19 < aln u17 ∧ this % 32 = 10 ∧ ∀ o20, o20 = sP (wI (wI (wI (wI (wI (wI σ s0 59 s1) u5 j6 v2) u8 j9 v3) u11 j12 v4) u14 j15 (2 : Int32)) u17 j19 ((sI (wI (wI (wI (wI (wI σ s0 59 s1) u5 j6 v2) u8 j9 v3) u11 j12 v4) u14 j15 (2 : Int32)) u17 j18) + (1 : Int32))) this 7 → ∃ u21, o20 = some u21 ∧ aty (u21 % 32) = some .int ∧ ∃ j22, v1 = nI j22 ∧ j22 < aln u21 ∧ Post (.inl (some (.int (sI (wI (wI (wI (wI (wI (wI σ s0 59 s1) u5 j6 v2) u8 j9 v3) u11 j12 v4) u14 j15 (2 : Int32)) u17 j19 ((sI (wI (wI (wI (wI (wI σ s0 59 s1) u5 j6 v2) u8 j9 v3) u11 j12 v4) u14 j15 (2 : Int32)) u17 j18) + (1 : Int32))) u21 j22)))) (wI (wI (wI (wI (wI (wI σ s0 59 s1) u5 j6 v2) u8 j9 v3) u11 j12 v4) u14 j15 (2 : Int32)) u17 j19 ((sI (wI (wI (wI (wI (wI σ s0 59 s1) u5 j6 v2) u8 j9 v3) u11 j12 v4) u14 j15 (2 : Int32)) u17 j18) + (1 : Int32)))) ∧ (¬ (sI (wI σ s0 59 s1) this 59) ≤ 0 → Post (.inl (some (.int (0 : Int32)))) (wI σ s0 59 s1)))
set_option maxRecDepth 100000 in
set_option maxHeartbeats 4000000 in
theorem wv_X10_addOperation_79 {L9 : Launch} {G : Cx} {Post : Rs → Sg → Prop} (hl : L9.stackTraces = false) (hG : CX L9 G yX10_addOperation cX10_addOperation 6 (some .int) [] { frames := 2, cells := 0, slots := 0, locals := 42 })   : ∀ (this : Nat) (v1 : Int32) (v2 : Int32) (v3 : Int32) (v4 : Int32) (s0 : Nat) (s1 : Int32) (σ : Sg), wp_X10_addOperation_79 this v1 v2 v3 v4 s0 s1 σ Post → V G (QM G 0 0 Post) 79 [some (.ref this), some (.int v1), some (.int v2), some (.int v3), some (.int v4), none] [.int s1, .ref s0] σ 0 0 := by
  intro this v1 v2 v3 v4 s0 s1 σ h
  unfold wp_X10_addOperation_79 at h
  obtain ⟨ht, h⟩ := h
  refine V_putI hG dX10_addOperation_79 fl_X10_168 rfl (fun e => absurd e (by decide)) rfl ht ?_
  refine V_aload_n (v := .ref this) hG dX10_addOperation_82 rfl rfl ?_
  obtain ⟨ht, h⟩ := h
  refine V_getI hG dX10_addOperation_83 fl_X10_168 rfl ht ?_
  refine V_if_le (tgt := 91) hG dX10_addOperation_86 (by decide) (fun c => ?_) (fun c => ?_)
  · replace h := h.1 c
    refine V_iconst (v := 4) hG (by decide) dX10_addOperation_91 ?_
    refine V_iload_n hG dX10_addOperation_92 rfl ?_
    refine V_imul hG dX10_addOperation_93 ?_
    refine V_aload_n (v := .ref this) hG dX10_addOperation_94 rfl rfl ?_
    obtain ⟨ht, h⟩ := h
    refine V_getPv hG dX10_addOperation_95 fl_X10_31 rfl ht (fun o1 ho => ?_)
    replace h := h o1 ho
    refine V_iload_n hG dX10_addOperation_98 rfl ?_
    obtain ⟨u2, he, h⟩ := h
    subst he
    obtain ⟨ha, j3, hi, hj, h⟩ := h
    refine V_iald hG dX10_addOperation_99 ha hi hj ?_
    refine V_iadd hG dX10_addOperation_100 ?_
    refine V_istore hG dX10_addOperation_101 (Nat.le_of_ble_eq_true rfl) (hpV rfl rfl) ?_
    refine V_aload_n (v := .ref this) hG dX10_addOperation_103 rfl rfl ?_
    obtain ⟨ht, h⟩ := h
    refine V_getPv hG dX10_addOperation_104 fl_X10_34 rfl ht (fun o4 ho => ?_)
    replace h := h o4 ho
    refine V_iload hG dX10_addOperation_107 rfl ?_
    refine V_iload_n hG dX10_addOperation_109 rfl ?_
    obtain ⟨u5, he, h⟩ := h
    subst he
    obtain ⟨ha, j6, hi, hj, h⟩ := h
    refine V_iast hG dX10_addOperation_110 ha hi hj ?_
    refine V_aload_n (v := .ref this) hG dX10_addOperation_111 rfl rfl ?_
    obtain ⟨ht, h⟩ := h
    refine V_getPv hG dX10_addOperation_112 fl_X10_37 rfl ht (fun o7 ho => ?_)
    replace h := h o7 ho
    refine V_iload hG dX10_addOperation_115 rfl ?_
    refine V_iload_n hG dX10_addOperation_117 rfl ?_
    obtain ⟨u8, he, h⟩ := h
    subst he
    obtain ⟨ha, j9, hi, hj, h⟩ := h
    refine V_iast hG dX10_addOperation_118 ha hi hj ?_
    refine V_aload_n (v := .ref this) hG dX10_addOperation_119 rfl rfl ?_
    obtain ⟨ht, h⟩ := h
    refine V_getPv hG dX10_addOperation_120 fl_X10_40 rfl ht (fun o10 ho => ?_)
    replace h := h o10 ho
    refine V_iload hG dX10_addOperation_123 rfl ?_
    refine V_iload hG dX10_addOperation_125 rfl ?_
    obtain ⟨u11, he, h⟩ := h
    subst he
    obtain ⟨ha, j12, hi, hj, h⟩ := h
    refine V_iast hG dX10_addOperation_127 ha hi hj ?_
    refine V_aload_n (v := .ref this) hG dX10_addOperation_128 rfl rfl ?_
    obtain ⟨ht, h⟩ := h
    refine V_getPv hG dX10_addOperation_129 fl_X10_7 rfl ht (fun o13 ho => ?_)
    replace h := h o13 ho
    refine V_iload_n hG dX10_addOperation_132 rfl ?_
    refine V_iconst (v := 2) hG (by decide) dX10_addOperation_133 ?_
    obtain ⟨u14, he, h⟩ := h
    subst he
    obtain ⟨ha, j15, hi, hj, h⟩ := h
    refine V_iast hG dX10_addOperation_134 ha hi hj ?_
    refine V_aload_n (v := .ref this) hG dX10_addOperation_135 rfl rfl ?_
    obtain ⟨ht, h⟩ := h
    refine V_getPv hG dX10_addOperation_136 fl_X10_31 rfl ht (fun o16 ho => ?_)
    replace h := h o16 ho
    refine V_iload_n hG dX10_addOperation_139 rfl ?_
    refine V_dup2 hG rfl (cat_rf _) dX10_addOperation_140 ?_
    obtain ⟨u17, he, h⟩ := h
    subst he
    obtain ⟨ha, j18, hi, hj, h⟩ := h
    refine V_iald hG dX10_addOperation_141 ha hi hj ?_
    refine V_iconst (v := 1) hG (by decide) dX10_addOperation_142 ?_
    refine V_iadd hG dX10_addOperation_143 ?_
    obtain ⟨ha, j19, hi, hj, h⟩ := h
    refine V_iast hG dX10_addOperation_144 ha hi hj ?_
    refine V_aload_n (v := .ref this) hG dX10_addOperation_145 rfl rfl ?_
    obtain ⟨ht, h⟩ := h
    refine V_getPv hG dX10_addOperation_146 fl_X10_31 rfl ht (fun o20 ho => ?_)
    replace h := h o20 ho
    refine V_iload_n hG dX10_addOperation_149 rfl ?_
    obtain ⟨u21, he, h⟩ := h
    subst he
    obtain ⟨ha, j22, hi, hj, h⟩ := h
    refine V_iald hG dX10_addOperation_150 ha hi hj ?_
    exact V_iret hG dX10_addOperation_151 (by first | exact Nat.le_of_ble_eq_true rfl | omega | (dsimp only; omega)) (by first | exact Nat.le_of_ble_eq_true rfl | omega | (dsimp only; omega)) h
  · replace h := h.2 c
    refine V_iconst (v := 0) hG (by decide) dX10_addOperation_89 ?_
    exact V_iret hG dX10_addOperation_90 (by first | exact Nat.le_of_ble_eq_true rfl | omega | (dsimp only; omega)) (by first | exact Nat.le_of_ble_eq_true rfl | omega | (dsimp only; omega)) h
def wp_X10_addOperation_26  (this : Nat) (v1 : Int32) (v2 : Int32) (v3 : Int32) (v4 : Int32) (s0 : Nat) (σ : Sg) (Post : Rs → Sg → Prop) : Prop := (wp_X10_addOperation_79 this v1 v2 v3 v4 s0 (1 : Int32) σ Post)
set_option maxRecDepth 100000 in
set_option maxHeartbeats 4000000 in
theorem wv_X10_addOperation_26 {L9 : Launch} {G : Cx} {Post : Rs → Sg → Prop} (hl : L9.stackTraces = false) (hG : CX L9 G yX10_addOperation cX10_addOperation 6 (some .int) [] { frames := 2, cells := 0, slots := 0, locals := 42 })   : ∀ (this : Nat) (v1 : Int32) (v2 : Int32) (v3 : Int32) (v4 : Int32) (s0 : Nat) (σ : Sg), wp_X10_addOperation_26 this v1 v2 v3 v4 s0 σ Post → V G (QM G 0 0 Post) 26 [some (.ref this), some (.int v1), some (.int v2), some (.int v3), some (.int v4), none] [.ref s0] σ 0 0 := by
  intro this v1 v2 v3 v4 s0 σ h
  unfold wp_X10_addOperation_26 at h
  refine V_iconst (v := 1) hG (by decide) dX10_addOperation_26 ?_
  refine V_goto (tgt := 79) hG dX10_addOperation_27 (by decide) ?_
  refine V_forget (lo' := [some (.ref this), some (.int v1), some (.int v2), some (.int v3), some (.int v4), none]) ⟨rfl, ⟨rfl, ⟨rfl, ⟨rfl, ⟨rfl, trivial⟩⟩⟩⟩⟩ ?_
  refine V_widen (k' := 0) (n' := 0) (by first | exact Nat.le_of_ble_eq_true rfl | omega | (dsimp only; omega)) (by first | exact Nat.le_of_ble_eq_true rfl | omega | (dsimp only; omega)) ?_
  exact wv_X10_addOperation_79 hl hG  _ _ _ _ _ _ _ _ h
def wp_X10_addOperation_74  (this : Nat) (v1 : Int32) (v2 : Int32) (v3 : Int32) (v4 : Int32) (s0 : Nat) (σ : Sg) (Post : Rs → Sg → Prop) : Prop := (wp_X10_addOperation_79 this v1 v2 v3 v4 s0 (3 : Int32) σ Post)
set_option maxRecDepth 100000 in
set_option maxHeartbeats 4000000 in
theorem wv_X10_addOperation_74 {L9 : Launch} {G : Cx} {Post : Rs → Sg → Prop} (hl : L9.stackTraces = false) (hG : CX L9 G yX10_addOperation cX10_addOperation 6 (some .int) [] { frames := 2, cells := 0, slots := 0, locals := 42 })   : ∀ (this : Nat) (v1 : Int32) (v2 : Int32) (v3 : Int32) (v4 : Int32) (s0 : Nat) (σ : Sg), wp_X10_addOperation_74 this v1 v2 v3 v4 s0 σ Post → V G (QM G 0 0 Post) 74 [some (.ref this), some (.int v1), some (.int v2), some (.int v3), some (.int v4), none] [.ref s0] σ 0 0 := by
  intro this v1 v2 v3 v4 s0 σ h
  unfold wp_X10_addOperation_74 at h
  refine V_iconst (v := 3) hG (by decide) dX10_addOperation_74 ?_
  refine V_goto (tgt := 79) hG dX10_addOperation_75 (by decide) ?_
  refine V_forget (lo' := [some (.ref this), some (.int v1), some (.int v2), some (.int v3), some (.int v4), none]) ⟨rfl, ⟨rfl, ⟨rfl, ⟨rfl, ⟨rfl, trivial⟩⟩⟩⟩⟩ ?_
  refine V_widen (k' := 0) (n' := 0) (by first | exact Nat.le_of_ble_eq_true rfl | omega | (dsimp only; omega)) (by first | exact Nat.le_of_ble_eq_true rfl | omega | (dsimp only; omega)) ?_
  exact wv_X10_addOperation_79 hl hG  _ _ _ _ _ _ _ _ h
def wp_X10_addOperation (this : Nat) (a0 : Int32) (a1 : Int32) (a2 : Int32) (a3 : Int32) (σ : Sg) (Post : Rs → Sg → Prop) : Prop := wp_X10_isKind a0 σ (KI (fun x2 σ1 => ((x2 = 0 → (wp_X10_addOperation_26 this a0 a1 a2 a3 this σ1 Post)) ∧ (¬ x2 = 0 → wp_X10_in a1 (0 : Int32) (3 : Int32) σ1 (KI (fun x4 σ3 => ((x4 = 0 → (wp_X10_addOperation_26 this a0 a1 a2 a3 this σ3 Post)) ∧ (¬ x4 = 0 → wp_X10_in a2 (0 : Int32) (3 : Int32) σ3 (KI (fun x6 σ5 => ((¬ x6 = 0 → wp_X10_in a3 (1 : Int32) (9 : Int32) σ5 (KI (fun x8 σ7 => ((¬ x8 = 0 → this % 32 = 10 ∧ ∀ o9, o9 = sP σ7 this 13 → ∃ u10, o9 = some u10 ∧ aty (u10 % 32) = some .boolean ∧ ∃ j11, a0 = nI j11 ∧ j11 < aln u10 ∧ ((¬ (sI σ7 u10 j11) = 0 → (wp_X10_addOperation_74 this a0 a1 a2 a3 this σ7 Post)) ∧ ((sI σ7 u10 j11) = 0 → this % 32 = 10 ∧ ∀ o12, o12 = sP σ7 this 0 → ∃ u13, o12 = some u13 ∧ aty (u13 % 32) = some .int ∧ ∃ j14, a0 = nI j14 ∧ j14 < aln u13 ∧ (((sI σ7 u13 j14) = (1 : Int32) → (wp_X10_addOperation_74 this a0 a1 a2 a3 this σ7 Post)) ∧ (¬ (sI σ7 u13 j14) = (1 : Int32) → this % 32 = 10 ∧ ∀ o15, o15 = sP σ7 this 7 → ∃ u16, o15 = some u16 ∧ aty (u16 % 32) = some .int ∧ ∃ j17, a0 = nI j17 ∧ j17 < aln u16 ∧ ((¬ (sI σ7 u16 j17) = (4 : Int32) → (wp_X10_addOperation_79 this a0 a1 a2 a3 this (0 : Int32) σ7 Post)) ∧ ((sI σ7 u16 j17) = (4 : Int32) → (wp_X10_addOperation_74 this a0 a1 a2 a3 this σ7 Post)))))))) ∧ (x8 = 0 → (wp_X10_addOperation_79 this a0 a1 a2 a3 this (2 : Int32) σ7 Post)))) (fun E σ7 => Post (.inr E) σ7))) ∧ (x6 = 0 → (wp_X10_addOperation_26 this a0 a1 a2 a3 this σ5 Post)))) (fun E σ5 => Post (.inr E) σ5))))) (fun E σ3 => Post (.inr E) σ3))))) (fun E σ1 => Post (.inr E) σ1))
set_option maxRecDepth 100000 in
set_option maxHeartbeats 4000000 in
theorem ct_X10_addOperation {l : Launch} (hl : l.stackTraces = false) {this : Nat} {a0 : Int32} {a1 : Int32} {a2 : Int32} {a3 : Int32} {σ : Sg} {Post : Rs → Sg → Prop} (h : wp_X10_addOperation this a0 a1 a2 a3 σ Post) : Ct l yX10_addOperation (.code yX10_addOperation cX10_addOperation 6 (some .int)) 2 42 0 0 [.ref this, .int a0, .int a1, .int a2, .int a3] σ Post := by
  refine Ct_of [some (.ref this), some (.int a0), some (.int a1), some (.int a2), some (.int a3), none] hl (by decide +kernel) rfl (fun ad => by rfl) (fun ad => by exact Nat.le_of_ble_eq_true rfl) (fun v hv => mem_lo hv rfl) ?_
  intro G hG
  unfold wp_X10_addOperation at h
  refine V_aload_n (v := .ref this) hG dX10_addOperation_0 rfl rfl ?_
  refine V_iload_n hG dX10_addOperation_1 rfl ?_
  refine V_cSI _ _ hG dX10_addOperation_2 (ct_X10_isKind hl h) mv_X10_isKind ml_X10_179 rfl rfl (by first | exact Nat.le_of_ble_eq_true rfl | (simp only [List.map_cons, List.map_nil, List.sum_cons, List.sum_nil, cat_rf]; exact Nat.le_of_ble_eq_true rfl)) (Nat.le_of_ble_eq_true rfl) (Nat.le_of_ble_eq_true rfl) (by first | exact Nat.le_of_ble_eq_true rfl | omega | (dsimp only; omega)) (by first | exact Nat.le_of_ble_eq_true rfl | omega | (dsimp only; omega)) ?_ (fun x2 σ1 h9 => ?_)
  · exact fun E σ1 hx => VX_out hG (by first | exact Nat.le_of_ble_eq_true rfl | omega | (dsimp only; omega)) (by first | exact Nat.le_of_ble_eq_true rfl | omega | (dsimp only; omega)) hx
  · replace h := h9
    clear h9
    refine V_if_eq (tgt := 26) hG dX10_addOperation_5 (by decide) (fun c => ?_) (fun c => ?_)
    · replace h := h.1 c
      refine V_forget (lo' := [some (.ref this), some (.int a0), some (.int a1), some (.int a2), some (.int a3), none]) ⟨rfl, ⟨rfl, ⟨rfl, ⟨rfl, ⟨rfl, trivial⟩⟩⟩⟩⟩ ?_
      refine V_widen (k' := 0) (n' := 0) (by first | exact Nat.le_of_ble_eq_true rfl | omega | (dsimp only; omega)) (by first | exact Nat.le_of_ble_eq_true rfl | omega | (dsimp only; omega)) ?_
      exact wv_X10_addOperation_26 hl hG  _ _ _ _ _ _ _ h
    · replace h := h.2 c
      refine V_iload_n hG dX10_addOperation_8 rfl ?_
      refine V_iconst (v := 0) hG (by decide) dX10_addOperation_9 ?_
      refine V_iconst (v := 3) hG (by decide) dX10_addOperation_10 ?_
      refine V_cSI _ _ hG dX10_addOperation_11 (ct_X10_in hl h) mv_X10_in ml_X10_172 rfl rfl (by first | exact Nat.le_of_ble_eq_true rfl | (simp only [List.map_cons, List.map_nil, List.sum_cons, List.sum_nil, cat_rf]; exact Nat.le_of_ble_eq_true rfl)) (Nat.le_of_ble_eq_true rfl) (Nat.le_of_ble_eq_true rfl) (by first | exact Nat.le_of_ble_eq_true rfl | omega | (dsimp only; omega)) (by first | exact Nat.le_of_ble_eq_true rfl | omega | (dsimp only; omega)) ?_ (fun x4 σ3 h9 => ?_)
      · exact fun E σ3 hx => VX_out hG (by first | exact Nat.le_of_ble_eq_true rfl | omega | (dsimp only; omega)) (by first | exact Nat.le_of_ble_eq_true rfl | omega | (dsimp only; omega)) hx
      · replace h := h9
        clear h9
        refine V_if_eq (tgt := 26) hG dX10_addOperation_14 (by decide) (fun c => ?_) (fun c => ?_)
        · replace h := h.1 c
          refine V_forget (lo' := [some (.ref this), some (.int a0), some (.int a1), some (.int a2), some (.int a3), none]) ⟨rfl, ⟨rfl, ⟨rfl, ⟨rfl, ⟨rfl, trivial⟩⟩⟩⟩⟩ ?_
          refine V_widen (k' := 0) (n' := 0) (by first | exact Nat.le_of_ble_eq_true rfl | omega | (dsimp only; omega)) (by first | exact Nat.le_of_ble_eq_true rfl | omega | (dsimp only; omega)) ?_
          exact wv_X10_addOperation_26 hl hG  _ _ _ _ _ _ _ h
        · replace h := h.2 c
          refine V_iload_n hG dX10_addOperation_17 rfl ?_
          refine V_iconst (v := 0) hG (by decide) dX10_addOperation_18 ?_
          refine V_iconst (v := 3) hG (by decide) dX10_addOperation_19 ?_
          refine V_cSI _ _ hG dX10_addOperation_20 (ct_X10_in hl h) mv_X10_in ml_X10_172 rfl rfl (by first | exact Nat.le_of_ble_eq_true rfl | (simp only [List.map_cons, List.map_nil, List.sum_cons, List.sum_nil, cat_rf]; exact Nat.le_of_ble_eq_true rfl)) (Nat.le_of_ble_eq_true rfl) (Nat.le_of_ble_eq_true rfl) (by first | exact Nat.le_of_ble_eq_true rfl | omega | (dsimp only; omega)) (by first | exact Nat.le_of_ble_eq_true rfl | omega | (dsimp only; omega)) ?_ (fun x6 σ5 h9 => ?_)
          · exact fun E σ5 hx => VX_out hG (by first | exact Nat.le_of_ble_eq_true rfl | omega | (dsimp only; omega)) (by first | exact Nat.le_of_ble_eq_true rfl | omega | (dsimp only; omega)) hx
          · replace h := h9
            clear h9
            refine V_if_ne (tgt := 30) hG dX10_addOperation_23 (by decide) (fun c => ?_) (fun c => ?_)
            · replace h := h.1 c
              refine V_iload hG dX10_addOperation_30 rfl ?_
              refine V_iconst (v := 1) hG (by decide) dX10_addOperation_32 ?_
              refine V_bipush (v := 9) hG (by decide) dX10_addOperation_33 ?_
              refine V_cSI _ _ hG dX10_addOperation_35 (ct_X10_in hl h) mv_X10_in ml_X10_172 rfl rfl (by first | exact Nat.le_of_ble_eq_true rfl | (simp only [List.map_cons, List.map_nil, List.sum_cons, List.sum_nil, cat_rf]; exact Nat.le_of_ble_eq_true rfl)) (Nat.le_of_ble_eq_true rfl) (Nat.le_of_ble_eq_true rfl) (by first | exact Nat.le_of_ble_eq_true rfl | omega | (dsimp only; omega)) (by first | exact Nat.le_of_ble_eq_true rfl | omega | (dsimp only; omega)) ?_ (fun x8 σ7 h9 => ?_)
              · exact fun E σ7 hx => VX_out hG (by first | exact Nat.le_of_ble_eq_true rfl | omega | (dsimp only; omega)) (by first | exact Nat.le_of_ble_eq_true rfl | omega | (dsimp only; omega)) hx
              · replace h := h9
                clear h9
                refine V_if_ne (tgt := 45) hG dX10_addOperation_38 (by decide) (fun c => ?_) (fun c => ?_)
                · replace h := h.1 c
                  refine V_aload_n (v := .ref this) hG dX10_addOperation_45 rfl rfl ?_
                  obtain ⟨ht, h⟩ := h
                  refine V_getPv hG dX10_addOperation_46 fl_X10_49 rfl ht (fun o9 ho => ?_)
                  replace h := h o9 ho
                  refine V_iload_n hG dX10_addOperation_49 rfl ?_
                  obtain ⟨u10, he, h⟩ := h
                  subst he
                  obtain ⟨ha, j11, hi, hj, h⟩ := h
                  refine V_zald hG dX10_addOperation_50 ha hi hj ?_
                  refine V_if_ne (tgt := 74) hG dX10_addOperation_51 (by decide) (fun c => ?_) (fun c => ?_)
                  · replace h := h.1 c
                    refine V_forget (lo' := [some (.ref this), some (.int a0), some (.int a1), some (.int a2), some (.int a3), none]) ⟨rfl, ⟨rfl, ⟨rfl, ⟨rfl, ⟨rfl, trivial⟩⟩⟩⟩⟩ ?_
                    refine V_widen (k' := 0) (n' := 0) (by first | exact Nat.le_of_ble_eq_true rfl | omega | (dsimp only; omega)) (by first | exact Nat.le_of_ble_eq_true rfl | omega | (dsimp only; omega)) ?_
                    exact wv_X10_addOperation_74 hl hG  _ _ _ _ _ _ _ h
                  · replace h := h.2 c
                    refine V_aload_n (v := .ref this) hG dX10_addOperation_54 rfl rfl ?_
                    obtain ⟨ht, h⟩ := h
                    refine V_getPv hG dX10_addOperation_55 fl_X10_7 rfl ht (fun o12 ho => ?_)
                    replace h := h o12 ho
                    refine V_iload_n hG dX10_addOperation_58 rfl ?_
                    obtain ⟨u13, he, h⟩ := h
                    subst he
                    obtain ⟨ha, j14, hi, hj, h⟩ := h
                    refine V_iald hG dX10_addOperation_59 ha hi hj ?_
                    refine V_iconst (v := 1) hG (by decide) dX10_addOperation_60 ?_
                    refine V_icmp_eq (tgt := 74) hG dX10_addOperation_61 (by decide) (fun c => ?_) (fun c => ?_)
                    · replace h := h.1 c
                      refine V_forget (lo' := [some (.ref this), some (.int a0), some (.int a1), some (.int a2), some (.int a3), none]) ⟨rfl, ⟨rfl, ⟨rfl, ⟨rfl, ⟨rfl, trivial⟩⟩⟩⟩⟩ ?_
                      refine V_widen (k' := 0) (n' := 0) (by first | exact Nat.le_of_ble_eq_true rfl | omega | (dsimp only; omega)) (by first | exact Nat.le_of_ble_eq_true rfl | omega | (dsimp only; omega)) ?_
                      exact wv_X10_addOperation_74 hl hG  _ _ _ _ _ _ _ h
                    · replace h := h.2 c
                      refine V_aload_n (v := .ref this) hG dX10_addOperation_64 rfl rfl ?_
                      obtain ⟨ht, h⟩ := h
                      refine V_getPv hG dX10_addOperation_65 fl_X10_31 rfl ht (fun o15 ho => ?_)
                      replace h := h o15 ho
                      refine V_iload_n hG dX10_addOperation_68 rfl ?_
                      obtain ⟨u16, he, h⟩ := h
                      subst he
                      obtain ⟨ha, j17, hi, hj, h⟩ := h
                      refine V_iald hG dX10_addOperation_69 ha hi hj ?_
                      refine V_iconst (v := 4) hG (by decide) dX10_addOperation_70 ?_
                      refine V_icmp_ne (tgt := 78) hG dX10_addOperation_71 (by decide) (fun c => ?_) (fun c => ?_)
                      · replace h := h.1 c
                        refine V_iconst (v := 0) hG (by decide) dX10_addOperation_78 ?_
                        refine V_forget (lo' := [some (.ref this), some (.int a0), some (.int a1), some (.int a2), some (.int a3), none]) ⟨rfl, ⟨rfl, ⟨rfl, ⟨rfl, ⟨rfl, trivial⟩⟩⟩⟩⟩ ?_
                        refine V_widen (k' := 0) (n' := 0) (by first | exact Nat.le_of_ble_eq_true rfl | omega | (dsimp only; omega)) (by first | exact Nat.le_of_ble_eq_true rfl | omega | (dsimp only; omega)) ?_
                        exact wv_X10_addOperation_79 hl hG  _ _ _ _ _ _ _ _ h
                      · replace h := h.2 c
                        refine V_forget (lo' := [some (.ref this), some (.int a0), some (.int a1), some (.int a2), some (.int a3), none]) ⟨rfl, ⟨rfl, ⟨rfl, ⟨rfl, ⟨rfl, trivial⟩⟩⟩⟩⟩ ?_
                        refine V_widen (k' := 0) (n' := 0) (by first | exact Nat.le_of_ble_eq_true rfl | omega | (dsimp only; omega)) (by first | exact Nat.le_of_ble_eq_true rfl | omega | (dsimp only; omega)) ?_
                        exact wv_X10_addOperation_74 hl hG  _ _ _ _ _ _ _ h
                · replace h := h.2 c
                  refine V_iconst (v := 2) hG (by decide) dX10_addOperation_41 ?_
                  refine V_goto (tgt := 79) hG dX10_addOperation_42 (by decide) ?_
                  refine V_forget (lo' := [some (.ref this), some (.int a0), some (.int a1), some (.int a2), some (.int a3), none]) ⟨rfl, ⟨rfl, ⟨rfl, ⟨rfl, ⟨rfl, trivial⟩⟩⟩⟩⟩ ?_
                  refine V_widen (k' := 0) (n' := 0) (by first | exact Nat.le_of_ble_eq_true rfl | omega | (dsimp only; omega)) (by first | exact Nat.le_of_ble_eq_true rfl | omega | (dsimp only; omega)) ?_
                  exact wv_X10_addOperation_79 hl hG  _ _ _ _ _ _ _ _ h
            · replace h := h.2 c
              refine V_forget (lo' := [some (.ref this), some (.int a0), some (.int a1), some (.int a2), some (.int a3), none]) ⟨rfl, ⟨rfl, ⟨rfl, ⟨rfl, ⟨rfl, trivial⟩⟩⟩⟩⟩ ?_
              refine V_widen (k' := 0) (n' := 0) (by first | exact Nat.le_of_ble_eq_true rfl | omega | (dsimp only; omega)) (by first | exact Nat.le_of_ble_eq_true rfl | omega | (dsimp only; omega)) ?_
              exact wv_X10_addOperation_26 hl hG  _ _ _ _ _ _ _ h
def wp_X10_setStore_27  (this : Nat) (v1 : Int32) (v2 : Int32) (s0 : Nat) (s1 : Int32) (σ : Sg) (Post : Rs → Sg → Prop) : Prop := s0 % 32 = 10 ∧ this % 32 = 10 ∧ (((sI (wI σ s0 59 s1) this 59) ≤ 0 → this % 32 = 10 ∧ ∀ o1, o1 = sP (wI σ s0 59 s1) this 11 → ∃ u2, o1 = some u2 ∧ aty (u2 % 32) = some .int ∧ ∃ j3, v1 = nI j3 ∧ j3 < aln u2 ∧ this % 32 = 10 ∧ ∀ o4, o4 = sP (wI σ s0 59 s1) this 11 → ∃ u5, o4 = some u5 ∧ aty (u5 % 32) = some .int ∧ ∃ j6, v1 = nI j6 ∧ j6 < aln u5 ∧ Post (.inl (some (.int (sI (wI σ s0 59 s1) u2 j3)))) (wI (wI σ s0 59 s1) u5 j6 v2)) ∧ (¬ (sI (wI σ s0 59 s1) this 59) ≤ 0 → Post (.inl (some (.int (0 : Int32)))) (wI σ s0 59 s1)))
set_option maxRecDepth 100000 in
set_option maxHeartbeats 4000000 in
theorem wv_X10_setStore_27 {L9 : Launch} {G : Cx} {Post : Rs → Sg → Prop} (hl : L9.stackTraces = false) (hG : CX L9 G yX10_setStore cX10_setStore 4 (some .int) [] { frames := 2, cells := 0, slots := 0, locals := 42 })   : ∀ (this : Nat) (v1 : Int32) (v2 : Int32) (s0 : Nat) (s1 : Int32) (σ : Sg), wp_X10_setStore_27 this v1 v2 s0 s1 σ Post → V G (QM G 0 0 Post) 27 [some (.ref this), some (.int v1), some (.int v2), none] [.int s1, .ref s0] σ 0 0 := by
  intro this v1 v2 s0 s1 σ h
  unfold wp_X10_setStore_27 at h
  obtain ⟨ht, h⟩ := h
  refine V_putI hG dX10_setStore_27 fl_X10_168 rfl (fun e => absurd e (by decide)) rfl ht ?_
  refine V_aload_n (v := .ref this) hG dX10_setStore_30 rfl rfl ?_
  obtain ⟨ht, h⟩ := h
  refine V_getI hG dX10_setStore_31 fl_X10_168 rfl ht ?_
  refine V_if_le (tgt := 39) hG dX10_setStore_34 (by decide) (fun c => ?_) (fun c => ?_)
  · replace h := h.1 c
    refine V_aload_n (v := .ref this) hG dX10_setStore_39 rfl rfl ?_
    obtain ⟨ht, h⟩ := h
    refine V_getPv hG dX10_setStore_40 fl_X10_43 rfl ht (fun o1 ho => ?_)
    replace h := h o1 ho
    refine V_iload_n hG dX10_setStore_43 rfl ?_
    obtain ⟨u2, he, h⟩ := h
    subst he
    obtain ⟨ha, j3, hi, hj, h⟩ := h
    refine V_iald hG dX10_setStore_44 ha hi hj ?_
    refine V_istore_n hG dX10_setStore_45 (Nat.le_of_ble_eq_true rfl) (hpV rfl rfl) ?_
    refine V_aload_n (v := .ref this) hG dX10_setStore_46 rfl rfl ?_
    obtain ⟨ht, h⟩ := h
    refine V_getPv hG dX10_setStore_47 fl_X10_43 rfl ht (fun o4 ho => ?_)
    replace h := h o4 ho
    refine V_iload_n hG dX10_setStore_50 rfl ?_
    refine V_iload_n hG dX10_setStore_51 rfl ?_
    obtain ⟨u5, he, h⟩ := h
    subst he
    obtain ⟨ha, j6, hi, hj, h⟩ := h
    refine V_iast hG dX10_setStore_52 ha hi hj ?_
    refine V_iload_n hG dX10_setStore_53 rfl ?_
    exact V_iret hG dX10_setStore_54 (by first | exact Nat.le_of_ble_eq_true rfl | omega | (dsimp only; omega)) (by first | exact Nat.le_of_ble_eq_true rfl | omega | (dsimp only; omega)) h
  · replace h := h.2 c
    refine V_iconst (v := 0) hG (by decide) dX10_setStore_37 ?_
    exact V_iret hG dX10_setStore_38 (by first | exact Nat.le_of_ble_eq_true rfl | omega | (dsimp only; omega)) (by first | exact Nat.le_of_ble_eq_true rfl | omega | (dsimp only; omega)) h
def wp_X10_setStore (this : Nat) (a0 : Int32) (a1 : Int32) (σ : Sg) (Post : Rs → Sg → Prop) : Prop := wp_X10_isKind a0 σ (KI (fun x2 σ1 => ((¬ x2 = 0 → wp_X10_in a1 (0 : Int32) (99 : Int32) σ1 (KI (fun x4 σ3 => ((¬ x4 = 0 → (wp_X10_setStore_27 this a0 a1 this (0 : Int32) σ3 Post)) ∧ (x4 = 0 → (wp_X10_setStore_27 this a0 a1 this (2 : Int32) σ3 Post)))) (fun E σ3 => Post (.inr E) σ3))) ∧ (x2 = 0 → (wp_X10_setStore_27 this a0 a1 this (1 : Int32) σ1 Post)))) (fun E σ1 => Post (.inr E) σ1))
set_option maxRecDepth 100000 in
set_option maxHeartbeats 4000000 in
theorem ct_X10_setStore {l : Launch} (hl : l.stackTraces = false) {this : Nat} {a0 : Int32} {a1 : Int32} {σ : Sg} {Post : Rs → Sg → Prop} (h : wp_X10_setStore this a0 a1 σ Post) : Ct l yX10_setStore (.code yX10_setStore cX10_setStore 4 (some .int)) 2 42 0 0 [.ref this, .int a0, .int a1] σ Post := by
  refine Ct_of [some (.ref this), some (.int a0), some (.int a1), none] hl (by decide +kernel) rfl (fun ad => by rfl) (fun ad => by exact Nat.le_of_ble_eq_true rfl) (fun v hv => mem_lo hv rfl) ?_
  intro G hG
  unfold wp_X10_setStore at h
  refine V_aload_n (v := .ref this) hG dX10_setStore_0 rfl rfl ?_
  refine V_iload_n hG dX10_setStore_1 rfl ?_
  refine V_cSI _ _ hG dX10_setStore_2 (ct_X10_isKind hl h) mv_X10_isKind ml_X10_179 rfl rfl (by first | exact Nat.le_of_ble_eq_true rfl | (simp only [List.map_cons, List.map_nil, List.sum_cons, List.sum_nil, cat_rf]; exact Nat.le_of_ble_eq_true rfl)) (Nat.le_of_ble_eq_true rfl) (Nat.le_of_ble_eq_true rfl) (by first | exact Nat.le_of_ble_eq_true rfl | omega | (dsimp only; omega)) (by first | exact Nat.le_of_ble_eq_true rfl | omega | (dsimp only; omega)) ?_ (fun x2 σ1 h9 => ?_)
  · exact fun E σ1 hx => VX_out hG (by first | exact Nat.le_of_ble_eq_true rfl | omega | (dsimp only; omega)) (by first | exact Nat.le_of_ble_eq_true rfl | omega | (dsimp only; omega)) hx
  · replace h := h9
    clear h9
    refine V_if_ne (tgt := 12) hG dX10_setStore_5 (by decide) (fun c => ?_) (fun c => ?_)
    · replace h := h.1 c
      refine V_iload_n hG dX10_setStore_12 rfl ?_
      refine V_iconst (v := 0) hG (by decide) dX10_setStore_13 ?_
      refine V_bipush (v := 99) hG (by decide) dX10_setStore_14 ?_
      refine V_cSI _ _ hG dX10_setStore_16 (ct_X10_in hl h) mv_X10_in ml_X10_172 rfl rfl (by first | exact Nat.le_of_ble_eq_true rfl | (simp only [List.map_cons, List.map_nil, List.sum_cons, List.sum_nil, cat_rf]; exact Nat.le_of_ble_eq_true rfl)) (Nat.le_of_ble_eq_true rfl) (Nat.le_of_ble_eq_true rfl) (by first | exact Nat.le_of_ble_eq_true rfl | omega | (dsimp only; omega)) (by first | exact Nat.le_of_ble_eq_true rfl | omega | (dsimp only; omega)) ?_ (fun x4 σ3 h9 => ?_)
      · exact fun E σ3 hx => VX_out hG (by first | exact Nat.le_of_ble_eq_true rfl | omega | (dsimp only; omega)) (by first | exact Nat.le_of_ble_eq_true rfl | omega | (dsimp only; omega)) hx
      · replace h := h9
        clear h9
        refine V_if_ne (tgt := 26) hG dX10_setStore_19 (by decide) (fun c => ?_) (fun c => ?_)
        · replace h := h.1 c
          refine V_iconst (v := 0) hG (by decide) dX10_setStore_26 ?_
          refine V_forget (lo' := [some (.ref this), some (.int a0), some (.int a1), none]) ⟨rfl, ⟨rfl, ⟨rfl, trivial⟩⟩⟩ ?_
          refine V_widen (k' := 0) (n' := 0) (by first | exact Nat.le_of_ble_eq_true rfl | omega | (dsimp only; omega)) (by first | exact Nat.le_of_ble_eq_true rfl | omega | (dsimp only; omega)) ?_
          exact wv_X10_setStore_27 hl hG  _ _ _ _ _ _ h
        · replace h := h.2 c
          refine V_iconst (v := 2) hG (by decide) dX10_setStore_22 ?_
          refine V_goto (tgt := 27) hG dX10_setStore_23 (by decide) ?_
          refine V_forget (lo' := [some (.ref this), some (.int a0), some (.int a1), none]) ⟨rfl, ⟨rfl, ⟨rfl, trivial⟩⟩⟩ ?_
          refine V_widen (k' := 0) (n' := 0) (by first | exact Nat.le_of_ble_eq_true rfl | omega | (dsimp only; omega)) (by first | exact Nat.le_of_ble_eq_true rfl | omega | (dsimp only; omega)) ?_
          exact wv_X10_setStore_27 hl hG  _ _ _ _ _ _ h
    · replace h := h.2 c
      refine V_iconst (v := 1) hG (by decide) dX10_setStore_8 ?_
      refine V_goto (tgt := 27) hG dX10_setStore_9 (by decide) ?_
      refine V_forget (lo' := [some (.ref this), some (.int a0), some (.int a1), none]) ⟨rfl, ⟨rfl, ⟨rfl, trivial⟩⟩⟩ ?_
      refine V_widen (k' := 0) (n' := 0) (by first | exact Nat.le_of_ble_eq_true rfl | omega | (dsimp only; omega)) (by first | exact Nat.le_of_ble_eq_true rfl | omega | (dsimp only; omega)) ?_
      exact wv_X10_setStore_27 hl hG  _ _ _ _ _ _ h
def wp_X10_setQueue_29  (this : Nat) (v1 : Int32) (v2 : Int32) (s0 : Nat) (s1 : Int32) (σ : Sg) (Post : Rs → Sg → Prop) : Prop := s0 % 32 = 10 ∧ this % 32 = 10 ∧ (((sI (wI σ s0 59 s1) this 59) ≤ 0 → this % 32 = 10 ∧ ∀ o1, o1 = sP (wI σ s0 59 s1) this 12 → ∃ u2, o1 = some u2 ∧ aty (u2 % 32) = some .int ∧ ∃ j3, v1 = nI j3 ∧ j3 < aln u2 ∧ this % 32 = 10 ∧ ∀ o4, o4 = sP (wI σ s0 59 s1) this 12 → ∃ u5, o4 = some u5 ∧ aty (u5 % 32) = some .int ∧ ∃ j6, v1 = nI j6 ∧ j6 < aln u5 ∧ Post (.inl (some (.int (sI (wI σ s0 59 s1) u2 j3)))) (wI (wI σ s0 59 s1) u5 j6 v2)) ∧ (¬ (sI (wI σ s0 59 s1) this 59) ≤ 0 → Post (.inl (some (.int (0 : Int32)))) (wI σ s0 59 s1)))
set_option maxRecDepth 100000 in
set_option maxHeartbeats 4000000 in
theorem wv_X10_setQueue_29 {L9 : Launch} {G : Cx} {Post : Rs → Sg → Prop} (hl : L9.stackTraces = false) (hG : CX L9 G yX10_setQueue cX10_setQueue 4 (some .int) [] { frames := 1, cells := 0, slots := 0, locals := 22 })   : ∀ (this : Nat) (v1 : Int32) (v2 : Int32) (s0 : Nat) (s1 : Int32) (σ : Sg), wp_X10_setQueue_29 this v1 v2 s0 s1 σ Post → V G (QM G 0 0 Post) 29 [some (.ref this), some (.int v1), some (.int v2), none] [.int s1, .ref s0] σ 0 0 := by
  intro this v1 v2 s0 s1 σ h
  unfold wp_X10_setQueue_29 at h
  obtain ⟨ht, h⟩ := h
  refine V_putI hG dX10_setQueue_29 fl_X10_168 rfl (fun e => absurd e (by decide)) rfl ht ?_
  refine V_aload_n (v := .ref this) hG dX10_setQueue_32 rfl rfl ?_
  obtain ⟨ht, h⟩ := h
  refine V_getI hG dX10_setQueue_33 fl_X10_168 rfl ht ?_
  refine V_if_le (tgt := 41) hG dX10_setQueue_36 (by decide) (fun c => ?_) (fun c => ?_)
  · replace h := h.1 c
    refine V_aload_n (v := .ref this) hG dX10_setQueue_41 rfl rfl ?_
    obtain ⟨ht, h⟩ := h
    refine V_getPv hG dX10_setQueue_42 fl_X10_46 rfl ht (fun o1 ho => ?_)
    replace h := h o1 ho
    refine V_iload_n hG dX10_setQueue_45 rfl ?_
    obtain ⟨u2, he, h⟩ := h
    subst he
    obtain ⟨ha, j3, hi, hj, h⟩ := h
    refine V_iald hG dX10_setQueue_46 ha hi hj ?_
    refine V_istore_n hG dX10_setQueue_47 (Nat.le_of_ble_eq_true rfl) (hpV rfl rfl) ?_
    refine V_aload_n (v := .ref this) hG dX10_setQueue_48 rfl rfl ?_
    obtain ⟨ht, h⟩ := h
    refine V_getPv hG dX10_setQueue_49 fl_X10_46 rfl ht (fun o4 ho => ?_)
    replace h := h o4 ho
    refine V_iload_n hG dX10_setQueue_52 rfl ?_
    refine V_iload_n hG dX10_setQueue_53 rfl ?_
    obtain ⟨u5, he, h⟩ := h
    subst he
    obtain ⟨ha, j6, hi, hj, h⟩ := h
    refine V_iast hG dX10_setQueue_54 ha hi hj ?_
    refine V_iload_n hG dX10_setQueue_55 rfl ?_
    exact V_iret hG dX10_setQueue_56 (by first | exact Nat.le_of_ble_eq_true rfl | omega | (dsimp only; omega)) (by first | exact Nat.le_of_ble_eq_true rfl | omega | (dsimp only; omega)) h
  · replace h := h.2 c
    refine V_iconst (v := 0) hG (by decide) dX10_setQueue_39 ?_
    exact V_iret hG dX10_setQueue_40 (by first | exact Nat.le_of_ble_eq_true rfl | omega | (dsimp only; omega)) (by first | exact Nat.le_of_ble_eq_true rfl | omega | (dsimp only; omega)) h
def wp_X10_setQueue (this : Nat) (a0 : Int32) (a1 : Int32) (σ : Sg) (Post : Rs → Sg → Prop) : Prop := wp_X10_in a0 (0 : Int32) (3 : Int32) σ (KI (fun x2 σ1 => ((¬ x2 = 0 → wp_X10_in a1 (0 : Int32) (60 : Int32) σ1 (KI (fun x4 σ3 => ((¬ x4 = 0 → (wp_X10_setQueue_29 this a0 a1 this (0 : Int32) σ3 Post)) ∧ (x4 = 0 → (wp_X10_setQueue_29 this a0 a1 this (2 : Int32) σ3 Post)))) (fun E σ3 => Post (.inr E) σ3))) ∧ (x2 = 0 → (wp_X10_setQueue_29 this a0 a1 this (1 : Int32) σ1 Post)))) (fun E σ1 => Post (.inr E) σ1))
set_option maxRecDepth 100000 in
set_option maxHeartbeats 4000000 in
theorem ct_X10_setQueue {l : Launch} (hl : l.stackTraces = false) {this : Nat} {a0 : Int32} {a1 : Int32} {σ : Sg} {Post : Rs → Sg → Prop} (h : wp_X10_setQueue this a0 a1 σ Post) : Ct l yX10_setQueue (.code yX10_setQueue cX10_setQueue 4 (some .int)) 1 22 0 0 [.ref this, .int a0, .int a1] σ Post := by
  refine Ct_of [some (.ref this), some (.int a0), some (.int a1), none] hl (by decide +kernel) rfl (fun ad => by rfl) (fun ad => by exact Nat.le_of_ble_eq_true rfl) (fun v hv => mem_lo hv rfl) ?_
  intro G hG
  unfold wp_X10_setQueue at h
  refine V_aload_n (v := .ref this) hG dX10_setQueue_0 rfl rfl ?_
  refine V_iload_n hG dX10_setQueue_1 rfl ?_
  refine V_iconst (v := 0) hG (by decide) dX10_setQueue_2 ?_
  refine V_iconst (v := 3) hG (by decide) dX10_setQueue_3 ?_
  refine V_cSI _ _ hG dX10_setQueue_4 (ct_X10_in hl h) mv_X10_in ml_X10_172 rfl rfl (by first | exact Nat.le_of_ble_eq_true rfl | (simp only [List.map_cons, List.map_nil, List.sum_cons, List.sum_nil, cat_rf]; exact Nat.le_of_ble_eq_true rfl)) (Nat.le_of_ble_eq_true rfl) (Nat.le_of_ble_eq_true rfl) (by first | exact Nat.le_of_ble_eq_true rfl | omega | (dsimp only; omega)) (by first | exact Nat.le_of_ble_eq_true rfl | omega | (dsimp only; omega)) ?_ (fun x2 σ1 h9 => ?_)
  · exact fun E σ1 hx => VX_out hG (by first | exact Nat.le_of_ble_eq_true rfl | omega | (dsimp only; omega)) (by first | exact Nat.le_of_ble_eq_true rfl | omega | (dsimp only; omega)) hx
  · replace h := h9
    clear h9
    refine V_if_ne (tgt := 14) hG dX10_setQueue_7 (by decide) (fun c => ?_) (fun c => ?_)
    · replace h := h.1 c
      refine V_iload_n hG dX10_setQueue_14 rfl ?_
      refine V_iconst (v := 0) hG (by decide) dX10_setQueue_15 ?_
      refine V_bipush (v := 60) hG (by decide) dX10_setQueue_16 ?_
      refine V_cSI _ _ hG dX10_setQueue_18 (ct_X10_in hl h) mv_X10_in ml_X10_172 rfl rfl (by first | exact Nat.le_of_ble_eq_true rfl | (simp only [List.map_cons, List.map_nil, List.sum_cons, List.sum_nil, cat_rf]; exact Nat.le_of_ble_eq_true rfl)) (Nat.le_of_ble_eq_true rfl) (Nat.le_of_ble_eq_true rfl) (by first | exact Nat.le_of_ble_eq_true rfl | omega | (dsimp only; omega)) (by first | exact Nat.le_of_ble_eq_true rfl | omega | (dsimp only; omega)) ?_ (fun x4 σ3 h9 => ?_)
      · exact fun E σ3 hx => VX_out hG (by first | exact Nat.le_of_ble_eq_true rfl | omega | (dsimp only; omega)) (by first | exact Nat.le_of_ble_eq_true rfl | omega | (dsimp only; omega)) hx
      · replace h := h9
        clear h9
        refine V_if_ne (tgt := 28) hG dX10_setQueue_21 (by decide) (fun c => ?_) (fun c => ?_)
        · replace h := h.1 c
          refine V_iconst (v := 0) hG (by decide) dX10_setQueue_28 ?_
          refine V_forget (lo' := [some (.ref this), some (.int a0), some (.int a1), none]) ⟨rfl, ⟨rfl, ⟨rfl, trivial⟩⟩⟩ ?_
          refine V_widen (k' := 0) (n' := 0) (by first | exact Nat.le_of_ble_eq_true rfl | omega | (dsimp only; omega)) (by first | exact Nat.le_of_ble_eq_true rfl | omega | (dsimp only; omega)) ?_
          exact wv_X10_setQueue_29 hl hG  _ _ _ _ _ _ h
        · replace h := h.2 c
          refine V_iconst (v := 2) hG (by decide) dX10_setQueue_24 ?_
          refine V_goto (tgt := 29) hG dX10_setQueue_25 (by decide) ?_
          refine V_forget (lo' := [some (.ref this), some (.int a0), some (.int a1), none]) ⟨rfl, ⟨rfl, ⟨rfl, trivial⟩⟩⟩ ?_
          refine V_widen (k' := 0) (n' := 0) (by first | exact Nat.le_of_ble_eq_true rfl | omega | (dsimp only; omega)) (by first | exact Nat.le_of_ble_eq_true rfl | omega | (dsimp only; omega)) ?_
          exact wv_X10_setQueue_29 hl hG  _ _ _ _ _ _ h
    · replace h := h.2 c
      refine V_iconst (v := 1) hG (by decide) dX10_setQueue_10 ?_
      refine V_goto (tgt := 29) hG dX10_setQueue_11 (by decide) ?_
      refine V_forget (lo' := [some (.ref this), some (.int a0), some (.int a1), none]) ⟨rfl, ⟨rfl, ⟨rfl, trivial⟩⟩⟩ ?_
      refine V_widen (k' := 0) (n' := 0) (by first | exact Nat.le_of_ble_eq_true rfl | omega | (dsimp only; omega)) (by first | exact Nat.le_of_ble_eq_true rfl | omega | (dsimp only; omega)) ?_
      exact wv_X10_setQueue_29 hl hG  _ _ _ _ _ _ h
def wp_X10_addMachine_100  (this : Nat) (v1 : Int32) (v2 : Int32) (v3 : Int32) (v4 : Int32) (v5 : Int32) (v6 : Int32) (s0 : Nat) (s1 : Int32) (σ : Sg) (Post : Rs → Sg → Prop) : Prop := s0 % 32 = 10 ∧ this % 32 = 10 ∧ (((sI (wI σ s0 59 s1) this 59) ≤ 0 → this % 32 = 10 ∧ this % 32 = 10 ∧ ∀ o1, o1 = sP (wI σ s0 59 s1) this 28 → ∃ u2, o1 = some u2 ∧ aty (u2 % 32) = some .int ∧ ∃ j3, (sI (wI σ s0 59 s1) this 27) = nI j3 ∧ j3 < aln u2 ∧ this % 32 = 10 ∧ ∀ o4, o4 = sP (wI (wI σ s0 59 s1) u2 j3 v1) this 29 → ∃ u5, o4 = some u5 ∧ aty (u5 % 32) = some .int ∧ ∃ j6, (sI (wI σ s0 59 s1) this 27) = nI j6 ∧ j6 < aln u5 ∧ this % 32 = 10 ∧ ∀ o7, o7 = sP (wI (wI (wI σ s0 59 s1) u2 j3 v1) u5 j6 v2) this 30 → ∃ u8, o7 = some u8 ∧ aty (u8 % 32) = some .int ∧ ∃ j9, (sI (wI σ s0 59 s1) this 27) = nI j9 ∧ j9 < aln u8 ∧ this % 32 = 10 ∧ ∀ o10, o10 = sP (wI (wI (wI (wI σ s0 59 s1) u2 j3 v1) u5 j6 v2) u8 j9 v3) this 31 → ∃ u11, o10 = some u11 ∧ aty (u11 % 32) = some .int ∧ ∃ j12, (sI (wI σ s0 59 s1) this 27) = nI j12 ∧ j12 < aln u11 ∧ this % 32 = 10 ∧ ∀ o13, o13 = sP (wI (wI (wI (wI (wI σ s0 59 s1) u2 j3 v1) u5 j6 v2) u8 j9 v3) u11 j12 v4) this 32 → ∃ u14, o13 = some u14 ∧ aty (u14 % 32) = some .int ∧ ∃ j15, (sI (wI σ s0 59 s1) this 27) = nI j15 ∧ j15 < aln u14 ∧ this % 32 = 10 ∧ ∀ o16, o16 = sP (wI (wI (wI (wI (wI (wI σ s0 59 s1) u2 j3 v1) u5 j6 v2) u8 j9 v3) u11 j12 v4) u14 j15 v5) this 33 → ∃ u17, o16 = some u17 ∧ aty (u17 % 32) = some .int ∧ ∃ j18, (sI (wI σ s0 59 s1) this 27) = nI j18 ∧ j18 < aln u17 ∧ this % 32 = 10 ∧ ∀ o19, o19 = sP (wI (wI (wI (wI (wI (wI (wI σ s0 59 s1) u2 j3 v1) u5 j6 v2) u8 j9 v3) u11 j12 v4) u14 j15 v5) u17 j18 v6) this 34 → ∃ u20, o19 = some u20 ∧ aty (u20 % 32) = some .int ∧ ∃ j21, (sI (wI σ s0 59 s1) this 27) = nI j21 ∧ j21 < aln u20 ∧ this % 32 = 10 ∧ ∀ o22, o22 = sP (wI (wI (wI (wI (wI (wI (wI (wI σ s0 59 s1) u2 j3 v1) u5 j6 v2) u8 j9 v3) u11 j12 v4) u14 j15 v5) u17 j18 v6) u20 j21 (-1 : Int32)) this 36 → ∃ u23, o22 = some u23 ∧ aty (u23 % 32) = some .int ∧ ∃ j24, (sI (wI σ s0 59 s1) this 27) = nI j24 ∧ j24 < aln u23 ∧ this % 32 = 10 ∧ ∀ o25, o25 = sP (wI (wI (wI (wI (wI (wI (wI (wI (wI σ s0 59 s1) u2 j3 v1) u5 j6 v2) u8 j9 v3) u11 j12 v4) u14 j15 v5) u17 j18 v6) u20 j21 (-1 : Int32)) u23 j24 (-1 : Int32)) this 38 → ∃ u26, o25 = some u26 ∧ aty (u26 % 32) = some .int ∧ ∃ j27, (sI (wI σ s0 59 s1) this 27) = nI j27 ∧ j27 < aln u26 ∧ this % 32 = 10 ∧ this % 32 = 10 ∧ Post (.inl (some (.int (sI (wI σ s0 59 s1) this 27)))) (wI (wI (wI (wI (wI (wI (wI (wI (wI (wI (wI σ s0 59 s1) u2 j3 v1) u5 j6 v2) u8 j9 v3) u11 j12 v4) u14 j15 v5) u17 j18 v6) u20 j21 (-1 : Int32)) u23 j24 (-1 : Int32)) u26 j27 (-1 : Int32)) this 27 ((sI (wI (wI (wI (wI (wI (wI (wI (wI (wI (wI σ s0 59 s1) u2 j3 v1) u5 j6 v2) u8 j9 v3) u11 j12 v4) u14 j15 v5) u17 j18 v6) u20 j21 (-1 : Int32)) u23 j24 (-1 : Int32)) u26 j27 (-1 : Int32)) this 27) + (1 : Int32)))) ∧ (¬ (sI (wI σ s0 59 s1) this 59) ≤ 0 → Post (.inl (some (.int (0 : Int32)))) (wI σ s0 59 s1)))
set_option maxRecDepth 100000 in
set_option maxHeartbeats 4000000 in
theorem wv_X10_addMachine_100 {L9 : Launch} {G : Cx} {Post : Rs → Sg → Prop} (hl : L9.stackTraces = false) (hG : CX L9 G yX10_addMachine cX10_addMachine 9 (some .int) [] { frames := 2, cells := 0, slots := 0, locals := 42 })   : ∀ (this : Nat) (v1 : Int32) (v2 : Int32) (v3 : Int32) (v4 : Int32) (v5 : Int32) (v6 : Int32) (s0 : Nat) (s1 : Int32) (σ : Sg), wp_X10_addMachine_100 this v1 v2 v3 v4 v5 v6 s0 s1 σ Post → V G (QM G 0 0 Post) 100 [some (.ref this), some (.int v1), some (.int v2), some (.int v3), some (.int v4), some (.int v5), some (.int v6), none, none] [.int s1, .ref s0] σ 0 0 := by
  intro this v1 v2 v3 v4 v5 v6 s0 s1 σ h
  unfold wp_X10_addMachine_100 at h
  obtain ⟨ht, h⟩ := h
  refine V_putI hG dX10_addMachine_100 fl_X10_168 rfl (fun e => absurd e (by decide)) rfl ht ?_
  refine V_aload_n (v := .ref this) hG dX10_addMachine_103 rfl rfl ?_
  obtain ⟨ht, h⟩ := h
  refine V_getI hG dX10_addMachine_104 fl_X10_168 rfl ht ?_
  refine V_if_le (tgt := 112) hG dX10_addMachine_107 (by decide) (fun c => ?_) (fun c => ?_)
  · replace h := h.1 c
    refine V_aload_n (v := .ref this) hG dX10_addMachine_112 rfl rfl ?_
    obtain ⟨ht, h⟩ := h
    refine V_getI hG dX10_addMachine_113 fl_X10_183 rfl ht ?_
    refine V_istore hG dX10_addMachine_116 (Nat.le_of_ble_eq_true rfl) (hpN rfl) ?_
    refine V_aload_n (v := .ref this) hG dX10_addMachine_118 rfl rfl ?_
    obtain ⟨ht, h⟩ := h
    refine V_getPv hG dX10_addMachine_119 fl_X10_90 rfl ht (fun o1 ho => ?_)
    replace h := h o1 ho
    refine V_iload hG dX10_addMachine_122 rfl ?_
    refine V_iload_n hG dX10_addMachine_124 rfl ?_
    obtain ⟨u2, he, h⟩ := h
    subst he
    obtain ⟨ha, j3, hi, hj, h⟩ := h
    refine V_iast hG dX10_addMachine_125 ha hi hj ?_
    refine V_aload_n (v := .ref this) hG dX10_addMachine_126 rfl rfl ?_
    obtain ⟨ht, h⟩ := h
    refine V_getPv hG dX10_addMachine_127 fl_X10_93 rfl ht (fun o4 ho => ?_)
    replace h := h o4 ho
    refine V_iload hG dX10_addMachine_130 rfl ?_
    refine V_iload_n hG dX10_addMachine_132 rfl ?_
    obtain ⟨u5, he, h⟩ := h
    subst he
    obtain ⟨ha, j6, hi, hj, h⟩ := h
    refine V_iast hG dX10_addMachine_133 ha hi hj ?_
    refine V_aload_n (v := .ref this) hG dX10_addMachine_134 rfl rfl ?_
    obtain ⟨ht, h⟩ := h
    refine V_getPv hG dX10_addMachine_135 fl_X10_96 rfl ht (fun o7 ho => ?_)
    replace h := h o7 ho
    refine V_iload hG dX10_addMachine_138 rfl ?_
    refine V_iload_n hG dX10_addMachine_140 rfl ?_
    obtain ⟨u8, he, h⟩ := h
    subst he
    obtain ⟨ha, j9, hi, hj, h⟩ := h
    refine V_iast hG dX10_addMachine_141 ha hi hj ?_
    refine V_aload_n (v := .ref this) hG dX10_addMachine_142 rfl rfl ?_
    obtain ⟨ht, h⟩ := h
    refine V_getPv hG dX10_addMachine_143 fl_X10_99 rfl ht (fun o10 ho => ?_)
    replace h := h o10 ho
    refine V_iload hG dX10_addMachine_146 rfl ?_
    refine V_iload hG dX10_addMachine_148 rfl ?_
    obtain ⟨u11, he, h⟩ := h
    subst he
    obtain ⟨ha, j12, hi, hj, h⟩ := h
    refine V_iast hG dX10_addMachine_150 ha hi hj ?_
    refine V_aload_n (v := .ref this) hG dX10_addMachine_151 rfl rfl ?_
    obtain ⟨ht, h⟩ := h
    refine V_getPv hG dX10_addMachine_152 fl_X10_102 rfl ht (fun o13 ho => ?_)
    replace h := h o13 ho
    refine V_iload hG dX10_addMachine_155 rfl ?_
    refine V_iload hG dX10_addMachine_157 rfl ?_
    obtain ⟨u14, he, h⟩ := h
    subst he
    obtain ⟨ha, j15, hi, hj, h⟩ := h
    refine V_iast hG dX10_addMachine_159 ha hi hj ?_
    refine V_aload_n (v := .ref this) hG dX10_addMachine_160 rfl rfl ?_
    obtain ⟨ht, h⟩ := h
    refine V_getPv hG dX10_addMachine_161 fl_X10_105 rfl ht (fun o16 ho => ?_)
    replace h := h o16 ho
    refine V_iload hG dX10_addMachine_164 rfl ?_
    refine V_iload hG dX10_addMachine_166 rfl ?_
    obtain ⟨u17, he, h⟩ := h
    subst he
    obtain ⟨ha, j18, hi, hj, h⟩ := h
    refine V_iast hG dX10_addMachine_168 ha hi hj ?_
    refine V_aload_n (v := .ref this) hG dX10_addMachine_169 rfl rfl ?_
    obtain ⟨ht, h⟩ := h
    refine V_getPv hG dX10_addMachine_170 fl_X10_108 rfl ht (fun o19 ho => ?_)
    replace h := h o19 ho
    refine V_iload hG dX10_addMachine_173 rfl ?_
    refine V_iconst (v := (-1)) hG (by decide) dX10_addMachine_175 ?_
    obtain ⟨u20, he, h⟩ := h
    subst he
    obtain ⟨ha, j21, hi, hj, h⟩ := h
    refine V_iast hG dX10_addMachine_176 ha hi hj ?_
    refine V_aload_n (v := .ref this) hG dX10_addMachine_177 rfl rfl ?_
    obtain ⟨ht, h⟩ := h
    refine V_getPv hG dX10_addMachine_178 fl_X10_114 rfl ht (fun o22 ho => ?_)
    replace h := h o22 ho
    refine V_iload hG dX10_addMachine_181 rfl ?_
    refine V_iconst (v := (-1)) hG (by decide) dX10_addMachine_183 ?_
    obtain ⟨u23, he, h⟩ := h
    subst he
    obtain ⟨ha, j24, hi, hj, h⟩ := h
    refine V_iast hG dX10_addMachine_184 ha hi hj ?_
    refine V_aload_n (v := .ref this) hG dX10_addMachine_185 rfl rfl ?_
    obtain ⟨ht, h⟩ := h
    refine V_getPv hG dX10_addMachine_186 fl_X10_120 rfl ht (fun o25 ho => ?_)
    replace h := h o25 ho
    refine V_iload hG dX10_addMachine_189 rfl ?_
    refine V_iconst (v := (-1)) hG (by decide) dX10_addMachine_191 ?_
    obtain ⟨u26, he, h⟩ := h
    subst he
    obtain ⟨ha, j27, hi, hj, h⟩ := h
    refine V_iast hG dX10_addMachine_192 ha hi hj ?_
    refine V_aload_n (v := .ref this) hG dX10_addMachine_193 rfl rfl ?_
    refine V_dup (v := .ref this) hG rfl dX10_addMachine_194 ?_
    obtain ⟨ht, h⟩ := h
    refine V_getI hG dX10_addMachine_195 fl_X10_183 rfl ht ?_
    refine V_iconst (v := 1) hG (by decide) dX10_addMachine_198 ?_
    refine V_iadd hG dX10_addMachine_199 ?_
    obtain ⟨ht, h⟩ := h
    refine V_putI hG dX10_addMachine_200 fl_X10_183 rfl (fun e => absurd e (by decide)) rfl ht ?_
    refine V_iload hG dX10_addMachine_203 rfl ?_
    exact V_iret hG dX10_addMachine_205 (by first | exact Nat.le_of_ble_eq_true rfl | omega | (dsimp only; omega)) (by first | exact Nat.le_of_ble_eq_true rfl | omega | (dsimp only; omega)) h
  · replace h := h.2 c
    refine V_iconst (v := 0) hG (by decide) dX10_addMachine_110 ?_
    exact V_iret hG dX10_addMachine_111 (by first | exact Nat.le_of_ble_eq_true rfl | omega | (dsimp only; omega)) (by first | exact Nat.le_of_ble_eq_true rfl | omega | (dsimp only; omega)) h
def wp_X10_addMachine_77  (this : Nat) (v1 : Int32) (v2 : Int32) (v3 : Int32) (v4 : Int32) (v5 : Int32) (v6 : Int32) (v7 : Int32) (s0 : Nat) (σ : Sg) (Post : Rs → Sg → Prop) : Prop := ((¬ v7 = 0 → this % 32 = 10 ∧ ((¬ (sI σ this 27) = (6 : Int32) → (wp_X10_addMachine_100 this v1 v2 v3 v4 v5 v6 s0 (0 : Int32) σ Post)) ∧ ((sI σ this 27) = (6 : Int32) → (wp_X10_addMachine_100 this v1 v2 v3 v4 v5 v6 s0 (3 : Int32) σ Post)))) ∧ (v7 = 0 → (wp_X10_addMachine_100 this v1 v2 v3 v4 v5 v6 s0 (2 : Int32) σ Post)))
set_option maxRecDepth 100000 in
set_option maxHeartbeats 4000000 in
theorem wv_X10_addMachine_77 {L9 : Launch} {G : Cx} {Post : Rs → Sg → Prop} (hl : L9.stackTraces = false) (hG : CX L9 G yX10_addMachine cX10_addMachine 9 (some .int) [] { frames := 2, cells := 0, slots := 0, locals := 42 })   : ∀ (this : Nat) (v1 : Int32) (v2 : Int32) (v3 : Int32) (v4 : Int32) (v5 : Int32) (v6 : Int32) (v7 : Int32) (s0 : Nat) (σ : Sg), wp_X10_addMachine_77 this v1 v2 v3 v4 v5 v6 v7 s0 σ Post → V G (QM G 0 0 Post) 77 [some (.ref this), some (.int v1), some (.int v2), some (.int v3), some (.int v4), some (.int v5), some (.int v6), some (.int v7), none] [.ref s0] σ 0 0 := by
  intro this v1 v2 v3 v4 v5 v6 v7 s0 σ h
  unfold wp_X10_addMachine_77 at h
  refine V_iload hG dX10_addMachine_77 rfl ?_
  refine V_if_ne (tgt := 86) hG dX10_addMachine_79 (by decide) (fun c => ?_) (fun c => ?_)
  · replace h := h.1 c
    refine V_aload_n (v := .ref this) hG dX10_addMachine_86 rfl rfl ?_
    obtain ⟨ht, h⟩ := h
    refine V_getI hG dX10_addMachine_87 fl_X10_183 rfl ht ?_
    refine V_bipush (v := 6) hG (by decide) dX10_addMachine_90 ?_
    refine V_icmp_ne (tgt := 99) hG dX10_addMachine_92 (by decide) (fun c => ?_) (fun c => ?_)
    · replace h := h.1 c
      refine V_iconst (v := 0) hG (by decide) dX10_addMachine_99 ?_
      refine V_forget (lo' := [some (.ref this), some (.int v1), some (.int v2), some (.int v3), some (.int v4), some (.int v5), some (.int v6), none, none]) ⟨rfl, ⟨rfl, ⟨rfl, ⟨rfl, ⟨rfl, ⟨rfl, ⟨rfl, trivial⟩⟩⟩⟩⟩⟩⟩ ?_
      refine V_widen (k' := 0) (n' := 0) (by first | exact Nat.le_of_ble_eq_true rfl | omega | (dsimp only; omega)) (by first | exact Nat.le_of_ble_eq_true rfl | omega | (dsimp only; omega)) ?_
      exact wv_X10_addMachine_100 hl hG  _ _ _ _ _ _ _ _ _ _ h
    · replace h := h.2 c
      refine V_iconst (v := 3) hG (by decide) dX10_addMachine_95 ?_
      refine V_goto (tgt := 100) hG dX10_addMachine_96 (by decide) ?_
      refine V_forget (lo' := [some (.ref this), some (.int v1), some (.int v2), some (.int v3), some (.int v4), some (.int v5), some (.int v6), none, none]) ⟨rfl, ⟨rfl, ⟨rfl, ⟨rfl, ⟨rfl, ⟨rfl, ⟨rfl, trivial⟩⟩⟩⟩⟩⟩⟩ ?_
      refine V_widen (k' := 0) (n' := 0) (by first | exact Nat.le_of_ble_eq_true rfl | omega | (dsimp only; omega)) (by first | exact Nat.le_of_ble_eq_true rfl | omega | (dsimp only; omega)) ?_
      exact wv_X10_addMachine_100 hl hG  _ _ _ _ _ _ _ _ _ _ h
  · replace h := h.2 c
    refine V_iconst (v := 2) hG (by decide) dX10_addMachine_82 ?_
    refine V_goto (tgt := 100) hG dX10_addMachine_83 (by decide) ?_
    refine V_forget (lo' := [some (.ref this), some (.int v1), some (.int v2), some (.int v3), some (.int v4), some (.int v5), some (.int v6), none, none]) ⟨rfl, ⟨rfl, ⟨rfl, ⟨rfl, ⟨rfl, ⟨rfl, ⟨rfl, trivial⟩⟩⟩⟩⟩⟩⟩ ?_
    refine V_widen (k' := 0) (n' := 0) (by first | exact Nat.le_of_ble_eq_true rfl | omega | (dsimp only; omega)) (by first | exact Nat.le_of_ble_eq_true rfl | omega | (dsimp only; omega)) ?_
    exact wv_X10_addMachine_100 hl hG  _ _ _ _ _ _ _ _ _ _ h
def wp_X10_addMachine_56  (this : Nat) (v1 : Int32) (v2 : Int32) (v3 : Int32) (v4 : Int32) (v5 : Int32) (v6 : Int32) (s0 : Int32) (σ : Sg) (Post : Rs → Sg → Prop) : Prop := ((v6 = (-1 : Int32) → (wp_X10_addMachine_77 this v1 v2 v3 v4 v5 v6 s0 this σ Post)) ∧ (¬ v6 = (-1 : Int32) → wp_X10_isKind v6 σ (KI (fun x2 σ1 => ((¬ x2 = 0 → (wp_X10_addMachine_77 this v1 v2 v3 v4 v5 v6 s0 this σ1 Post)) ∧ (x2 = 0 → (wp_X10_addMachine_100 this v1 v2 v3 v4 v5 v6 this (1 : Int32) σ1 Post)))) (fun E σ1 => Post (.inr E) σ1))))
set_option maxRecDepth 100000 in
set_option maxHeartbeats 4000000 in
theorem wv_X10_addMachine_56 {L9 : Launch} {G : Cx} {Post : Rs → Sg → Prop} (hl : L9.stackTraces = false) (hG : CX L9 G yX10_addMachine cX10_addMachine 9 (some .int) [] { frames := 2, cells := 0, slots := 0, locals := 42 })   : ∀ (this : Nat) (v1 : Int32) (v2 : Int32) (v3 : Int32) (v4 : Int32) (v5 : Int32) (v6 : Int32) (s0 : Int32) (σ : Sg), wp_X10_addMachine_56 this v1 v2 v3 v4 v5 v6 s0 σ Post → V G (QM G 0 0 Post) 56 [some (.ref this), some (.int v1), some (.int v2), some (.int v3), some (.int v4), some (.int v5), some (.int v6), none, none] [.int s0] σ 0 0 := by
  intro this v1 v2 v3 v4 v5 v6 s0 σ h
  unfold wp_X10_addMachine_56 at h
  refine V_istore hG dX10_addMachine_56 (Nat.le_of_ble_eq_true rfl) (hpV rfl rfl) ?_
  refine V_aload_n (v := .ref this) hG dX10_addMachine_58 rfl rfl ?_
  refine V_iload hG dX10_addMachine_59 rfl ?_
  refine V_iconst (v := (-1)) hG (by decide) dX10_addMachine_61 ?_
  refine V_icmp_eq (tgt := 77) hG dX10_addMachine_62 (by decide) (fun c => ?_) (fun c => ?_)
  · replace h := h.1 c
    refine V_forget (lo' := [some (.ref this), some (.int v1), some (.int v2), some (.int v3), some (.int v4), some (.int v5), some (.int v6), some (.int s0), none]) ⟨rfl, ⟨rfl, ⟨rfl, ⟨rfl, ⟨rfl, ⟨rfl, ⟨rfl, ⟨rfl, trivial⟩⟩⟩⟩⟩⟩⟩⟩ ?_
    refine V_widen (k' := 0) (n' := 0) (by first | exact Nat.le_of_ble_eq_true rfl | omega | (dsimp only; omega)) (by first | exact Nat.le_of_ble_eq_true rfl | omega | (dsimp only; omega)) ?_
    exact wv_X10_addMachine_77 hl hG  _ _ _ _ _ _ _ _ _ _ h
  · replace h := h.2 c
    refine V_iload hG dX10_addMachine_65 rfl ?_
    refine V_cSI _ _ hG dX10_addMachine_67 (ct_X10_isKind hl h) mv_X10_isKind ml_X10_179 rfl rfl (by first | exact Nat.le_of_ble_eq_true rfl | (simp only [List.map_cons, List.map_nil, List.sum_cons, List.sum_nil, cat_rf]; exact Nat.le_of_ble_eq_true rfl)) (Nat.le_of_ble_eq_true rfl) (Nat.le_of_ble_eq_true rfl) (by first | exact Nat.le_of_ble_eq_true rfl | omega | (dsimp only; omega)) (by first | exact Nat.le_of_ble_eq_true rfl | omega | (dsimp only; omega)) ?_ (fun x2 σ1 h9 => ?_)
    · exact fun E σ1 hx => VX_out hG (by first | exact Nat.le_of_ble_eq_true rfl | omega | (dsimp only; omega)) (by first | exact Nat.le_of_ble_eq_true rfl | omega | (dsimp only; omega)) hx
    · replace h := h9
      clear h9
      refine V_if_ne (tgt := 77) hG dX10_addMachine_70 (by decide) (fun c => ?_) (fun c => ?_)
      · replace h := h.1 c
        refine V_forget (lo' := [some (.ref this), some (.int v1), some (.int v2), some (.int v3), some (.int v4), some (.int v5), some (.int v6), some (.int s0), none]) ⟨rfl, ⟨rfl, ⟨rfl, ⟨rfl, ⟨rfl, ⟨rfl, ⟨rfl, ⟨rfl, trivial⟩⟩⟩⟩⟩⟩⟩⟩ ?_
        refine V_widen (k' := 0) (n' := 0) (by first | exact Nat.le_of_ble_eq_true rfl | omega | (dsimp only; omega)) (by first | exact Nat.le_of_ble_eq_true rfl | omega | (dsimp only; omega)) ?_
        exact wv_X10_addMachine_77 hl hG  _ _ _ _ _ _ _ _ _ _ h
      · replace h := h.2 c
        refine V_iconst (v := 1) hG (by decide) dX10_addMachine_73 ?_
        refine V_goto (tgt := 100) hG dX10_addMachine_74 (by decide) ?_
        refine V_forget (lo' := [some (.ref this), some (.int v1), some (.int v2), some (.int v3), some (.int v4), some (.int v5), some (.int v6), none, none]) ⟨rfl, ⟨rfl, ⟨rfl, ⟨rfl, ⟨rfl, ⟨rfl, ⟨rfl, trivial⟩⟩⟩⟩⟩⟩⟩ ?_
        refine V_widen (k' := 0) (n' := 0) (by first | exact Nat.le_of_ble_eq_true rfl | omega | (dsimp only; omega)) (by first | exact Nat.le_of_ble_eq_true rfl | omega | (dsimp only; omega)) ?_
        exact wv_X10_addMachine_100 hl hG  _ _ _ _ _ _ _ _ _ _ h
def wp_X10_addMachine_55  (this : Nat) (v1 : Int32) (v2 : Int32) (v3 : Int32) (v4 : Int32) (v5 : Int32) (v6 : Int32) (σ : Sg) (Post : Rs → Sg → Prop) : Prop := (wp_X10_addMachine_56 this v1 v2 v3 v4 v5 v6 (0 : Int32) σ Post)
set_option maxRecDepth 100000 in
set_option maxHeartbeats 4000000 in
theorem wv_X10_addMachine_55 {L9 : Launch} {G : Cx} {Post : Rs → Sg → Prop} (hl : L9.stackTraces = false) (hG : CX L9 G yX10_addMachine cX10_addMachine 9 (some .int) [] { frames := 2, cells := 0, slots := 0, locals := 42 })   : ∀ (this : Nat) (v1 : Int32) (v2 : Int32) (v3 : Int32) (v4 : Int32) (v5 : Int32) (v6 : Int32) (σ : Sg), wp_X10_addMachine_55 this v1 v2 v3 v4 v5 v6 σ Post → V G (QM G 0 0 Post) 55 [some (.ref this), some (.int v1), some (.int v2), some (.int v3), some (.int v4), some (.int v5), some (.int v6), none, none] [] σ 0 0 := by
  intro this v1 v2 v3 v4 v5 v6 σ h
  unfold wp_X10_addMachine_55 at h
  refine V_iconst (v := 0) hG (by decide) dX10_addMachine_55 ?_
  refine V_forget (lo' := [some (.ref this), some (.int v1), some (.int v2), some (.int v3), some (.int v4), some (.int v5), some (.int v6), none, none]) ⟨rfl, ⟨rfl, ⟨rfl, ⟨rfl, ⟨rfl, ⟨rfl, ⟨rfl, trivial⟩⟩⟩⟩⟩⟩⟩ ?_
  refine V_widen (k' := 0) (n' := 0) (by first | exact Nat.le_of_ble_eq_true rfl | omega | (dsimp only; omega)) (by first | exact Nat.le_of_ble_eq_true rfl | omega | (dsimp only; omega)) ?_
  exact wv_X10_addMachine_56 hl hG  _ _ _ _ _ _ _ _ _ h
def wp_X10_addMachine (this : Nat) (a0 : Int32) (a1 : Int32) (a2 : Int32) (a3 : Int32) (a4 : Int32) (a5 : Int32) (σ : Sg) (Post : Rs → Sg → Prop) : Prop := wp_X10_in a0 (1 : Int32) (15 : Int32) σ (KI (fun x2 σ1 => ((x2 = 0 → (wp_X10_addMachine_55 this a0 a1 a2 a3 a4 a5 σ1 Post)) ∧ (¬ x2 = 0 → wp_X10_in a1 (0 : Int32) (5 : Int32) σ1 (KI (fun x4 σ3 => ((x4 = 0 → (wp_X10_addMachine_55 this a0 a1 a2 a3 a4 a5 σ3 Post)) ∧ (¬ x4 = 0 → wp_X10_in a2 (0 : Int32) (9 : Int32) σ3 (KI (fun x6 σ5 => ((x6 = 0 → (wp_X10_addMachine_55 this a0 a1 a2 a3 a4 a5 σ5 Post)) ∧ (¬ x6 = 0 → wp_X10_in a3 (1 : Int32) (50 : Int32) σ5 (KI (fun x8 σ7 => ((x8 = 0 → (wp_X10_addMachine_55 this a0 a1 a2 a3 a4 a5 σ7 Post)) ∧ (¬ x8 = 0 → wp_X10_in a4 (1 : Int32) (9 : Int32) σ7 (KI (fun x10 σ9 => ((x10 = 0 → (wp_X10_addMachine_55 this a0 a1 a2 a3 a4 a5 σ9 Post)) ∧ (¬ x10 = 0 → (wp_X10_addMachine_56 this a0 a1 a2 a3 a4 a5 (1 : Int32) σ9 Post)))) (fun E σ9 => Post (.inr E) σ9))))) (fun E σ7 => Post (.inr E) σ7))))) (fun E σ5 => Post (.inr E) σ5))))) (fun E σ3 => Post (.inr E) σ3))))) (fun E σ1 => Post (.inr E) σ1))
set_option maxRecDepth 100000 in
set_option maxHeartbeats 4000000 in
theorem ct_X10_addMachine {l : Launch} (hl : l.stackTraces = false) {this : Nat} {a0 : Int32} {a1 : Int32} {a2 : Int32} {a3 : Int32} {a4 : Int32} {a5 : Int32} {σ : Sg} {Post : Rs → Sg → Prop} (h : wp_X10_addMachine this a0 a1 a2 a3 a4 a5 σ Post) : Ct l yX10_addMachine (.code yX10_addMachine cX10_addMachine 9 (some .int)) 2 42 0 0 [.ref this, .int a0, .int a1, .int a2, .int a3, .int a4, .int a5] σ Post := by
  refine Ct_of [some (.ref this), some (.int a0), some (.int a1), some (.int a2), some (.int a3), some (.int a4), some (.int a5), none, none] hl (by decide +kernel) rfl (fun ad => by rfl) (fun ad => by exact Nat.le_of_ble_eq_true rfl) (fun v hv => mem_lo hv rfl) ?_
  intro G hG
  unfold wp_X10_addMachine at h
  refine V_iload_n hG dX10_addMachine_0 rfl ?_
  refine V_iconst (v := 1) hG (by decide) dX10_addMachine_1 ?_
  refine V_bipush (v := 15) hG (by decide) dX10_addMachine_2 ?_
  refine V_cSI _ _ hG dX10_addMachine_4 (ct_X10_in hl h) mv_X10_in ml_X10_172 rfl rfl (by first | exact Nat.le_of_ble_eq_true rfl | (simp only [List.map_cons, List.map_nil, List.sum_cons, List.sum_nil, cat_rf]; exact Nat.le_of_ble_eq_true rfl)) (Nat.le_of_ble_eq_true rfl) (Nat.le_of_ble_eq_true rfl) (by first | exact Nat.le_of_ble_eq_true rfl | omega | (dsimp only; omega)) (by first | exact Nat.le_of_ble_eq_true rfl | omega | (dsimp only; omega)) ?_ (fun x2 σ1 h9 => ?_)
  · exact fun E σ1 hx => VX_out hG (by first | exact Nat.le_of_ble_eq_true rfl | omega | (dsimp only; omega)) (by first | exact Nat.le_of_ble_eq_true rfl | omega | (dsimp only; omega)) hx
  · replace h := h9
    clear h9
    refine V_if_eq (tgt := 55) hG dX10_addMachine_7 (by decide) (fun c => ?_) (fun c => ?_)
    · replace h := h.1 c
      refine V_forget (lo' := [some (.ref this), some (.int a0), some (.int a1), some (.int a2), some (.int a3), some (.int a4), some (.int a5), none, none]) ⟨rfl, ⟨rfl, ⟨rfl, ⟨rfl, ⟨rfl, ⟨rfl, ⟨rfl, trivial⟩⟩⟩⟩⟩⟩⟩ ?_
      refine V_widen (k' := 0) (n' := 0) (by first | exact Nat.le_of_ble_eq_true rfl | omega | (dsimp only; omega)) (by first | exact Nat.le_of_ble_eq_true rfl | omega | (dsimp only; omega)) ?_
      exact wv_X10_addMachine_55 hl hG  _ _ _ _ _ _ _ _ h
    · replace h := h.2 c
      refine V_iload_n hG dX10_addMachine_10 rfl ?_
      refine V_iconst (v := 0) hG (by decide) dX10_addMachine_11 ?_
      refine V_iconst (v := 5) hG (by decide) dX10_addMachine_12 ?_
      refine V_cSI _ _ hG dX10_addMachine_13 (ct_X10_in hl h) mv_X10_in ml_X10_172 rfl rfl (by first | exact Nat.le_of_ble_eq_true rfl | (simp only [List.map_cons, List.map_nil, List.sum_cons, List.sum_nil, cat_rf]; exact Nat.le_of_ble_eq_true rfl)) (Nat.le_of_ble_eq_true rfl) (Nat.le_of_ble_eq_true rfl) (by first | exact Nat.le_of_ble_eq_true rfl | omega | (dsimp only; omega)) (by first | exact Nat.le_of_ble_eq_true rfl | omega | (dsimp only; omega)) ?_ (fun x4 σ3 h9 => ?_)
      · exact fun E σ3 hx => VX_out hG (by first | exact Nat.le_of_ble_eq_true rfl | omega | (dsimp only; omega)) (by first | exact Nat.le_of_ble_eq_true rfl | omega | (dsimp only; omega)) hx
      · replace h := h9
        clear h9
        refine V_if_eq (tgt := 55) hG dX10_addMachine_16 (by decide) (fun c => ?_) (fun c => ?_)
        · replace h := h.1 c
          refine V_forget (lo' := [some (.ref this), some (.int a0), some (.int a1), some (.int a2), some (.int a3), some (.int a4), some (.int a5), none, none]) ⟨rfl, ⟨rfl, ⟨rfl, ⟨rfl, ⟨rfl, ⟨rfl, ⟨rfl, trivial⟩⟩⟩⟩⟩⟩⟩ ?_
          refine V_widen (k' := 0) (n' := 0) (by first | exact Nat.le_of_ble_eq_true rfl | omega | (dsimp only; omega)) (by first | exact Nat.le_of_ble_eq_true rfl | omega | (dsimp only; omega)) ?_
          exact wv_X10_addMachine_55 hl hG  _ _ _ _ _ _ _ _ h
        · replace h := h.2 c
          refine V_iload_n hG dX10_addMachine_19 rfl ?_
          refine V_iconst (v := 0) hG (by decide) dX10_addMachine_20 ?_
          refine V_bipush (v := 9) hG (by decide) dX10_addMachine_21 ?_
          refine V_cSI _ _ hG dX10_addMachine_23 (ct_X10_in hl h) mv_X10_in ml_X10_172 rfl rfl (by first | exact Nat.le_of_ble_eq_true rfl | (simp only [List.map_cons, List.map_nil, List.sum_cons, List.sum_nil, cat_rf]; exact Nat.le_of_ble_eq_true rfl)) (Nat.le_of_ble_eq_true rfl) (Nat.le_of_ble_eq_true rfl) (by first | exact Nat.le_of_ble_eq_true rfl | omega | (dsimp only; omega)) (by first | exact Nat.le_of_ble_eq_true rfl | omega | (dsimp only; omega)) ?_ (fun x6 σ5 h9 => ?_)
          · exact fun E σ5 hx => VX_out hG (by first | exact Nat.le_of_ble_eq_true rfl | omega | (dsimp only; omega)) (by first | exact Nat.le_of_ble_eq_true rfl | omega | (dsimp only; omega)) hx
          · replace h := h9
            clear h9
            refine V_if_eq (tgt := 55) hG dX10_addMachine_26 (by decide) (fun c => ?_) (fun c => ?_)
            · replace h := h.1 c
              refine V_forget (lo' := [some (.ref this), some (.int a0), some (.int a1), some (.int a2), some (.int a3), some (.int a4), some (.int a5), none, none]) ⟨rfl, ⟨rfl, ⟨rfl, ⟨rfl, ⟨rfl, ⟨rfl, ⟨rfl, trivial⟩⟩⟩⟩⟩⟩⟩ ?_
              refine V_widen (k' := 0) (n' := 0) (by first | exact Nat.le_of_ble_eq_true rfl | omega | (dsimp only; omega)) (by first | exact Nat.le_of_ble_eq_true rfl | omega | (dsimp only; omega)) ?_
              exact wv_X10_addMachine_55 hl hG  _ _ _ _ _ _ _ _ h
            · replace h := h.2 c
              refine V_iload hG dX10_addMachine_29 rfl ?_
              refine V_iconst (v := 1) hG (by decide) dX10_addMachine_31 ?_
              refine V_bipush (v := 50) hG (by decide) dX10_addMachine_32 ?_
              refine V_cSI _ _ hG dX10_addMachine_34 (ct_X10_in hl h) mv_X10_in ml_X10_172 rfl rfl (by first | exact Nat.le_of_ble_eq_true rfl | (simp only [List.map_cons, List.map_nil, List.sum_cons, List.sum_nil, cat_rf]; exact Nat.le_of_ble_eq_true rfl)) (Nat.le_of_ble_eq_true rfl) (Nat.le_of_ble_eq_true rfl) (by first | exact Nat.le_of_ble_eq_true rfl | omega | (dsimp only; omega)) (by first | exact Nat.le_of_ble_eq_true rfl | omega | (dsimp only; omega)) ?_ (fun x8 σ7 h9 => ?_)
              · exact fun E σ7 hx => VX_out hG (by first | exact Nat.le_of_ble_eq_true rfl | omega | (dsimp only; omega)) (by first | exact Nat.le_of_ble_eq_true rfl | omega | (dsimp only; omega)) hx
              · replace h := h9
                clear h9
                refine V_if_eq (tgt := 55) hG dX10_addMachine_37 (by decide) (fun c => ?_) (fun c => ?_)
                · replace h := h.1 c
                  refine V_forget (lo' := [some (.ref this), some (.int a0), some (.int a1), some (.int a2), some (.int a3), some (.int a4), some (.int a5), none, none]) ⟨rfl, ⟨rfl, ⟨rfl, ⟨rfl, ⟨rfl, ⟨rfl, ⟨rfl, trivial⟩⟩⟩⟩⟩⟩⟩ ?_
                  refine V_widen (k' := 0) (n' := 0) (by first | exact Nat.le_of_ble_eq_true rfl | omega | (dsimp only; omega)) (by first | exact Nat.le_of_ble_eq_true rfl | omega | (dsimp only; omega)) ?_
                  exact wv_X10_addMachine_55 hl hG  _ _ _ _ _ _ _ _ h
                · replace h := h.2 c
                  refine V_iload hG dX10_addMachine_40 rfl ?_
                  refine V_iconst (v := 1) hG (by decide) dX10_addMachine_42 ?_
                  refine V_bipush (v := 9) hG (by decide) dX10_addMachine_43 ?_
                  refine V_cSI _ _ hG dX10_addMachine_45 (ct_X10_in hl h) mv_X10_in ml_X10_172 rfl rfl (by first | exact Nat.le_of_ble_eq_true rfl | (simp only [List.map_cons, List.map_nil, List.sum_cons, List.sum_nil, cat_rf]; exact Nat.le_of_ble_eq_true rfl)) (Nat.le_of_ble_eq_true rfl) (Nat.le_of_ble_eq_true rfl) (by first | exact Nat.le_of_ble_eq_true rfl | omega | (dsimp only; omega)) (by first | exact Nat.le_of_ble_eq_true rfl | omega | (dsimp only; omega)) ?_ (fun x10 σ9 h9 => ?_)
                  · exact fun E σ9 hx => VX_out hG (by first | exact Nat.le_of_ble_eq_true rfl | omega | (dsimp only; omega)) (by first | exact Nat.le_of_ble_eq_true rfl | omega | (dsimp only; omega)) hx
                  · replace h := h9
                    clear h9
                    refine V_if_eq (tgt := 55) hG dX10_addMachine_48 (by decide) (fun c => ?_) (fun c => ?_)
                    · replace h := h.1 c
                      refine V_forget (lo' := [some (.ref this), some (.int a0), some (.int a1), some (.int a2), some (.int a3), some (.int a4), some (.int a5), none, none]) ⟨rfl, ⟨rfl, ⟨rfl, ⟨rfl, ⟨rfl, ⟨rfl, ⟨rfl, trivial⟩⟩⟩⟩⟩⟩⟩ ?_
                      refine V_widen (k' := 0) (n' := 0) (by first | exact Nat.le_of_ble_eq_true rfl | omega | (dsimp only; omega)) (by first | exact Nat.le_of_ble_eq_true rfl | omega | (dsimp only; omega)) ?_
                      exact wv_X10_addMachine_55 hl hG  _ _ _ _ _ _ _ _ h
                    · replace h := h.2 c
                      refine V_iconst (v := 1) hG (by decide) dX10_addMachine_51 ?_
                      refine V_goto (tgt := 56) hG dX10_addMachine_52 (by decide) ?_
                      refine V_forget (lo' := [some (.ref this), some (.int a0), some (.int a1), some (.int a2), some (.int a3), some (.int a4), some (.int a5), none, none]) ⟨rfl, ⟨rfl, ⟨rfl, ⟨rfl, ⟨rfl, ⟨rfl, ⟨rfl, trivial⟩⟩⟩⟩⟩⟩⟩ ?_
                      refine V_widen (k' := 0) (n' := 0) (by first | exact Nat.le_of_ble_eq_true rfl | omega | (dsimp only; omega)) (by first | exact Nat.le_of_ble_eq_true rfl | omega | (dsimp only; omega)) ?_
                      exact wv_X10_addMachine_56 hl hG  _ _ _ _ _ _ _ _ _ h
def wp_X10_addPerson_49  (this : Nat) (v1 : Int32) (v2 : Int32) (v3 : Int32) (s0 : Nat) (s1 : Int32) (σ : Sg) (Post : Rs → Sg → Prop) : Prop := s0 % 32 = 10 ∧ this % 32 = 10 ∧ (((sI (wI σ s0 59 s1) this 59) ≤ 0 → this % 32 = 10 ∧ ∀ o1, o1 = sP (wI σ s0 59 s1) this 42 → this % 32 = 10 ∧ ∃ u2, o1 = some u2 ∧ aty (u2 % 32) = some .int ∧ ∃ j3, (sI (wI σ s0 59 s1) this 41) = nI j3 ∧ j3 < aln u2 ∧ this % 32 = 10 ∧ ∀ o4, o4 = sP (wI (wI σ s0 59 s1) u2 j3 v1) this 43 → this % 32 = 10 ∧ ∃ u5, o4 = some u5 ∧ aty (u5 % 32) = some .int ∧ ∃ j6, (sI (wI (wI σ s0 59 s1) u2 j3 v1) this 41) = nI j6 ∧ j6 < aln u5 ∧ this % 32 = 10 ∧ ∀ o7, o7 = sP (wI (wI (wI σ s0 59 s1) u2 j3 v1) u5 j6 v2) this 44 → this % 32 = 10 ∧ ∃ u8, o7 = some u8 ∧ aty (u8 % 32) = some .int ∧ ∃ j9, (sI (wI (wI (wI σ s0 59 s1) u2 j3 v1) u5 j6 v2) this 41) = nI j9 ∧ j9 < aln u8 ∧ this % 32 = 10 ∧ this % 32 = 10 ∧ this % 32 = 10 ∧ Post (.inl (some (.int ((sI (wI (wI (wI (wI (wI σ s0 59 s1) u2 j3 v1) u5 j6 v2) u8 j9 v3) this 41 ((sI (wI (wI (wI (wI σ s0 59 s1) u2 j3 v1) u5 j6 v2) u8 j9 v3) this 41) + (1 : Int32))) this 41) - (1 : Int32))))) (wI (wI (wI (wI (wI σ s0 59 s1) u2 j3 v1) u5 j6 v2) u8 j9 v3) this 41 ((sI (wI (wI (wI (wI σ s0 59 s1) u2 j3 v1) u5 j6 v2) u8 j9 v3) this 41) + (1 : Int32)))) ∧ (¬ (sI (wI σ s0 59 s1) this 59) ≤ 0 → Post (.inl (some (.int (0 : Int32)))) (wI σ s0 59 s1)))
set_option maxRecDepth 100000 in
set_option maxHeartbeats 4000000 in
theorem wv_X10_addPerson_49 {L9 : Launch} {G : Cx} {Post : Rs → Sg → Prop} (hl : L9.stackTraces = false) (hG : CX L9 G yX10_addPerson cX10_addPerson 4 (some .int) [] { frames := 1, cells := 0, slots := 0, locals := 22 })   : ∀ (this : Nat) (v1 : Int32) (v2 : Int32) (v3 : Int32) (s0 : Nat) (s1 : Int32) (σ : Sg), wp_X10_addPerson_49 this v1 v2 v3 s0 s1 σ Post → V G (QM G 0 0 Post) 49 [some (.ref this), some (.int v1), some (.int v2), some (.int v3)] [.int s1, .ref s0] σ 0 0 := by
  intro this v1 v2 v3 s0 s1 σ h
  unfold wp_X10_addPerson_49 at h
  obtain ⟨ht, h⟩ := h
  refine V_putI hG dX10_addPerson_49 fl_X10_168 rfl (fun e => absurd e (by decide)) rfl ht ?_
  refine V_aload_n (v := .ref this) hG dX10_addPerson_52 rfl rfl ?_
  obtain ⟨ht, h⟩ := h
  refine V_getI hG dX10_addPerson_53 fl_X10_168 rfl ht ?_
  refine V_if_le (tgt := 61) hG dX10_addPerson_56 (by decide) (fun c => ?_) (fun c => ?_)
  · replace h := h.1 c
    refine V_aload_n (v := .ref this) hG dX10_addPerson_61 rfl rfl ?_
    obtain ⟨ht, h⟩ := h
    refine V_getPv hG dX10_addPerson_62 fl_X10_129 rfl ht (fun o1 ho => ?_)
    replace h := h o1 ho
    refine V_aload_n (v := .ref this) hG dX10_addPerson_65 rfl rfl ?_
    obtain ⟨ht, h⟩ := h
    refine V_getI hG dX10_addPerson_66 fl_X10_186 rfl ht ?_
    refine V_iload_n hG dX10_addPerson_69 rfl ?_
    obtain ⟨u2, he, h⟩ := h
    subst he
    obtain ⟨ha, j3, hi, hj, h⟩ := h
    refine V_iast hG dX10_addPerson_70 ha hi hj ?_
    refine V_aload_n (v := .ref this) hG dX10_addPerson_71 rfl rfl ?_
    obtain ⟨ht, h⟩ := h
    refine V_getPv hG dX10_addPerson_72 fl_X10_132 rfl ht (fun o4 ho => ?_)
    replace h := h o4 ho
    refine V_aload_n (v := .ref this) hG dX10_addPerson_75 rfl rfl ?_
    obtain ⟨ht, h⟩ := h
    refine V_getI hG dX10_addPerson_76 fl_X10_186 rfl ht ?_
    refine V_iload_n hG dX10_addPerson_79 rfl ?_
    obtain ⟨u5, he, h⟩ := h
    subst he
    obtain ⟨ha, j6, hi, hj, h⟩ := h
    refine V_iast hG dX10_addPerson_80 ha hi hj ?_
    refine V_aload_n (v := .ref this) hG dX10_addPerson_81 rfl rfl ?_
    obtain ⟨ht, h⟩ := h
    refine V_getPv hG dX10_addPerson_82 fl_X10_135 rfl ht (fun o7 ho => ?_)
    replace h := h o7 ho
    refine V_aload_n (v := .ref this) hG dX10_addPerson_85 rfl rfl ?_
    obtain ⟨ht, h⟩ := h
    refine V_getI hG dX10_addPerson_86 fl_X10_186 rfl ht ?_
    refine V_iload_n hG dX10_addPerson_89 rfl ?_
    obtain ⟨u8, he, h⟩ := h
    subst he
    obtain ⟨ha, j9, hi, hj, h⟩ := h
    refine V_iast hG dX10_addPerson_90 ha hi hj ?_
    refine V_aload_n (v := .ref this) hG dX10_addPerson_91 rfl rfl ?_
    refine V_dup (v := .ref this) hG rfl dX10_addPerson_92 ?_
    obtain ⟨ht, h⟩ := h
    refine V_getI hG dX10_addPerson_93 fl_X10_186 rfl ht ?_
    refine V_iconst (v := 1) hG (by decide) dX10_addPerson_96 ?_
    refine V_iadd hG dX10_addPerson_97 ?_
    obtain ⟨ht, h⟩ := h
    refine V_putI hG dX10_addPerson_98 fl_X10_186 rfl (fun e => absurd e (by decide)) rfl ht ?_
    refine V_aload_n (v := .ref this) hG dX10_addPerson_101 rfl rfl ?_
    obtain ⟨ht, h⟩ := h
    refine V_getI hG dX10_addPerson_102 fl_X10_186 rfl ht ?_
    refine V_iconst (v := 1) hG (by decide) dX10_addPerson_105 ?_
    refine V_isub hG dX10_addPerson_106 ?_
    exact V_iret hG dX10_addPerson_107 (by first | exact Nat.le_of_ble_eq_true rfl | omega | (dsimp only; omega)) (by first | exact Nat.le_of_ble_eq_true rfl | omega | (dsimp only; omega)) h
  · replace h := h.2 c
    refine V_iconst (v := 0) hG (by decide) dX10_addPerson_59 ?_
    exact V_iret hG dX10_addPerson_60 (by first | exact Nat.le_of_ble_eq_true rfl | omega | (dsimp only; omega)) (by first | exact Nat.le_of_ble_eq_true rfl | omega | (dsimp only; omega)) h
def wp_X10_addPerson_31  (this : Nat) (v1 : Int32) (v2 : Int32) (v3 : Int32) (s0 : Nat) (σ : Sg) (Post : Rs → Sg → Prop) : Prop := (wp_X10_addPerson_49 this v1 v2 v3 s0 (1 : Int32) σ Post)
set_option maxRecDepth 100000 in
set_option maxHeartbeats 4000000 in
theorem wv_X10_addPerson_31 {L9 : Launch} {G : Cx} {Post : Rs → Sg → Prop} (hl : L9.stackTraces = false) (hG : CX L9 G yX10_addPerson cX10_addPerson 4 (some .int) [] { frames := 1, cells := 0, slots := 0, locals := 22 })   : ∀ (this : Nat) (v1 : Int32) (v2 : Int32) (v3 : Int32) (s0 : Nat) (σ : Sg), wp_X10_addPerson_31 this v1 v2 v3 s0 σ Post → V G (QM G 0 0 Post) 31 [some (.ref this), some (.int v1), some (.int v2), some (.int v3)] [.ref s0] σ 0 0 := by
  intro this v1 v2 v3 s0 σ h
  unfold wp_X10_addPerson_31 at h
  refine V_iconst (v := 1) hG (by decide) dX10_addPerson_31 ?_
  refine V_goto (tgt := 49) hG dX10_addPerson_32 (by decide) ?_
  refine V_forget (lo' := [some (.ref this), some (.int v1), some (.int v2), some (.int v3)]) ⟨rfl, ⟨rfl, ⟨rfl, ⟨rfl, trivial⟩⟩⟩⟩ ?_
  refine V_widen (k' := 0) (n' := 0) (by first | exact Nat.le_of_ble_eq_true rfl | omega | (dsimp only; omega)) (by first | exact Nat.le_of_ble_eq_true rfl | omega | (dsimp only; omega)) ?_
  exact wv_X10_addPerson_49 hl hG  _ _ _ _ _ _ _ h
def wp_X10_addPerson (this : Nat) (a0 : Int32) (a1 : Int32) (a2 : Int32) (σ : Sg) (Post : Rs → Sg → Prop) : Prop := wp_X10_in a0 (0 : Int32) (9 : Int32) σ (KI (fun x2 σ1 => ((x2 = 0 → (wp_X10_addPerson_31 this a0 a1 a2 this σ1 Post)) ∧ (¬ x2 = 0 → wp_X10_in a1 (0 : Int32) (23 : Int32) σ1 (KI (fun x4 σ3 => ((x4 = 0 → (wp_X10_addPerson_31 this a0 a1 a2 this σ3 Post)) ∧ (¬ x4 = 0 → wp_X10_in a2 (1 : Int32) (24 : Int32) σ3 (KI (fun x6 σ5 => ((¬ x6 = 0 → this % 32 = 10 ∧ ((¬ (sI σ5 this 41) = (6 : Int32) → (wp_X10_addPerson_49 this a0 a1 a2 this (0 : Int32) σ5 Post)) ∧ ((sI σ5 this 41) = (6 : Int32) → (wp_X10_addPerson_49 this a0 a1 a2 this (2 : Int32) σ5 Post)))) ∧ (x6 = 0 → (wp_X10_addPerson_31 this a0 a1 a2 this σ5 Post)))) (fun E σ5 => Post (.inr E) σ5))))) (fun E σ3 => Post (.inr E) σ3))))) (fun E σ1 => Post (.inr E) σ1))
set_option maxRecDepth 100000 in
set_option maxHeartbeats 4000000 in
theorem ct_X10_addPerson {l : Launch} (hl : l.stackTraces = false) {this : Nat} {a0 : Int32} {a1 : Int32} {a2 : Int32} {σ : Sg} {Post : Rs → Sg → Prop} (h : wp_X10_addPerson this a0 a1 a2 σ Post) : Ct l yX10_addPerson (.code yX10_addPerson cX10_addPerson 4 (some .int)) 1 22 0 0 [.ref this, .int a0, .int a1, .int a2] σ Post := by
  refine Ct_of [some (.ref this), some (.int a0), some (.int a1), some (.int a2)] hl (by decide +kernel) rfl (fun ad => by rfl) (fun ad => by exact Nat.le_of_ble_eq_true rfl) (fun v hv => mem_lo hv rfl) ?_
  intro G hG
  unfold wp_X10_addPerson at h
  refine V_aload_n (v := .ref this) hG dX10_addPerson_0 rfl rfl ?_
  refine V_iload_n hG dX10_addPerson_1 rfl ?_
  refine V_iconst (v := 0) hG (by decide) dX10_addPerson_2 ?_
  refine V_bipush (v := 9) hG (by decide) dX10_addPerson_3 ?_
  refine V_cSI _ _ hG dX10_addPerson_5 (ct_X10_in hl h) mv_X10_in ml_X10_172 rfl rfl (by first | exact Nat.le_of_ble_eq_true rfl | (simp only [List.map_cons, List.map_nil, List.sum_cons, List.sum_nil, cat_rf]; exact Nat.le_of_ble_eq_true rfl)) (Nat.le_of_ble_eq_true rfl) (Nat.le_of_ble_eq_true rfl) (by first | exact Nat.le_of_ble_eq_true rfl | omega | (dsimp only; omega)) (by first | exact Nat.le_of_ble_eq_true rfl | omega | (dsimp only; omega)) ?_ (fun x2 σ1 h9 => ?_)
  · exact fun E σ1 hx => VX_out hG (by first | exact Nat.le_of_ble_eq_true rfl | omega | (dsimp only; omega)) (by first | exact Nat.le_of_ble_eq_true rfl | omega | (dsimp only; omega)) hx
  · replace h := h9
    clear h9
    refine V_if_eq (tgt := 31) hG dX10_addPerson_8 (by decide) (fun c => ?_) (fun c => ?_)
    · replace h := h.1 c
      refine V_forget (lo' := [some (.ref this), some (.int a0), some (.int a1), some (.int a2)]) ⟨rfl, ⟨rfl, ⟨rfl, ⟨rfl, trivial⟩⟩⟩⟩ ?_
      refine V_widen (k' := 0) (n' := 0) (by first | exact Nat.le_of_ble_eq_true rfl | omega | (dsimp only; omega)) (by first | exact Nat.le_of_ble_eq_true rfl | omega | (dsimp only; omega)) ?_
      exact wv_X10_addPerson_31 hl hG  _ _ _ _ _ _ h
    · replace h := h.2 c
      refine V_iload_n hG dX10_addPerson_11 rfl ?_
      refine V_iconst (v := 0) hG (by decide) dX10_addPerson_12 ?_
      refine V_bipush (v := 23) hG (by decide) dX10_addPerson_13 ?_
      refine V_cSI _ _ hG dX10_addPerson_15 (ct_X10_in hl h) mv_X10_in ml_X10_172 rfl rfl (by first | exact Nat.le_of_ble_eq_true rfl | (simp only [List.map_cons, List.map_nil, List.sum_cons, List.sum_nil, cat_rf]; exact Nat.le_of_ble_eq_true rfl)) (Nat.le_of_ble_eq_true rfl) (Nat.le_of_ble_eq_true rfl) (by first | exact Nat.le_of_ble_eq_true rfl | omega | (dsimp only; omega)) (by first | exact Nat.le_of_ble_eq_true rfl | omega | (dsimp only; omega)) ?_ (fun x4 σ3 h9 => ?_)
      · exact fun E σ3 hx => VX_out hG (by first | exact Nat.le_of_ble_eq_true rfl | omega | (dsimp only; omega)) (by first | exact Nat.le_of_ble_eq_true rfl | omega | (dsimp only; omega)) hx
      · replace h := h9
        clear h9
        refine V_if_eq (tgt := 31) hG dX10_addPerson_18 (by decide) (fun c => ?_) (fun c => ?_)
        · replace h := h.1 c
          refine V_forget (lo' := [some (.ref this), some (.int a0), some (.int a1), some (.int a2)]) ⟨rfl, ⟨rfl, ⟨rfl, ⟨rfl, trivial⟩⟩⟩⟩ ?_
          refine V_widen (k' := 0) (n' := 0) (by first | exact Nat.le_of_ble_eq_true rfl | omega | (dsimp only; omega)) (by first | exact Nat.le_of_ble_eq_true rfl | omega | (dsimp only; omega)) ?_
          exact wv_X10_addPerson_31 hl hG  _ _ _ _ _ _ h
        · replace h := h.2 c
          refine V_iload_n hG dX10_addPerson_21 rfl ?_
          refine V_iconst (v := 1) hG (by decide) dX10_addPerson_22 ?_
          refine V_bipush (v := 24) hG (by decide) dX10_addPerson_23 ?_
          refine V_cSI _ _ hG dX10_addPerson_25 (ct_X10_in hl h) mv_X10_in ml_X10_172 rfl rfl (by first | exact Nat.le_of_ble_eq_true rfl | (simp only [List.map_cons, List.map_nil, List.sum_cons, List.sum_nil, cat_rf]; exact Nat.le_of_ble_eq_true rfl)) (Nat.le_of_ble_eq_true rfl) (Nat.le_of_ble_eq_true rfl) (by first | exact Nat.le_of_ble_eq_true rfl | omega | (dsimp only; omega)) (by first | exact Nat.le_of_ble_eq_true rfl | omega | (dsimp only; omega)) ?_ (fun x6 σ5 h9 => ?_)
          · exact fun E σ5 hx => VX_out hG (by first | exact Nat.le_of_ble_eq_true rfl | omega | (dsimp only; omega)) (by first | exact Nat.le_of_ble_eq_true rfl | omega | (dsimp only; omega)) hx
          · replace h := h9
            clear h9
            refine V_if_ne (tgt := 35) hG dX10_addPerson_28 (by decide) (fun c => ?_) (fun c => ?_)
            · replace h := h.1 c
              refine V_aload_n (v := .ref this) hG dX10_addPerson_35 rfl rfl ?_
              obtain ⟨ht, h⟩ := h
              refine V_getI hG dX10_addPerson_36 fl_X10_186 rfl ht ?_
              refine V_bipush (v := 6) hG (by decide) dX10_addPerson_39 ?_
              refine V_icmp_ne (tgt := 48) hG dX10_addPerson_41 (by decide) (fun c => ?_) (fun c => ?_)
              · replace h := h.1 c
                refine V_iconst (v := 0) hG (by decide) dX10_addPerson_48 ?_
                refine V_forget (lo' := [some (.ref this), some (.int a0), some (.int a1), some (.int a2)]) ⟨rfl, ⟨rfl, ⟨rfl, ⟨rfl, trivial⟩⟩⟩⟩ ?_
                refine V_widen (k' := 0) (n' := 0) (by first | exact Nat.le_of_ble_eq_true rfl | omega | (dsimp only; omega)) (by first | exact Nat.le_of_ble_eq_true rfl | omega | (dsimp only; omega)) ?_
                exact wv_X10_addPerson_49 hl hG  _ _ _ _ _ _ _ h
              · replace h := h.2 c
                refine V_iconst (v := 2) hG (by decide) dX10_addPerson_44 ?_
                refine V_goto (tgt := 49) hG dX10_addPerson_45 (by decide) ?_
                refine V_forget (lo' := [some (.ref this), some (.int a0), some (.int a1), some (.int a2)]) ⟨rfl, ⟨rfl, ⟨rfl, ⟨rfl, trivial⟩⟩⟩⟩ ?_
                refine V_widen (k' := 0) (n' := 0) (by first | exact Nat.le_of_ble_eq_true rfl | omega | (dsimp only; omega)) (by first | exact Nat.le_of_ble_eq_true rfl | omega | (dsimp only; omega)) ?_
                exact wv_X10_addPerson_49 hl hG  _ _ _ _ _ _ _ h
            · replace h := h.2 c
              refine V_forget (lo' := [some (.ref this), some (.int a0), some (.int a1), some (.int a2)]) ⟨rfl, ⟨rfl, ⟨rfl, ⟨rfl, trivial⟩⟩⟩⟩ ?_
              refine V_widen (k' := 0) (n' := 0) (by first | exact Nat.le_of_ble_eq_true rfl | omega | (dsimp only; omega)) (by first | exact Nat.le_of_ble_eq_true rfl | omega | (dsimp only; omega)) ?_
              exact wv_X10_addPerson_31 hl hG  _ _ _ _ _ _ h
def wp_X10_isPlaceOf (this : Nat) (a0 : Int32) (a1 : Int32) (σ : Sg) (Post : Rs → Sg → Prop) : Prop := this % 32 = 10 ∧ wp_X10_in a0 (0 : Int32) ((sI σ this 41) - (1 : Int32)) σ (KI (fun x2 σ1 => ((x2 = 0 → (b01 (0 : Int32) ∧ Post (.inl (some (.int (0 : Int32)))) σ1)) ∧ (¬ x2 = 0 → wp_X10_in a1 (0 : Int32) (3 : Int32) σ1 (KI (fun x4 σ3 => ((x4 = 0 → (b01 (0 : Int32) ∧ Post (.inl (some (.int (0 : Int32)))) σ3)) ∧ (¬ x4 = 0 → (b01 (1 : Int32) ∧ Post (.inl (some (.int (1 : Int32)))) σ3)))) (fun E σ3 => Post (.inr E) σ3))))) (fun E σ1 => Post (.inr E) σ1))
set_option maxRecDepth 100000 in
set_option maxHeartbeats 4000000 in
theorem ct_X10_isPlaceOf {l : Launch} (hl : l.stackTraces = false) {this : Nat} {a0 : Int32} {a1 : Int32} {σ : Sg} {Post : Rs → Sg → Prop} (h : wp_X10_isPlaceOf this a0 a1 σ Post) : Ct l yX10_isPlaceOf (.code yX10_isPlaceOf cX10_isPlaceOf 3 (some .boolean)) 1 22 0 0 [.ref this, .int a0, .int a1] σ Post := by
  refine Ct_of [some (.ref this), some (.int a0), some (.int a1)] hl (by decide +kernel) rfl (fun ad => by rfl) (fun ad => by exact Nat.le_of_ble_eq_true rfl) (fun v hv => mem_lo hv rfl) ?_
  intro G hG
  unfold wp_X10_isPlaceOf at h
  refine V_iload_n hG dX10_isPlaceOf_0 rfl ?_
  refine V_iconst (v := 0) hG (by decide) dX10_isPlaceOf_1 ?_
  refine V_aload_n (v := .ref this) hG dX10_isPlaceOf_2 rfl rfl ?_
  obtain ⟨ht, h⟩ := h
  refine V_getI hG dX10_isPlaceOf_3 fl_X10_186 rfl ht ?_
  refine V_iconst (v := 1) hG (by decide) dX10_isPlaceOf_6 ?_
  refine V_isub hG dX10_isPlaceOf_7 ?_
  refine V_cSI _ _ hG dX10_isPlaceOf_8 (ct_X10_in hl h) mv_X10_in ml_X10_172 rfl rfl (by first | exact Nat.le_of_ble_eq_true rfl | (simp only [List.map_cons, List.map_nil, List.sum_cons, List.sum_nil, cat_rf]; exact Nat.le_of_ble_eq_true rfl)) (Nat.le_of_ble_eq_true rfl) (Nat.le_of_ble_eq_true rfl) (by first | exact Nat.le_of_ble_eq_true rfl | omega | (dsimp only; omega)) (by first | exact Nat.le_of_ble_eq_true rfl | omega | (dsimp only; omega)) ?_ (fun x2 σ1 h9 => ?_)
  · exact fun E σ1 hx => VX_out hG (by first | exact Nat.le_of_ble_eq_true rfl | omega | (dsimp only; omega)) (by first | exact Nat.le_of_ble_eq_true rfl | omega | (dsimp only; omega)) hx
  · replace h := h9
    clear h9
    refine V_if_eq (tgt := 27) hG dX10_isPlaceOf_11 (by decide) (fun c => ?_) (fun c => ?_)
    · replace h := h.1 c
      refine V_iconst (v := 0) hG (by decide) dX10_isPlaceOf_27 ?_
      exact V_zret hG dX10_isPlaceOf_28 h.1 (by first | exact Nat.le_of_ble_eq_true rfl | omega | (dsimp only; omega)) (by first | exact Nat.le_of_ble_eq_true rfl | omega | (dsimp only; omega)) h.2
    · replace h := h.2 c
      refine V_iload_n hG dX10_isPlaceOf_14 rfl ?_
      refine V_iconst (v := 0) hG (by decide) dX10_isPlaceOf_15 ?_
      refine V_iconst (v := 3) hG (by decide) dX10_isPlaceOf_16 ?_
      refine V_cSI _ _ hG dX10_isPlaceOf_17 (ct_X10_in hl h) mv_X10_in ml_X10_172 rfl rfl (by first | exact Nat.le_of_ble_eq_true rfl | (simp only [List.map_cons, List.map_nil, List.sum_cons, List.sum_nil, cat_rf]; exact Nat.le_of_ble_eq_true rfl)) (Nat.le_of_ble_eq_true rfl) (Nat.le_of_ble_eq_true rfl) (by first | exact Nat.le_of_ble_eq_true rfl | omega | (dsimp only; omega)) (by first | exact Nat.le_of_ble_eq_true rfl | omega | (dsimp only; omega)) ?_ (fun x4 σ3 h9 => ?_)
      · exact fun E σ3 hx => VX_out hG (by first | exact Nat.le_of_ble_eq_true rfl | omega | (dsimp only; omega)) (by first | exact Nat.le_of_ble_eq_true rfl | omega | (dsimp only; omega)) hx
      · replace h := h9
        clear h9
        refine V_if_eq (tgt := 27) hG dX10_isPlaceOf_20 (by decide) (fun c => ?_) (fun c => ?_)
        · replace h := h.1 c
          refine V_iconst (v := 0) hG (by decide) dX10_isPlaceOf_27 ?_
          exact V_zret hG dX10_isPlaceOf_28 h.1 (by first | exact Nat.le_of_ble_eq_true rfl | omega | (dsimp only; omega)) (by first | exact Nat.le_of_ble_eq_true rfl | omega | (dsimp only; omega)) h.2
        · replace h := h.2 c
          refine V_iconst (v := 1) hG (by decide) dX10_isPlaceOf_23 ?_
          refine V_goto (tgt := 28) hG dX10_isPlaceOf_24 (by decide) ?_
          exact V_zret hG dX10_isPlaceOf_28 h.1 (by first | exact Nat.le_of_ble_eq_true rfl | omega | (dsimp only; omega)) (by first | exact Nat.le_of_ble_eq_true rfl | omega | (dsimp only; omega)) h.2
def wp_X10_setLevel_28  (this : Nat) (v1 : Int32) (v2 : Int32) (v3 : Int32) (s0 : Nat) (s1 : Int32) (σ : Sg) (Post : Rs → Sg → Prop) : Prop := s0 % 32 = 10 ∧ this % 32 = 10 ∧ (((sI (wI σ s0 59 s1) this 59) ≤ 0 → this % 32 = 10 ∧ ∀ o1, o1 = sP (wI σ s0 59 s1) this 45 → ∃ u2, o1 = some u2 ∧ aty (u2 % 32) = some .int ∧ ∃ j3, (((4 : Int32) * v1) + v2) = nI j3 ∧ j3 < aln u2 ∧ this % 32 = 10 ∧ ∀ o4, o4 = sP (wI σ s0 59 s1) this 45 → ∃ u5, o4 = some u5 ∧ aty (u5 % 32) = some .int ∧ ∃ j6, (((4 : Int32) * v1) + v2) = nI j6 ∧ j6 < aln u5 ∧ this % 32 = 10 ∧ ∀ o7, o7 = sP (wI (wI σ s0 59 s1) u5 j6 v3) this 46 → ∃ u8, o7 = some u8 ∧ aty (u8 % 32) = some .int ∧ ∃ j9, (((4 : Int32) * v1) + v2) = nI j9 ∧ j9 < aln u8 ∧ Post (.inl (some (.int (sI (wI σ s0 59 s1) u2 j3)))) (wI (wI (wI σ s0 59 s1) u5 j6 v3) u8 j9 (0 : Int32))) ∧ (¬ (sI (wI σ s0 59 s1) this 59) ≤ 0 → Post (.inl (some (.int (0 : Int32)))) (wI σ s0 59 s1)))
set_option maxRecDepth 100000 in
set_option maxHeartbeats 4000000 in
theorem wv_X10_setLevel_28 {L9 : Launch} {G : Cx} {Post : Rs → Sg → Prop} (hl : L9.stackTraces = false) (hG : CX L9 G yX10_setLevel cX10_setLevel 6 (some .int) [] { frames := 2, cells := 0, slots := 0, locals := 44 })   : ∀ (this : Nat) (v1 : Int32) (v2 : Int32) (v3 : Int32) (s0 : Nat) (s1 : Int32) (σ : Sg), wp_X10_setLevel_28 this v1 v2 v3 s0 s1 σ Post → V G (QM G 0 0 Post) 28 [some (.ref this), some (.int v1), some (.int v2), some (.int v3), none, none] [.int s1, .ref s0] σ 0 0 := by
  intro this v1 v2 v3 s0 s1 σ h
  unfold wp_X10_setLevel_28 at h
  obtain ⟨ht, h⟩ := h
  refine V_putI hG dX10_setLevel_28 fl_X10_168 rfl (fun e => absurd e (by decide)) rfl ht ?_
  refine V_aload_n (v := .ref this) hG dX10_setLevel_31 rfl rfl ?_
  obtain ⟨ht, h⟩ := h
  refine V_getI hG dX10_setLevel_32 fl_X10_168 rfl ht ?_
  refine V_if_le (tgt := 40) hG dX10_setLevel_35 (by decide) (fun c => ?_) (fun c => ?_)
  · replace h := h.1 c
    refine V_iconst (v := 4) hG (by decide) dX10_setLevel_40 ?_
    refine V_iload_n hG dX10_setLevel_41 rfl ?_
    refine V_imul hG dX10_setLevel_42 ?_
    refine V_iload_n hG dX10_setLevel_43 rfl ?_
    refine V_iadd hG dX10_setLevel_44 ?_
    refine V_istore hG dX10_setLevel_45 (Nat.le_of_ble_eq_true rfl) (hpV rfl rfl) ?_
    refine V_aload_n (v := .ref this) hG dX10_setLevel_47 rfl rfl ?_
    obtain ⟨ht, h⟩ := h
    refine V_getPv hG dX10_setLevel_48 fl_X10_138 rfl ht (fun o1 ho => ?_)
    replace h := h o1 ho
    refine V_iload hG dX10_setLevel_51 rfl ?_
    obtain ⟨u2, he, h⟩ := h
    subst he
    obtain ⟨ha, j3, hi, hj, h⟩ := h
    refine V_iald hG dX10_setLevel_53 ha hi hj ?_
    refine V_istore hG dX10_setLevel_54 (Nat.le_of_ble_eq_true rfl) (hpV rfl rfl) ?_
    refine V_aload_n (v := .ref this) hG dX10_setLevel_56 rfl rfl ?_
    obtain ⟨ht, h⟩ := h
    refine V_getPv hG dX10_setLevel_57 fl_X10_138 rfl ht (fun o4 ho => ?_)
    replace h := h o4 ho
    refine V_iload hG dX10_setLevel_60 rfl ?_
    refine V_iload_n hG dX10_setLevel_62 rfl ?_
    obtain ⟨u5, he, h⟩ := h
    subst he
    obtain ⟨ha, j6, hi, hj, h⟩ := h
    refine V_iast hG dX10_setLevel_63 ha hi hj ?_
    refine V_aload_n (v := .ref this) hG dX10_setLevel_64 rfl rfl ?_
    obtain ⟨ht, h⟩ := h
    refine V_getPv hG dX10_setLevel_65 fl_X10_141 rfl ht (fun o7 ho => ?_)
    replace h := h o7 ho
    refine V_iload hG dX10_setLevel_68 rfl ?_
    refine V_iconst (v := 0) hG (by decide) dX10_setLevel_70 ?_
    obtain ⟨u8, he, h⟩ := h
    subst he
    obtain ⟨ha, j9, hi, hj, h⟩ := h
    refine V_iast hG dX10_setLevel_71 ha hi hj ?_
    refine V_iload hG dX10_setLevel_72 rfl ?_
    exact V_iret hG dX10_setLevel_74 (by first | exact Nat.le_of_ble_eq_true rfl | omega | (dsimp only; omega)) (by first | exact Nat.le_of_ble_eq_true rfl | omega | (dsimp only; omega)) h
  · replace h := h.2 c
    refine V_iconst (v := 0) hG (by decide) dX10_setLevel_38 ?_
    exact V_iret hG dX10_setLevel_39 (by first | exact Nat.le_of_ble_eq_true rfl | omega | (dsimp only; omega)) (by first | exact Nat.le_of_ble_eq_true rfl | omega | (dsimp only; omega)) h
def wp_X10_setLevel (this : Nat) (a0 : Int32) (a1 : Int32) (a2 : Int32) (σ : Sg) (Post : Rs → Sg → Prop) : Prop := this % 32 = 10 ∧ wp_X10_isPlaceOf this a0 a1 σ (KI (fun x2 σ1 => ((¬ x2 = 0 → wp_X10_in a2 (0 : Int32) (3 : Int32) σ1 (KI (fun x4 σ3 => ((¬ x4 = 0 → (wp_X10_setLevel_28 this a0 a1 a2 this (0 : Int32) σ3 Post)) ∧ (x4 = 0 → (wp_X10_setLevel_28 this a0 a1 a2 this (2 : Int32) σ3 Post)))) (fun E σ3 => Post (.inr E) σ3))) ∧ (x2 = 0 → (wp_X10_setLevel_28 this a0 a1 a2 this (1 : Int32) σ1 Post)))) (fun E σ1 => Post (.inr E) σ1))
set_option maxRecDepth 100000 in
set_option maxHeartbeats 4000000 in
theorem ct_X10_setLevel {l : Launch} (hl : l.stackTraces = false) {this : Nat} {a0 : Int32} {a1 : Int32} {a2 : Int32} {σ : Sg} {Post : Rs → Sg → Prop} (h : wp_X10_setLevel this a0 a1 a2 σ Post) : Ct l yX10_setLevel (.code yX10_setLevel cX10_setLevel 6 (some .int)) 2 44 0 0 [.ref this, .int a0, .int a1, .int a2] σ Post := by
  refine Ct_of [some (.ref this), some (.int a0), some (.int a1), some (.int a2), none, none] hl (by decide +kernel) rfl (fun ad => by rfl) (fun ad => by exact Nat.le_of_ble_eq_true rfl) (fun v hv => mem_lo hv rfl) ?_
  intro G hG
  unfold wp_X10_setLevel at h
  refine V_aload_n (v := .ref this) hG dX10_setLevel_0 rfl rfl ?_
  refine V_aload_n (v := .ref this) hG dX10_setLevel_1 rfl rfl ?_
  refine V_iload_n hG dX10_setLevel_2 rfl ?_
  refine V_iload_n hG dX10_setLevel_3 rfl ?_
  obtain ⟨ht, h⟩ := h
  refine V_cVI _ _ hG dX10_setLevel_4 (ct_X10_isPlaceOf hl h) mv_X10_isPlaceOf ml_X10_189 ht rfl rfl rfl rfl (by first | exact Nat.le_of_ble_eq_true rfl | (simp only [List.map_cons, List.map_nil, List.sum_cons, List.sum_nil, cat_rf]; exact Nat.le_of_ble_eq_true rfl)) (Nat.le_of_ble_eq_true rfl) (Nat.le_of_ble_eq_true rfl) (by first | exact Nat.le_of_ble_eq_true rfl | omega | (dsimp only; omega)) (by first | exact Nat.le_of_ble_eq_true rfl | omega | (dsimp only; omega)) ?_ (fun x2 σ1 h9 => ?_)
  · exact fun E σ1 hx => VX_out hG (by first | exact Nat.le_of_ble_eq_true rfl | omega | (dsimp only; omega)) (by first | exact Nat.le_of_ble_eq_true rfl | omega | (dsimp only; omega)) hx
  · replace h := h9
    clear h9
    refine V_if_ne (tgt := 14) hG dX10_setLevel_7 (by decide) (fun c => ?_) (fun c => ?_)
    · replace h := h.1 c
      refine V_iload_n hG dX10_setLevel_14 rfl ?_
      refine V_iconst (v := 0) hG (by decide) dX10_setLevel_15 ?_
      refine V_iconst (v := 3) hG (by decide) dX10_setLevel_16 ?_
      refine V_cSI _ _ hG dX10_setLevel_17 (ct_X10_in hl h) mv_X10_in ml_X10_172 rfl rfl (by first | exact Nat.le_of_ble_eq_true rfl | (simp only [List.map_cons, List.map_nil, List.sum_cons, List.sum_nil, cat_rf]; exact Nat.le_of_ble_eq_true rfl)) (Nat.le_of_ble_eq_true rfl) (Nat.le_of_ble_eq_true rfl) (by first | exact Nat.le_of_ble_eq_true rfl | omega | (dsimp only; omega)) (by first | exact Nat.le_of_ble_eq_true rfl | omega | (dsimp only; omega)) ?_ (fun x4 σ3 h9 => ?_)
      · exact fun E σ3 hx => VX_out hG (by first | exact Nat.le_of_ble_eq_true rfl | omega | (dsimp only; omega)) (by first | exact Nat.le_of_ble_eq_true rfl | omega | (dsimp only; omega)) hx
      · replace h := h9
        clear h9
        refine V_if_ne (tgt := 27) hG dX10_setLevel_20 (by decide) (fun c => ?_) (fun c => ?_)
        · replace h := h.1 c
          refine V_iconst (v := 0) hG (by decide) dX10_setLevel_27 ?_
          refine V_forget (lo' := [some (.ref this), some (.int a0), some (.int a1), some (.int a2), none, none]) ⟨rfl, ⟨rfl, ⟨rfl, ⟨rfl, trivial⟩⟩⟩⟩ ?_
          refine V_widen (k' := 0) (n' := 0) (by first | exact Nat.le_of_ble_eq_true rfl | omega | (dsimp only; omega)) (by first | exact Nat.le_of_ble_eq_true rfl | omega | (dsimp only; omega)) ?_
          exact wv_X10_setLevel_28 hl hG  _ _ _ _ _ _ _ h
        · replace h := h.2 c
          refine V_iconst (v := 2) hG (by decide) dX10_setLevel_23 ?_
          refine V_goto (tgt := 28) hG dX10_setLevel_24 (by decide) ?_
          refine V_forget (lo' := [some (.ref this), some (.int a0), some (.int a1), some (.int a2), none, none]) ⟨rfl, ⟨rfl, ⟨rfl, ⟨rfl, trivial⟩⟩⟩⟩ ?_
          refine V_widen (k' := 0) (n' := 0) (by first | exact Nat.le_of_ble_eq_true rfl | omega | (dsimp only; omega)) (by first | exact Nat.le_of_ble_eq_true rfl | omega | (dsimp only; omega)) ?_
          exact wv_X10_setLevel_28 hl hG  _ _ _ _ _ _ _ h
    · replace h := h.2 c
      refine V_iconst (v := 1) hG (by decide) dX10_setLevel_10 ?_
      refine V_goto (tgt := 28) hG dX10_setLevel_11 (by decide) ?_
      refine V_forget (lo' := [some (.ref this), some (.int a0), some (.int a1), some (.int a2), none, none]) ⟨rfl, ⟨rfl, ⟨rfl, ⟨rfl, trivial⟩⟩⟩⟩ ?_
      refine V_widen (k' := 0) (n' := 0) (by first | exact Nat.le_of_ble_eq_true rfl | omega | (dsimp only; omega)) (by first | exact Nat.le_of_ble_eq_true rfl | omega | (dsimp only; omega)) ?_
      exact wv_X10_setLevel_28 hl hG  _ _ _ _ _ _ _ h
def wp_X10_isOnShift (this : Nat) (a0 : Int32) (σ : Sg) (Post : Rs → Sg → Prop) : Prop := this % 32 = 10 ∧ ¬ (24 : Int32) = 0 ∧ this % 32 = 10 ∧ ∀ o1, o1 = sP σ this 43 → ∃ u2, o1 = some u2 ∧ aty (u2 % 32) = some .int ∧ ∃ j3, a0 = nI j3 ∧ j3 < aln u2 ∧ ¬ (24 : Int32) = 0 ∧ this % 32 = 10 ∧ ∀ o4, o4 = sP σ this 44 → ∃ u5, o4 = some u5 ∧ aty (u5 % 32) = some .int ∧ ∃ j6, a0 = nI j6 ∧ j6 < aln u5 ∧ (((sI σ u5 j6) ≤ (((((sI σ this 55) - (sI σ this 55) / (24 : Int32) * (24 : Int32)) - (sI σ u2 j3)) + (24 : Int32)) - ((((sI σ this 55) - (sI σ this 55) / (24 : Int32) * (24 : Int32)) - (sI σ u2 j3)) + (24 : Int32)) / (24 : Int32) * (24 : Int32)) → (b01 (0 : Int32) ∧ Post (.inl (some (.int (0 : Int32)))) σ)) ∧ (¬ (sI σ u5 j6) ≤ (((((sI σ this 55) - (sI σ this 55) / (24 : Int32) * (24 : Int32)) - (sI σ u2 j3)) + (24 : Int32)) - ((((sI σ this 55) - (sI σ this 55) / (24 : Int32) * (24 : Int32)) - (sI σ u2 j3)) + (24 : Int32)) / (24 : Int32) * (24 : Int32)) → (b01 (1 : Int32) ∧ Post (.inl (some (.int (1 : Int32)))) σ)))
set_option maxRecDepth 100000 in
set_option maxHeartbeats 4000000 in
theorem ct_X10_isOnShift {l : Launch} (hl : l.stackTraces = false) {this : Nat} {a0 : Int32} {σ : Sg} {Post : Rs → Sg → Prop} (h : wp_X10_isOnShift this a0 σ Post) : Ct l yX10_isOnShift (.code yX10_isOnShift cX10_isOnShift 2 (some .boolean)) 0 0 0 0 [.ref this, .int a0] σ Post := by
  refine Ct_of [some (.ref this), some (.int a0)] hl (by decide +kernel) rfl (fun ad => by rfl) (fun ad => by exact Nat.le_of_ble_eq_true rfl) (fun v hv => mem_lo hv rfl) ?_
  intro G hG
  unfold wp_X10_isOnShift at h
  refine V_aload_n (v := .ref this) hG dX10_isOnShift_0 rfl rfl ?_
  obtain ⟨ht, h⟩ := h
  refine V_getI hG dX10_isOnShift_1 fl_X10_193 rfl ht ?_
  refine V_bipush (v := 24) hG (by decide) dX10_isOnShift_4 ?_
  obtain ⟨hne, h⟩ := h
  refine V_irem hG hne dX10_isOnShift_6 ?_
  refine V_aload_n (v := .ref this) hG dX10_isOnShift_7 rfl rfl ?_
  obtain ⟨ht, h⟩ := h
  refine V_getPv hG dX10_isOnShift_8 fl_X10_132 rfl ht (fun o1 ho => ?_)
  replace h := h o1 ho
  refine V_iload_n hG dX10_isOnShift_11 rfl ?_
  obtain ⟨u2, he, h⟩ := h
  subst he
  obtain ⟨ha, j3, hi, hj, h⟩ := h
  refine V_iald hG dX10_isOnShift_12 ha hi hj ?_
  refine V_isub hG dX10_isOnShift_13 ?_
  refine V_bipush (v := 24) hG (by decide) dX10_isOnShift_14 ?_
  refine V_iadd hG dX10_isOnShift_16 ?_
  refine V_bipush (v := 24) hG (by decide) dX10_isOnShift_17 ?_
  obtain ⟨hne, h⟩ := h
  refine V_irem hG hne dX10_isOnShift_19 ?_
  refine V_aload_n (v := .ref this) hG dX10_isOnShift_20 rfl rfl ?_
  obtain ⟨ht, h⟩ := h
  refine V_getPv hG dX10_isOnShift_21 fl_X10_135 rfl ht (fun o4 ho => ?_)
  replace h := h o4 ho
  refine V_iload_n hG dX10_isOnShift_24 rfl ?_
  obtain ⟨u5, he, h⟩ := h
  subst he
  obtain ⟨ha, j6, hi, hj, h⟩ := h
  refine V_iald hG dX10_isOnShift_25 ha hi hj ?_
  refine V_icmp_ge (tgt := 33) hG dX10_isOnShift_26 (by decide) (fun c => ?_) (fun c => ?_)
  · replace h := h.1 c
    refine V_iconst (v := 0) hG (by decide) dX10_isOnShift_33 ?_
    exact V_zret hG dX10_isOnShift_34 h.1 (by first | exact Nat.le_of_ble_eq_true rfl | omega | (dsimp only; omega)) (by first | exact Nat.le_of_ble_eq_true rfl | omega | (dsimp only; omega)) h.2
  · replace h := h.2 c
    refine V_iconst (v := 1) hG (by decide) dX10_isOnShift_29 ?_
    refine V_goto (tgt := 34) hG dX10_isOnShift_30 (by decide) ?_
    exact V_zret hG dX10_isOnShift_34 h.1 (by first | exact Nat.le_of_ble_eq_true rfl | omega | (dsimp only; omega)) (by first | exact Nat.le_of_ble_eq_true rfl | omega | (dsimp only; omega)) h.2
def wp_X10_machineAt_2  : Nat → Nat → Int32 → Int32 → Sg → (Rs → Sg → Prop) → Prop
  | 0, _, _, _, _, _ => False
  | f + 1, this, v1, v2, σ, Post => this % 32 = 10 ∧ (((sI σ this 27) ≤ v2 → Post (.inl (some (.int (-1 : Int32)))) σ) ∧ (¬ (sI σ this 27) ≤ v2 → this % 32 = 10 ∧ ∀ o1, o1 = sP σ this 36 → ∃ u2, o1 = some u2 ∧ aty (u2 % 32) = some .int ∧ ∃ j3, v2 = nI j3 ∧ j3 < aln u2 ∧ ((¬ (sI σ u2 j3) = v1 → (wp_X10_machineAt_2 f this v1 (v2 + 1) σ Post)) ∧ ((sI σ u2 j3) = v1 → Post (.inl (some (.int v2))) σ))))
set_option maxRecDepth 100000 in
set_option maxHeartbeats 4000000 in
theorem wv_X10_machineAt_2 {L9 : Launch} {G : Cx} {Post : Rs → Sg → Prop} (hl : L9.stackTraces = false) (hG : CX L9 G yX10_machineAt cX10_machineAt 3 (some .int) [] { frames := 0, cells := 0, slots := 0, locals := 0 })   : ∀ (f : Nat) (this : Nat) (v1 : Int32) (v2 : Int32) (σ : Sg), wp_X10_machineAt_2 f this v1 v2 σ Post → V G (QM G 0 0 Post) 2 [some (.ref this), some (.int v1), some (.int v2)] [] σ 0 0 := by
  intro f
  induction f with
  | zero => intro _ _ _ σ h; exact h.elim
  | succ f ih =>
    intro this v1 v2 σ h
    refine V_iload_n hG dX10_machineAt_2 rfl ?_
    refine V_aload_n (v := .ref this) hG dX10_machineAt_3 rfl rfl ?_
    obtain ⟨ht, h⟩ := h
    refine V_getI hG dX10_machineAt_4 fl_X10_183 rfl ht ?_
    refine V_icmp_ge (tgt := 28) hG dX10_machineAt_7 (by decide) (fun c => ?_) (fun c => ?_)
    · replace h := h.1 c
      refine V_iconst (v := (-1)) hG (by decide) dX10_machineAt_28 ?_
      exact V_iret hG dX10_machineAt_29 (by first | exact Nat.le_of_ble_eq_true rfl | omega | (dsimp only; omega)) (by first | exact Nat.le_of_ble_eq_true rfl | omega | (dsimp only; omega)) h
    · replace h := h.2 c
      refine V_aload_n (v := .ref this) hG dX10_machineAt_10 rfl rfl ?_
      obtain ⟨ht, h⟩ := h
      refine V_getPv hG dX10_machineAt_11 fl_X10_114 rfl ht (fun o1 ho => ?_)
      replace h := h o1 ho
      refine V_iload_n hG dX10_machineAt_14 rfl ?_
      obtain ⟨u2, he, h⟩ := h
      subst he
      obtain ⟨ha, j3, hi, hj, h⟩ := h
      refine V_iald hG dX10_machineAt_15 ha hi hj ?_
      refine V_iload_n hG dX10_machineAt_16 rfl ?_
      refine V_icmp_ne (tgt := 22) hG dX10_machineAt_17 (by decide) (fun c => ?_) (fun c => ?_)
      · replace h := h.1 c
        refine V_iincv (c := 1) hG dX10_machineAt_22 rfl (by decide) (hpV rfl rfl) ?_
        refine V_goto (tgt := 2) hG dX10_machineAt_25 (by decide) ?_
        refine V_forget (lo' := [some (.ref this), some (.int v1), some (.int (v2 + 1))]) ⟨rfl, ⟨rfl, ⟨rfl, trivial⟩⟩⟩ ?_
        exact ih _ _ _ _ h
      · replace h := h.2 c
        refine V_iload_n hG dX10_machineAt_20 rfl ?_
        exact V_iret hG dX10_machineAt_21 (by first | exact Nat.le_of_ble_eq_true rfl | omega | (dsimp only; omega)) (by first | exact Nat.le_of_ble_eq_true rfl | omega | (dsimp only; omega)) h
def wp_X10_machineAt (this : Nat) (a0 : Int32) (σ : Sg) (Post : Rs → Sg → Prop) : Prop := (∃ g, wp_X10_machineAt_2 g this a0 (0 : Int32) σ Post)
set_option maxRecDepth 100000 in
set_option maxHeartbeats 4000000 in
theorem ct_X10_machineAt {l : Launch} (hl : l.stackTraces = false) {this : Nat} {a0 : Int32} {σ : Sg} {Post : Rs → Sg → Prop} (h : wp_X10_machineAt this a0 σ Post) : Ct l yX10_machineAt (.code yX10_machineAt cX10_machineAt 3 (some .int)) 0 0 0 0 [.ref this, .int a0] σ Post := by
  refine Ct_of [some (.ref this), some (.int a0), none] hl (by decide +kernel) rfl (fun ad => by rfl) (fun ad => by exact Nat.le_of_ble_eq_true rfl) (fun v hv => mem_lo hv rfl) ?_
  intro G hG
  unfold wp_X10_machineAt at h
  refine V_iconst (v := 0) hG (by decide) dX10_machineAt_0 ?_
  refine V_istore_n hG dX10_machineAt_1 (Nat.le_of_ble_eq_true rfl) (hpV rfl rfl) ?_
  refine V_forget (lo' := [some (.ref this), some (.int a0), some (.int (0 : Int32))]) ⟨rfl, ⟨rfl, ⟨rfl, trivial⟩⟩⟩ ?_
  obtain ⟨g, h⟩ := h
  refine V_widen (k' := 0) (n' := 0) (by first | exact Nat.le_of_ble_eq_true rfl | omega | (dsimp only; omega)) (by first | exact Nat.le_of_ble_eq_true rfl | omega | (dsimp only; omega)) ?_
  exact wv_X10_machineAt_2 hl hG  g _ _ _ _ h
def wp_X10_workOf (this : Nat) (a0 : Int32) (σ : Sg) (Post : Rs → Sg → Prop) : Prop := this % 32 = 10 ∧ ∀ o1, o1 = sP σ this 8 → this % 32 = 10 ∧ ∀ o2, o2 = sP σ this 15 → ∃ u3, o2 = some u3 ∧ aty (u3 % 32) = some .int ∧ ∃ j4, a0 = nI j4 ∧ j4 < aln u3 ∧ this % 32 = 10 ∧ ∀ o5, o5 = sP σ this 19 → ∃ u6, o5 = some u6 ∧ aty (u6 % 32) = some .int ∧ ∃ j7, a0 = nI j7 ∧ j7 < aln u6 ∧ ∃ u8, o1 = some u8 ∧ aty (u8 % 32) = some .int ∧ ∃ j9, (((4 : Int32) * (sI σ u3 j4)) + (sI σ u6 j7)) = nI j9 ∧ j9 < aln u8 ∧ Post (.inl (some (.int (sI σ u8 j9)))) σ
set_option maxRecDepth 100000 in
set_option maxHeartbeats 4000000 in
theorem ct_X10_workOf {l : Launch} (hl : l.stackTraces = false) {this : Nat} {a0 : Int32} {σ : Sg} {Post : Rs → Sg → Prop} (h : wp_X10_workOf this a0 σ Post) : Ct l yX10_workOf (.code yX10_workOf cX10_workOf 2 (some .int)) 0 0 0 0 [.ref this, .int a0] σ Post := by
  refine Ct_of [some (.ref this), some (.int a0)] hl (by decide +kernel) rfl (fun ad => by rfl) (fun ad => by exact Nat.le_of_ble_eq_true rfl) (fun v hv => mem_lo hv rfl) ?_
  intro G hG
  unfold wp_X10_workOf at h
  refine V_aload_n (v := .ref this) hG dX10_workOf_0 rfl rfl ?_
  obtain ⟨ht, h⟩ := h
  refine V_getPv hG dX10_workOf_1 fl_X10_34 rfl ht (fun o1 ho => ?_)
  replace h := h o1 ho
  refine V_iconst (v := 4) hG (by decide) dX10_workOf_4 ?_
  refine V_aload_n (v := .ref this) hG dX10_workOf_5 rfl rfl ?_
  obtain ⟨ht, h⟩ := h
  refine V_getPv hG dX10_workOf_6 fl_X10_53 rfl ht (fun o2 ho => ?_)
  replace h := h o2 ho
  refine V_iload_n hG dX10_workOf_9 rfl ?_
  obtain ⟨u3, he, h⟩ := h
  subst he
  obtain ⟨ha, j4, hi, hj, h⟩ := h
  refine V_iald hG dX10_workOf_10 ha hi hj ?_
  refine V_imul hG dX10_workOf_11 ?_
  refine V_aload_n (v := .ref this) hG dX10_workOf_12 rfl rfl ?_
  obtain ⟨ht, h⟩ := h
  refine V_getPv hG dX10_workOf_13 fl_X10_65 rfl ht (fun o5 ho => ?_)
  replace h := h o5 ho
  refine V_iload_n hG dX10_workOf_16 rfl ?_
  obtain ⟨u6, he, h⟩ := h
  subst he
  obtain ⟨ha, j7, hi, hj, h⟩ := h
  refine V_iald hG dX10_workOf_17 ha hi hj ?_
  refine V_iadd hG dX10_workOf_18 ?_
  obtain ⟨u8, he, h⟩ := h
  subst he
  obtain ⟨ha, j9, hi, hj, h⟩ := h
  refine V_iald hG dX10_workOf_19 ha hi hj ?_
  exact V_iret hG dX10_workOf_20 (by first | exact Nat.le_of_ble_eq_true rfl | omega | (dsimp only; omega)) (by first | exact Nat.le_of_ble_eq_true rfl | omega | (dsimp only; omega)) h
def wp_X10_waiting_37 (K4 : Nat → Int32 → Int32 → Int32 → Sg → Prop) (this : Nat) (v1 : Int32) (v3 : Int32) (s0 : Int32) (s1 : Int32) (σ : Sg) (Post : Rs → Sg → Prop) : Prop := (K4 this v1 (s0 + s1) (v3 + 1) σ)
set_option maxRecDepth 100000 in
set_option maxHeartbeats 4000000 in
theorem wv_X10_waiting_37 {L9 : Launch} {G : Cx} {Post : Rs → Sg → Prop} (hl : L9.stackTraces = false) (hG : CX L9 G yX10_waiting cX10_waiting 4 (some .int) [] { frames := 1, cells := 0, slots := 0, locals := 21 }) {K4 : Nat → Int32 → Int32 → Int32 → Sg → Prop} (hK4 : ∀ (this : Nat) (v1 : Int32) (v2 : Int32) (v3 : Int32) (ζ : Sg), K4 this v1 v2 v3 ζ → V G (QM G 0 0 Post) 4 [some (.ref this), some (.int v1), some (.int v2), some (.int v3)] [] ζ 0 0) : ∀ (this : Nat) (v1 : Int32) (v3 : Int32) (s0 : Int32) (s1 : Int32) (σ : Sg), wp_X10_waiting_37 K4 this v1 v3 s0 s1 σ Post → V G (QM G 0 0 Post) 37 [some (.ref this), some (.int v1), none, some (.int v3)] [.int s1, .int s0] σ 0 0 := by
  intro this v1 v3 s0 s1 σ h
  unfold wp_X10_waiting_37 at h
  refine V_iadd hG dX10_waiting_37 ?_
  refine V_istore_n hG dX10_waiting_38 (Nat.le_of_ble_eq_true rfl) (hpV rfl rfl) ?_
  refine V_iincv (c := 1) hG dX10_waiting_39 rfl (by decide) (hpV rfl rfl) ?_
  refine V_goto (tgt := 4) hG dX10_waiting_42 (by decide) ?_
  refine V_forget (lo' := [some (.ref this), some (.int v1), some (.int (s0 + s1)), some (.int (v3 + 1))]) ⟨rfl, ⟨rfl, ⟨rfl, ⟨rfl, trivial⟩⟩⟩⟩ ?_
  exact hK4 _ _ _ _ _ h
def wp_X10_waiting_36 (K4 : Nat → Int32 → Int32 → Int32 → Sg → Prop) (this : Nat) (v1 : Int32) (v3 : Int32) (s0 : Int32) (σ : Sg) (Post : Rs → Sg → Prop) : Prop := (wp_X10_waiting_37 K4 this v1 v3 s0 (0 : Int32) σ Post)
set_option maxRecDepth 100000 in
set_option maxHeartbeats 4000000 in
theorem wv_X10_waiting_36 {L9 : Launch} {G : Cx} {Post : Rs → Sg → Prop} (hl : L9.stackTraces = false) (hG : CX L9 G yX10_waiting cX10_waiting 4 (some .int) [] { frames := 1, cells := 0, slots := 0, locals := 21 }) {K4 : Nat → Int32 → Int32 → Int32 → Sg → Prop} (hK4 : ∀ (this : Nat) (v1 : Int32) (v2 : Int32) (v3 : Int32) (ζ : Sg), K4 this v1 v2 v3 ζ → V G (QM G 0 0 Post) 4 [some (.ref this), some (.int v1), some (.int v2), some (.int v3)] [] ζ 0 0) : ∀ (this : Nat) (v1 : Int32) (v3 : Int32) (s0 : Int32) (σ : Sg), wp_X10_waiting_36 K4 this v1 v3 s0 σ Post → V G (QM G 0 0 Post) 36 [some (.ref this), some (.int v1), none, some (.int v3)] [.int s0] σ 0 0 := by
  intro this v1 v3 s0 σ h
  unfold wp_X10_waiting_36 at h
  refine V_iconst (v := 0) hG (by decide) dX10_waiting_36 ?_
  refine V_forget (lo' := [some (.ref this), some (.int v1), none, some (.int v3)]) ⟨rfl, ⟨rfl, ⟨rfl, trivial⟩⟩⟩ ?_
  refine V_widen (k' := 0) (n' := 0) (by first | exact Nat.le_of_ble_eq_true rfl | omega | (dsimp only; omega)) (by first | exact Nat.le_of_ble_eq_true rfl | omega | (dsimp only; omega)) ?_
  exact wv_X10_waiting_37 hl hG hK4 _ _ _ _ _ _ h
def wp_X10_waiting_4  : Nat → Nat → Int32 → Int32 → Int32 → Sg → (Rs → Sg → Prop) → Prop
  | 0, _, _, _, _, _, _ => False
  | f + 1, this, v1, v2, v3, σ, Post => this % 32 = 10 ∧ (((sI σ this 14) ≤ v3 → Post (.inl (some (.int v2))) σ) ∧ (¬ (sI σ this 14) ≤ v3 → this % 32 = 10 ∧ ∀ o1, o1 = sP σ this 18 → ∃ u2, o1 = some u2 ∧ aty (u2 % 32) = some .int ∧ ∃ j3, v3 = nI j3 ∧ j3 < aln u2 ∧ ((¬ (sI σ u2 j3) = (1 : Int32) → (wp_X10_waiting_36 (fun z0 z1 z2 z3 ζ => wp_X10_waiting_4 f z0 z1 z2 z3 ζ Post) this v1 v3 v2 σ Post)) ∧ ((sI σ u2 j3) = (1 : Int32) → this % 32 = 10 ∧ wp_X10_workOf this v3 σ (KI (fun x5 σ4 => ((¬ x5 = v1 → (wp_X10_waiting_36 (fun z0 z1 z2 z3 ζ => wp_X10_waiting_4 f z0 z1 z2 z3 ζ Post) this v1 v3 v2 σ4 Post)) ∧ (x5 = v1 → (wp_X10_waiting_37 (fun z0 z1 z2 z3 ζ => wp_X10_waiting_4 f z0 z1 z2 z3 ζ Post) this v1 v3 v2 (1 : Int32) σ4 Post)))) (fun E σ4 => Post (.inr E) σ4))))))
set_option maxRecDepth 100000 in
set_option maxHeartbeats 4000000 in
theorem wv_X10_waiting_4 {L9 : Launch} {G : Cx} {Post : Rs → Sg → Prop} (hl : L9.stackTraces = false) (hG : CX L9 G yX10_waiting cX10_waiting 4 (some .int) [] { frames := 1, cells := 0, slots := 0, locals := 21 })   : ∀ (f : Nat) (this : Nat) (v1 : Int32) (v2 : Int32) (v3 : Int32) (σ : Sg), wp_X10_waiting_4 f this v1 v2 v3 σ Post → V G (QM G 0 0 Post) 4 [some (.ref this), some (.int v1), some (.int v2), some (.int v3)] [] σ 0 0 := by
  intro f
  induction f with
  | zero => intro _ _ _ _ σ h; exact h.elim
  | succ f ih =>
    intro this v1 v2 v3 σ h
    refine V_iload_n hG dX10_waiting_4 rfl ?_
    refine V_aload_n (v := .ref this) hG dX10_waiting_5 rfl rfl ?_
    obtain ⟨ht, h⟩ := h
    refine V_getI hG dX10_waiting_6 fl_X10_176 rfl ht ?_
    refine V_icmp_ge (tgt := 45) hG dX10_waiting_9 (by decide) (fun c => ?_) (fun c => ?_)
    · replace h := h.1 c
      refine V_iload_n hG dX10_waiting_45 rfl ?_
      exact V_iret hG dX10_waiting_46 (by first | exact Nat.le_of_ble_eq_true rfl | omega | (dsimp only; omega)) (by first | exact Nat.le_of_ble_eq_true rfl | omega | (dsimp only; omega)) h
    · replace h := h.2 c
      refine V_iload_n hG dX10_waiting_12 rfl ?_
      refine V_aload_n (v := .ref this) hG dX10_waiting_13 rfl rfl ?_
      obtain ⟨ht, h⟩ := h
      refine V_getPv hG dX10_waiting_14 fl_X10_62 rfl ht (fun o1 ho => ?_)
      replace h := h o1 ho
      refine V_iload_n hG dX10_waiting_17 rfl ?_
      obtain ⟨u2, he, h⟩ := h
      subst he
      obtain ⟨ha, j3, hi, hj, h⟩ := h
      refine V_iald hG dX10_waiting_18 ha hi hj ?_
      refine V_iconst (v := 1) hG (by decide) dX10_waiting_19 ?_
      refine V_icmp_ne (tgt := 36) hG dX10_waiting_20 (by decide) (fun c => ?_) (fun c => ?_)
      · replace h := h.1 c
        refine V_forget (lo' := [some (.ref this), some (.int v1), none, some (.int v3)]) ⟨rfl, ⟨rfl, ⟨rfl, trivial⟩⟩⟩ ?_
        refine V_widen (k' := 0) (n' := 0) (by first | exact Nat.le_of_ble_eq_true rfl | omega | (dsimp only; omega)) (by first | exact Nat.le_of_ble_eq_true rfl | omega | (dsimp only; omega)) ?_
        exact wv_X10_waiting_36 hl hG (fun z0 z1 z2 z3 ζ hz => ih z0 z1 z2 z3 ζ hz) _ _ _ _ _ h
      · replace h := h.2 c
        refine V_aload_n (v := .ref this) hG dX10_waiting_23 rfl rfl ?_
        refine V_iload_n hG dX10_waiting_24 rfl ?_
        obtain ⟨ht, h⟩ := h
        refine V_cVI _ _ hG dX10_waiting_25 (ct_X10_workOf hl h) mv_X10_workOf ml_X10_196 ht rfl rfl rfl rfl (by first | exact Nat.le_of_ble_eq_true rfl | (simp only [List.map_cons, List.map_nil, List.sum_cons, List.sum_nil, cat_rf]; exact Nat.le_of_ble_eq_true rfl)) (Nat.le_of_ble_eq_true rfl) (Nat.le_of_ble_eq_true rfl) (by first | exact Nat.le_of_ble_eq_true rfl | omega | (dsimp only; omega)) (by first | exact Nat.le_of_ble_eq_true rfl | omega | (dsimp only; omega)) ?_ (fun x5 σ4 h9 => ?_)
        · exact fun E σ4 hx => VX_out hG (by first | exact Nat.le_of_ble_eq_true rfl | omega | (dsimp only; omega)) (by first | exact Nat.le_of_ble_eq_true rfl | omega | (dsimp only; omega)) hx
        · replace h := h9
          clear h9
          refine V_iload_n hG dX10_waiting_28 rfl ?_
          refine V_icmp_ne (tgt := 36) hG dX10_waiting_29 (by decide) (fun c => ?_) (fun c => ?_)
          · replace h := h.1 c
            refine V_forget (lo' := [some (.ref this), some (.int v1), none, some (.int v3)]) ⟨rfl, ⟨rfl, ⟨rfl, trivial⟩⟩⟩ ?_
            refine V_widen (k' := 0) (n' := 0) (by first | exact Nat.le_of_ble_eq_true rfl | omega | (dsimp only; omega)) (by first | exact Nat.le_of_ble_eq_true rfl | omega | (dsimp only; omega)) ?_
            exact wv_X10_waiting_36 hl hG (fun z0 z1 z2 z3 ζ hz => ih z0 z1 z2 z3 ζ hz) _ _ _ _ _ h
          · replace h := h.2 c
            refine V_iconst (v := 1) hG (by decide) dX10_waiting_32 ?_
            refine V_goto (tgt := 37) hG dX10_waiting_33 (by decide) ?_
            refine V_forget (lo' := [some (.ref this), some (.int v1), none, some (.int v3)]) ⟨rfl, ⟨rfl, ⟨rfl, trivial⟩⟩⟩ ?_
            refine V_widen (k' := 0) (n' := 0) (by first | exact Nat.le_of_ble_eq_true rfl | omega | (dsimp only; omega)) (by first | exact Nat.le_of_ble_eq_true rfl | omega | (dsimp only; omega)) ?_
            exact wv_X10_waiting_37 hl hG (fun z0 z1 z2 z3 ζ hz => ih z0 z1 z2 z3 ζ hz) _ _ _ _ _ _ h
def wp_X10_waiting (this : Nat) (a0 : Int32) (σ : Sg) (Post : Rs → Sg → Prop) : Prop := (∃ g, wp_X10_waiting_4 g this a0 (0 : Int32) (0 : Int32) σ Post)
set_option maxRecDepth 100000 in
set_option maxHeartbeats 4000000 in
theorem ct_X10_waiting {l : Launch} (hl : l.stackTraces = false) {this : Nat} {a0 : Int32} {σ : Sg} {Post : Rs → Sg → Prop} (h : wp_X10_waiting this a0 σ Post) : Ct l yX10_waiting (.code yX10_waiting cX10_waiting 4 (some .int)) 1 21 0 0 [.ref this, .int a0] σ Post := by
  refine Ct_of [some (.ref this), some (.int a0), none, none] hl (by decide +kernel) rfl (fun ad => by rfl) (fun ad => by exact Nat.le_of_ble_eq_true rfl) (fun v hv => mem_lo hv rfl) ?_
  intro G hG
  unfold wp_X10_waiting at h
  refine V_iconst (v := 0) hG (by decide) dX10_waiting_0 ?_
  refine V_istore_n hG dX10_waiting_1 (Nat.le_of_ble_eq_true rfl) (hpV rfl rfl) ?_
  refine V_iconst (v := 0) hG (by decide) dX10_waiting_2 ?_
  refine V_istore_n hG dX10_waiting_3 (Nat.le_of_ble_eq_true rfl) (hpV rfl rfl) ?_
  refine V_forget (lo' := [some (.ref this), some (.int a0), some (.int (0 : Int32)), some (.int (0 : Int32))]) ⟨rfl, ⟨rfl, ⟨rfl, ⟨rfl, trivial⟩⟩⟩⟩ ?_
  obtain ⟨g, h⟩ := h
  refine V_widen (k' := 0) (n' := 0) (by first | exact Nat.le_of_ble_eq_true rfl | omega | (dsimp only; omega)) (by first | exact Nat.le_of_ble_eq_true rfl | omega | (dsimp only; omega)) ?_
  exact wv_X10_waiting_4 hl hG  g _ _ _ _ _ h
def wp_X10_hasRoom (this : Nat) (a0 : Int32) (σ : Sg) (Post : Rs → Sg → Prop) : Prop := this % 32 = 10 ∧ wp_X10_waiting this a0 σ (KI (fun x2 σ1 => this % 32 = 10 ∧ ∀ o3, o3 = sP σ1 this 12 → ∃ u4, o3 = some u4 ∧ aty (u4 % 32) = some .int ∧ ∃ j5, a0 = nI j5 ∧ j5 < aln u4 ∧ (((sI σ1 u4 j5) ≤ x2 → (b01 (0 : Int32) ∧ Post (.inl (some (.int (0 : Int32)))) σ1)) ∧ (¬ (sI σ1 u4 j5) ≤ x2 → (b01 (1 : Int32) ∧ Post (.inl (some (.int (1 : Int32)))) σ1)))) (fun E σ1 => Post (.inr E) σ1))
set_option maxRecDepth 100000 in
set_option maxHeartbeats 4000000 in
theorem ct_X10_hasRoom {l : Launch} (hl : l.stackTraces = false) {this : Nat} {a0 : Int32} {σ : Sg} {Post : Rs → Sg → Prop} (h : wp_X10_hasRoom this a0 σ Post) : Ct l yX10_hasRoom (.code yX10_hasRoom cX10_hasRoom 2 (some .boolean)) 2 44 0 0 [.ref this, .int a0] σ Post := by
  refine Ct_of [some (.ref this), some (.int a0)] hl (by decide +kernel) rfl (fun ad => by rfl) (fun ad => by exact Nat.le_of_ble_eq_true rfl) (fun v hv => mem_lo hv rfl) ?_
  intro G hG
  unfold wp_X10_hasRoom at h
  refine V_aload_n (v := .ref this) hG dX10_hasRoom_0 rfl rfl ?_
  refine V_iload_n hG dX10_hasRoom_1 rfl ?_
  obtain ⟨ht, h⟩ := h
  refine V_cVI _ _ hG dX10_hasRoom_2 (ct_X10_waiting hl h) mv_X10_waiting ml_X10_200 ht rfl rfl rfl rfl (by first | exact Nat.le_of_ble_eq_true rfl | (simp only [List.map_cons, List.map_nil, List.sum_cons, List.sum_nil, cat_rf]; exact Nat.le_of_ble_eq_true rfl)) (Nat.le_of_ble_eq_true rfl) (Nat.le_of_ble_eq_true rfl) (by first | exact Nat.le_of_ble_eq_true rfl | omega | (dsimp only; omega)) (by first | exact Nat.le_of_ble_eq_true rfl | omega | (dsimp only; omega)) ?_ (fun x2 σ1 h9 => ?_)
  · exact fun E σ1 hx => VX_out hG (by first | exact Nat.le_of_ble_eq_true rfl | omega | (dsimp only; omega)) (by first | exact Nat.le_of_ble_eq_true rfl | omega | (dsimp only; omega)) hx
  · replace h := h9
    clear h9
    refine V_aload_n (v := .ref this) hG dX10_hasRoom_5 rfl rfl ?_
    obtain ⟨ht, h⟩ := h
    refine V_getPv hG dX10_hasRoom_6 fl_X10_46 rfl ht (fun o3 ho => ?_)
    replace h := h o3 ho
    refine V_iload_n hG dX10_hasRoom_9 rfl ?_
    obtain ⟨u4, he, h⟩ := h
    subst he
    obtain ⟨ha, j5, hi, hj, h⟩ := h
    refine V_iald hG dX10_hasRoom_10 ha hi hj ?_
    refine V_icmp_ge (tgt := 18) hG dX10_hasRoom_11 (by decide) (fun c => ?_) (fun c => ?_)
    · replace h := h.1 c
      refine V_iconst (v := 0) hG (by decide) dX10_hasRoom_18 ?_
      exact V_zret hG dX10_hasRoom_19 h.1 (by first | exact Nat.le_of_ble_eq_true rfl | omega | (dsimp only; omega)) (by first | exact Nat.le_of_ble_eq_true rfl | omega | (dsimp only; omega)) h.2
    · replace h := h.2 c
      refine V_iconst (v := 1) hG (by decide) dX10_hasRoom_14 ?_
      refine V_goto (tgt := 19) hG dX10_hasRoom_15 (by decide) ?_
      exact V_zret hG dX10_hasRoom_19 h.1 (by first | exact Nat.le_of_ble_eq_true rfl | omega | (dsimp only; omega)) (by first | exact Nat.le_of_ble_eq_true rfl | omega | (dsimp only; omega)) h.2
def wp_X10_inStore_43 (K4 : Nat → Int32 → Int32 → Int32 → Sg → Prop) (this : Nat) (v1 : Int32) (v3 : Int32) (s0 : Int32) (s1 : Int32) (σ : Sg) (Post : Rs → Sg → Prop) : Prop := (K4 this v1 (s0 + s1) (v3 + 1) σ)
set_option maxRecDepth 100000 in
set_option maxHeartbeats 4000000 in
theorem wv_X10_inStore_43 {L9 : Launch} {G : Cx} {Post : Rs → Sg → Prop} (hl : L9.stackTraces = false) (hG : CX L9 G yX10_inStore cX10_inStore 4 (some .int) [] { frames := 0, cells := 0, slots := 0, locals := 0 }) {K4 : Nat → Int32 → Int32 → Int32 → Sg → Prop} (hK4 : ∀ (this : Nat) (v1 : Int32) (v2 : Int32) (v3 : Int32) (ζ : Sg), K4 this v1 v2 v3 ζ → V G (QM G 0 0 Post) 4 [some (.ref this), some (.int v1), some (.int v2), some (.int v3)] [] ζ 0 0) : ∀ (this : Nat) (v1 : Int32) (v3 : Int32) (s0 : Int32) (s1 : Int32) (σ : Sg), wp_X10_inStore_43 K4 this v1 v3 s0 s1 σ Post → V G (QM G 0 0 Post) 43 [some (.ref this), some (.int v1), none, some (.int v3)] [.int s1, .int s0] σ 0 0 := by
  intro this v1 v3 s0 s1 σ h
  unfold wp_X10_inStore_43 at h
  refine V_iadd hG dX10_inStore_43 ?_
  refine V_istore_n hG dX10_inStore_44 (Nat.le_of_ble_eq_true rfl) (hpV rfl rfl) ?_
  refine V_iincv (c := 1) hG dX10_inStore_45 rfl (by decide) (hpV rfl rfl) ?_
  refine V_goto (tgt := 4) hG dX10_inStore_48 (by decide) ?_
  refine V_forget (lo' := [some (.ref this), some (.int v1), some (.int (s0 + s1)), some (.int (v3 + 1))]) ⟨rfl, ⟨rfl, ⟨rfl, ⟨rfl, trivial⟩⟩⟩⟩ ?_
  exact hK4 _ _ _ _ _ h
def wp_X10_inStore_42 (K4 : Nat → Int32 → Int32 → Int32 → Sg → Prop) (this : Nat) (v1 : Int32) (v3 : Int32) (s0 : Int32) (σ : Sg) (Post : Rs → Sg → Prop) : Prop := (wp_X10_inStore_43 K4 this v1 v3 s0 (0 : Int32) σ Post)
set_option maxRecDepth 100000 in
set_option maxHeartbeats 4000000 in
theorem wv_X10_inStore_42 {L9 : Launch} {G : Cx} {Post : Rs → Sg → Prop} (hl : L9.stackTraces = false) (hG : CX L9 G yX10_inStore cX10_inStore 4 (some .int) [] { frames := 0, cells := 0, slots := 0, locals := 0 }) {K4 : Nat → Int32 → Int32 → Int32 → Sg → Prop} (hK4 : ∀ (this : Nat) (v1 : Int32) (v2 : Int32) (v3 : Int32) (ζ : Sg), K4 this v1 v2 v3 ζ → V G (QM G 0 0 Post) 4 [some (.ref this), some (.int v1), some (.int v2), some (.int v3)] [] ζ 0 0) : ∀ (this : Nat) (v1 : Int32) (v3 : Int32) (s0 : Int32) (σ : Sg), wp_X10_inStore_42 K4 this v1 v3 s0 σ Post → V G (QM G 0 0 Post) 42 [some (.ref this), some (.int v1), none, some (.int v3)] [.int s0] σ 0 0 := by
  intro this v1 v3 s0 σ h
  unfold wp_X10_inStore_42 at h
  refine V_iconst (v := 0) hG (by decide) dX10_inStore_42 ?_
  refine V_forget (lo' := [some (.ref this), some (.int v1), none, some (.int v3)]) ⟨rfl, ⟨rfl, ⟨rfl, trivial⟩⟩⟩ ?_
  refine V_widen (k' := 0) (n' := 0) (by first | exact Nat.le_of_ble_eq_true rfl | omega | (dsimp only; omega)) (by first | exact Nat.le_of_ble_eq_true rfl | omega | (dsimp only; omega)) ?_
  exact wv_X10_inStore_43 hl hG hK4 _ _ _ _ _ _ h
def wp_X10_inStore_4  : Nat → Nat → Int32 → Int32 → Int32 → Sg → (Rs → Sg → Prop) → Prop
  | 0, _, _, _, _, _, _ => False
  | f + 1, this, v1, v2, v3, σ, Post => this % 32 = 10 ∧ (((sI σ this 14) ≤ v3 → Post (.inl (some (.int v2))) σ) ∧ (¬ (sI σ this 14) ≤ v3 → this % 32 = 10 ∧ ∀ o1, o1 = sP σ this 18 → ∃ u2, o1 = some u2 ∧ aty (u2 % 32) = some .int ∧ ∃ j3, v3 = nI j3 ∧ j3 < aln u2 ∧ ((¬ (sI σ u2 j3) = (3 : Int32) → (wp_X10_inStore_42 (fun z0 z1 z2 z3 ζ => wp_X10_inStore_4 f z0 z1 z2 z3 ζ Post) this v1 v3 v2 σ Post)) ∧ ((sI σ u2 j3) = (3 : Int32) → this % 32 = 10 ∧ ∀ o4, o4 = sP σ this 15 → ∃ u5, o4 = some u5 ∧ aty (u5 % 32) = some .int ∧ ∃ j6, v3 = nI j6 ∧ j6 < aln u5 ∧ ((¬ (sI σ u5 j6) = v1 → (wp_X10_inStore_42 (fun z0 z1 z2 z3 ζ => wp_X10_inStore_4 f z0 z1 z2 z3 ζ Post) this v1 v3 v2 σ Post)) ∧ ((sI σ u5 j6) = v1 → this % 32 = 10 ∧ ∀ o7, o7 = sP σ this 16 → ∃ u8, o7 = some u8 ∧ aty (u8 % 32) = some .int ∧ ∃ j9, v3 = nI j9 ∧ j9 < aln u8 ∧ (wp_X10_inStore_43 (fun z0 z1 z2 z3 ζ => wp_X10_inStore_4 f z0 z1 z2 z3 ζ Post) this v1 v3 v2 (sI σ u8 j9) σ Post)))))))
set_option maxRecDepth 100000 in
set_option maxHeartbeats 4000000 in
theorem wv_X10_inStore_4 {L9 : Launch} {G : Cx} {Post : Rs → Sg → Prop} (hl : L9.stackTraces = false) (hG : CX L9 G yX10_inStore cX10_inStore 4 (some .int) [] { frames := 0, cells := 0, slots := 0, locals := 0 })   : ∀ (f : Nat) (this : Nat) (v1 : Int32) (v2 : Int32) (v3 : Int32) (σ : Sg), wp_X10_inStore_4 f this v1 v2 v3 σ Post → V G (QM G 0 0 Post) 4 [some (.ref this), some (.int v1), some (.int v2), some (.int v3)] [] σ 0 0 := by
  intro f
  induction f with
  | zero => intro _ _ _ _ σ h; exact h.elim
  | succ f ih =>
    intro this v1 v2 v3 σ h
    refine V_iload_n hG dX10_inStore_4 rfl ?_
    refine V_aload_n (v := .ref this) hG dX10_inStore_5 rfl rfl ?_
    obtain ⟨ht, h⟩ := h
    refine V_getI hG dX10_inStore_6 fl_X10_176 rfl ht ?_
    refine V_icmp_ge (tgt := 51) hG dX10_inStore_9 (by decide) (fun c => ?_) (fun c => ?_)
    · replace h := h.1 c
      refine V_iload_n hG dX10_inStore_51 rfl ?_
      exact V_iret hG dX10_inStore_52 (by first | exact Nat.le_of_ble_eq_true rfl | omega | (dsimp only; omega)) (by first | exact Nat.le_of_ble_eq_true rfl | omega | (dsimp only; omega)) h
    · replace h := h.2 c
      refine V_iload_n hG dX10_inStore_12 rfl ?_
      refine V_aload_n (v := .ref this) hG dX10_inStore_13 rfl rfl ?_
      obtain ⟨ht, h⟩ := h
      refine V_getPv hG dX10_inStore_14 fl_X10_62 rfl ht (fun o1 ho => ?_)
      replace h := h o1 ho
      refine V_iload_n hG dX10_inStore_17 rfl ?_
      obtain ⟨u2, he, h⟩ := h
      subst he
      obtain ⟨ha, j3, hi, hj, h⟩ := h
      refine V_iald hG dX10_inStore_18 ha hi hj ?_
      refine V_iconst (v := 3) hG (by decide) dX10_inStore_19 ?_
      refine V_icmp_ne (tgt := 42) hG dX10_inStore_20 (by decide) (fun c => ?_) (fun c => ?_)
      · replace h := h.1 c
        refine V_forget (lo' := [some (.ref this), some (.int v1), none, some (.int v3)]) ⟨rfl, ⟨rfl, ⟨rfl, trivial⟩⟩⟩ ?_
        refine V_widen (k' := 0) (n' := 0) (by first | exact Nat.le_of_ble_eq_true rfl | omega | (dsimp only; omega)) (by first | exact Nat.le_of_ble_eq_true rfl | omega | (dsimp only; omega)) ?_
        exact wv_X10_inStore_42 hl hG (fun z0 z1 z2 z3 ζ hz => ih z0 z1 z2 z3 ζ hz) _ _ _ _ _ h
      · replace h := h.2 c
        refine V_aload_n (v := .ref this) hG dX10_inStore_23 rfl rfl ?_
        obtain ⟨ht, h⟩ := h
        refine V_getPv hG dX10_inStore_24 fl_X10_53 rfl ht (fun o4 ho => ?_)
        replace h := h o4 ho
        refine V_iload_n hG dX10_inStore_27 rfl ?_
        obtain ⟨u5, he, h⟩ := h
        subst he
        obtain ⟨ha, j6, hi, hj, h⟩ := h
        refine V_iald hG dX10_inStore_28 ha hi hj ?_
        refine V_iload_n hG dX10_inStore_29 rfl ?_
        refine V_icmp_ne (tgt := 42) hG dX10_inStore_30 (by decide) (fun c => ?_) (fun c => ?_)
        · replace h := h.1 c
          refine V_forget (lo' := [some (.ref this), some (.int v1), none, some (.int v3)]) ⟨rfl, ⟨rfl, ⟨rfl, trivial⟩⟩⟩ ?_
          refine V_widen (k' := 0) (n' := 0) (by first | exact Nat.le_of_ble_eq_true rfl | omega | (dsimp only; omega)) (by first | exact Nat.le_of_ble_eq_true rfl | omega | (dsimp only; omega)) ?_
          exact wv_X10_inStore_42 hl hG (fun z0 z1 z2 z3 ζ hz => ih z0 z1 z2 z3 ζ hz) _ _ _ _ _ h
        · replace h := h.2 c
          refine V_aload_n (v := .ref this) hG dX10_inStore_33 rfl rfl ?_
          obtain ⟨ht, h⟩ := h
          refine V_getPv hG dX10_inStore_34 fl_X10_56 rfl ht (fun o7 ho => ?_)
          replace h := h o7 ho
          refine V_iload_n hG dX10_inStore_37 rfl ?_
          obtain ⟨u8, he, h⟩ := h
          subst he
          obtain ⟨ha, j9, hi, hj, h⟩ := h
          refine V_iald hG dX10_inStore_38 ha hi hj ?_
          refine V_goto (tgt := 43) hG dX10_inStore_39 (by decide) ?_
          refine V_forget (lo' := [some (.ref this), some (.int v1), none, some (.int v3)]) ⟨rfl, ⟨rfl, ⟨rfl, trivial⟩⟩⟩ ?_
          refine V_widen (k' := 0) (n' := 0) (by first | exact Nat.le_of_ble_eq_true rfl | omega | (dsimp only; omega)) (by first | exact Nat.le_of_ble_eq_true rfl | omega | (dsimp only; omega)) ?_
          exact wv_X10_inStore_43 hl hG (fun z0 z1 z2 z3 ζ hz => ih z0 z1 z2 z3 ζ hz) _ _ _ _ _ _ h
def wp_X10_inStore (this : Nat) (a0 : Int32) (σ : Sg) (Post : Rs → Sg → Prop) : Prop := (∃ g, wp_X10_inStore_4 g this a0 (0 : Int32) (0 : Int32) σ Post)
set_option maxRecDepth 100000 in
set_option maxHeartbeats 4000000 in
theorem ct_X10_inStore {l : Launch} (hl : l.stackTraces = false) {this : Nat} {a0 : Int32} {σ : Sg} {Post : Rs → Sg → Prop} (h : wp_X10_inStore this a0 σ Post) : Ct l yX10_inStore (.code yX10_inStore cX10_inStore 4 (some .int)) 0 0 0 0 [.ref this, .int a0] σ Post := by
  refine Ct_of [some (.ref this), some (.int a0), none, none] hl (by decide +kernel) rfl (fun ad => by rfl) (fun ad => by exact Nat.le_of_ble_eq_true rfl) (fun v hv => mem_lo hv rfl) ?_
  intro G hG
  unfold wp_X10_inStore at h
  refine V_iconst (v := 0) hG (by decide) dX10_inStore_0 ?_
  refine V_istore_n hG dX10_inStore_1 (Nat.le_of_ble_eq_true rfl) (hpV rfl rfl) ?_
  refine V_iconst (v := 0) hG (by decide) dX10_inStore_2 ?_
  refine V_istore_n hG dX10_inStore_3 (Nat.le_of_ble_eq_true rfl) (hpV rfl rfl) ?_
  refine V_forget (lo' := [some (.ref this), some (.int a0), some (.int (0 : Int32)), some (.int (0 : Int32))]) ⟨rfl, ⟨rfl, ⟨rfl, ⟨rfl, trivial⟩⟩⟩⟩ ?_
  obtain ⟨g, h⟩ := h
  refine V_widen (k' := 0) (n' := 0) (by first | exact Nat.le_of_ble_eq_true rfl | omega | (dsimp only; omega)) (by first | exact Nat.le_of_ble_eq_true rfl | omega | (dsimp only; omega)) ?_
  exact wv_X10_inStore_4 hl hG  g _ _ _ _ _ h
def wp_X10_promisedOf_43 (K4 : Nat → Int32 → Int32 → Int32 → Sg → Prop) (this : Nat) (v1 : Int32) (v3 : Int32) (s0 : Int32) (s1 : Int32) (σ : Sg) (Post : Rs → Sg → Prop) : Prop := (K4 this v1 (s0 + s1) (v3 + 1) σ)
set_option maxRecDepth 100000 in
set_option maxHeartbeats 4000000 in
theorem wv_X10_promisedOf_43 {L9 : Launch} {G : Cx} {Post : Rs → Sg → Prop} (hl : L9.stackTraces = false) (hG : CX L9 G yX10_promisedOf cX10_promisedOf 4 (some .int) [] { frames := 0, cells := 0, slots := 0, locals := 0 }) {K4 : Nat → Int32 → Int32 → Int32 → Sg → Prop} (hK4 : ∀ (this : Nat) (v1 : Int32) (v2 : Int32) (v3 : Int32) (ζ : Sg), K4 this v1 v2 v3 ζ → V G (QM G 0 0 Post) 4 [some (.ref this), some (.int v1), some (.int v2), some (.int v3)] [] ζ 0 0) : ∀ (this : Nat) (v1 : Int32) (v3 : Int32) (s0 : Int32) (s1 : Int32) (σ : Sg), wp_X10_promisedOf_43 K4 this v1 v3 s0 s1 σ Post → V G (QM G 0 0 Post) 43 [some (.ref this), some (.int v1), none, some (.int v3)] [.int s1, .int s0] σ 0 0 := by
  intro this v1 v3 s0 s1 σ h
  unfold wp_X10_promisedOf_43 at h
  refine V_iadd hG dX10_promisedOf_43 ?_
  refine V_istore_n hG dX10_promisedOf_44 (Nat.le_of_ble_eq_true rfl) (hpV rfl rfl) ?_
  refine V_iincv (c := 1) hG dX10_promisedOf_45 rfl (by decide) (hpV rfl rfl) ?_
  refine V_goto (tgt := 4) hG dX10_promisedOf_48 (by decide) ?_
  refine V_forget (lo' := [some (.ref this), some (.int v1), some (.int (s0 + s1)), some (.int (v3 + 1))]) ⟨rfl, ⟨rfl, ⟨rfl, ⟨rfl, trivial⟩⟩⟩⟩ ?_
  exact hK4 _ _ _ _ _ h
def wp_X10_promisedOf_42 (K4 : Nat → Int32 → Int32 → Int32 → Sg → Prop) (this : Nat) (v1 : Int32) (v3 : Int32) (s0 : Int32) (σ : Sg) (Post : Rs → Sg → Prop) : Prop := (wp_X10_promisedOf_43 K4 this v1 v3 s0 (0 : Int32) σ Post)
set_option maxRecDepth 100000 in
set_option maxHeartbeats 4000000 in
theorem wv_X10_promisedOf_42 {L9 : Launch} {G : Cx} {Post : Rs → Sg → Prop} (hl : L9.stackTraces = false) (hG : CX L9 G yX10_promisedOf cX10_promisedOf 4 (some .int) [] { frames := 0, cells := 0, slots := 0, locals := 0 }) {K4 : Nat → Int32 → Int32 → Int32 → Sg → Prop} (hK4 : ∀ (this : Nat) (v1 : Int32) (v2 : Int32) (v3 : Int32) (ζ : Sg), K4 this v1 v2 v3 ζ → V G (QM G 0 0 Post) 4 [some (.ref this), some (.int v1), some (.int v2), some (.int v3)] [] ζ 0 0) : ∀ (this : Nat) (v1 : Int32) (v3 : Int32) (s0 : Int32) (σ : Sg), wp_X10_promisedOf_42 K4 this v1 v3 s0 σ Post → V G (QM G 0 0 Post) 42 [some (.ref this), some (.int v1), none, some (.int v3)] [.int s0] σ 0 0 := by
  intro this v1 v3 s0 σ h
  unfold wp_X10_promisedOf_42 at h
  refine V_iconst (v := 0) hG (by decide) dX10_promisedOf_42 ?_
  refine V_forget (lo' := [some (.ref this), some (.int v1), none, some (.int v3)]) ⟨rfl, ⟨rfl, ⟨rfl, trivial⟩⟩⟩ ?_
  refine V_widen (k' := 0) (n' := 0) (by first | exact Nat.le_of_ble_eq_true rfl | omega | (dsimp only; omega)) (by first | exact Nat.le_of_ble_eq_true rfl | omega | (dsimp only; omega)) ?_
  exact wv_X10_promisedOf_43 hl hG hK4 _ _ _ _ _ _ h
def wp_X10_promisedOf_4  : Nat → Nat → Int32 → Int32 → Int32 → Sg → (Rs → Sg → Prop) → Prop
  | 0, _, _, _, _, _, _ => False
  | f + 1, this, v1, v2, v3, σ, Post => this % 32 = 10 ∧ (((sI σ this 47) ≤ v3 → Post (.inl (some (.int v2))) σ) ∧ (¬ (sI σ this 47) ≤ v3 → this % 32 = 10 ∧ ∀ o1, o1 = sP σ this 48 → ∃ u2, o1 = some u2 ∧ aty (u2 % 32) = some .int ∧ ∃ j3, v3 = nI j3 ∧ j3 < aln u2 ∧ ((¬ (sI σ u2 j3) = v1 → (wp_X10_promisedOf_42 (fun z0 z1 z2 z3 ζ => wp_X10_promisedOf_4 f z0 z1 z2 z3 ζ Post) this v1 v3 v2 σ Post)) ∧ ((sI σ u2 j3) = v1 → this % 32 = 10 ∧ ∀ o4, o4 = sP σ this 52 → ∃ u5, o4 = some u5 ∧ aty (u5 % 32) = some .int ∧ ∃ j6, v3 = nI j6 ∧ j6 < aln u5 ∧ ((¬ (sI σ u5 j6) = (-1 : Int32) → (wp_X10_promisedOf_42 (fun z0 z1 z2 z3 ζ => wp_X10_promisedOf_4 f z0 z1 z2 z3 ζ Post) this v1 v3 v2 σ Post)) ∧ ((sI σ u5 j6) = (-1 : Int32) → this % 32 = 10 ∧ ∀ o7, o7 = sP σ this 51 → ∃ u8, o7 = some u8 ∧ aty (u8 % 32) = some .int ∧ ∃ j9, v3 = nI j9 ∧ j9 < aln u8 ∧ (wp_X10_promisedOf_43 (fun z0 z1 z2 z3 ζ => wp_X10_promisedOf_4 f z0 z1 z2 z3 ζ Post) this v1 v3 v2 (sI σ u8 j9) σ Post)))))))
set_option maxRecDepth 100000 in
set_option maxHeartbeats 4000000 in
theorem wv_X10_promisedOf_4 {L9 : Launch} {G : Cx} {Post : Rs → Sg → Prop} (hl : L9.stackTraces = false) (hG : CX L9 G yX10_promisedOf cX10_promisedOf 4 (some .int) [] { frames := 0, cells := 0, slots := 0, locals := 0 })   : ∀ (f : Nat) (this : Nat) (v1 : Int32) (v2 : Int32) (v3 : Int32) (σ : Sg), wp_X10_promisedOf_4 f this v1 v2 v3 σ Post → V G (QM G 0 0 Post) 4 [some (.ref this), some (.int v1), some (.int v2), some (.int v3)] [] σ 0 0 := by
  intro f
  induction f with
  | zero => intro _ _ _ _ σ h; exact h.elim
  | succ f ih =>
    intro this v1 v2 v3 σ h
    refine V_iload_n hG dX10_promisedOf_4 rfl ?_
    refine V_aload_n (v := .ref this) hG dX10_promisedOf_5 rfl rfl ?_
    obtain ⟨ht, h⟩ := h
    refine V_getI hG dX10_promisedOf_6 fl_X10_203 rfl ht ?_
    refine V_icmp_ge (tgt := 51) hG dX10_promisedOf_9 (by decide) (fun c => ?_) (fun c => ?_)
    · replace h := h.1 c
      refine V_iload_n hG dX10_promisedOf_51 rfl ?_
      exact V_iret hG dX10_promisedOf_52 (by first | exact Nat.le_of_ble_eq_true rfl | omega | (dsimp only; omega)) (by first | exact Nat.le_of_ble_eq_true rfl | omega | (dsimp only; omega)) h
    · replace h := h.2 c
      refine V_iload_n hG dX10_promisedOf_12 rfl ?_
      refine V_aload_n (v := .ref this) hG dX10_promisedOf_13 rfl rfl ?_
      obtain ⟨ht, h⟩ := h
      refine V_getPv hG dX10_promisedOf_14 fl_X10_144 rfl ht (fun o1 ho => ?_)
      replace h := h o1 ho
      refine V_iload_n hG dX10_promisedOf_17 rfl ?_
      obtain ⟨u2, he, h⟩ := h
      subst he
      obtain ⟨ha, j3, hi, hj, h⟩ := h
      refine V_iald hG dX10_promisedOf_18 ha hi hj ?_
      refine V_iload_n hG dX10_promisedOf_19 rfl ?_
      refine V_icmp_ne (tgt := 42) hG dX10_promisedOf_20 (by decide) (fun c => ?_) (fun c => ?_)
      · replace h := h.1 c
        refine V_forget (lo' := [some (.ref this), some (.int v1), none, some (.int v3)]) ⟨rfl, ⟨rfl, ⟨rfl, trivial⟩⟩⟩ ?_
        refine V_widen (k' := 0) (n' := 0) (by first | exact Nat.le_of_ble_eq_true rfl | omega | (dsimp only; omega)) (by first | exact Nat.le_of_ble_eq_true rfl | omega | (dsimp only; omega)) ?_
        exact wv_X10_promisedOf_42 hl hG (fun z0 z1 z2 z3 ζ hz => ih z0 z1 z2 z3 ζ hz) _ _ _ _ _ h
      · replace h := h.2 c
        refine V_aload_n (v := .ref this) hG dX10_promisedOf_23 rfl rfl ?_
        obtain ⟨ht, h⟩ := h
        refine V_getPv hG dX10_promisedOf_24 fl_X10_156 rfl ht (fun o4 ho => ?_)
        replace h := h o4 ho
        refine V_iload_n hG dX10_promisedOf_27 rfl ?_
        obtain ⟨u5, he, h⟩ := h
        subst he
        obtain ⟨ha, j6, hi, hj, h⟩ := h
        refine V_iald hG dX10_promisedOf_28 ha hi hj ?_
        refine V_iconst (v := (-1)) hG (by decide) dX10_promisedOf_29 ?_
        refine V_icmp_ne (tgt := 42) hG dX10_promisedOf_30 (by decide) (fun c => ?_) (fun c => ?_)
        · replace h := h.1 c
          refine V_forget (lo' := [some (.ref this), some (.int v1), none, some (.int v3)]) ⟨rfl, ⟨rfl, ⟨rfl, trivial⟩⟩⟩ ?_
          refine V_widen (k' := 0) (n' := 0) (by first | exact Nat.le_of_ble_eq_true rfl | omega | (dsimp only; omega)) (by first | exact Nat.le_of_ble_eq_true rfl | omega | (dsimp only; omega)) ?_
          exact wv_X10_promisedOf_42 hl hG (fun z0 z1 z2 z3 ζ hz => ih z0 z1 z2 z3 ζ hz) _ _ _ _ _ h
        · replace h := h.2 c
          refine V_aload_n (v := .ref this) hG dX10_promisedOf_33 rfl rfl ?_
          obtain ⟨ht, h⟩ := h
          refine V_getPv hG dX10_promisedOf_34 fl_X10_153 rfl ht (fun o7 ho => ?_)
          replace h := h o7 ho
          refine V_iload_n hG dX10_promisedOf_37 rfl ?_
          obtain ⟨u8, he, h⟩ := h
          subst he
          obtain ⟨ha, j9, hi, hj, h⟩ := h
          refine V_iald hG dX10_promisedOf_38 ha hi hj ?_
          refine V_goto (tgt := 43) hG dX10_promisedOf_39 (by decide) ?_
          refine V_forget (lo' := [some (.ref this), some (.int v1), none, some (.int v3)]) ⟨rfl, ⟨rfl, ⟨rfl, trivial⟩⟩⟩ ?_
          refine V_widen (k' := 0) (n' := 0) (by first | exact Nat.le_of_ble_eq_true rfl | omega | (dsimp only; omega)) (by first | exact Nat.le_of_ble_eq_true rfl | omega | (dsimp only; omega)) ?_
          exact wv_X10_promisedOf_43 hl hG (fun z0 z1 z2 z3 ζ hz => ih z0 z1 z2 z3 ζ hz) _ _ _ _ _ _ h
def wp_X10_promisedOf (this : Nat) (a0 : Int32) (σ : Sg) (Post : Rs → Sg → Prop) : Prop := (∃ g, wp_X10_promisedOf_4 g this a0 (0 : Int32) (0 : Int32) σ Post)
set_option maxRecDepth 100000 in
set_option maxHeartbeats 4000000 in
theorem ct_X10_promisedOf {l : Launch} (hl : l.stackTraces = false) {this : Nat} {a0 : Int32} {σ : Sg} {Post : Rs → Sg → Prop} (h : wp_X10_promisedOf this a0 σ Post) : Ct l yX10_promisedOf (.code yX10_promisedOf cX10_promisedOf 4 (some .int)) 0 0 0 0 [.ref this, .int a0] σ Post := by
  refine Ct_of [some (.ref this), some (.int a0), none, none] hl (by decide +kernel) rfl (fun ad => by rfl) (fun ad => by exact Nat.le_of_ble_eq_true rfl) (fun v hv => mem_lo hv rfl) ?_
  intro G hG
  unfold wp_X10_promisedOf at h
  refine V_iconst (v := 0) hG (by decide) dX10_promisedOf_0 ?_
  refine V_istore_n hG dX10_promisedOf_1 (Nat.le_of_ble_eq_true rfl) (hpV rfl rfl) ?_
  refine V_iconst (v := 0) hG (by decide) dX10_promisedOf_2 ?_
  refine V_istore_n hG dX10_promisedOf_3 (Nat.le_of_ble_eq_true rfl) (hpV rfl rfl) ?_
  refine V_forget (lo' := [some (.ref this), some (.int a0), some (.int (0 : Int32)), some (.int (0 : Int32))]) ⟨rfl, ⟨rfl, ⟨rfl, ⟨rfl, trivial⟩⟩⟩⟩ ?_
  obtain ⟨g, h⟩ := h
  refine V_widen (k' := 0) (n' := 0) (by first | exact Nat.le_of_ble_eq_true rfl | omega | (dsimp only; omega)) (by first | exact Nat.le_of_ble_eq_true rfl | omega | (dsimp only; omega)) ?_
  exact wv_X10_promisedOf_4 hl hG  g _ _ _ _ _ h
def wp_X10_free (this : Nat) (a0 : Int32) (σ : Sg) (Post : Rs → Sg → Prop) : Prop := this % 32 = 10 ∧ wp_X10_inStore this a0 σ (KI (fun x2 σ1 => this % 32 = 10 ∧ wp_X10_promisedOf this a0 σ1 (KI (fun x4 σ3 => Post (.inl (some (.int (x2 - x4)))) σ3) (fun E σ3 => Post (.inr E) σ3))) (fun E σ1 => Post (.inr E) σ1))
set_option maxRecDepth 100000 in
set_option maxHeartbeats 4000000 in
theorem ct_X10_free {l : Launch} (hl : l.stackTraces = false) {this : Nat} {a0 : Int32} {σ : Sg} {Post : Rs → Sg → Prop} (h : wp_X10_free this a0 σ Post) : Ct l yX10_free (.code yX10_free cX10_free 2 (some .int)) 1 23 0 0 [.ref this, .int a0] σ Post := by
  refine Ct_of [some (.ref this), some (.int a0)] hl (by decide +kernel) rfl (fun ad => by rfl) (fun ad => by exact Nat.le_of_ble_eq_true rfl) (fun v hv => mem_lo hv rfl) ?_
  intro G hG
  unfold wp_X10_free at h
  refine V_aload_n (v := .ref this) hG dX10_free_0 rfl rfl ?_
  refine V_iload_n hG dX10_free_1 rfl ?_
  obtain ⟨ht, h⟩ := h
  refine V_cVI _ _ hG dX10_free_2 (ct_X10_inStore hl h) mv_X10_inStore ml_X10_206 ht rfl rfl rfl rfl (by first | exact Nat.le_of_ble_eq_true rfl | (simp only [List.map_cons, List.map_nil, List.sum_cons, List.sum_nil, cat_rf]; exact Nat.le_of_ble_eq_true rfl)) (Nat.le_of_ble_eq_true rfl) (Nat.le_of_ble_eq_true rfl) (by first | exact Nat.le_of_ble_eq_true rfl | omega | (dsimp only; omega)) (by first | exact Nat.le_of_ble_eq_true rfl | omega | (dsimp only; omega)) ?_ (fun x2 σ1 h9 => ?_)
  · exact fun E σ1 hx => VX_out hG (by first | exact Nat.le_of_ble_eq_true rfl | omega | (dsimp only; omega)) (by first | exact Nat.le_of_ble_eq_true rfl | omega | (dsimp only; omega)) hx
  · replace h := h9
    clear h9
    refine V_aload_n (v := .ref this) hG dX10_free_5 rfl rfl ?_
    refine V_iload_n hG dX10_free_6 rfl ?_
    obtain ⟨ht, h⟩ := h
    refine V_cVI _ _ hG dX10_free_7 (ct_X10_promisedOf hl h) mv_X10_promisedOf ml_X10_209 ht rfl rfl rfl rfl (by first | exact Nat.le_of_ble_eq_true rfl | (simp only [List.map_cons, List.map_nil, List.sum_cons, List.sum_nil, cat_rf]; exact Nat.le_of_ble_eq_true rfl)) (Nat.le_of_ble_eq_true rfl) (Nat.le_of_ble_eq_true rfl) (by first | exact Nat.le_of_ble_eq_true rfl | omega | (dsimp only; omega)) (by first | exact Nat.le_of_ble_eq_true rfl | omega | (dsimp only; omega)) ?_ (fun x4 σ3 h9 => ?_)
    · exact fun E σ3 hx => VX_out hG (by first | exact Nat.le_of_ble_eq_true rfl | omega | (dsimp only; omega)) (by first | exact Nat.le_of_ble_eq_true rfl | omega | (dsimp only; omega)) hx
    · replace h := h9
      clear h9
      refine V_isub hG dX10_free_10 ?_
      exact V_iret hG dX10_free_11 (by first | exact Nat.le_of_ble_eq_true rfl | omega | (dsimp only; omega)) (by first | exact Nat.le_of_ble_eq_true rfl | omega | (dsimp only; omega)) h
def wp_X10_newBatch (this : Nat) (a0 : Int32) (a1 : Int32) (a2 : Int32) (σ : Sg) (Post : Rs → Sg → Prop) : Prop := this % 32 = 10 ∧ this % 32 = 10 ∧ ∀ o1, o1 = sP σ this 15 → ∃ u2, o1 = some u2 ∧ aty (u2 % 32) = some .int ∧ ∃ j3, (sI σ this 14) = nI j3 ∧ j3 < aln u2 ∧ this % 32 = 10 ∧ ∀ o4, o4 = sP (wI σ u2 j3 a0) this 16 → ∃ u5, o4 = some u5 ∧ aty (u5 % 32) = some .int ∧ ∃ j6, (sI σ this 14) = nI j6 ∧ j6 < aln u5 ∧ this % 32 = 10 ∧ ∀ o7, o7 = sP (wI (wI σ u2 j3 a0) u5 j6 a1) this 17 → ∃ u8, o7 = some u8 ∧ aty (u8 % 32) = some .int ∧ ∃ j9, (sI σ this 14) = nI j9 ∧ j9 < aln u8 ∧ this % 32 = 10 ∧ ∀ o10, o10 = sP (wI (wI (wI σ u2 j3 a0) u5 j6 a1) u8 j9 (0 : Int32)) this 18 → ∃ u11, o10 = some u11 ∧ aty (u11 % 32) = some .int ∧ ∃ j12, (sI σ this 14) = nI j12 ∧ j12 < aln u11 ∧ this % 32 = 10 ∧ ∀ o13, o13 = sP (wI (wI (wI (wI σ u2 j3 a0) u5 j6 a1) u8 j9 (0 : Int32)) u11 j12 a2) this 19 → ∃ u14, o13 = some u14 ∧ aty (u14 % 32) = some .int ∧ ∃ j15, (sI σ this 14) = nI j15 ∧ j15 < aln u14 ∧ this % 32 = 10 ∧ ∀ o16, o16 = sP (wI (wI (wI (wI (wI σ u2 j3 a0) u5 j6 a1) u8 j9 (0 : Int32)) u11 j12 a2) u14 j15 (0 : Int32)) this 20 → ∃ u17, o16 = some u17 ∧ aty (u17 % 32) = some .int ∧ ∃ j18, (sI σ this 14) = nI j18 ∧ j18 < aln u17 ∧ this % 32 = 10 ∧ ∀ o19, o19 = sP (wI (wI (wI (wI (wI (wI σ u2 j3 a0) u5 j6 a1) u8 j9 (0 : Int32)) u11 j12 a2) u14 j15 (0 : Int32)) u17 j18 (0 : Int32)) this 21 → ∃ u20, o19 = some u20 ∧ aty (u20 % 32) = some .boolean ∧ ∃ j21, (sI σ this 14) = nI j21 ∧ j21 < aln u20 ∧ b01 (0 : Int32) ∧ this % 32 = 10 ∧ ∀ o22, o22 = sP (wI (wI (wI (wI (wI (wI (wI σ u2 j3 a0) u5 j6 a1) u8 j9 (0 : Int32)) u11 j12 a2) u14 j15 (0 : Int32)) u17 j18 (0 : Int32)) u20 j21 (0 : Int32)) this 22 → ∃ u23, o22 = some u23 ∧ aty (u23 % 32) = some .boolean ∧ ∃ j24, (sI σ this 14) = nI j24 ∧ j24 < aln u23 ∧ b01 (0 : Int32) ∧ this % 32 = 10 ∧ ∀ o25, o25 = sP (wI (wI (wI (wI (wI (wI (wI (wI σ u2 j3 a0) u5 j6 a1) u8 j9 (0 : Int32)) u11 j12 a2) u14 j15 (0 : Int32)) u17 j18 (0 : Int32)) u20 j21 (0 : Int32)) u23 j24 (0 : Int32)) this 23 → ∃ u26, o25 = some u26 ∧ aty (u26 % 32) = some .int ∧ ∃ j27, (sI σ this 14) = nI j27 ∧ j27 < aln u26 ∧ this % 32 = 10 ∧ ∀ o28, o28 = sP (wI (wI (wI (wI (wI (wI (wI (wI (wI σ u2 j3 a0) u5 j6 a1) u8 j9 (0 : Int32)) u11 j12 a2) u14 j15 (0 : Int32)) u17 j18 (0 : Int32)) u20 j21 (0 : Int32)) u23 j24 (0 : Int32)) u26 j27 (0 : Int32)) this 24 → ∃ u29, o28 = some u29 ∧ aty (u29 % 32) = some .boolean ∧ ∃ j30, (sI σ this 14) = nI j30 ∧ j30 < aln u29 ∧ b01 (0 : Int32) ∧ this % 32 = 10 ∧ ∀ o31, o31 = sP (wI (wI (wI (wI (wI (wI (wI (wI (wI (wI σ u2 j3 a0) u5 j6 a1) u8 j9 (0 : Int32)) u11 j12 a2) u14 j15 (0 : Int32)) u17 j18 (0 : Int32)) u20 j21 (0 : Int32)) u23 j24 (0 : Int32)) u26 j27 (0 : Int32)) u29 j30 (0 : Int32)) this 25 → ∃ u32, o31 = some u32 ∧ aty (u32 % 32) = some .int ∧ ∃ j33, (sI σ this 14) = nI j33 ∧ j33 < aln u32 ∧ this % 32 = 10 ∧ ∀ o34, o34 = sP (wI (wI (wI (wI (wI (wI (wI (wI (wI (wI (wI σ u2 j3 a0) u5 j6 a1) u8 j9 (0 : Int32)) u11 j12 a2) u14 j15 (0 : Int32)) u17 j18 (0 : Int32)) u20 j21 (0 : Int32)) u23 j24 (0 : Int32)) u26 j27 (0 : Int32)) u29 j30 (0 : Int32)) u32 j33 (-1 : Int32)) this 26 → ∃ u35, o34 = some u35 ∧ aty (u35 % 32) = some .long ∧ ∃ j36, (sI σ this 14) = nI j36 ∧ j36 < aln u35 ∧ this % 32 = 10 ∧ this % 32 = 10 ∧ Post (.inl (some (.int (sI σ this 14)))) (wI (wL (wI (wI (wI (wI (wI (wI (wI (wI (wI (wI (wI σ u2 j3 a0) u5 j6 a1) u8 j9 (0 : Int32)) u11 j12 a2) u14 j15 (0 : Int32)) u17 j18 (0 : Int32)) u20 j21 (0 : Int32)) u23 j24 (0 : Int32)) u26 j27 (0 : Int32)) u29 j30 (0 : Int32)) u32 j33 (-1 : Int32)) u35 j36 (0 : Int64)) this 14 ((sI (wL (wI (wI (wI (wI (wI (wI (wI (wI (wI (wI (wI σ u2 j3 a0) u5 j6 a1) u8 j9 (0 : Int32)) u11 j12 a2) u14 j15 (0 : Int32)) u17 j18 (0 : Int32)) u20 j21 (0 : Int32)) u23 j24 (0 : Int32)) u26 j27 (0 : Int32)) u29 j30 (0 : Int32)) u32 j33 (-1 : Int32)) u35 j36 (0 : Int64)) this 14) + (1 : Int32)))
set_option maxRecDepth 100000 in
set_option maxHeartbeats 4000000 in
theorem ct_X10_newBatch {l : Launch} (hl : l.stackTraces = false) {this : Nat} {a0 : Int32} {a1 : Int32} {a2 : Int32} {σ : Sg} {Post : Rs → Sg → Prop} (h : wp_X10_newBatch this a0 a1 a2 σ Post) : Ct l yX10_newBatch (.code yX10_newBatch cX10_newBatch 5 (some .int)) 0 0 0 0 [.ref this, .int a0, .int a1, .int a2] σ Post := by
  refine Ct_of [some (.ref this), some (.int a0), some (.int a1), some (.int a2), none] hl (by decide +kernel) rfl (fun ad => by rfl) (fun ad => by exact Nat.le_of_ble_eq_true rfl) (fun v hv => mem_lo hv rfl) ?_
  intro G hG
  unfold wp_X10_newBatch at h
  refine V_aload_n (v := .ref this) hG dX10_newBatch_0 rfl rfl ?_
  obtain ⟨ht, h⟩ := h
  refine V_getI hG dX10_newBatch_1 fl_X10_176 rfl ht ?_
  refine V_istore hG dX10_newBatch_4 (Nat.le_of_ble_eq_true rfl) (hpV rfl rfl) ?_
  refine V_aload_n (v := .ref this) hG dX10_newBatch_6 rfl rfl ?_
  obtain ⟨ht, h⟩ := h
  refine V_getPv hG dX10_newBatch_7 fl_X10_53 rfl ht (fun o1 ho => ?_)
  replace h := h o1 ho
  refine V_iload hG dX10_newBatch_10 rfl ?_
  refine V_iload_n hG dX10_newBatch_12 rfl ?_
  obtain ⟨u2, he, h⟩ := h
  subst he
  obtain ⟨ha, j3, hi, hj, h⟩ := h
  refine V_iast hG dX10_newBatch_13 ha hi hj ?_
  refine V_aload_n (v := .ref this) hG dX10_newBatch_14 rfl rfl ?_
  obtain ⟨ht, h⟩ := h
  refine V_getPv hG dX10_newBatch_15 fl_X10_56 rfl ht (fun o4 ho => ?_)
  replace h := h o4 ho
  refine V_iload hG dX10_newBatch_18 rfl ?_
  refine V_iload_n hG dX10_newBatch_20 rfl ?_
  obtain ⟨u5, he, h⟩ := h
  subst he
  obtain ⟨ha, j6, hi, hj, h⟩ := h
  refine V_iast hG dX10_newBatch_21 ha hi hj ?_
  refine V_aload_n (v := .ref this) hG dX10_newBatch_22 rfl rfl ?_
  obtain ⟨ht, h⟩ := h
  refine V_getPv hG dX10_newBatch_23 fl_X10_59 rfl ht (fun o7 ho => ?_)
  replace h := h o7 ho
  refine V_iload hG dX10_newBatch_26 rfl ?_
  refine V_iconst (v := 0) hG (by decide) dX10_newBatch_28 ?_
  obtain ⟨u8, he, h⟩ := h
  subst he
  obtain ⟨ha, j9, hi, hj, h⟩ := h
  refine V_iast hG dX10_newBatch_29 ha hi hj ?_
  refine V_aload_n (v := .ref this) hG dX10_newBatch_30 rfl rfl ?_
  obtain ⟨ht, h⟩ := h
  refine V_getPv hG dX10_newBatch_31 fl_X10_62 rfl ht (fun o10 ho => ?_)
  replace h := h o10 ho
  refine V_iload hG dX10_newBatch_34 rfl ?_
  refine V_iload_n hG dX10_newBatch_36 rfl ?_
  obtain ⟨u11, he, h⟩ := h
  subst he
  obtain ⟨ha, j12, hi, hj, h⟩ := h
  refine V_iast hG dX10_newBatch_37 ha hi hj ?_
  refine V_aload_n (v := .ref this) hG dX10_newBatch_38 rfl rfl ?_
  obtain ⟨ht, h⟩ := h
  refine V_getPv hG dX10_newBatch_39 fl_X10_65 rfl ht (fun o13 ho => ?_)
  replace h := h o13 ho
  refine V_iload hG dX10_newBatch_42 rfl ?_
  refine V_iconst (v := 0) hG (by decide) dX10_newBatch_44 ?_
  obtain ⟨u14, he, h⟩ := h
  subst he
  obtain ⟨ha, j15, hi, hj, h⟩ := h
  refine V_iast hG dX10_newBatch_45 ha hi hj ?_
  refine V_aload_n (v := .ref this) hG dX10_newBatch_46 rfl rfl ?_
  obtain ⟨ht, h⟩ := h
  refine V_getPv hG dX10_newBatch_47 fl_X10_68 rfl ht (fun o16 ho => ?_)
  replace h := h o16 ho
  refine V_iload hG dX10_newBatch_50 rfl ?_
  refine V_iconst (v := 0) hG (by decide) dX10_newBatch_52 ?_
  obtain ⟨u17, he, h⟩ := h
  subst he
  obtain ⟨ha, j18, hi, hj, h⟩ := h
  refine V_iast hG dX10_newBatch_53 ha hi hj ?_
  refine V_aload_n (v := .ref this) hG dX10_newBatch_54 rfl rfl ?_
  obtain ⟨ht, h⟩ := h
  refine V_getPv hG dX10_newBatch_55 fl_X10_71 rfl ht (fun o19 ho => ?_)
  replace h := h o19 ho
  refine V_iload hG dX10_newBatch_58 rfl ?_
  refine V_iconst (v := 0) hG (by decide) dX10_newBatch_60 ?_
  obtain ⟨u20, he, h⟩ := h
  subst he
  obtain ⟨ha, j21, hi, hj, h⟩ := h
  obtain ⟨hb, h⟩ := h
  refine V_zast hG dX10_newBatch_61 ha hb hi hj ?_
  refine V_aload_n (v := .ref this) hG dX10_newBatch_62 rfl rfl ?_
  obtain ⟨ht, h⟩ := h
  refine V_getPv hG dX10_newBatch_63 fl_X10_74 rfl ht (fun o22 ho => ?_)
  replace h := h o22 ho
  refine V_iload hG dX10_newBatch_66 rfl ?_
  refine V_iconst (v := 0) hG (by decide) dX10_newBatch_68 ?_
  obtain ⟨u23, he, h⟩ := h
  subst he
  obtain ⟨ha, j24, hi, hj, h⟩ := h
  obtain ⟨hb, h⟩ := h
  refine V_zast hG dX10_newBatch_69 ha hb hi hj ?_
  refine V_aload_n (v := .ref this) hG dX10_newBatch_70 rfl rfl ?_
  obtain ⟨ht, h⟩ := h
  refine V_getPv hG dX10_newBatch_71 fl_X10_77 rfl ht (fun o25 ho => ?_)
  replace h := h o25 ho
  refine V_iload hG dX10_newBatch_74 rfl ?_
  refine V_iconst (v := 0) hG (by decide) dX10_newBatch_76 ?_
  obtain ⟨u26, he, h⟩ := h
  subst he
  obtain ⟨ha, j27, hi, hj, h⟩ := h
  refine V_iast hG dX10_newBatch_77 ha hi hj ?_
  refine V_aload_n (v := .ref this) hG dX10_newBatch_78 rfl rfl ?_
  obtain ⟨ht, h⟩ := h
  refine V_getPv hG dX10_newBatch_79 fl_X10_80 rfl ht (fun o28 ho => ?_)
  replace h := h o28 ho
  refine V_iload hG dX10_newBatch_82 rfl ?_
  refine V_iconst (v := 0) hG (by decide) dX10_newBatch_84 ?_
  obtain ⟨u29, he, h⟩ := h
  subst he
  obtain ⟨ha, j30, hi, hj, h⟩ := h
  obtain ⟨hb, h⟩ := h
  refine V_zast hG dX10_newBatch_85 ha hb hi hj ?_
  refine V_aload_n (v := .ref this) hG dX10_newBatch_86 rfl rfl ?_
  obtain ⟨ht, h⟩ := h
  refine V_getPv hG dX10_newBatch_87 fl_X10_83 rfl ht (fun o31 ho => ?_)
  replace h := h o31 ho
  refine V_iload hG dX10_newBatch_90 rfl ?_
  refine V_iconst (v := (-1)) hG (by decide) dX10_newBatch_92 ?_
  obtain ⟨u32, he, h⟩ := h
  subst he
  obtain ⟨ha, j33, hi, hj, h⟩ := h
  refine V_iast hG dX10_newBatch_93 ha hi hj ?_
  refine V_aload_n (v := .ref this) hG dX10_newBatch_94 rfl rfl ?_
  obtain ⟨ht, h⟩ := h
  refine V_getPv hG dX10_newBatch_95 fl_X10_86 rfl ht (fun o34 ho => ?_)
  replace h := h o34 ho
  refine V_iload hG dX10_newBatch_98 rfl ?_
  refine V_lconst (v := 0) hG (by decide) dX10_newBatch_100 ?_
  obtain ⟨u35, he, h⟩ := h
  subst he
  obtain ⟨ha, j36, hi, hj, h⟩ := h
  refine V_last hG dX10_newBatch_101 ha hi hj ?_
  refine V_aload_n (v := .ref this) hG dX10_newBatch_102 rfl rfl ?_
  refine V_dup (v := .ref this) hG rfl dX10_newBatch_103 ?_
  obtain ⟨ht, h⟩ := h
  refine V_getI hG dX10_newBatch_104 fl_X10_176 rfl ht ?_
  refine V_iconst (v := 1) hG (by decide) dX10_newBatch_107 ?_
  refine V_iadd hG dX10_newBatch_108 ?_
  obtain ⟨ht, h⟩ := h
  refine V_putI hG dX10_newBatch_109 fl_X10_176 rfl (fun e => absurd e (by decide)) rfl ht ?_
  refine V_iload hG dX10_newBatch_112 rfl ?_
  exact V_iret hG dX10_newBatch_114 (by first | exact Nat.le_of_ble_eq_true rfl | omega | (dsimp only; omega)) (by first | exact Nat.le_of_ble_eq_true rfl | omega | (dsimp only; omega)) h
def wp_X10_buy_50  (this : Nat) (v1 : Int32) (v2 : Int32) (s0 : Nat) (s1 : Int32) (σ : Sg) (Post : Rs → Sg → Prop) : Prop := s0 % 32 = 10 ∧ this % 32 = 10 ∧ (((sI (wI σ s0 59 s1) this 59) ≤ 0 → this % 32 = 10 ∧ wp_X10_newBatch this v1 v2 (0 : Int32) (wI σ s0 59 s1) (KI (fun x2 σ1 => this % 32 = 10 ∧ ∀ o3, o3 = sP σ1 this 13 → ∃ u4, o3 = some u4 ∧ aty (u4 % 32) = some .boolean ∧ ∃ j5, v1 = nI j5 ∧ j5 < aln u4 ∧ b01 (1 : Int32) ∧ this % 32 = 10 ∧ ∀ o6, o6 = sP (wI σ1 u4 j5 (1 : Int32)) this 25 → this % 32 = 10 ∧ this % 32 = 10 ∧ ∀ o7, o7 = sP (wI σ1 u4 j5 (1 : Int32)) this 2 → ∃ u8, o7 = some u8 ∧ aty (u8 % 32) = some .int ∧ ∃ j9, v1 = nI j9 ∧ j9 < aln u8 ∧ ∃ u10, o6 = some u10 ∧ aty (u10 % 32) = some .int ∧ ∃ j11, x2 = nI j11 ∧ j11 < aln u10 ∧ this % 32 = 10 ∧ ∀ o12, o12 = sP (wI (wI σ1 u4 j5 (1 : Int32)) u10 j11 ((sI (wI σ1 u4 j5 (1 : Int32)) this 55) + (sI (wI σ1 u4 j5 (1 : Int32)) u8 j9))) this 17 → this % 32 = 10 ∧ ∀ o13, o13 = sP (wI (wI σ1 u4 j5 (1 : Int32)) u10 j11 ((sI (wI σ1 u4 j5 (1 : Int32)) this 55) + (sI (wI σ1 u4 j5 (1 : Int32)) u8 j9))) this 1 → ∃ u14, o13 = some u14 ∧ aty (u14 % 32) = some .int ∧ ∃ j15, v1 = nI j15 ∧ j15 < aln u14 ∧ ∃ u16, o12 = some u16 ∧ aty (u16 % 32) = some .int ∧ ∃ j17, x2 = nI j17 ∧ j17 < aln u16 ∧ this % 32 = 10 ∧ this % 32 = 10 ∧ ∀ o18, o18 = sP (wI (wI (wI σ1 u4 j5 (1 : Int32)) u10 j11 ((sI (wI σ1 u4 j5 (1 : Int32)) this 55) + (sI (wI σ1 u4 j5 (1 : Int32)) u8 j9))) u16 j17 (v2 * (sI (wI (wI σ1 u4 j5 (1 : Int32)) u10 j11 ((sI (wI σ1 u4 j5 (1 : Int32)) this 55) + (sI (wI σ1 u4 j5 (1 : Int32)) u8 j9))) u14 j15))) this 17 → ∃ u19, o18 = some u19 ∧ aty (u19 % 32) = some .int ∧ ∃ j20, x2 = nI j20 ∧ j20 < aln u19 ∧ this % 32 = 10 ∧ Post (.inl (some (.int x2))) (wI (wI (wI (wI σ1 u4 j5 (1 : Int32)) u10 j11 ((sI (wI σ1 u4 j5 (1 : Int32)) this 55) + (sI (wI σ1 u4 j5 (1 : Int32)) u8 j9))) u16 j17 (v2 * (sI (wI (wI σ1 u4 j5 (1 : Int32)) u10 j11 ((sI (wI σ1 u4 j5 (1 : Int32)) this 55) + (sI (wI σ1 u4 j5 (1 : Int32)) u8 j9))) u14 j15))) this 56 ((sI (wI (wI (wI σ1 u4 j5 (1 : Int32)) u10 j11 ((sI (wI σ1 u4 j5 (1 : Int32)) this 55) + (sI (wI σ1 u4 j5 (1 : Int32)) u8 j9))) u16 j17 (v2 * (sI (wI (wI σ1 u4 j5 (1 : Int32)) u10 j11 ((sI (wI σ1 u4 j5 (1 : Int32)) this 55) + (sI (wI σ1 u4 j5 (1 : Int32)) u8 j9))) u14 j15))) this 56) + (sI (wI (wI (wI σ1 u4 j5 (1 : Int32)) u10 j11 ((sI (wI σ1 u4 j5 (1 : Int32)) this 55) + (sI (wI σ1 u4 j5 (1 : Int32)) u8 j9))) u16 j17 (v2 * (sI (wI (wI σ1 u4 j5 (1 : Int32)) u10 j11 ((sI (wI σ1 u4 j5 (1 : Int32)) this 55) + (sI (wI σ1 u4 j5 (1 : Int32)) u8 j9))) u14 j15))) u19 j20)))) (fun E σ1 => Post (.inr E) σ1))) ∧ (¬ (sI (wI σ s0 59 s1) this 59) ≤ 0 → Post (.inl (some (.int (0 : Int32)))) (wI σ s0 59 s1)))
set_option maxRecDepth 100000 in
set_option maxHeartbeats 4000000 in
theorem wv_X10_buy_50 {L9 : Launch} {G : Cx} {Post : Rs → Sg → Prop} (hl : L9.stackTraces = false) (hG : CX L9 G yX10_buy cX10_buy 4 (some .int) [] { frames := 2, cells := 0, slots := 0, locals := 42 })   : ∀ (this : Nat) (v1 : Int32) (v2 : Int32) (s0 : Nat) (s1 : Int32) (σ : Sg), wp_X10_buy_50 this v1 v2 s0 s1 σ Post → V G (QM G 0 0 Post) 50 [some (.ref this), some (.int v1), some (.int v2), none] [.int s1, .ref s0] σ 0 0 := by
  intro this v1 v2 s0 s1 σ h
  unfold wp_X10_buy_50 at h
  obtain ⟨ht, h⟩ := h
  refine V_putI hG dX10_buy_50 fl_X10_168 rfl (fun e => absurd e (by decide)) rfl ht ?_
  refine V_aload_n (v := .ref this) hG dX10_buy_53 rfl rfl ?_
  obtain ⟨ht, h⟩ := h
  refine V_getI hG dX10_buy_54 fl_X10_168 rfl ht ?_
  refine V_if_le (tgt := 62) hG dX10_buy_57 (by decide) (fun c => ?_) (fun c => ?_)
  · replace h := h.1 c
    refine V_aload_n (v := .ref this) hG dX10_buy_62 rfl rfl ?_
    refine V_iload_n hG dX10_buy_63 rfl ?_
    refine V_iload_n hG dX10_buy_64 rfl ?_
    refine V_iconst (v := 0) hG (by decide) dX10_buy_65 ?_
    obtain ⟨ht, h⟩ := h
    refine V_cVI _ _ hG dX10_buy_66 (ct_X10_newBatch hl h) mv_X10_newBatch ml_X10_212 ht rfl rfl rfl rfl (by first | exact Nat.le_of_ble_eq_true rfl | (simp only [List.map_cons, List.map_nil, List.sum_cons, List.sum_nil, cat_rf]; exact Nat.le_of_ble_eq_true rfl)) (Nat.le_of_ble_eq_true rfl) (Nat.le_of_ble_eq_true rfl) (by first | exact Nat.le_of_ble_eq_true rfl | omega | (dsimp only; omega)) (by first | exact Nat.le_of_ble_eq_true rfl | omega | (dsimp only; omega)) ?_ (fun x2 σ1 h9 => ?_)
    · exact fun E σ1 hx => VX_out hG (by first | exact Nat.le_of_ble_eq_true rfl | omega | (dsimp only; omega)) (by first | exact Nat.le_of_ble_eq_true rfl | omega | (dsimp only; omega)) hx
    · replace h := h9
      clear h9
      refine V_istore_n hG dX10_buy_69 (Nat.le_of_ble_eq_true rfl) (hpV rfl rfl) ?_
      refine V_aload_n (v := .ref this) hG dX10_buy_70 rfl rfl ?_
      obtain ⟨ht, h⟩ := h
      refine V_getPv hG dX10_buy_71 fl_X10_49 rfl ht (fun o3 ho => ?_)
      replace h := h o3 ho
      refine V_iload_n hG dX10_buy_74 rfl ?_
      refine V_iconst (v := 1) hG (by decide) dX10_buy_75 ?_
      obtain ⟨u4, he, h⟩ := h
      subst he
      obtain ⟨ha, j5, hi, hj, h⟩ := h
      obtain ⟨hb, h⟩ := h
      refine V_zast hG dX10_buy_76 ha hb hi hj ?_
      refine V_aload_n (v := .ref this) hG dX10_buy_77 rfl rfl ?_
      obtain ⟨ht, h⟩ := h
      refine V_getPv hG dX10_buy_78 fl_X10_83 rfl ht (fun o6 ho => ?_)
      replace h := h o6 ho
      refine V_iload_n hG dX10_buy_81 rfl ?_
      refine V_aload_n (v := .ref this) hG dX10_buy_82 rfl rfl ?_
      obtain ⟨ht, h⟩ := h
      refine V_getI hG dX10_buy_83 fl_X10_193 rfl ht ?_
      refine V_aload_n (v := .ref this) hG dX10_buy_86 rfl rfl ?_
      obtain ⟨ht, h⟩ := h
      refine V_getPv hG dX10_buy_87 fl_X10_16 rfl ht (fun o7 ho => ?_)
      replace h := h o7 ho
      refine V_iload_n hG dX10_buy_90 rfl ?_
      obtain ⟨u8, he, h⟩ := h
      subst he
      obtain ⟨ha, j9, hi, hj, h⟩ := h
      refine V_iald hG dX10_buy_91 ha hi hj ?_
      refine V_iadd hG dX10_buy_92 ?_
      obtain ⟨u10, he, h⟩ := h
      subst he
      obtain ⟨ha, j11, hi, hj, h⟩ := h
      refine V_iast hG dX10_buy_93 ha hi hj ?_
      refine V_aload_n (v := .ref this) hG dX10_buy_94 rfl rfl ?_
      obtain ⟨ht, h⟩ := h
      refine V_getPv hG dX10_buy_95 fl_X10_59 rfl ht (fun o12 ho => ?_)
      replace h := h o12 ho
      refine V_iload_n hG dX10_buy_98 rfl ?_
      refine V_iload_n hG dX10_buy_99 rfl ?_
      refine V_aload_n (v := .ref this) hG dX10_buy_100 rfl rfl ?_
      obtain ⟨ht, h⟩ := h
      refine V_getPv hG dX10_buy_101 fl_X10_13 rfl ht (fun o13 ho => ?_)
      replace h := h o13 ho
      refine V_iload_n hG dX10_buy_104 rfl ?_
      obtain ⟨u14, he, h⟩ := h
      subst he
      obtain ⟨ha, j15, hi, hj, h⟩ := h
      refine V_iald hG dX10_buy_105 ha hi hj ?_
      refine V_imul hG dX10_buy_106 ?_
      obtain ⟨u16, he, h⟩ := h
      subst he
      obtain ⟨ha, j17, hi, hj, h⟩ := h
      refine V_iast hG dX10_buy_107 ha hi hj ?_
      refine V_aload_n (v := .ref this) hG dX10_buy_108 rfl rfl ?_
      refine V_dup (v := .ref this) hG rfl dX10_buy_109 ?_
      obtain ⟨ht, h⟩ := h
      refine V_getI hG dX10_buy_110 fl_X10_216 rfl ht ?_
      refine V_aload_n (v := .ref this) hG dX10_buy_113 rfl rfl ?_
      obtain ⟨ht, h⟩ := h
      refine V_getPv hG dX10_buy_114 fl_X10_59 rfl ht (fun o18 ho => ?_)
      replace h := h o18 ho
      refine V_iload_n hG dX10_buy_117 rfl ?_
      obtain ⟨u19, he, h⟩ := h
      subst he
      obtain ⟨ha, j20, hi, hj, h⟩ := h
      refine V_iald hG dX10_buy_118 ha hi hj ?_
      refine V_iadd hG dX10_buy_119 ?_
      obtain ⟨ht, h⟩ := h
      refine V_putI hG dX10_buy_120 fl_X10_216 rfl (fun e => absurd e (by decide)) rfl ht ?_
      refine V_iload_n hG dX10_buy_123 rfl ?_
      exact V_iret hG dX10_buy_124 (by first | exact Nat.le_of_ble_eq_true rfl | omega | (dsimp only; omega)) (by first | exact Nat.le_of_ble_eq_true rfl | omega | (dsimp only; omega)) h
  · replace h := h.2 c
    refine V_iconst (v := 0) hG (by decide) dX10_buy_60 ?_
    exact V_iret hG dX10_buy_61 (by first | exact Nat.le_of_ble_eq_true rfl | omega | (dsimp only; omega)) (by first | exact Nat.le_of_ble_eq_true rfl | omega | (dsimp only; omega)) h
def wp_X10_buy_45  (this : Nat) (v1 : Int32) (v2 : Int32) (s0 : Nat) (σ : Sg) (Post : Rs → Sg → Prop) : Prop := (wp_X10_buy_50 this v1 v2 s0 (3 : Int32) σ Post)
set_option maxRecDepth 100000 in
set_option maxHeartbeats 4000000 in
theorem wv_X10_buy_45 {L9 : Launch} {G : Cx} {Post : Rs → Sg → Prop} (hl : L9.stackTraces = false) (hG : CX L9 G yX10_buy cX10_buy 4 (some .int) [] { frames := 2, cells := 0, slots := 0, locals := 42 })   : ∀ (this : Nat) (v1 : Int32) (v2 : Int32) (s0 : Nat) (σ : Sg), wp_X10_buy_45 this v1 v2 s0 σ Post → V G (QM G 0 0 Post) 45 [some (.ref this), some (.int v1), some (.int v2), none] [.ref s0] σ 0 0 := by
  intro this v1 v2 s0 σ h
  unfold wp_X10_buy_45 at h
  refine V_iconst (v := 3) hG (by decide) dX10_buy_45 ?_
  refine V_goto (tgt := 50) hG dX10_buy_46 (by decide) ?_
  refine V_forget (lo' := [some (.ref this), some (.int v1), some (.int v2), none]) ⟨rfl, ⟨rfl, ⟨rfl, trivial⟩⟩⟩ ?_
  refine V_widen (k' := 0) (n' := 0) (by first | exact Nat.le_of_ble_eq_true rfl | omega | (dsimp only; omega)) (by first | exact Nat.le_of_ble_eq_true rfl | omega | (dsimp only; omega)) ?_
  exact wv_X10_buy_50 hl hG  _ _ _ _ _ _ h
def wp_X10_buy (this : Nat) (a0 : Int32) (a1 : Int32) (σ : Sg) (Post : Rs → Sg → Prop) : Prop := wp_X10_isKind a0 σ (KI (fun x2 σ1 => ((¬ x2 = 0 → wp_X10_in a1 (1 : Int32) (20 : Int32) σ1 (KI (fun x4 σ3 => ((¬ x4 = 0 → this % 32 = 10 ∧ ∀ o5, o5 = sP σ3 this 0 → ∃ u6, o5 = some u6 ∧ aty (u6 % 32) = some .int ∧ ∃ j7, a0 = nI j7 ∧ j7 < aln u6 ∧ ((¬ (sI σ3 u6 j7) = (1 : Int32) → (wp_X10_buy_45 this a0 a1 this σ3 Post)) ∧ ((sI σ3 u6 j7) = (1 : Int32) → this % 32 = 10 ∧ ((¬ (sI σ3 this 14) = (60 : Int32) → (wp_X10_buy_50 this a0 a1 this (0 : Int32) σ3 Post)) ∧ ((sI σ3 this 14) = (60 : Int32) → (wp_X10_buy_45 this a0 a1 this σ3 Post)))))) ∧ (x4 = 0 → (wp_X10_buy_50 this a0 a1 this (2 : Int32) σ3 Post)))) (fun E σ3 => Post (.inr E) σ3))) ∧ (x2 = 0 → (wp_X10_buy_50 this a0 a1 this (1 : Int32) σ1 Post)))) (fun E σ1 => Post (.inr E) σ1))
set_option maxRecDepth 100000 in
set_option maxHeartbeats 4000000 in
theorem ct_X10_buy {l : Launch} (hl : l.stackTraces = false) {this : Nat} {a0 : Int32} {a1 : Int32} {σ : Sg} {Post : Rs → Sg → Prop} (h : wp_X10_buy this a0 a1 σ Post) : Ct l yX10_buy (.code yX10_buy cX10_buy 4 (some .int)) 2 42 0 0 [.ref this, .int a0, .int a1] σ Post := by
  refine Ct_of [some (.ref this), some (.int a0), some (.int a1), none] hl (by decide +kernel) rfl (fun ad => by rfl) (fun ad => by exact Nat.le_of_ble_eq_true rfl) (fun v hv => mem_lo hv rfl) ?_
  intro G hG
  unfold wp_X10_buy at h
  refine V_aload_n (v := .ref this) hG dX10_buy_0 rfl rfl ?_
  refine V_iload_n hG dX10_buy_1 rfl ?_
  refine V_cSI _ _ hG dX10_buy_2 (ct_X10_isKind hl h) mv_X10_isKind ml_X10_179 rfl rfl (by first | exact Nat.le_of_ble_eq_true rfl | (simp only [List.map_cons, List.map_nil, List.sum_cons, List.sum_nil, cat_rf]; exact Nat.le_of_ble_eq_true rfl)) (Nat.le_of_ble_eq_true rfl) (Nat.le_of_ble_eq_true rfl) (by first | exact Nat.le_of_ble_eq_true rfl | omega | (dsimp only; omega)) (by first | exact Nat.le_of_ble_eq_true rfl | omega | (dsimp only; omega)) ?_ (fun x2 σ1 h9 => ?_)
  · exact fun E σ1 hx => VX_out hG (by first | exact Nat.le_of_ble_eq_true rfl | omega | (dsimp only; omega)) (by first | exact Nat.le_of_ble_eq_true rfl | omega | (dsimp only; omega)) hx
  · replace h := h9
    clear h9
    refine V_if_ne (tgt := 12) hG dX10_buy_5 (by decide) (fun c => ?_) (fun c => ?_)
    · replace h := h.1 c
      refine V_iload_n hG dX10_buy_12 rfl ?_
      refine V_iconst (v := 1) hG (by decide) dX10_buy_13 ?_
      refine V_bipush (v := 20) hG (by decide) dX10_buy_14 ?_
      refine V_cSI _ _ hG dX10_buy_16 (ct_X10_in hl h) mv_X10_in ml_X10_172 rfl rfl (by first | exact Nat.le_of_ble_eq_true rfl | (simp only [List.map_cons, List.map_nil, List.sum_cons, List.sum_nil, cat_rf]; exact Nat.le_of_ble_eq_true rfl)) (Nat.le_of_ble_eq_true rfl) (Nat.le_of_ble_eq_true rfl) (by first | exact Nat.le_of_ble_eq_true rfl | omega | (dsimp only; omega)) (by first | exact Nat.le_of_ble_eq_true rfl | omega | (dsimp only; omega)) ?_ (fun x4 σ3 h9 => ?_)
      · exact fun E σ3 hx => VX_out hG (by first | exact Nat.le_of_ble_eq_true rfl | omega | (dsimp only; omega)) (by first | exact Nat.le_of_ble_eq_true rfl | omega | (dsimp only; omega)) hx
      · replace h := h9
        clear h9
        refine V_if_ne (tgt := 26) hG dX10_buy_19 (by decide) (fun c => ?_) (fun c => ?_)
        · replace h := h.1 c
          refine V_aload_n (v := .ref this) hG dX10_buy_26 rfl rfl ?_
          obtain ⟨ht, h⟩ := h
          refine V_getPv hG dX10_buy_27 fl_X10_7 rfl ht (fun o5 ho => ?_)
          replace h := h o5 ho
          refine V_iload_n hG dX10_buy_30 rfl ?_
          obtain ⟨u6, he, h⟩ := h
          subst he
          obtain ⟨ha, j7, hi, hj, h⟩ := h
          refine V_iald hG dX10_buy_31 ha hi hj ?_
          refine V_iconst (v := 1) hG (by decide) dX10_buy_32 ?_
          refine V_icmp_ne (tgt := 45) hG dX10_buy_33 (by decide) (fun c => ?_) (fun c => ?_)
          · replace h := h.1 c
            refine V_forget (lo' := [some (.ref this), some (.int a0), some (.int a1), none]) ⟨rfl, ⟨rfl, ⟨rfl, trivial⟩⟩⟩ ?_
            refine V_widen (k' := 0) (n' := 0) (by first | exact Nat.le_of_ble_eq_true rfl | omega | (dsimp only; omega)) (by first | exact Nat.le_of_ble_eq_true rfl | omega | (dsimp only; omega)) ?_
            exact wv_X10_buy_45 hl hG  _ _ _ _ _ h
          · replace h := h.2 c
            refine V_aload_n (v := .ref this) hG dX10_buy_36 rfl rfl ?_
            obtain ⟨ht, h⟩ := h
            refine V_getI hG dX10_buy_37 fl_X10_176 rfl ht ?_
            refine V_bipush (v := 60) hG (by decide) dX10_buy_40 ?_
            refine V_icmp_ne (tgt := 49) hG dX10_buy_42 (by decide) (fun c => ?_) (fun c => ?_)
            · replace h := h.1 c
              refine V_iconst (v := 0) hG (by decide) dX10_buy_49 ?_
              refine V_forget (lo' := [some (.ref this), some (.int a0), some (.int a1), none]) ⟨rfl, ⟨rfl, ⟨rfl, trivial⟩⟩⟩ ?_
              refine V_widen (k' := 0) (n' := 0) (by first | exact Nat.le_of_ble_eq_true rfl | omega | (dsimp only; omega)) (by first | exact Nat.le_of_ble_eq_true rfl | omega | (dsimp only; omega)) ?_
              exact wv_X10_buy_50 hl hG  _ _ _ _ _ _ h
            · replace h := h.2 c
              refine V_forget (lo' := [some (.ref this), some (.int a0), some (.int a1), none]) ⟨rfl, ⟨rfl, ⟨rfl, trivial⟩⟩⟩ ?_
              refine V_widen (k' := 0) (n' := 0) (by first | exact Nat.le_of_ble_eq_true rfl | omega | (dsimp only; omega)) (by first | exact Nat.le_of_ble_eq_true rfl | omega | (dsimp only; omega)) ?_
              exact wv_X10_buy_45 hl hG  _ _ _ _ _ h
        · replace h := h.2 c
          refine V_iconst (v := 2) hG (by decide) dX10_buy_22 ?_
          refine V_goto (tgt := 50) hG dX10_buy_23 (by decide) ?_
          refine V_forget (lo' := [some (.ref this), some (.int a0), some (.int a1), none]) ⟨rfl, ⟨rfl, ⟨rfl, trivial⟩⟩⟩ ?_
          refine V_widen (k' := 0) (n' := 0) (by first | exact Nat.le_of_ble_eq_true rfl | omega | (dsimp only; omega)) (by first | exact Nat.le_of_ble_eq_true rfl | omega | (dsimp only; omega)) ?_
          exact wv_X10_buy_50 hl hG  _ _ _ _ _ _ h
    · replace h := h.2 c
      refine V_iconst (v := 1) hG (by decide) dX10_buy_8 ?_
      refine V_goto (tgt := 50) hG dX10_buy_9 (by decide) ?_
      refine V_forget (lo' := [some (.ref this), some (.int a0), some (.int a1), none]) ⟨rfl, ⟨rfl, ⟨rfl, trivial⟩⟩⟩ ?_
      refine V_widen (k' := 0) (n' := 0) (by first | exact Nat.le_of_ble_eq_true rfl | omega | (dsimp only; omega)) (by first | exact Nat.le_of_ble_eq_true rfl | omega | (dsimp only; omega)) ?_
      exact wv_X10_buy_50 hl hG  _ _ _ _ _ _ h
def wp_X10_late_41  (this : Nat) (v1 : Int32) (v2 : Int32) (s0 : Nat) (s1 : Int32) (σ : Sg) (Post : Rs → Sg → Prop) : Prop := s0 % 32 = 10 ∧ this % 32 = 10 ∧ (((sI (wI σ s0 59 s1) this 59) ≤ 0 → this % 32 = 10 ∧ ∀ o1, o1 = sP (wI σ s0 59 s1) this 25 → ∃ u2, o1 = some u2 ∧ aty (u2 % 32) = some .int ∧ ∃ j3, v1 = nI j3 ∧ j3 < aln u2 ∧ aty (u2 % 32) = some .int ∧ ∃ j4, v1 = nI j4 ∧ j4 < aln u2 ∧ this % 32 = 10 ∧ ∀ o5, o5 = sP (wI (wI σ s0 59 s1) u2 j4 ((sI (wI σ s0 59 s1) u2 j3) + v2)) this 25 → ∃ u6, o5 = some u6 ∧ aty (u6 % 32) = some .int ∧ ∃ j7, v1 = nI j7 ∧ j7 < aln u6 ∧ Post (.inl (some (.int (sI (wI (wI σ s0 59 s1) u2 j4 ((sI (wI σ s0 59 s1) u2 j3) + v2)) u6 j7)))) (wI (wI σ s0 59 s1) u2 j4 ((sI (wI σ s0 59 s1) u2 j3) + v2))) ∧ (¬ (sI (wI σ s0 59 s1) this 59) ≤ 0 → Post (.inl (some (.int (0 : Int32)))) (wI σ s0 59 s1)))
set_option maxRecDepth 100000 in
set_option maxHeartbeats 4000000 in
theorem wv_X10_late_41 {L9 : Launch} {G : Cx} {Post : Rs → Sg → Prop} (hl : L9.stackTraces = false) (hG : CX L9 G yX10_late cX10_late 3 (some .int) [] { frames := 2, cells := 0, slots := 0, locals := 43 })   : ∀ (this : Nat) (v1 : Int32) (v2 : Int32) (s0 : Nat) (s1 : Int32) (σ : Sg), wp_X10_late_41 this v1 v2 s0 s1 σ Post → V G (QM G 0 0 Post) 41 [some (.ref this), some (.int v1), some (.int v2)] [.int s1, .ref s0] σ 0 0 := by
  intro this v1 v2 s0 s1 σ h
  unfold wp_X10_late_41 at h
  obtain ⟨ht, h⟩ := h
  refine V_putI hG dX10_late_41 fl_X10_168 rfl (fun e => absurd e (by decide)) rfl ht ?_
  refine V_aload_n (v := .ref this) hG dX10_late_44 rfl rfl ?_
  obtain ⟨ht, h⟩ := h
  refine V_getI hG dX10_late_45 fl_X10_168 rfl ht ?_
  refine V_if_le (tgt := 53) hG dX10_late_48 (by decide) (fun c => ?_) (fun c => ?_)
  · replace h := h.1 c
    refine V_aload_n (v := .ref this) hG dX10_late_53 rfl rfl ?_
    obtain ⟨ht, h⟩ := h
    refine V_getPv hG dX10_late_54 fl_X10_83 rfl ht (fun o1 ho => ?_)
    replace h := h o1 ho
    refine V_iload_n hG dX10_late_57 rfl ?_
    refine V_dup2 hG rfl (cat_rf _) dX10_late_58 ?_
    obtain ⟨u2, he, h⟩ := h
    subst he
    obtain ⟨ha, j3, hi, hj, h⟩ := h
    refine V_iald hG dX10_late_59 ha hi hj ?_
    refine V_iload_n hG dX10_late_60 rfl ?_
    refine V_iadd hG dX10_late_61 ?_
    obtain ⟨ha, j4, hi, hj, h⟩ := h
    refine V_iast hG dX10_late_62 ha hi hj ?_
    refine V_aload_n (v := .ref this) hG dX10_late_63 rfl rfl ?_
    obtain ⟨ht, h⟩ := h
    refine V_getPv hG dX10_late_64 fl_X10_83 rfl ht (fun o5 ho => ?_)
    replace h := h o5 ho
    refine V_iload_n hG dX10_late_67 rfl ?_
    obtain ⟨u6, he, h⟩ := h
    subst he
    obtain ⟨ha, j7, hi, hj, h⟩ := h
    refine V_iald hG dX10_late_68 ha hi hj ?_
    exact V_iret hG dX10_late_69 (by first | exact Nat.le_of_ble_eq_true rfl | omega | (dsimp only; omega)) (by first | exact Nat.le_of_ble_eq_true rfl | omega | (dsimp only; omega)) h
  · replace h := h.2 c
    refine V_iconst (v := 0) hG (by decide) dX10_late_51 ?_
    exact V_iret hG dX10_late_52 (by first | exact Nat.le_of_ble_eq_true rfl | omega | (dsimp only; omega)) (by first | exact Nat.le_of_ble_eq_true rfl | omega | (dsimp only; omega)) h
def wp_X10_late (this : Nat) (a0 : Int32) (a1 : Int32) (σ : Sg) (Post : Rs → Sg → Prop) : Prop := this % 32 = 10 ∧ wp_X10_isBatch this a0 σ (KI (fun x2 σ1 => ((¬ x2 = 0 → wp_X10_in a1 (1 : Int32) (30 : Int32) σ1 (KI (fun x4 σ3 => ((¬ x4 = 0 → this % 32 = 10 ∧ ∀ o5, o5 = sP σ3 this 18 → ∃ u6, o5 = some u6 ∧ aty (u6 % 32) = some .int ∧ ∃ j7, a0 = nI j7 ∧ j7 < aln u6 ∧ (((sI σ3 u6 j7) = 0 → (wp_X10_late_41 this a0 a1 this (0 : Int32) σ3 Post)) ∧ (¬ (sI σ3 u6 j7) = 0 → (wp_X10_late_41 this a0 a1 this (3 : Int32) σ3 Post)))) ∧ (x4 = 0 → (wp_X10_late_41 this a0 a1 this (2 : Int32) σ3 Post)))) (fun E σ3 => Post (.inr E) σ3))) ∧ (x2 = 0 → (wp_X10_late_41 this a0 a1 this (1 : Int32) σ1 Post)))) (fun E σ1 => Post (.inr E) σ1))
set_option maxRecDepth 100000 in
set_option maxHeartbeats 4000000 in
theorem ct_X10_late {l : Launch} (hl : l.stackTraces = false) {this : Nat} {a0 : Int32} {a1 : Int32} {σ : Sg} {Post : Rs → Sg → Prop} (h : wp_X10_late this a0 a1 σ Post) : Ct l yX10_late (.code yX10_late cX10_late 3 (some .int)) 2 43 0 0 [.ref this, .int a0, .int a1] σ Post := by
  refine Ct_of [some (.ref this), some (.int a0), some (.int a1)] hl (by decide +kernel) rfl (fun ad => by rfl) (fun ad => by exact Nat.le_of_ble_eq_true rfl) (fun v hv => mem_lo hv rfl) ?_
  intro G hG
  unfold wp_X10_late at h
  refine V_aload_n (v := .ref this) hG dX10_late_0 rfl rfl ?_
  refine V_aload_n (v := .ref this) hG dX10_late_1 rfl rfl ?_
  refine V_iload_n hG dX10_late_2 rfl ?_
  obtain ⟨ht, h⟩ := h
  refine V_cVI _ _ hG dX10_late_3 (ct_X10_isBatch hl h) mv_X10_isBatch ml_X10_219 ht rfl rfl rfl rfl (by first | exact Nat.le_of_ble_eq_true rfl | (simp only [List.map_cons, List.map_nil, List.sum_cons, List.sum_nil, cat_rf]; exact Nat.le_of_ble_eq_true rfl)) (Nat.le_of_ble_eq_true rfl) (Nat.le_of_ble_eq_true rfl) (by first | exact Nat.le_of_ble_eq_true rfl | omega | (dsimp only; omega)) (by first | exact Nat.le_of_ble_eq_true rfl | omega | (dsimp only; omega)) ?_ (fun x2 σ1 h9 => ?_)
  · exact fun E σ1 hx => VX_out hG (by first | exact Nat.le_of_ble_eq_true rfl | omega | (dsimp only; omega)) (by first | exact Nat.le_of_ble_eq_true rfl | omega | (dsimp only; omega)) hx
  · replace h := h9
    clear h9
    refine V_if_ne (tgt := 13) hG dX10_late_6 (by decide) (fun c => ?_) (fun c => ?_)
    · replace h := h.1 c
      refine V_iload_n hG dX10_late_13 rfl ?_
      refine V_iconst (v := 1) hG (by decide) dX10_late_14 ?_
      refine V_bipush (v := 30) hG (by decide) dX10_late_15 ?_
      refine V_cSI _ _ hG dX10_late_17 (ct_X10_in hl h) mv_X10_in ml_X10_172 rfl rfl (by first | exact Nat.le_of_ble_eq_true rfl | (simp only [List.map_cons, List.map_nil, List.sum_cons, List.sum_nil, cat_rf]; exact Nat.le_of_ble_eq_true rfl)) (Nat.le_of_ble_eq_true rfl) (Nat.le_of_ble_eq_true rfl) (by first | exact Nat.le_of_ble_eq_true rfl | omega | (dsimp only; omega)) (by first | exact Nat.le_of_ble_eq_true rfl | omega | (dsimp only; omega)) ?_ (fun x4 σ3 h9 => ?_)
      · exact fun E σ3 hx => VX_out hG (by first | exact Nat.le_of_ble_eq_true rfl | omega | (dsimp only; omega)) (by first | exact Nat.le_of_ble_eq_true rfl | omega | (dsimp only; omega)) hx
      · replace h := h9
        clear h9
        refine V_if_ne (tgt := 27) hG dX10_late_20 (by decide) (fun c => ?_) (fun c => ?_)
        · replace h := h.1 c
          refine V_aload_n (v := .ref this) hG dX10_late_27 rfl rfl ?_
          obtain ⟨ht, h⟩ := h
          refine V_getPv hG dX10_late_28 fl_X10_62 rfl ht (fun o5 ho => ?_)
          replace h := h o5 ho
          refine V_iload_n hG dX10_late_31 rfl ?_
          obtain ⟨u6, he, h⟩ := h
          subst he
          obtain ⟨ha, j7, hi, hj, h⟩ := h
          refine V_iald hG dX10_late_32 ha hi hj ?_
          refine V_if_eq (tgt := 40) hG dX10_late_33 (by decide) (fun c => ?_) (fun c => ?_)
          · replace h := h.1 c
            refine V_iconst (v := 0) hG (by decide) dX10_late_40 ?_
            refine V_forget (lo' := [some (.ref this), some (.int a0), some (.int a1)]) ⟨rfl, ⟨rfl, ⟨rfl, trivial⟩⟩⟩ ?_
            refine V_widen (k' := 0) (n' := 0) (by first | exact Nat.le_of_ble_eq_true rfl | omega | (dsimp only; omega)) (by first | exact Nat.le_of_ble_eq_true rfl | omega | (dsimp only; omega)) ?_
            exact wv_X10_late_41 hl hG  _ _ _ _ _ _ h
          · replace h := h.2 c
            refine V_iconst (v := 3) hG (by decide) dX10_late_36 ?_
            refine V_goto (tgt := 41) hG dX10_late_37 (by decide) ?_
            refine V_forget (lo' := [some (.ref this), some (.int a0), some (.int a1)]) ⟨rfl, ⟨rfl, ⟨rfl, trivial⟩⟩⟩ ?_
            refine V_widen (k' := 0) (n' := 0) (by first | exact Nat.le_of_ble_eq_true rfl | omega | (dsimp only; omega)) (by first | exact Nat.le_of_ble_eq_true rfl | omega | (dsimp only; omega)) ?_
            exact wv_X10_late_41 hl hG  _ _ _ _ _ _ h
        · replace h := h.2 c
          refine V_iconst (v := 2) hG (by decide) dX10_late_23 ?_
          refine V_goto (tgt := 41) hG dX10_late_24 (by decide) ?_
          refine V_forget (lo' := [some (.ref this), some (.int a0), some (.int a1)]) ⟨rfl, ⟨rfl, ⟨rfl, trivial⟩⟩⟩ ?_
          refine V_widen (k' := 0) (n' := 0) (by first | exact Nat.le_of_ble_eq_true rfl | omega | (dsimp only; omega)) (by first | exact Nat.le_of_ble_eq_true rfl | omega | (dsimp only; omega)) ?_
          exact wv_X10_late_41 hl hG  _ _ _ _ _ _ h
    · replace h := h.2 c
      refine V_iconst (v := 1) hG (by decide) dX10_late_9 ?_
      refine V_goto (tgt := 41) hG dX10_late_10 (by decide) ?_
      refine V_forget (lo' := [some (.ref this), some (.int a0), some (.int a1)]) ⟨rfl, ⟨rfl, ⟨rfl, trivial⟩⟩⟩ ?_
      refine V_widen (k' := 0) (n' := 0) (by first | exact Nat.le_of_ble_eq_true rfl | omega | (dsimp only; omega)) (by first | exact Nat.le_of_ble_eq_true rfl | omega | (dsimp only; omega)) ?_
      exact wv_X10_late_41 hl hG  _ _ _ _ _ _ h
def wp_X10_make_75  (this : Nat) (v1 : Int32) (v2 : Int32) (v3 : Int32) (s0 : Nat) (s1 : Int32) (σ : Sg) (Post : Rs → Sg → Prop) : Prop := s0 % 32 = 10 ∧ this % 32 = 10 ∧ (((sI (wI σ s0 59 s1) this 59) ≤ 0 → this % 32 = 10 ∧ wp_X10_newBatch this v1 v2 (1 : Int32) (wI σ s0 59 s1) (KI (fun x2 σ1 => this % 32 = 10 ∧ ∀ o3, o3 = sP σ1 this 13 → ∃ u4, o3 = some u4 ∧ aty (u4 % 32) = some .boolean ∧ ∃ j5, v1 = nI j5 ∧ j5 < aln u4 ∧ b01 (1 : Int32) ∧ this % 32 = 10 ∧ ∀ o6, o6 = sP (wI σ1 u4 j5 (1 : Int32)) this 20 → ∃ u7, o6 = some u7 ∧ aty (u7 % 32) = some .int ∧ ∃ j8, x2 = nI j8 ∧ j8 < aln u7 ∧ Post (.inl (some (.int x2))) (wI (wI σ1 u4 j5 (1 : Int32)) u7 j8 v3)) (fun E σ1 => Post (.inr E) σ1))) ∧ (¬ (sI (wI σ s0 59 s1) this 59) ≤ 0 → Post (.inl (some (.int (0 : Int32)))) (wI σ s0 59 s1)))
set_option maxRecDepth 100000 in
set_option maxHeartbeats 4000000 in
theorem wv_X10_make_75 {L9 : Launch} {G : Cx} {Post : Rs → Sg → Prop} (hl : L9.stackTraces = false) (hG : CX L9 G yX10_make cX10_make 5 (some .int) [] { frames := 3, cells := 0, slots := 0, locals := 65 })   : ∀ (this : Nat) (v1 : Int32) (v2 : Int32) (v3 : Int32) (s0 : Nat) (s1 : Int32) (σ : Sg), wp_X10_make_75 this v1 v2 v3 s0 s1 σ Post → V G (QM G 0 0 Post) 75 [some (.ref this), some (.int v1), some (.int v2), some (.int v3), none] [.int s1, .ref s0] σ 0 0 := by
  intro this v1 v2 v3 s0 s1 σ h
  unfold wp_X10_make_75 at h
  obtain ⟨ht, h⟩ := h
  refine V_putI hG dX10_make_75 fl_X10_168 rfl (fun e => absurd e (by decide)) rfl ht ?_
  refine V_aload_n (v := .ref this) hG dX10_make_78 rfl rfl ?_
  obtain ⟨ht, h⟩ := h
  refine V_getI hG dX10_make_79 fl_X10_168 rfl ht ?_
  refine V_if_le (tgt := 87) hG dX10_make_82 (by decide) (fun c => ?_) (fun c => ?_)
  · replace h := h.1 c
    refine V_aload_n (v := .ref this) hG dX10_make_87 rfl rfl ?_
    refine V_iload_n hG dX10_make_88 rfl ?_
    refine V_iload_n hG dX10_make_89 rfl ?_
    refine V_iconst (v := 1) hG (by decide) dX10_make_90 ?_
    obtain ⟨ht, h⟩ := h
    refine V_cVI _ _ hG dX10_make_91 (ct_X10_newBatch hl h) mv_X10_newBatch ml_X10_212 ht rfl rfl rfl rfl (by first | exact Nat.le_of_ble_eq_true rfl | (simp only [List.map_cons, List.map_nil, List.sum_cons, List.sum_nil, cat_rf]; exact Nat.le_of_ble_eq_true rfl)) (Nat.le_of_ble_eq_true rfl) (Nat.le_of_ble_eq_true rfl) (by first | exact Nat.le_of_ble_eq_true rfl | omega | (dsimp only; omega)) (by first | exact Nat.le_of_ble_eq_true rfl | omega | (dsimp only; omega)) ?_ (fun x2 σ1 h9 => ?_)
    · exact fun E σ1 hx => VX_out hG (by first | exact Nat.le_of_ble_eq_true rfl | omega | (dsimp only; omega)) (by first | exact Nat.le_of_ble_eq_true rfl | omega | (dsimp only; omega)) hx
    · replace h := h9
      clear h9
      refine V_istore hG dX10_make_94 (Nat.le_of_ble_eq_true rfl) (hpV rfl rfl) ?_
      refine V_aload_n (v := .ref this) hG dX10_make_96 rfl rfl ?_
      obtain ⟨ht, h⟩ := h
      refine V_getPv hG dX10_make_97 fl_X10_49 rfl ht (fun o3 ho => ?_)
      replace h := h o3 ho
      refine V_iload_n hG dX10_make_100 rfl ?_
      refine V_iconst (v := 1) hG (by decide) dX10_make_101 ?_
      obtain ⟨u4, he, h⟩ := h
      subst he
      obtain ⟨ha, j5, hi, hj, h⟩ := h
      obtain ⟨hb, h⟩ := h
      refine V_zast hG dX10_make_102 ha hb hi hj ?_
      refine V_aload_n (v := .ref this) hG dX10_make_103 rfl rfl ?_
      obtain ⟨ht, h⟩ := h
      refine V_getPv hG dX10_make_104 fl_X10_68 rfl ht (fun o6 ho => ?_)
      replace h := h o6 ho
      refine V_iload hG dX10_make_107 rfl ?_
      refine V_iload_n hG dX10_make_109 rfl ?_
      obtain ⟨u7, he, h⟩ := h
      subst he
      obtain ⟨ha, j8, hi, hj, h⟩ := h
      refine V_iast hG dX10_make_110 ha hi hj ?_
      refine V_iload hG dX10_make_111 rfl ?_
      exact V_iret hG dX10_make_113 (by first | exact Nat.le_of_ble_eq_true rfl | omega | (dsimp only; omega)) (by first | exact Nat.le_of_ble_eq_true rfl | omega | (dsimp only; omega)) h
  · replace h := h.2 c
    refine V_iconst (v := 0) hG (by decide) dX10_make_85 ?_
    exact V_iret hG dX10_make_86 (by first | exact Nat.le_of_ble_eq_true rfl | omega | (dsimp only; omega)) (by first | exact Nat.le_of_ble_eq_true rfl | omega | (dsimp only; omega)) h
def wp_X10_make_32  (this : Nat) (v1 : Int32) (v2 : Int32) (v3 : Int32) (s0 : Nat) (σ : Sg) (Post : Rs → Sg → Prop) : Prop := (wp_X10_make_75 this v1 v2 v3 s0 (2 : Int32) σ Post)
set_option maxRecDepth 100000 in
set_option maxHeartbeats 4000000 in
theorem wv_X10_make_32 {L9 : Launch} {G : Cx} {Post : Rs → Sg → Prop} (hl : L9.stackTraces = false) (hG : CX L9 G yX10_make cX10_make 5 (some .int) [] { frames := 3, cells := 0, slots := 0, locals := 65 })   : ∀ (this : Nat) (v1 : Int32) (v2 : Int32) (v3 : Int32) (s0 : Nat) (σ : Sg), wp_X10_make_32 this v1 v2 v3 s0 σ Post → V G (QM G 0 0 Post) 32 [some (.ref this), some (.int v1), some (.int v2), some (.int v3), none] [.ref s0] σ 0 0 := by
  intro this v1 v2 v3 s0 σ h
  unfold wp_X10_make_32 at h
  refine V_iconst (v := 2) hG (by decide) dX10_make_32 ?_
  refine V_goto (tgt := 75) hG dX10_make_33 (by decide) ?_
  refine V_forget (lo' := [some (.ref this), some (.int v1), some (.int v2), some (.int v3), none]) ⟨rfl, ⟨rfl, ⟨rfl, ⟨rfl, trivial⟩⟩⟩⟩ ?_
  refine V_widen (k' := 0) (n' := 0) (by first | exact Nat.le_of_ble_eq_true rfl | omega | (dsimp only; omega)) (by first | exact Nat.le_of_ble_eq_true rfl | omega | (dsimp only; omega)) ?_
  exact wv_X10_make_75 hl hG  _ _ _ _ _ _ _ h
def wp_X10_make_70  (this : Nat) (v1 : Int32) (v2 : Int32) (v3 : Int32) (s0 : Nat) (σ : Sg) (Post : Rs → Sg → Prop) : Prop := (wp_X10_make_75 this v1 v2 v3 s0 (3 : Int32) σ Post)
set_option maxRecDepth 100000 in
set_option maxHeartbeats 4000000 in
theorem wv_X10_make_70 {L9 : Launch} {G : Cx} {Post : Rs → Sg → Prop} (hl : L9.stackTraces = false) (hG : CX L9 G yX10_make cX10_make 5 (some .int) [] { frames := 3, cells := 0, slots := 0, locals := 65 })   : ∀ (this : Nat) (v1 : Int32) (v2 : Int32) (v3 : Int32) (s0 : Nat) (σ : Sg), wp_X10_make_70 this v1 v2 v3 s0 σ Post → V G (QM G 0 0 Post) 70 [some (.ref this), some (.int v1), some (.int v2), some (.int v3), none] [.ref s0] σ 0 0 := by
  intro this v1 v2 v3 s0 σ h
  unfold wp_X10_make_70 at h
  refine V_iconst (v := 3) hG (by decide) dX10_make_70 ?_
  refine V_goto (tgt := 75) hG dX10_make_71 (by decide) ?_
  refine V_forget (lo' := [some (.ref this), some (.int v1), some (.int v2), some (.int v3), none]) ⟨rfl, ⟨rfl, ⟨rfl, ⟨rfl, trivial⟩⟩⟩⟩ ?_
  refine V_widen (k' := 0) (n' := 0) (by first | exact Nat.le_of_ble_eq_true rfl | omega | (dsimp only; omega)) (by first | exact Nat.le_of_ble_eq_true rfl | omega | (dsimp only; omega)) ?_
  exact wv_X10_make_75 hl hG  _ _ _ _ _ _ _ h
def wp_X10_make (this : Nat) (a0 : Int32) (a1 : Int32) (a2 : Int32) (σ : Sg) (Post : Rs → Sg → Prop) : Prop := wp_X10_isKind a0 σ (KI (fun x2 σ1 => ((¬ x2 = 0 → wp_X10_in a1 (1 : Int32) (20 : Int32) σ1 (KI (fun x4 σ3 => ((x4 = 0 → (wp_X10_make_32 this a0 a1 a2 this σ3 Post)) ∧ (¬ x4 = 0 → wp_X10_in a2 (0 : Int32) (9 : Int32) σ3 (KI (fun x6 σ5 => ((¬ x6 = 0 → this % 32 = 10 ∧ ∀ o7, o7 = sP σ5 this 0 → ∃ u8, o7 = some u8 ∧ aty (u8 % 32) = some .int ∧ ∃ j9, a0 = nI j9 ∧ j9 < aln u8 ∧ ((¬ (sI σ5 u8 j9) = (2 : Int32) → (wp_X10_make_70 this a0 a1 a2 this σ5 Post)) ∧ ((sI σ5 u8 j9) = (2 : Int32) → this % 32 = 10 ∧ ∀ o10, o10 = sP σ5 this 8 → ∃ u11, o10 = some u11 ∧ aty (u11 % 32) = some .int ∧ ∃ j12, ((4 : Int32) * a0) = nI j12 ∧ j12 < aln u11 ∧ this % 32 = 10 ∧ wp_X10_hasRoom this (sI σ5 u11 j12) σ5 (KI (fun x14 σ13 => ((x14 = 0 → (wp_X10_make_70 this a0 a1 a2 this σ13 Post)) ∧ (¬ x14 = 0 → this % 32 = 10 ∧ ((¬ (sI σ13 this 14) = (60 : Int32) → (wp_X10_make_75 this a0 a1 a2 this (0 : Int32) σ13 Post)) ∧ ((sI σ13 this 14) = (60 : Int32) → (wp_X10_make_70 this a0 a1 a2 this σ13 Post)))))) (fun E σ13 => Post (.inr E) σ13))))) ∧ (x6 = 0 → (wp_X10_make_32 this a0 a1 a2 this σ5 Post)))) (fun E σ5 => Post (.inr E) σ5))))) (fun E σ3 => Post (.inr E) σ3))) ∧ (x2 = 0 → (wp_X10_make_75 this a0 a1 a2 this (1 : Int32) σ1 Post)))) (fun E σ1 => Post (.inr E) σ1))
set_option maxRecDepth 100000 in
set_option maxHeartbeats 4000000 in
theorem ct_X10_make {l : Launch} (hl : l.stackTraces = false) {this : Nat} {a0 : Int32} {a1 : Int32} {a2 : Int32} {σ : Sg} {Post : Rs → Sg → Prop} (h : wp_X10_make this a0 a1 a2 σ Post) : Ct l yX10_make (.code yX10_make cX10_make 5 (some .int)) 3 65 0 0 [.ref this, .int a0, .int a1, .int a2] σ Post := by
  refine Ct_of [some (.ref this), some (.int a0), some (.int a1), some (.int a2), none] hl (by decide +kernel) rfl (fun ad => by rfl) (fun ad => by exact Nat.le_of_ble_eq_true rfl) (fun v hv => mem_lo hv rfl) ?_
  intro G hG
  unfold wp_X10_make at h
  refine V_aload_n (v := .ref this) hG dX10_make_0 rfl rfl ?_
  refine V_iload_n hG dX10_make_1 rfl ?_
  refine V_cSI _ _ hG dX10_make_2 (ct_X10_isKind hl h) mv_X10_isKind ml_X10_179 rfl rfl (by first | exact Nat.le_of_ble_eq_true rfl | (simp only [List.map_cons, List.map_nil, List.sum_cons, List.sum_nil, cat_rf]; exact Nat.le_of_ble_eq_true rfl)) (Nat.le_of_ble_eq_true rfl) (Nat.le_of_ble_eq_true rfl) (by first | exact Nat.le_of_ble_eq_true rfl | omega | (dsimp only; omega)) (by first | exact Nat.le_of_ble_eq_true rfl | omega | (dsimp only; omega)) ?_ (fun x2 σ1 h9 => ?_)
  · exact fun E σ1 hx => VX_out hG (by first | exact Nat.le_of_ble_eq_true rfl | omega | (dsimp only; omega)) (by first | exact Nat.le_of_ble_eq_true rfl | omega | (dsimp only; omega)) hx
  · replace h := h9
    clear h9
    refine V_if_ne (tgt := 12) hG dX10_make_5 (by decide) (fun c => ?_) (fun c => ?_)
    · replace h := h.1 c
      refine V_iload_n hG dX10_make_12 rfl ?_
      refine V_iconst (v := 1) hG (by decide) dX10_make_13 ?_
      refine V_bipush (v := 20) hG (by decide) dX10_make_14 ?_
      refine V_cSI _ _ hG dX10_make_16 (ct_X10_in hl h) mv_X10_in ml_X10_172 rfl rfl (by first | exact Nat.le_of_ble_eq_true rfl | (simp only [List.map_cons, List.map_nil, List.sum_cons, List.sum_nil, cat_rf]; exact Nat.le_of_ble_eq_true rfl)) (Nat.le_of_ble_eq_true rfl) (Nat.le_of_ble_eq_true rfl) (by first | exact Nat.le_of_ble_eq_true rfl | omega | (dsimp only; omega)) (by first | exact Nat.le_of_ble_eq_true rfl | omega | (dsimp only; omega)) ?_ (fun x4 σ3 h9 => ?_)
      · exact fun E σ3 hx => VX_out hG (by first | exact Nat.le_of_ble_eq_true rfl | omega | (dsimp only; omega)) (by first | exact Nat.le_of_ble_eq_true rfl | omega | (dsimp only; omega)) hx
      · replace h := h9
        clear h9
        refine V_if_eq (tgt := 32) hG dX10_make_19 (by decide) (fun c => ?_) (fun c => ?_)
        · replace h := h.1 c
          refine V_forget (lo' := [some (.ref this), some (.int a0), some (.int a1), some (.int a2), none]) ⟨rfl, ⟨rfl, ⟨rfl, ⟨rfl, trivial⟩⟩⟩⟩ ?_
          refine V_widen (k' := 0) (n' := 0) (by first | exact Nat.le_of_ble_eq_true rfl | omega | (dsimp only; omega)) (by first | exact Nat.le_of_ble_eq_true rfl | omega | (dsimp only; omega)) ?_
          exact wv_X10_make_32 hl hG  _ _ _ _ _ _ h
        · replace h := h.2 c
          refine V_iload_n hG dX10_make_22 rfl ?_
          refine V_iconst (v := 0) hG (by decide) dX10_make_23 ?_
          refine V_bipush (v := 9) hG (by decide) dX10_make_24 ?_
          refine V_cSI _ _ hG dX10_make_26 (ct_X10_in hl h) mv_X10_in ml_X10_172 rfl rfl (by first | exact Nat.le_of_ble_eq_true rfl | (simp only [List.map_cons, List.map_nil, List.sum_cons, List.sum_nil, cat_rf]; exact Nat.le_of_ble_eq_true rfl)) (Nat.le_of_ble_eq_true rfl) (Nat.le_of_ble_eq_true rfl) (by first | exact Nat.le_of_ble_eq_true rfl | omega | (dsimp only; omega)) (by first | exact Nat.le_of_ble_eq_true rfl | omega | (dsimp only; omega)) ?_ (fun x6 σ5 h9 => ?_)
          · exact fun E σ5 hx => VX_out hG (by first | exact Nat.le_of_ble_eq_true rfl | omega | (dsimp only; omega)) (by first | exact Nat.le_of_ble_eq_true rfl | omega | (dsimp only; omega)) hx
          · replace h := h9
            clear h9
            refine V_if_ne (tgt := 36) hG dX10_make_29 (by decide) (fun c => ?_) (fun c => ?_)
            · replace h := h.1 c
              refine V_aload_n (v := .ref this) hG dX10_make_36 rfl rfl ?_
              obtain ⟨ht, h⟩ := h
              refine V_getPv hG dX10_make_37 fl_X10_7 rfl ht (fun o7 ho => ?_)
              replace h := h o7 ho
              refine V_iload_n hG dX10_make_40 rfl ?_
              obtain ⟨u8, he, h⟩ := h
              subst he
              obtain ⟨ha, j9, hi, hj, h⟩ := h
              refine V_iald hG dX10_make_41 ha hi hj ?_
              refine V_iconst (v := 2) hG (by decide) dX10_make_42 ?_
              refine V_icmp_ne (tgt := 70) hG dX10_make_43 (by decide) (fun c => ?_) (fun c => ?_)
              · replace h := h.1 c
                refine V_forget (lo' := [some (.ref this), some (.int a0), some (.int a1), some (.int a2), none]) ⟨rfl, ⟨rfl, ⟨rfl, ⟨rfl, trivial⟩⟩⟩⟩ ?_
                refine V_widen (k' := 0) (n' := 0) (by first | exact Nat.le_of_ble_eq_true rfl | omega | (dsimp only; omega)) (by first | exact Nat.le_of_ble_eq_true rfl | omega | (dsimp only; omega)) ?_
                exact wv_X10_make_70 hl hG  _ _ _ _ _ _ h
              · replace h := h.2 c
                refine V_aload_n (v := .ref this) hG dX10_make_46 rfl rfl ?_
                refine V_aload_n (v := .ref this) hG dX10_make_47 rfl rfl ?_
                obtain ⟨ht, h⟩ := h
                refine V_getPv hG dX10_make_48 fl_X10_34 rfl ht (fun o10 ho => ?_)
                replace h := h o10 ho
                refine V_iconst (v := 4) hG (by decide) dX10_make_51 ?_
                refine V_iload_n hG dX10_make_52 rfl ?_
                refine V_imul hG dX10_make_53 ?_
                obtain ⟨u11, he, h⟩ := h
                subst he
                obtain ⟨ha, j12, hi, hj, h⟩ := h
                refine V_iald hG dX10_make_54 ha hi hj ?_
                obtain ⟨ht, h⟩ := h
                refine V_cVI _ _ hG dX10_make_55 (ct_X10_hasRoom hl h) mv_X10_hasRoom ml_X10_222 ht rfl rfl rfl rfl (by first | exact Nat.le_of_ble_eq_true rfl | (simp only [List.map_cons, List.map_nil, List.sum_cons, List.sum_nil, cat_rf]; exact Nat.le_of_ble_eq_true rfl)) (Nat.le_of_ble_eq_true rfl) (Nat.le_of_ble_eq_true rfl) (by first | exact Nat.le_of_ble_eq_true rfl | omega | (dsimp only; omega)) (by first | exact Nat.le_of_ble_eq_true rfl | omega | (dsimp only; omega)) ?_ (fun x14 σ13 h9 => ?_)
                · exact fun E σ13 hx => VX_out hG (by first | exact Nat.le_of_ble_eq_true rfl | omega | (dsimp only; omega)) (by first | exact Nat.le_of_ble_eq_true rfl | omega | (dsimp only; omega)) hx
                · replace h := h9
                  clear h9
                  refine V_if_eq (tgt := 70) hG dX10_make_58 (by decide) (fun c => ?_) (fun c => ?_)
                  · replace h := h.1 c
                    refine V_forget (lo' := [some (.ref this), some (.int a0), some (.int a1), some (.int a2), none]) ⟨rfl, ⟨rfl, ⟨rfl, ⟨rfl, trivial⟩⟩⟩⟩ ?_
                    refine V_widen (k' := 0) (n' := 0) (by first | exact Nat.le_of_ble_eq_true rfl | omega | (dsimp only; omega)) (by first | exact Nat.le_of_ble_eq_true rfl | omega | (dsimp only; omega)) ?_
                    exact wv_X10_make_70 hl hG  _ _ _ _ _ _ h
                  · replace h := h.2 c
                    refine V_aload_n (v := .ref this) hG dX10_make_61 rfl rfl ?_
                    obtain ⟨ht, h⟩ := h
                    refine V_getI hG dX10_make_62 fl_X10_176 rfl ht ?_
                    refine V_bipush (v := 60) hG (by decide) dX10_make_65 ?_
                    refine V_icmp_ne (tgt := 74) hG dX10_make_67 (by decide) (fun c => ?_) (fun c => ?_)
                    · replace h := h.1 c
                      refine V_iconst (v := 0) hG (by decide) dX10_make_74 ?_
                      refine V_forget (lo' := [some (.ref this), some (.int a0), some (.int a1), some (.int a2), none]) ⟨rfl, ⟨rfl, ⟨rfl, ⟨rfl, trivial⟩⟩⟩⟩ ?_
                      refine V_widen (k' := 0) (n' := 0) (by first | exact Nat.le_of_ble_eq_true rfl | omega | (dsimp only; omega)) (by first | exact Nat.le_of_ble_eq_true rfl | omega | (dsimp only; omega)) ?_
                      exact wv_X10_make_75 hl hG  _ _ _ _ _ _ _ h
                    · replace h := h.2 c
                      refine V_forget (lo' := [some (.ref this), some (.int a0), some (.int a1), some (.int a2), none]) ⟨rfl, ⟨rfl, ⟨rfl, ⟨rfl, trivial⟩⟩⟩⟩ ?_
                      refine V_widen (k' := 0) (n' := 0) (by first | exact Nat.le_of_ble_eq_true rfl | omega | (dsimp only; omega)) (by first | exact Nat.le_of_ble_eq_true rfl | omega | (dsimp only; omega)) ?_
                      exact wv_X10_make_70 hl hG  _ _ _ _ _ _ h
            · replace h := h.2 c
              refine V_forget (lo' := [some (.ref this), some (.int a0), some (.int a1), some (.int a2), none]) ⟨rfl, ⟨rfl, ⟨rfl, ⟨rfl, trivial⟩⟩⟩⟩ ?_
              refine V_widen (k' := 0) (n' := 0) (by first | exact Nat.le_of_ble_eq_true rfl | omega | (dsimp only; omega)) (by first | exact Nat.le_of_ble_eq_true rfl | omega | (dsimp only; omega)) ?_
              exact wv_X10_make_32 hl hG  _ _ _ _ _ _ h
    · replace h := h.2 c
      refine V_iconst (v := 1) hG (by decide) dX10_make_8 ?_
      refine V_goto (tgt := 75) hG dX10_make_9 (by decide) ?_
      refine V_forget (lo' := [some (.ref this), some (.int a0), some (.int a1), some (.int a2), none]) ⟨rfl, ⟨rfl, ⟨rfl, ⟨rfl, trivial⟩⟩⟩⟩ ?_
      refine V_widen (k' := 0) (n' := 0) (by first | exact Nat.le_of_ble_eq_true rfl | omega | (dsimp only; omega)) (by first | exact Nat.le_of_ble_eq_true rfl | omega | (dsimp only; omega)) ?_
      exact wv_X10_make_75 hl hG  _ _ _ _ _ _ _ h
def wp_X10_rank_42  (this : Nat) (v1 : Int32) (v2 : Int32) (v3 : Int32) (s0 : Nat) (s1 : Int32) (σ : Sg) (Post : Rs → Sg → Prop) : Prop := s0 % 32 = 10 ∧ this % 32 = 10 ∧ (((sI (wI σ s0 59 s1) this 59) ≤ 0 → this % 32 = 10 ∧ ∀ o1, o1 = sP (wI σ s0 59 s1) this 21 → ∃ u2, o1 = some u2 ∧ aty (u2 % 32) = some .boolean ∧ ∃ j3, v1 = nI j3 ∧ j3 < aln u2 ∧ this % 32 = 10 ∧ ∀ o4, o4 = sP (wI σ s0 59 s1) this 20 → ∃ u5, o4 = some u5 ∧ aty (u5 % 32) = some .int ∧ ∃ j6, v1 = nI j6 ∧ j6 < aln u5 ∧ this % 32 = 10 ∧ ∀ o7, o7 = sP (wI (wI σ s0 59 s1) u5 j6 v2) this 21 → ∃ u8, o7 = some u8 ∧ aty (u8 % 32) = some .boolean ∧ ∃ j9, v1 = nI j9 ∧ j9 < aln u8 ∧ b01 v3 ∧ (b01 (sI (wI σ s0 59 s1) u2 j3) ∧ Post (.inl (some (.int (sI (wI σ s0 59 s1) u2 j3)))) (wI (wI (wI σ s0 59 s1) u5 j6 v2) u8 j9 v3))) ∧ (¬ (sI (wI σ s0 59 s1) this 59) ≤ 0 → (b01 (0 : Int32) ∧ Post (.inl (some (.int (0 : Int32)))) (wI σ s0 59 s1))))
set_option maxRecDepth 100000 in
set_option maxHeartbeats 4000000 in
theorem wv_X10_rank_42 {L9 : Launch} {G : Cx} {Post : Rs → Sg → Prop} (hl : L9.stackTraces = false) (hG : CX L9 G yX10_rank cX10_rank 5 (some .boolean) [] { frames := 2, cells := 0, slots := 0, locals := 43 })   : ∀ (this : Nat) (v1 : Int32) (v2 : Int32) (v3 : Int32) (s0 : Nat) (s1 : Int32) (σ : Sg), wp_X10_rank_42 this v1 v2 v3 s0 s1 σ Post → V G (QM G 0 0 Post) 42 [some (.ref this), some (.int v1), some (.int v2), some (.int v3), none] [.int s1, .ref s0] σ 0 0 := by
  intro this v1 v2 v3 s0 s1 σ h
  unfold wp_X10_rank_42 at h
  obtain ⟨ht, h⟩ := h
  refine V_putI hG dX10_rank_42 fl_X10_168 rfl (fun e => absurd e (by decide)) rfl ht ?_
  refine V_aload_n (v := .ref this) hG dX10_rank_45 rfl rfl ?_
  obtain ⟨ht, h⟩ := h
  refine V_getI hG dX10_rank_46 fl_X10_168 rfl ht ?_
  refine V_if_le (tgt := 54) hG dX10_rank_49 (by decide) (fun c => ?_) (fun c => ?_)
  · replace h := h.1 c
    refine V_aload_n (v := .ref this) hG dX10_rank_54 rfl rfl ?_
    obtain ⟨ht, h⟩ := h
    refine V_getPv hG dX10_rank_55 fl_X10_71 rfl ht (fun o1 ho => ?_)
    replace h := h o1 ho
    refine V_iload_n hG dX10_rank_58 rfl ?_
    obtain ⟨u2, he, h⟩ := h
    subst he
    obtain ⟨ha, j3, hi, hj, h⟩ := h
    refine V_zald hG dX10_rank_59 ha hi hj ?_
    refine V_istore hG dX10_rank_60 (Nat.le_of_ble_eq_true rfl) (hpV rfl rfl) ?_
    refine V_aload_n (v := .ref this) hG dX10_rank_62 rfl rfl ?_
    obtain ⟨ht, h⟩ := h
    refine V_getPv hG dX10_rank_63 fl_X10_68 rfl ht (fun o4 ho => ?_)
    replace h := h o4 ho
    refine V_iload_n hG dX10_rank_66 rfl ?_
    refine V_iload_n hG dX10_rank_67 rfl ?_
    obtain ⟨u5, he, h⟩ := h
    subst he
    obtain ⟨ha, j6, hi, hj, h⟩ := h
    refine V_iast hG dX10_rank_68 ha hi hj ?_
    refine V_aload_n (v := .ref this) hG dX10_rank_69 rfl rfl ?_
    obtain ⟨ht, h⟩ := h
    refine V_getPv hG dX10_rank_70 fl_X10_71 rfl ht (fun o7 ho => ?_)
    replace h := h o7 ho
    refine V_iload_n hG dX10_rank_73 rfl ?_
    refine V_iload_n hG dX10_rank_74 rfl ?_
    obtain ⟨u8, he, h⟩ := h
    subst he
    obtain ⟨ha, j9, hi, hj, h⟩ := h
    obtain ⟨hb, h⟩ := h
    refine V_zast hG dX10_rank_75 ha hb hi hj ?_
    refine V_iload hG dX10_rank_76 rfl ?_
    exact V_zret hG dX10_rank_78 h.1 (by first | exact Nat.le_of_ble_eq_true rfl | omega | (dsimp only; omega)) (by first | exact Nat.le_of_ble_eq_true rfl | omega | (dsimp only; omega)) h.2
  · replace h := h.2 c
    refine V_iconst (v := 0) hG (by decide) dX10_rank_52 ?_
    exact V_zret hG dX10_rank_53 h.1 (by first | exact Nat.le_of_ble_eq_true rfl | omega | (dsimp only; omega)) (by first | exact Nat.le_of_ble_eq_true rfl | omega | (dsimp only; omega)) h.2
def wp_X10_rank (this : Nat) (a0 : Int32) (a1 : Int32) (a2 : Int32) (σ : Sg) (Post : Rs → Sg → Prop) : Prop := this % 32 = 10 ∧ wp_X10_isBatch this a0 σ (KI (fun x2 σ1 => ((¬ x2 = 0 → wp_X10_in a1 (0 : Int32) (9 : Int32) σ1 (KI (fun x4 σ3 => ((¬ x4 = 0 → this % 32 = 10 ∧ ∀ o5, o5 = sP σ3 this 18 → ∃ u6, o5 = some u6 ∧ aty (u6 % 32) = some .int ∧ ∃ j7, a0 = nI j7 ∧ j7 < aln u6 ∧ (((sI σ3 u6 j7) = (1 : Int32) → (wp_X10_rank_42 this a0 a1 a2 this (0 : Int32) σ3 Post)) ∧ (¬ (sI σ3 u6 j7) = (1 : Int32) → (wp_X10_rank_42 this a0 a1 a2 this (3 : Int32) σ3 Post)))) ∧ (x4 = 0 → (wp_X10_rank_42 this a0 a1 a2 this (2 : Int32) σ3 Post)))) (fun E σ3 => Post (.inr E) σ3))) ∧ (x2 = 0 → (wp_X10_rank_42 this a0 a1 a2 this (1 : Int32) σ1 Post)))) (fun E σ1 => Post (.inr E) σ1))
set_option maxRecDepth 100000 in
set_option maxHeartbeats 4000000 in
theorem ct_X10_rank {l : Launch} (hl : l.stackTraces = false) {this : Nat} {a0 : Int32} {a1 : Int32} {a2 : Int32} {σ : Sg} {Post : Rs → Sg → Prop} (h : wp_X10_rank this a0 a1 a2 σ Post) : Ct l yX10_rank (.code yX10_rank cX10_rank 5 (some .boolean)) 2 43 0 0 [.ref this, .int a0, .int a1, .int a2] σ Post := by
  refine Ct_of [some (.ref this), some (.int a0), some (.int a1), some (.int a2), none] hl (by decide +kernel) rfl (fun ad => by rfl) (fun ad => by exact Nat.le_of_ble_eq_true rfl) (fun v hv => mem_lo hv rfl) ?_
  intro G hG
  unfold wp_X10_rank at h
  refine V_aload_n (v := .ref this) hG dX10_rank_0 rfl rfl ?_
  refine V_aload_n (v := .ref this) hG dX10_rank_1 rfl rfl ?_
  refine V_iload_n hG dX10_rank_2 rfl ?_
  obtain ⟨ht, h⟩ := h
  refine V_cVI _ _ hG dX10_rank_3 (ct_X10_isBatch hl h) mv_X10_isBatch ml_X10_219 ht rfl rfl rfl rfl (by first | exact Nat.le_of_ble_eq_true rfl | (simp only [List.map_cons, List.map_nil, List.sum_cons, List.sum_nil, cat_rf]; exact Nat.le_of_ble_eq_true rfl)) (Nat.le_of_ble_eq_true rfl) (Nat.le_of_ble_eq_true rfl) (by first | exact Nat.le_of_ble_eq_true rfl | omega | (dsimp only; omega)) (by first | exact Nat.le_of_ble_eq_true rfl | omega | (dsimp only; omega)) ?_ (fun x2 σ1 h9 => ?_)
  · exact fun E σ1 hx => VX_out hG (by first | exact Nat.le_of_ble_eq_true rfl | omega | (dsimp only; omega)) (by first | exact Nat.le_of_ble_eq_true rfl | omega | (dsimp only; omega)) hx
  · replace h := h9
    clear h9
    refine V_if_ne (tgt := 13) hG dX10_rank_6 (by decide) (fun c => ?_) (fun c => ?_)
    · replace h := h.1 c
      refine V_iload_n hG dX10_rank_13 rfl ?_
      refine V_iconst (v := 0) hG (by decide) dX10_rank_14 ?_
      refine V_bipush (v := 9) hG (by decide) dX10_rank_15 ?_
      refine V_cSI _ _ hG dX10_rank_17 (ct_X10_in hl h) mv_X10_in ml_X10_172 rfl rfl (by first | exact Nat.le_of_ble_eq_true rfl | (simp only [List.map_cons, List.map_nil, List.sum_cons, List.sum_nil, cat_rf]; exact Nat.le_of_ble_eq_true rfl)) (Nat.le_of_ble_eq_true rfl) (Nat.le_of_ble_eq_true rfl) (by first | exact Nat.le_of_ble_eq_true rfl | omega | (dsimp only; omega)) (by first | exact Nat.le_of_ble_eq_true rfl | omega | (dsimp only; omega)) ?_ (fun x4 σ3 h9 => ?_)
      · exact fun E σ3 hx => VX_out hG (by first | exact Nat.le_of_ble_eq_true rfl | omega | (dsimp only; omega)) (by first | exact Nat.le_of_ble_eq_true rfl | omega | (dsimp only; omega)) hx
      · replace h := h9
        clear h9
        refine V_if_ne (tgt := 27) hG dX10_rank_20 (by decide) (fun c => ?_) (fun c => ?_)
        · replace h := h.1 c
          refine V_aload_n (v := .ref this) hG dX10_rank_27 rfl rfl ?_
          obtain ⟨ht, h⟩ := h
          refine V_getPv hG dX10_rank_28 fl_X10_62 rfl ht (fun o5 ho => ?_)
          replace h := h o5 ho
          refine V_iload_n hG dX10_rank_31 rfl ?_
          obtain ⟨u6, he, h⟩ := h
          subst he
          obtain ⟨ha, j7, hi, hj, h⟩ := h
          refine V_iald hG dX10_rank_32 ha hi hj ?_
          refine V_iconst (v := 1) hG (by decide) dX10_rank_33 ?_
          refine V_icmp_eq (tgt := 41) hG dX10_rank_34 (by decide) (fun c => ?_) (fun c => ?_)
          · replace h := h.1 c
            refine V_iconst (v := 0) hG (by decide) dX10_rank_41 ?_
            refine V_forget (lo' := [some (.ref this), some (.int a0), some (.int a1), some (.int a2), none]) ⟨rfl, ⟨rfl, ⟨rfl, ⟨rfl, trivial⟩⟩⟩⟩ ?_
            refine V_widen (k' := 0) (n' := 0) (by first | exact Nat.le_of_ble_eq_true rfl | omega | (dsimp only; omega)) (by first | exact Nat.le_of_ble_eq_true rfl | omega | (dsimp only; omega)) ?_
            exact wv_X10_rank_42 hl hG  _ _ _ _ _ _ _ h
          · replace h := h.2 c
            refine V_iconst (v := 3) hG (by decide) dX10_rank_37 ?_
            refine V_goto (tgt := 42) hG dX10_rank_38 (by decide) ?_
            refine V_forget (lo' := [some (.ref this), some (.int a0), some (.int a1), some (.int a2), none]) ⟨rfl, ⟨rfl, ⟨rfl, ⟨rfl, trivial⟩⟩⟩⟩ ?_
            refine V_widen (k' := 0) (n' := 0) (by first | exact Nat.le_of_ble_eq_true rfl | omega | (dsimp only; omega)) (by first | exact Nat.le_of_ble_eq_true rfl | omega | (dsimp only; omega)) ?_
            exact wv_X10_rank_42 hl hG  _ _ _ _ _ _ _ h
        · replace h := h.2 c
          refine V_iconst (v := 2) hG (by decide) dX10_rank_23 ?_
          refine V_goto (tgt := 42) hG dX10_rank_24 (by decide) ?_
          refine V_forget (lo' := [some (.ref this), some (.int a0), some (.int a1), some (.int a2), none]) ⟨rfl, ⟨rfl, ⟨rfl, ⟨rfl, trivial⟩⟩⟩⟩ ?_
          refine V_widen (k' := 0) (n' := 0) (by first | exact Nat.le_of_ble_eq_true rfl | omega | (dsimp only; omega)) (by first | exact Nat.le_of_ble_eq_true rfl | omega | (dsimp only; omega)) ?_
          exact wv_X10_rank_42 hl hG  _ _ _ _ _ _ _ h
    · replace h := h.2 c
      refine V_iconst (v := 1) hG (by decide) dX10_rank_9 ?_
      refine V_goto (tgt := 42) hG dX10_rank_10 (by decide) ?_
      refine V_forget (lo' := [some (.ref this), some (.int a0), some (.int a1), some (.int a2), none]) ⟨rfl, ⟨rfl, ⟨rfl, ⟨rfl, trivial⟩⟩⟩⟩ ?_
      refine V_widen (k' := 0) (n' := 0) (by first | exact Nat.le_of_ble_eq_true rfl | omega | (dsimp only; omega)) (by first | exact Nat.le_of_ble_eq_true rfl | omega | (dsimp only; omega)) ?_
      exact wv_X10_rank_42 hl hG  _ _ _ _ _ _ _ h
def wp_X10_costOf_60  (v3 : Int32) (s0 : Option Nat) (s1 : Int32) (s2 : Int32) (σ : Sg) (Post : Rs → Sg → Prop) : Prop := ∃ u1, s0 = some u1 ∧ aty (u1 % 32) = some .int ∧ ∃ j2, s1 = nI j2 ∧ j2 < aln u1 ∧ Post (.inl (some (.int v3))) (wI σ u1 j2 s2)
set_option maxRecDepth 100000 in
set_option maxHeartbeats 4000000 in
theorem wv_X10_costOf_60 {L9 : Launch} {G : Cx} {Post : Rs → Sg → Prop} (hl : L9.stackTraces = false) (hG : CX L9 G yX10_costOf cX10_costOf 4 (some .int) [] { frames := 0, cells := 0, slots := 0, locals := 0 })   : ∀ (v3 : Int32) (s0 : Option Nat) (s1 : Int32) (s2 : Int32) (σ : Sg), wp_X10_costOf_60 v3 s0 s1 s2 σ Post → V G (QM G 0 0 Post) 60 [none, none, none, some (.int v3)] [.int s2, .int s1, va_rf s0] σ 0 0 := by
  intro v3 s0 s1 s2 σ h
  unfold wp_X10_costOf_60 at h
  obtain ⟨u1, he, h⟩ := h
  subst he
  obtain ⟨ha, j2, hi, hj, h⟩ := h
  refine V_iast hG dX10_costOf_60 ha hi hj ?_
  refine V_iload_n hG dX10_costOf_61 rfl ?_
  exact V_iret hG dX10_costOf_62 (by first | exact Nat.le_of_ble_eq_true rfl | omega | (dsimp only; omega)) (by first | exact Nat.le_of_ble_eq_true rfl | omega | (dsimp only; omega)) h
def wp_X10_costOf (this : Nat) (a0 : Int32) (a1 : Int32) (σ : Sg) (Post : Rs → Sg → Prop) : Prop := this % 32 = 10 ∧ ∀ o1, o1 = sP σ this 17 → ∃ u2, o1 = some u2 ∧ aty (u2 % 32) = some .int ∧ ∃ j3, a0 = nI j3 ∧ j3 < aln u2 ∧ this % 32 = 10 ∧ ∀ o4, o4 = sP σ this 16 → ∃ u5, o4 = some u5 ∧ aty (u5 % 32) = some .int ∧ ∃ j6, a0 = nI j6 ∧ j6 < aln u5 ∧ ¬ (sI σ u5 j6) = 0 ∧ this % 32 = 10 ∧ ∀ o7, o7 = sP σ this 17 → ∃ u8, o7 = some u8 ∧ aty (u8 % 32) = some .int ∧ ∃ j9, a0 = nI j9 ∧ j9 < aln u8 ∧ aty (u8 % 32) = some .int ∧ ∃ j10, a0 = nI j10 ∧ j10 < aln u8 ∧ this % 32 = 10 ∧ ∀ o11, o11 = sP (wI σ u8 j10 ((sI σ u8 j9) - (((sI σ u2 j3) * a1) / (sI σ u5 j6)))) this 16 → ∃ u12, o11 = some u12 ∧ aty (u12 % 32) = some .int ∧ ∃ j13, a0 = nI j13 ∧ j13 < aln u12 ∧ aty (u12 % 32) = some .int ∧ ∃ j14, a0 = nI j14 ∧ j14 < aln u12 ∧ this % 32 = 10 ∧ ∀ o15, o15 = sP (wI (wI σ u8 j10 ((sI σ u8 j9) - (((sI σ u2 j3) * a1) / (sI σ u5 j6)))) u12 j14 ((sI (wI σ u8 j10 ((sI σ u8 j9) - (((sI σ u2 j3) * a1) / (sI σ u5 j6)))) u12 j13) - a1)) this 18 → this % 32 = 10 ∧ ∀ o16, o16 = sP (wI (wI σ u8 j10 ((sI σ u8 j9) - (((sI σ u2 j3) * a1) / (sI σ u5 j6)))) u12 j14 ((sI (wI σ u8 j10 ((sI σ u8 j9) - (((sI σ u2 j3) * a1) / (sI σ u5 j6)))) u12 j13) - a1)) this 16 → ∃ u17, o16 = some u17 ∧ aty (u17 % 32) = some .int ∧ ∃ j18, a0 = nI j18 ∧ j18 < aln u17 ∧ ((¬ (sI (wI (wI σ u8 j10 ((sI σ u8 j9) - (((sI σ u2 j3) * a1) / (sI σ u5 j6)))) u12 j14 ((sI (wI σ u8 j10 ((sI σ u8 j9) - (((sI σ u2 j3) * a1) / (sI σ u5 j6)))) u12 j13) - a1)) u17 j18) = 0 → this % 32 = 10 ∧ ∀ o19, o19 = sP (wI (wI σ u8 j10 ((sI σ u8 j9) - (((sI σ u2 j3) * a1) / (sI σ u5 j6)))) u12 j14 ((sI (wI σ u8 j10 ((sI σ u8 j9) - (((sI σ u2 j3) * a1) / (sI σ u5 j6)))) u12 j13) - a1)) this 18 → ∃ u20, o19 = some u20 ∧ aty (u20 % 32) = some .int ∧ ∃ j21, a0 = nI j21 ∧ j21 < aln u20 ∧ (wp_X10_costOf_60 (((sI σ u2 j3) * a1) / (sI σ u5 j6)) o15 a0 (sI (wI (wI σ u8 j10 ((sI σ u8 j9) - (((sI σ u2 j3) * a1) / (sI σ u5 j6)))) u12 j14 ((sI (wI σ u8 j10 ((sI σ u8 j9) - (((sI σ u2 j3) * a1) / (sI σ u5 j6)))) u12 j13) - a1)) u20 j21) (wI (wI σ u8 j10 ((sI σ u8 j9) - (((sI σ u2 j3) * a1) / (sI σ u5 j6)))) u12 j14 ((sI (wI σ u8 j10 ((sI σ u8 j9) - (((sI σ u2 j3) * a1) / (sI σ u5 j6)))) u12 j13) - a1)) Post)) ∧ ((sI (wI (wI σ u8 j10 ((sI σ u8 j9) - (((sI σ u2 j3) * a1) / (sI σ u5 j6)))) u12 j14 ((sI (wI σ u8 j10 ((sI σ u8 j9) - (((sI σ u2 j3) * a1) / (sI σ u5 j6)))) u12 j13) - a1)) u17 j18) = 0 → (wp_X10_costOf_60 (((sI σ u2 j3) * a1) / (sI σ u5 j6)) o15 a0 (4 : Int32) (wI (wI σ u8 j10 ((sI σ u8 j9) - (((sI σ u2 j3) * a1) / (sI σ u5 j6)))) u12 j14 ((sI (wI σ u8 j10 ((sI σ u8 j9) - (((sI σ u2 j3) * a1) / (sI σ u5 j6)))) u12 j13) - a1)) Post)))
set_option maxRecDepth 100000 in
set_option maxHeartbeats 4000000 in
theorem ct_X10_costOf {l : Launch} (hl : l.stackTraces = false) {this : Nat} {a0 : Int32} {a1 : Int32} {σ : Sg} {Post : Rs → Sg → Prop} (h : wp_X10_costOf this a0 a1 σ Post) : Ct l yX10_costOf (.code yX10_costOf cX10_costOf 4 (some .int)) 0 0 0 0 [.ref this, .int a0, .int a1] σ Post := by
  refine Ct_of [some (.ref this), some (.int a0), some (.int a1), none] hl (by decide +kernel) rfl (fun ad => by rfl) (fun ad => by exact Nat.le_of_ble_eq_true rfl) (fun v hv => mem_lo hv rfl) ?_
  intro G hG
  unfold wp_X10_costOf at h
  refine V_aload_n (v := .ref this) hG dX10_costOf_0 rfl rfl ?_
  obtain ⟨ht, h⟩ := h
  refine V_getPv hG dX10_costOf_1 fl_X10_59 rfl ht (fun o1 ho => ?_)
  replace h := h o1 ho
  refine V_iload_n hG dX10_costOf_4 rfl ?_
  obtain ⟨u2, he, h⟩ := h
  subst he
  obtain ⟨ha, j3, hi, hj, h⟩ := h
  refine V_iald hG dX10_costOf_5 ha hi hj ?_
  refine V_iload_n hG dX10_costOf_6 rfl ?_
  refine V_imul hG dX10_costOf_7 ?_
  refine V_aload_n (v := .ref this) hG dX10_costOf_8 rfl rfl ?_
  obtain ⟨ht, h⟩ := h
  refine V_getPv hG dX10_costOf_9 fl_X10_56 rfl ht (fun o4 ho => ?_)
  replace h := h o4 ho
  refine V_iload_n hG dX10_costOf_12 rfl ?_
  obtain ⟨u5, he, h⟩ := h
  subst he
  obtain ⟨ha, j6, hi, hj, h⟩ := h
  refine V_iald hG dX10_costOf_13 ha hi hj ?_
  obtain ⟨hne, h⟩ := h
  refine V_idiv hG hne dX10_costOf_14 ?_
  refine V_istore_n hG dX10_costOf_15 (Nat.le_of_ble_eq_true rfl) (hpV rfl rfl) ?_
  refine V_aload_n (v := .ref this) hG dX10_costOf_16 rfl rfl ?_
  obtain ⟨ht, h⟩ := h
  refine V_getPv hG dX10_costOf_17 fl_X10_59 rfl ht (fun o7 ho => ?_)
  replace h := h o7 ho
  refine V_iload_n hG dX10_costOf_20 rfl ?_
  refine V_dup2 hG rfl (cat_rf _) dX10_costOf_21 ?_
  obtain ⟨u8, he, h⟩ := h
  subst he
  obtain ⟨ha, j9, hi, hj, h⟩ := h
  refine V_iald hG dX10_costOf_22 ha hi hj ?_
  refine V_iload_n hG dX10_costOf_23 rfl ?_
  refine V_isub hG dX10_costOf_24 ?_
  obtain ⟨ha, j10, hi, hj, h⟩ := h
  refine V_iast hG dX10_costOf_25 ha hi hj ?_
  refine V_aload_n (v := .ref this) hG dX10_costOf_26 rfl rfl ?_
  obtain ⟨ht, h⟩ := h
  refine V_getPv hG dX10_costOf_27 fl_X10_56 rfl ht (fun o11 ho => ?_)
  replace h := h o11 ho
  refine V_iload_n hG dX10_costOf_30 rfl ?_
  refine V_dup2 hG rfl (cat_rf _) dX10_costOf_31 ?_
  obtain ⟨u12, he, h⟩ := h
  subst he
  obtain ⟨ha, j13, hi, hj, h⟩ := h
  refine V_iald hG dX10_costOf_32 ha hi hj ?_
  refine V_iload_n hG dX10_costOf_33 rfl ?_
  refine V_isub hG dX10_costOf_34 ?_
  obtain ⟨ha, j14, hi, hj, h⟩ := h
  refine V_iast hG dX10_costOf_35 ha hi hj ?_
  refine V_aload_n (v := .ref this) hG dX10_costOf_36 rfl rfl ?_
  obtain ⟨ht, h⟩ := h
  refine V_getPv hG dX10_costOf_37 fl_X10_62 rfl ht (fun o15 ho => ?_)
  replace h := h o15 ho
  refine V_iload_n hG dX10_costOf_40 rfl ?_
  refine V_aload_n (v := .ref this) hG dX10_costOf_41 rfl rfl ?_
  obtain ⟨ht, h⟩ := h
  refine V_getPv hG dX10_costOf_42 fl_X10_56 rfl ht (fun o16 ho => ?_)
  replace h := h o16 ho
  refine V_iload_n hG dX10_costOf_45 rfl ?_
  obtain ⟨u17, he, h⟩ := h
  subst he
  obtain ⟨ha, j18, hi, hj, h⟩ := h
  refine V_iald hG dX10_costOf_46 ha hi hj ?_
  refine V_if_ne (tgt := 54) hG dX10_costOf_47 (by decide) (fun c => ?_) (fun c => ?_)
  · replace h := h.1 c
    refine V_aload_n (v := .ref this) hG dX10_costOf_54 rfl rfl ?_
    obtain ⟨ht, h⟩ := h
    refine V_getPv hG dX10_costOf_55 fl_X10_62 rfl ht (fun o19 ho => ?_)
    replace h := h o19 ho
    refine V_iload_n hG dX10_costOf_58 rfl ?_
    obtain ⟨u20, he, h⟩ := h
    subst he
    obtain ⟨ha, j21, hi, hj, h⟩ := h
    refine V_iald hG dX10_costOf_59 ha hi hj ?_
    refine V_forget (lo' := [none, none, none, some (.int (((sI σ u2 j3) * a1) / (sI σ u5 j6)))]) ⟨rfl, trivial⟩ ?_
    refine V_widen (k' := 0) (n' := 0) (by first | exact Nat.le_of_ble_eq_true rfl | omega | (dsimp only; omega)) (by first | exact Nat.le_of_ble_eq_true rfl | omega | (dsimp only; omega)) ?_
    exact wv_X10_costOf_60 hl hG  _ _ _ _ _ h
  · replace h := h.2 c
    refine V_iconst (v := 4) hG (by decide) dX10_costOf_50 ?_
    refine V_goto (tgt := 60) hG dX10_costOf_51 (by decide) ?_
    refine V_forget (lo' := [none, none, none, some (.int (((sI σ u2 j3) * a1) / (sI σ u5 j6)))]) ⟨rfl, trivial⟩ ?_
    refine V_widen (k' := 0) (n' := 0) (by first | exact Nat.le_of_ble_eq_true rfl | omega | (dsimp only; omega)) (by first | exact Nat.le_of_ble_eq_true rfl | omega | (dsimp only; omega)) ?_
    exact wv_X10_costOf_60 hl hG  _ _ _ _ _ h
def wp_X10_takeFrom (this : Nat) (a0 : Int32) (a1 : Int32) (a2 : Int32) (σ : Sg) (Post : Rs → Sg → Prop) : Prop := this % 32 = 10 ∧ wp_X10_costOf this a0 a1 σ (KI (fun x2 σ1 => this % 32 = 10 ∧ ∀ o3, o3 = sP σ1 this 17 → ∃ u4, o3 = some u4 ∧ aty (u4 % 32) = some .int ∧ ∃ j5, a2 = nI j5 ∧ j5 < aln u4 ∧ aty (u4 % 32) = some .int ∧ ∃ j6, a2 = nI j6 ∧ j6 < aln u4 ∧ this % 32 = 10 ∧ ∀ o7, o7 = sP (wI σ1 u4 j6 ((sI σ1 u4 j5) + x2)) this 26 → ∃ u8, o7 = some u8 ∧ aty (u8 % 32) = some .long ∧ ∃ j9, a2 = nI j9 ∧ j9 < aln u8 ∧ aty (u8 % 32) = some .long ∧ ∃ j10, a2 = nI j10 ∧ j10 < aln u8 ∧ Post (.inl none) (wL (wI σ1 u4 j6 ((sI σ1 u4 j5) + x2)) u8 j10 ((sL (wI σ1 u4 j6 ((sI σ1 u4 j5) + x2)) u8 j9) ||| ((1 : Int64) <<< (Int32.toInt64 a0 &&& 63))))) (fun E σ1 => Post (.inr E) σ1))
set_option maxRecDepth 100000 in
set_option maxHeartbeats 4000000 in
theorem ct_X10_takeFrom {l : Launch} (hl : l.stackTraces = false) {this : Nat} {a0 : Int32} {a1 : Int32} {a2 : Int32} {σ : Sg} {Post : Rs → Sg → Prop} (h : wp_X10_takeFrom this a0 a1 a2 σ Post) : Ct l yX10_takeFrom (.code yX10_takeFrom cX10_takeFrom 5 none) 1 23 0 0 [.ref this, .int a0, .int a1, .int a2] σ Post := by
  refine Ct_of [some (.ref this), some (.int a0), some (.int a1), some (.int a2), none] hl (by decide +kernel) rfl (fun ad => by rfl) (fun ad => by exact Nat.le_of_ble_eq_true rfl) (fun v hv => mem_lo hv rfl) ?_
  intro G hG
  unfold wp_X10_takeFrom at h
  refine V_aload_n (v := .ref this) hG dX10_takeFrom_0 rfl rfl ?_
  refine V_iload_n hG dX10_takeFrom_1 rfl ?_
  refine V_iload_n hG dX10_takeFrom_2 rfl ?_
  obtain ⟨ht, h⟩ := h
  refine V_cVI _ _ hG dX10_takeFrom_3 (ct_X10_costOf hl h) mv_X10_costOf ml_X10_225 ht rfl rfl rfl rfl (by first | exact Nat.le_of_ble_eq_true rfl | (simp only [List.map_cons, List.map_nil, List.sum_cons, List.sum_nil, cat_rf]; exact Nat.le_of_ble_eq_true rfl)) (Nat.le_of_ble_eq_true rfl) (Nat.le_of_ble_eq_true rfl) (by first | exact Nat.le_of_ble_eq_true rfl | omega | (dsimp only; omega)) (by first | exact Nat.le_of_ble_eq_true rfl | omega | (dsimp only; omega)) ?_ (fun x2 σ1 h9 => ?_)
  · exact fun E σ1 hx => VX_out hG (by first | exact Nat.le_of_ble_eq_true rfl | omega | (dsimp only; omega)) (by first | exact Nat.le_of_ble_eq_true rfl | omega | (dsimp only; omega)) hx
  · replace h := h9
    clear h9
    refine V_istore hG dX10_takeFrom_6 (Nat.le_of_ble_eq_true rfl) (hpV rfl rfl) ?_
    refine V_aload_n (v := .ref this) hG dX10_takeFrom_8 rfl rfl ?_
    obtain ⟨ht, h⟩ := h
    refine V_getPv hG dX10_takeFrom_9 fl_X10_59 rfl ht (fun o3 ho => ?_)
    replace h := h o3 ho
    refine V_iload_n hG dX10_takeFrom_12 rfl ?_
    refine V_dup2 hG rfl (cat_rf _) dX10_takeFrom_13 ?_
    obtain ⟨u4, he, h⟩ := h
    subst he
    obtain ⟨ha, j5, hi, hj, h⟩ := h
    refine V_iald hG dX10_takeFrom_14 ha hi hj ?_
    refine V_iload hG dX10_takeFrom_15 rfl ?_
    refine V_iadd hG dX10_takeFrom_17 ?_
    obtain ⟨ha, j6, hi, hj, h⟩ := h
    refine V_iast hG dX10_takeFrom_18 ha hi hj ?_
    refine V_aload_n (v := .ref this) hG dX10_takeFrom_19 rfl rfl ?_
    obtain ⟨ht, h⟩ := h
    refine V_getPv hG dX10_takeFrom_20 fl_X10_86 rfl ht (fun o7 ho => ?_)
    replace h := h o7 ho
    refine V_iload_n hG dX10_takeFrom_23 rfl ?_
    refine V_dup2 hG rfl (cat_rf _) dX10_takeFrom_24 ?_
    obtain ⟨u8, he, h⟩ := h
    subst he
    obtain ⟨ha, j9, hi, hj, h⟩ := h
    refine V_lald hG dX10_takeFrom_25 ha hi hj ?_
    refine V_lconst (v := 1) hG (by decide) dX10_takeFrom_26 ?_
    refine V_iload_n hG dX10_takeFrom_27 rfl ?_
    refine V_lshl hG dX10_takeFrom_28 ?_
    refine V_lor hG dX10_takeFrom_29 ?_
    obtain ⟨ha, j10, hi, hj, h⟩ := h
    refine V_last hG dX10_takeFrom_30 ha hi hj ?_
    exact V_vret hG dX10_takeFrom_31 (by first | exact Nat.le_of_ble_eq_true rfl | omega | (dsimp only; omega)) (by first | exact Nat.le_of_ble_eq_true rfl | omega | (dsimp only; omega)) h
