/-! Walks, by program. -/
def wp_X10_work_61 (K2 : Nat → Int32 → Sg → Prop) (this : Nat) (v1 : Int32) (σ : Sg) (Post : Rs → Sg → Prop) : Prop := (K2 this (v1 + 1) σ)
set_option maxRecDepth 100000 in
set_option maxHeartbeats 4000000 in
theorem wv_X10_work_61 {L9 : Launch} {G : Cx} {Post : Rs → Sg → Prop} (hl : L9.stackTraces = false) (hG : CX L9 G yX10_work cX10_work 2 none [] { frames := 4, cells := 0, slots := 0, locals := 91 }) {K2 : Nat → Int32 → Sg → Prop} (hK2 : ∀ (this : Nat) (v1 : Int32) (ζ : Sg), K2 this v1 ζ → V G (QM G 0 0 Post) 2 [some (.ref this), some (.int v1)] [] ζ 0 0) : ∀ (this : Nat) (v1 : Int32) (σ : Sg), wp_X10_work_61 K2 this v1 σ Post → V G (QM G 0 0 Post) 61 [some (.ref this), some (.int v1)] [] σ 0 0 := by
  intro this v1 σ h
  unfold wp_X10_work_61 at h
  refine V_iincv (c := 1) hG dX10_work_61 rfl (by decide) (hpV rfl rfl) ?_
  refine V_goto (tgt := 2) hG dX10_work_64 (by decide) ?_
  refine V_forget (lo' := [some (.ref this), some (.int (v1 + 1))]) ⟨rfl, ⟨rfl, trivial⟩⟩ ?_
  exact hK2 _ _ _ h
def wp_X10_work_47 (K2 : Nat → Int32 → Sg → Prop) (this : Nat) (v1 : Int32) (σ : Sg) (Post : Rs → Sg → Prop) : Prop := this % 32 = 10 ∧ ∀ o1, o1 = sP σ this 35 → ∃ u2, o1 = some u2 ∧ aty (u2 % 32) = some .int ∧ ∃ j3, v1 = nI j3 ∧ j3 < aln u2 ∧ ((¬ (sI σ u2 j3) = 0 → (wp_X10_work_61 K2 this v1 σ Post)) ∧ ((sI σ u2 j3) = 0 → this % 32 = 10 ∧ wp_X10_finish this v1 σ (KV (fun σ4 => (wp_X10_work_61 K2 this v1 σ4 Post)) (fun E σ4 => Post (.inr E) σ4))))
set_option maxRecDepth 100000 in
set_option maxHeartbeats 4000000 in
theorem wv_X10_work_47 {L9 : Launch} {G : Cx} {Post : Rs → Sg → Prop} (hl : L9.stackTraces = false) (hG : CX L9 G yX10_work cX10_work 2 none [] { frames := 4, cells := 0, slots := 0, locals := 91 }) {K2 : Nat → Int32 → Sg → Prop} (hK2 : ∀ (this : Nat) (v1 : Int32) (ζ : Sg), K2 this v1 ζ → V G (QM G 0 0 Post) 2 [some (.ref this), some (.int v1)] [] ζ 0 0) : ∀ (this : Nat) (v1 : Int32) (σ : Sg), wp_X10_work_47 K2 this v1 σ Post → V G (QM G 0 0 Post) 47 [some (.ref this), some (.int v1)] [] σ 0 0 := by
  intro this v1 σ h
  unfold wp_X10_work_47 at h
  refine V_aload_n (v := .ref this) hG dX10_work_47 rfl rfl ?_
  obtain ⟨ht, h⟩ := h
  refine V_getPv hG dX10_work_48 fl_X10_111 rfl ht (fun o1 ho => ?_)
  replace h := h o1 ho
  refine V_iload_n hG dX10_work_51 rfl ?_
  obtain ⟨u2, he, h⟩ := h
  subst he
  obtain ⟨ha, j3, hi, hj, h⟩ := h
  refine V_iald hG dX10_work_52 ha hi hj ?_
  refine V_if_ne (tgt := 61) hG dX10_work_53 (by decide) (fun c => ?_) (fun c => ?_)
  · replace h := h.1 c
    refine V_forget (lo' := [some (.ref this), some (.int v1)]) ⟨rfl, ⟨rfl, trivial⟩⟩ ?_
    refine V_widen (k' := 0) (n' := 0) (by first | exact Nat.le_of_ble_eq_true rfl | omega | (dsimp only; omega)) (by first | exact Nat.le_of_ble_eq_true rfl | omega | (dsimp only; omega)) ?_
    exact wv_X10_work_61 hl hG hK2 _ _ _ h
  · replace h := h.2 c
    refine V_aload_n (v := .ref this) hG dX10_work_56 rfl rfl ?_
    refine V_iload_n hG dX10_work_57 rfl ?_
    obtain ⟨ht, h⟩ := h
    refine V_cVV _ _ hG dX10_work_58 (ct_X10_finish hl h) mv_X10_finish ml_X10_270 ht rfl rfl rfl rfl (by first | exact Nat.le_of_ble_eq_true rfl | (simp only [List.map_cons, List.map_nil, List.sum_cons, List.sum_nil, cat_rf]; exact Nat.le_of_ble_eq_true rfl)) (Nat.le_of_ble_eq_true rfl) (Nat.le_of_ble_eq_true rfl) (by first | exact Nat.le_of_ble_eq_true rfl | omega | (dsimp only; omega)) (by first | exact Nat.le_of_ble_eq_true rfl | omega | (dsimp only; omega)) ?_ (fun σ4 h9 => ?_)
    · exact fun E σ4 hx => VX_out hG (by first | exact Nat.le_of_ble_eq_true rfl | omega | (dsimp only; omega)) (by first | exact Nat.le_of_ble_eq_true rfl | omega | (dsimp only; omega)) hx
    · replace h := h9
      clear h9
      refine V_forget (lo' := [some (.ref this), some (.int v1)]) ⟨rfl, ⟨rfl, trivial⟩⟩ ?_
      refine V_widen (k' := 0) (n' := 0) (by first | exact Nat.le_of_ble_eq_true rfl | omega | (dsimp only; omega)) (by first | exact Nat.le_of_ble_eq_true rfl | omega | (dsimp only; omega)) ?_
      exact wv_X10_work_61 hl hG hK2 _ _ _ h
def wp_X10_work_2  : Nat → Nat → Int32 → Sg → (Rs → Sg → Prop) → Prop
  | 0, _, _, _, _ => False
  | f + 1, this, v1, σ, Post => this % 32 = 10 ∧ (((sI σ this 27) ≤ v1 → Post (.inl none) σ) ∧ (¬ (sI σ this 27) ≤ v1 → this % 32 = 10 ∧ ∀ o1, o1 = sP σ this 34 → ∃ u2, o1 = some u2 ∧ aty (u2 % 32) = some .int ∧ ∃ j3, v1 = nI j3 ∧ j3 < aln u2 ∧ (((sI σ u2 j3) = (-1 : Int32) → (wp_X10_work_61 (fun z0 z1 ζ => wp_X10_work_2 f z0 z1 ζ Post) this v1 σ Post)) ∧ (¬ (sI σ u2 j3) = (-1 : Int32) → this % 32 = 10 ∧ ∀ o4, o4 = sP σ this 35 → ∃ u5, o4 = some u5 ∧ aty (u5 % 32) = some .int ∧ ∃ j6, v1 = nI j6 ∧ j6 < aln u5 ∧ (((sI σ u5 j6) ≤ 0 → (wp_X10_work_47 (fun z0 z1 ζ => wp_X10_work_2 f z0 z1 ζ Post) this v1 σ Post)) ∧ (¬ (sI σ u5 j6) ≤ 0 → this % 32 = 10 ∧ ∀ o7, o7 = sP σ this 36 → ∃ u8, o7 = some u8 ∧ aty (u8 % 32) = some .int ∧ ∃ j9, v1 = nI j9 ∧ j9 < aln u8 ∧ this % 32 = 10 ∧ wp_X10_isOnShift this (sI σ u8 j9) σ (KI (fun x11 σ10 => ((x11 = 0 → (wp_X10_work_47 (fun z0 z1 ζ => wp_X10_work_2 f z0 z1 ζ Post) this v1 σ10 Post)) ∧ (¬ x11 = 0 → this % 32 = 10 ∧ wp_X10_workOn this v1 σ10 (KV (fun σ12 => (wp_X10_work_47 (fun z0 z1 ζ => wp_X10_work_2 f z0 z1 ζ Post) this v1 σ12 Post)) (fun E σ12 => Post (.inr E) σ12))))) (fun E σ10 => Post (.inr E) σ10))))))))
set_option maxRecDepth 100000 in
set_option maxHeartbeats 4000000 in
theorem wv_X10_work_2 {L9 : Launch} {G : Cx} {Post : Rs → Sg → Prop} (hl : L9.stackTraces = false) (hG : CX L9 G yX10_work cX10_work 2 none [] { frames := 4, cells := 0, slots := 0, locals := 91 })   : ∀ (f : Nat) (this : Nat) (v1 : Int32) (σ : Sg), wp_X10_work_2 f this v1 σ Post → V G (QM G 0 0 Post) 2 [some (.ref this), some (.int v1)] [] σ 0 0 := by
  intro f
  induction f with
  | zero => intro _ _ σ h; exact h.elim
  | succ f ih =>
    intro this v1 σ h
    refine V_iload_n hG dX10_work_2 rfl ?_
    refine V_aload_n (v := .ref this) hG dX10_work_3 rfl rfl ?_
    obtain ⟨ht, h⟩ := h
    refine V_getI hG dX10_work_4 fl_X10_183 rfl ht ?_
    refine V_icmp_ge (tgt := 67) hG dX10_work_7 (by decide) (fun c => ?_) (fun c => ?_)
    · replace h := h.1 c
      exact V_vret hG dX10_work_67 (by first | exact Nat.le_of_ble_eq_true rfl | omega | (dsimp only; omega)) (by first | exact Nat.le_of_ble_eq_true rfl | omega | (dsimp only; omega)) h
    · replace h := h.2 c
      refine V_aload_n (v := .ref this) hG dX10_work_10 rfl rfl ?_
      obtain ⟨ht, h⟩ := h
      refine V_getPv hG dX10_work_11 fl_X10_108 rfl ht (fun o1 ho => ?_)
      replace h := h o1 ho
      refine V_iload_n hG dX10_work_14 rfl ?_
      obtain ⟨u2, he, h⟩ := h
      subst he
      obtain ⟨ha, j3, hi, hj, h⟩ := h
      refine V_iald hG dX10_work_15 ha hi hj ?_
      refine V_iconst (v := (-1)) hG (by decide) dX10_work_16 ?_
      refine V_icmp_eq (tgt := 61) hG dX10_work_17 (by decide) (fun c => ?_) (fun c => ?_)
      · replace h := h.1 c
        refine V_forget (lo' := [some (.ref this), some (.int v1)]) ⟨rfl, ⟨rfl, trivial⟩⟩ ?_
        refine V_widen (k' := 0) (n' := 0) (by first | exact Nat.le_of_ble_eq_true rfl | omega | (dsimp only; omega)) (by first | exact Nat.le_of_ble_eq_true rfl | omega | (dsimp only; omega)) ?_
        exact wv_X10_work_61 hl hG (fun z0 z1 ζ hz => ih z0 z1 ζ hz) _ _ _ h
      · replace h := h.2 c
        refine V_aload_n (v := .ref this) hG dX10_work_20 rfl rfl ?_
        obtain ⟨ht, h⟩ := h
        refine V_getPv hG dX10_work_21 fl_X10_111 rfl ht (fun o4 ho => ?_)
        replace h := h o4 ho
        refine V_iload_n hG dX10_work_24 rfl ?_
        obtain ⟨u5, he, h⟩ := h
        subst he
        obtain ⟨ha, j6, hi, hj, h⟩ := h
        refine V_iald hG dX10_work_25 ha hi hj ?_
        refine V_if_le (tgt := 47) hG dX10_work_26 (by decide) (fun c => ?_) (fun c => ?_)
        · replace h := h.1 c
          refine V_forget (lo' := [some (.ref this), some (.int v1)]) ⟨rfl, ⟨rfl, trivial⟩⟩ ?_
          refine V_widen (k' := 0) (n' := 0) (by first | exact Nat.le_of_ble_eq_true rfl | omega | (dsimp only; omega)) (by first | exact Nat.le_of_ble_eq_true rfl | omega | (dsimp only; omega)) ?_
          exact wv_X10_work_47 hl hG (fun z0 z1 ζ hz => ih z0 z1 ζ hz) _ _ _ h
        · replace h := h.2 c
          refine V_aload_n (v := .ref this) hG dX10_work_29 rfl rfl ?_
          refine V_aload_n (v := .ref this) hG dX10_work_30 rfl rfl ?_
          obtain ⟨ht, h⟩ := h
          refine V_getPv hG dX10_work_31 fl_X10_114 rfl ht (fun o7 ho => ?_)
          replace h := h o7 ho
          refine V_iload_n hG dX10_work_34 rfl ?_
          obtain ⟨u8, he, h⟩ := h
          subst he
          obtain ⟨ha, j9, hi, hj, h⟩ := h
          refine V_iald hG dX10_work_35 ha hi hj ?_
          obtain ⟨ht, h⟩ := h
          refine V_cVI _ _ hG dX10_work_36 (ct_X10_isOnShift hl h) mv_X10_isOnShift ml_X10_264 ht rfl rfl rfl rfl (by first | exact Nat.le_of_ble_eq_true rfl | (simp only [List.map_cons, List.map_nil, List.sum_cons, List.sum_nil, cat_rf]; exact Nat.le_of_ble_eq_true rfl)) (Nat.le_of_ble_eq_true rfl) (Nat.le_of_ble_eq_true rfl) (by first | exact Nat.le_of_ble_eq_true rfl | omega | (dsimp only; omega)) (by first | exact Nat.le_of_ble_eq_true rfl | omega | (dsimp only; omega)) ?_ (fun x11 σ10 h9 => ?_)
          · exact fun E σ10 hx => VX_out hG (by first | exact Nat.le_of_ble_eq_true rfl | omega | (dsimp only; omega)) (by first | exact Nat.le_of_ble_eq_true rfl | omega | (dsimp only; omega)) hx
          · replace h := h9
            clear h9
            refine V_if_eq (tgt := 47) hG dX10_work_39 (by decide) (fun c => ?_) (fun c => ?_)
            · replace h := h.1 c
              refine V_forget (lo' := [some (.ref this), some (.int v1)]) ⟨rfl, ⟨rfl, trivial⟩⟩ ?_
              refine V_widen (k' := 0) (n' := 0) (by first | exact Nat.le_of_ble_eq_true rfl | omega | (dsimp only; omega)) (by first | exact Nat.le_of_ble_eq_true rfl | omega | (dsimp only; omega)) ?_
              exact wv_X10_work_47 hl hG (fun z0 z1 ζ hz => ih z0 z1 ζ hz) _ _ _ h
            · replace h := h.2 c
              refine V_aload_n (v := .ref this) hG dX10_work_42 rfl rfl ?_
              refine V_iload_n hG dX10_work_43 rfl ?_
              obtain ⟨ht, h⟩ := h
              refine V_cVV _ _ hG dX10_work_44 (ct_X10_workOn hl h) mv_X10_workOn ml_X10_267 ht rfl rfl rfl rfl (by first | exact Nat.le_of_ble_eq_true rfl | (simp only [List.map_cons, List.map_nil, List.sum_cons, List.sum_nil, cat_rf]; exact Nat.le_of_ble_eq_true rfl)) (Nat.le_of_ble_eq_true rfl) (Nat.le_of_ble_eq_true rfl) (by first | exact Nat.le_of_ble_eq_true rfl | omega | (dsimp only; omega)) (by first | exact Nat.le_of_ble_eq_true rfl | omega | (dsimp only; omega)) ?_ (fun σ12 h9 => ?_)
              · exact fun E σ12 hx => VX_out hG (by first | exact Nat.le_of_ble_eq_true rfl | omega | (dsimp only; omega)) (by first | exact Nat.le_of_ble_eq_true rfl | omega | (dsimp only; omega)) hx
              · replace h := h9
                clear h9
                refine V_forget (lo' := [some (.ref this), some (.int v1)]) ⟨rfl, ⟨rfl, trivial⟩⟩ ?_
                refine V_widen (k' := 0) (n' := 0) (by first | exact Nat.le_of_ble_eq_true rfl | omega | (dsimp only; omega)) (by first | exact Nat.le_of_ble_eq_true rfl | omega | (dsimp only; omega)) ?_
                exact wv_X10_work_47 hl hG (fun z0 z1 ζ hz => ih z0 z1 ζ hz) _ _ _ h
def wp_X10_work (this : Nat) (σ : Sg) (Post : Rs → Sg → Prop) : Prop := (∃ g, wp_X10_work_2 g this (0 : Int32) σ Post)
set_option maxRecDepth 100000 in
set_option maxHeartbeats 4000000 in
theorem ct_X10_work {l : Launch} (hl : l.stackTraces = false) {this : Nat} {σ : Sg} {Post : Rs → Sg → Prop} (h : wp_X10_work this σ Post) : Ct l yX10_work (.code yX10_work cX10_work 2 none) 4 91 0 0 [.ref this] σ Post := by
  refine Ct_of [some (.ref this), none] hl (by decide +kernel) rfl (fun ad => by rfl) (fun ad => by exact Nat.le_of_ble_eq_true rfl) (fun v hv => mem_lo hv rfl) ?_
  intro G hG
  unfold wp_X10_work at h
  refine V_iconst (v := 0) hG (by decide) dX10_work_0 ?_
  refine V_istore_n hG dX10_work_1 (Nat.le_of_ble_eq_true rfl) (hpV rfl rfl) ?_
  refine V_forget (lo' := [some (.ref this), some (.int (0 : Int32))]) ⟨rfl, ⟨rfl, trivial⟩⟩ ?_
  obtain ⟨g, h⟩ := h
  refine V_widen (k' := 0) (n' := 0) (by first | exact Nat.le_of_ble_eq_true rfl | omega | (dsimp only; omega)) (by first | exact Nat.le_of_ble_eq_true rfl | omega | (dsimp only; omega)) ?_
  exact wv_X10_work_2 hl hG  g _ _ _ h
def wp_X10_repair_117 (K2 : Nat → Int32 → Sg → Prop) (this : Nat) (v1 : Int32) (σ : Sg) (Post : Rs → Sg → Prop) : Prop := (K2 this (v1 + 1) σ)
set_option maxRecDepth 100000 in
set_option maxHeartbeats 4000000 in
theorem wv_X10_repair_117 {L9 : Launch} {G : Cx} {Post : Rs → Sg → Prop} (hl : L9.stackTraces = false) (hG : CX L9 G yX10_repair cX10_repair 3 none [] { frames := 3, cells := 0, slots := 0, locals := 73 }) {K2 : Nat → Int32 → Sg → Prop} (hK2 : ∀ (this : Nat) (v1 : Int32) (ζ : Sg), K2 this v1 ζ → V G (QM G 0 0 Post) 2 [some (.ref this), some (.int v1), none] [] ζ 0 0) : ∀ (this : Nat) (v1 : Int32) (σ : Sg), wp_X10_repair_117 K2 this v1 σ Post → V G (QM G 0 0 Post) 117 [some (.ref this), some (.int v1), none] [] σ 0 0 := by
  intro this v1 σ h
  unfold wp_X10_repair_117 at h
  refine V_iincv (c := 1) hG dX10_repair_117 rfl (by decide) (hpV rfl rfl) ?_
  refine V_goto (tgt := 2) hG dX10_repair_120 (by decide) ?_
  refine V_forget (lo' := [some (.ref this), some (.int (v1 + 1)), none]) ⟨rfl, ⟨rfl, trivial⟩⟩ ?_
  exact hK2 _ _ _ h
def wp_X10_repair_98 (K2 : Nat → Int32 → Sg → Prop) (this : Nat) (v1 : Int32) (σ : Sg) (Post : Rs → Sg → Prop) : Prop := this % 32 = 10 ∧ ∀ o1, o1 = sP σ this 39 → ∃ u2, o1 = some u2 ∧ aty (u2 % 32) = some .int ∧ ∃ j3, v1 = nI j3 ∧ j3 < aln u2 ∧ this % 32 = 10 ∧ ∀ o4, o4 = sP (wI σ u2 j3 (2 : Int32)) this 40 → this % 32 = 10 ∧ ∀ o5, o5 = sP (wI σ u2 j3 (2 : Int32)) this 32 → ∃ u6, o5 = some u6 ∧ aty (u6 % 32) = some .int ∧ ∃ j7, v1 = nI j7 ∧ j7 < aln u6 ∧ ∃ u8, o4 = some u8 ∧ aty (u8 % 32) = some .int ∧ ∃ j9, v1 = nI j9 ∧ j9 < aln u8 ∧ (wp_X10_repair_117 K2 this v1 (wI (wI σ u2 j3 (2 : Int32)) u8 j9 (sI (wI σ u2 j3 (2 : Int32)) u6 j7)) Post)
set_option maxRecDepth 100000 in
set_option maxHeartbeats 4000000 in
theorem wv_X10_repair_98 {L9 : Launch} {G : Cx} {Post : Rs → Sg → Prop} (hl : L9.stackTraces = false) (hG : CX L9 G yX10_repair cX10_repair 3 none [] { frames := 3, cells := 0, slots := 0, locals := 73 }) {K2 : Nat → Int32 → Sg → Prop} (hK2 : ∀ (this : Nat) (v1 : Int32) (ζ : Sg), K2 this v1 ζ → V G (QM G 0 0 Post) 2 [some (.ref this), some (.int v1), none] [] ζ 0 0) : ∀ (this : Nat) (v1 : Int32) (σ : Sg), wp_X10_repair_98 K2 this v1 σ Post → V G (QM G 0 0 Post) 98 [some (.ref this), some (.int v1), none] [] σ 0 0 := by
  intro this v1 σ h
  unfold wp_X10_repair_98 at h
  refine V_aload_n (v := .ref this) hG dX10_repair_98 rfl rfl ?_
  obtain ⟨ht, h⟩ := h
  refine V_getPv hG dX10_repair_99 fl_X10_123 rfl ht (fun o1 ho => ?_)
  replace h := h o1 ho
  refine V_iload_n hG dX10_repair_102 rfl ?_
  refine V_iconst (v := 2) hG (by decide) dX10_repair_103 ?_
  obtain ⟨u2, he, h⟩ := h
  subst he
  obtain ⟨ha, j3, hi, hj, h⟩ := h
  refine V_iast hG dX10_repair_104 ha hi hj ?_
  refine V_aload_n (v := .ref this) hG dX10_repair_105 rfl rfl ?_
  obtain ⟨ht, h⟩ := h
  refine V_getPv hG dX10_repair_106 fl_X10_126 rfl ht (fun o4 ho => ?_)
  replace h := h o4 ho
  refine V_iload_n hG dX10_repair_109 rfl ?_
  refine V_aload_n (v := .ref this) hG dX10_repair_110 rfl rfl ?_
  obtain ⟨ht, h⟩ := h
  refine V_getPv hG dX10_repair_111 fl_X10_102 rfl ht (fun o5 ho => ?_)
  replace h := h o5 ho
  refine V_iload_n hG dX10_repair_114 rfl ?_
  obtain ⟨u6, he, h⟩ := h
  subst he
  obtain ⟨ha, j7, hi, hj, h⟩ := h
  refine V_iald hG dX10_repair_115 ha hi hj ?_
  obtain ⟨u8, he, h⟩ := h
  subst he
  obtain ⟨ha, j9, hi, hj, h⟩ := h
  refine V_iast hG dX10_repair_116 ha hi hj ?_
  refine V_forget (lo' := [some (.ref this), some (.int v1), none]) ⟨rfl, ⟨rfl, trivial⟩⟩ ?_
  refine V_widen (k' := 0) (n' := 0) (by first | exact Nat.le_of_ble_eq_true rfl | omega | (dsimp only; omega)) (by first | exact Nat.le_of_ble_eq_true rfl | omega | (dsimp only; omega)) ?_
  exact wv_X10_repair_117 hl hG hK2 _ _ _ h
def wp_X10_repair_86 (K2 : Nat → Int32 → Sg → Prop) (this : Nat) (v1 : Int32) (v2 : Int32) (σ : Sg) (Post : Rs → Sg → Prop) : Prop := ((v2 = (-1 : Int32) → (wp_X10_repair_98 K2 this v1 σ Post)) ∧ (¬ v2 = (-1 : Int32) → this % 32 = 10 ∧ wp_X10_takeKind this v2 (1 : Int32) (-1 : Int32) σ (KV (fun σ1 => (wp_X10_repair_98 K2 this v1 σ1 Post)) (fun E σ1 => Post (.inr E) σ1))))
set_option maxRecDepth 100000 in
set_option maxHeartbeats 4000000 in
theorem wv_X10_repair_86 {L9 : Launch} {G : Cx} {Post : Rs → Sg → Prop} (hl : L9.stackTraces = false) (hG : CX L9 G yX10_repair cX10_repair 3 none [] { frames := 3, cells := 0, slots := 0, locals := 73 }) {K2 : Nat → Int32 → Sg → Prop} (hK2 : ∀ (this : Nat) (v1 : Int32) (ζ : Sg), K2 this v1 ζ → V G (QM G 0 0 Post) 2 [some (.ref this), some (.int v1), none] [] ζ 0 0) : ∀ (this : Nat) (v1 : Int32) (v2 : Int32) (σ : Sg), wp_X10_repair_86 K2 this v1 v2 σ Post → V G (QM G 0 0 Post) 86 [some (.ref this), some (.int v1), some (.int v2)] [] σ 0 0 := by
  intro this v1 v2 σ h
  unfold wp_X10_repair_86 at h
  refine V_iload_n hG dX10_repair_86 rfl ?_
  refine V_iconst (v := (-1)) hG (by decide) dX10_repair_87 ?_
  refine V_icmp_eq (tgt := 98) hG dX10_repair_88 (by decide) (fun c => ?_) (fun c => ?_)
  · replace h := h.1 c
    refine V_forget (lo' := [some (.ref this), some (.int v1), none]) ⟨rfl, ⟨rfl, trivial⟩⟩ ?_
    refine V_widen (k' := 0) (n' := 0) (by first | exact Nat.le_of_ble_eq_true rfl | omega | (dsimp only; omega)) (by first | exact Nat.le_of_ble_eq_true rfl | omega | (dsimp only; omega)) ?_
    exact wv_X10_repair_98 hl hG hK2 _ _ _ h
  · replace h := h.2 c
    refine V_aload_n (v := .ref this) hG dX10_repair_91 rfl rfl ?_
    refine V_iload_n hG dX10_repair_92 rfl ?_
    refine V_iconst (v := 1) hG (by decide) dX10_repair_93 ?_
    refine V_iconst (v := (-1)) hG (by decide) dX10_repair_94 ?_
    obtain ⟨ht, h⟩ := h
    refine V_cVV _ _ hG dX10_repair_95 (ct_X10_takeKind hl h) mv_X10_takeKind ml_X10_255 ht rfl rfl rfl rfl (by first | exact Nat.le_of_ble_eq_true rfl | (simp only [List.map_cons, List.map_nil, List.sum_cons, List.sum_nil, cat_rf]; exact Nat.le_of_ble_eq_true rfl)) (Nat.le_of_ble_eq_true rfl) (Nat.le_of_ble_eq_true rfl) (by first | exact Nat.le_of_ble_eq_true rfl | omega | (dsimp only; omega)) (by first | exact Nat.le_of_ble_eq_true rfl | omega | (dsimp only; omega)) ?_ (fun σ1 h9 => ?_)
    · exact fun E σ1 hx => VX_out hG (by first | exact Nat.le_of_ble_eq_true rfl | omega | (dsimp only; omega)) (by first | exact Nat.le_of_ble_eq_true rfl | omega | (dsimp only; omega)) hx
    · replace h := h9
      clear h9
      refine V_forget (lo' := [some (.ref this), some (.int v1), none]) ⟨rfl, ⟨rfl, trivial⟩⟩ ?_
      refine V_widen (k' := 0) (n' := 0) (by first | exact Nat.le_of_ble_eq_true rfl | omega | (dsimp only; omega)) (by first | exact Nat.le_of_ble_eq_true rfl | omega | (dsimp only; omega)) ?_
      exact wv_X10_repair_98 hl hG hK2 _ _ _ h
def wp_X10_repair_2  : Nat → Nat → Int32 → Sg → (Rs → Sg → Prop) → Prop
  | 0, _, _, _, _ => False
  | f + 1, this, v1, σ, Post => this % 32 = 10 ∧ (((sI σ this 27) ≤ v1 → Post (.inl none) σ) ∧ (¬ (sI σ this 27) ≤ v1 → this % 32 = 10 ∧ ∀ o1, o1 = sP σ this 33 → ∃ u2, o1 = some u2 ∧ aty (u2 % 32) = some .int ∧ ∃ j3, v1 = nI j3 ∧ j3 < aln u2 ∧ this % 32 = 10 ∧ ∀ o4, o4 = sP σ this 39 → ∃ u5, o4 = some u5 ∧ aty (u5 % 32) = some .int ∧ ∃ j6, v1 = nI j6 ∧ j6 < aln u5 ∧ ((¬ (sI σ u5 j6) = (2 : Int32) → this % 32 = 10 ∧ ∀ o7, o7 = sP σ this 39 → ∃ u8, o7 = some u8 ∧ aty (u8 % 32) = some .int ∧ ∃ j9, v1 = nI j9 ∧ j9 < aln u8 ∧ ((¬ (sI σ u8 j9) = (1 : Int32) → (wp_X10_repair_117 (fun z0 z1 ζ => wp_X10_repair_2 f z0 z1 ζ Post) this v1 σ Post)) ∧ ((sI σ u8 j9) = (1 : Int32) → (((sI σ u2 j3) = (-1 : Int32) → (wp_X10_repair_86 (fun z0 z1 ζ => wp_X10_repair_2 f z0 z1 ζ Post) this v1 (sI σ u2 j3) σ Post)) ∧ (¬ (sI σ u2 j3) = (-1 : Int32) → this % 32 = 10 ∧ wp_X10_free this (sI σ u2 j3) σ (KI (fun x11 σ10 => ((x11 ≤ 0 → (wp_X10_repair_117 (fun z0 z1 ζ => wp_X10_repair_2 f z0 z1 ζ Post) this v1 σ10 Post)) ∧ (¬ x11 ≤ 0 → (wp_X10_repair_86 (fun z0 z1 ζ => wp_X10_repair_2 f z0 z1 ζ Post) this v1 (sI σ u2 j3) σ10 Post)))) (fun E σ10 => Post (.inr E) σ10))))))) ∧ ((sI σ u5 j6) = (2 : Int32) → this % 32 = 10 ∧ ∀ o12, o12 = sP σ this 40 → ∃ u13, o12 = some u13 ∧ aty (u13 % 32) = some .int ∧ ∃ j14, v1 = nI j14 ∧ j14 < aln u13 ∧ aty (u13 % 32) = some .int ∧ ∃ j15, v1 = nI j15 ∧ j15 < aln u13 ∧ this % 32 = 10 ∧ ∀ o16, o16 = sP (wI σ u13 j15 ((sI σ u13 j14) - (1 : Int32))) this 40 → ∃ u17, o16 = some u17 ∧ aty (u17 % 32) = some .int ∧ ∃ j18, v1 = nI j18 ∧ j18 < aln u17 ∧ ((¬ (sI (wI σ u13 j15 ((sI σ u13 j14) - (1 : Int32))) u17 j18) = 0 → (wp_X10_repair_117 (fun z0 z1 ζ => wp_X10_repair_2 f z0 z1 ζ Post) this v1 (wI σ u13 j15 ((sI σ u13 j14) - (1 : Int32))) Post)) ∧ ((sI (wI σ u13 j15 ((sI σ u13 j14) - (1 : Int32))) u17 j18) = 0 → this % 32 = 10 ∧ ∀ o19, o19 = sP (wI σ u13 j15 ((sI σ u13 j14) - (1 : Int32))) this 39 → ∃ u20, o19 = some u20 ∧ aty (u20 % 32) = some .int ∧ ∃ j21, v1 = nI j21 ∧ j21 < aln u20 ∧ this % 32 = 10 ∧ ∀ o22, o22 = sP (wI (wI σ u13 j15 ((sI σ u13 j14) - (1 : Int32))) u20 j21 (0 : Int32)) this 37 → ∃ u23, o22 = some u23 ∧ aty (u23 % 32) = some .int ∧ ∃ j24, v1 = nI j24 ∧ j24 < aln u23 ∧ (wp_X10_repair_117 (fun z0 z1 ζ => wp_X10_repair_2 f z0 z1 ζ Post) this v1 (wI (wI (wI σ u13 j15 ((sI σ u13 j14) - (1 : Int32))) u20 j21 (0 : Int32)) u23 j24 (0 : Int32)) Post)))))))
set_option maxRecDepth 100000 in
set_option maxHeartbeats 4000000 in
theorem wv_X10_repair_2 {L9 : Launch} {G : Cx} {Post : Rs → Sg → Prop} (hl : L9.stackTraces = false) (hG : CX L9 G yX10_repair cX10_repair 3 none [] { frames := 3, cells := 0, slots := 0, locals := 73 })   : ∀ (f : Nat) (this : Nat) (v1 : Int32) (σ : Sg), wp_X10_repair_2 f this v1 σ Post → V G (QM G 0 0 Post) 2 [some (.ref this), some (.int v1), none] [] σ 0 0 := by
  intro f
  induction f with
  | zero => intro _ _ σ h; exact h.elim
  | succ f ih =>
    intro this v1 σ h
    refine V_iload_n hG dX10_repair_2 rfl ?_
    refine V_aload_n (v := .ref this) hG dX10_repair_3 rfl rfl ?_
    obtain ⟨ht, h⟩ := h
    refine V_getI hG dX10_repair_4 fl_X10_183 rfl ht ?_
    refine V_icmp_ge (tgt := 123) hG dX10_repair_7 (by decide) (fun c => ?_) (fun c => ?_)
    · replace h := h.1 c
      exact V_vret hG dX10_repair_123 (by first | exact Nat.le_of_ble_eq_true rfl | omega | (dsimp only; omega)) (by first | exact Nat.le_of_ble_eq_true rfl | omega | (dsimp only; omega)) h
    · replace h := h.2 c
      refine V_aload_n (v := .ref this) hG dX10_repair_10 rfl rfl ?_
      obtain ⟨ht, h⟩ := h
      refine V_getPv hG dX10_repair_11 fl_X10_105 rfl ht (fun o1 ho => ?_)
      replace h := h o1 ho
      refine V_iload_n hG dX10_repair_14 rfl ?_
      obtain ⟨u2, he, h⟩ := h
      subst he
      obtain ⟨ha, j3, hi, hj, h⟩ := h
      refine V_iald hG dX10_repair_15 ha hi hj ?_
      refine V_istore_n hG dX10_repair_16 (Nat.le_of_ble_eq_true rfl) (hpV rfl rfl) ?_
      refine V_aload_n (v := .ref this) hG dX10_repair_17 rfl rfl ?_
      obtain ⟨ht, h⟩ := h
      refine V_getPv hG dX10_repair_18 fl_X10_123 rfl ht (fun o4 ho => ?_)
      replace h := h o4 ho
      refine V_iload_n hG dX10_repair_21 rfl ?_
      obtain ⟨u5, he, h⟩ := h
      subst he
      obtain ⟨ha, j6, hi, hj, h⟩ := h
      refine V_iald hG dX10_repair_22 ha hi hj ?_
      refine V_iconst (v := 2) hG (by decide) dX10_repair_23 ?_
      refine V_icmp_ne (tgt := 63) hG dX10_repair_24 (by decide) (fun c => ?_) (fun c => ?_)
      · replace h := h.1 c
        refine V_aload_n (v := .ref this) hG dX10_repair_63 rfl rfl ?_
        obtain ⟨ht, h⟩ := h
        refine V_getPv hG dX10_repair_64 fl_X10_123 rfl ht (fun o7 ho => ?_)
        replace h := h o7 ho
        refine V_iload_n hG dX10_repair_67 rfl ?_
        obtain ⟨u8, he, h⟩ := h
        subst he
        obtain ⟨ha, j9, hi, hj, h⟩ := h
        refine V_iald hG dX10_repair_68 ha hi hj ?_
        refine V_iconst (v := 1) hG (by decide) dX10_repair_69 ?_
        refine V_icmp_ne (tgt := 117) hG dX10_repair_70 (by decide) (fun c => ?_) (fun c => ?_)
        · replace h := h.1 c
          refine V_forget (lo' := [some (.ref this), some (.int v1), none]) ⟨rfl, ⟨rfl, trivial⟩⟩ ?_
          refine V_widen (k' := 0) (n' := 0) (by first | exact Nat.le_of_ble_eq_true rfl | omega | (dsimp only; omega)) (by first | exact Nat.le_of_ble_eq_true rfl | omega | (dsimp only; omega)) ?_
          exact wv_X10_repair_117 hl hG (fun z0 z1 ζ hz => ih z0 z1 ζ hz) _ _ _ h
        · replace h := h.2 c
          refine V_iload_n hG dX10_repair_73 rfl ?_
          refine V_iconst (v := (-1)) hG (by decide) dX10_repair_74 ?_
          refine V_icmp_eq (tgt := 86) hG dX10_repair_75 (by decide) (fun c => ?_) (fun c => ?_)
          · replace h := h.1 c
            refine V_forget (lo' := [some (.ref this), some (.int v1), some (.int (sI σ u2 j3))]) ⟨rfl, ⟨rfl, ⟨rfl, trivial⟩⟩⟩ ?_
            refine V_widen (k' := 0) (n' := 0) (by first | exact Nat.le_of_ble_eq_true rfl | omega | (dsimp only; omega)) (by first | exact Nat.le_of_ble_eq_true rfl | omega | (dsimp only; omega)) ?_
            exact wv_X10_repair_86 hl hG (fun z0 z1 ζ hz => ih z0 z1 ζ hz) _ _ _ _ h
          · replace h := h.2 c
            refine V_aload_n (v := .ref this) hG dX10_repair_78 rfl rfl ?_
            refine V_iload_n hG dX10_repair_79 rfl ?_
            obtain ⟨ht, h⟩ := h
            refine V_cVI _ _ hG dX10_repair_80 (ct_X10_free hl h) mv_X10_free ml_X10_252 ht rfl rfl rfl rfl (by first | exact Nat.le_of_ble_eq_true rfl | (simp only [List.map_cons, List.map_nil, List.sum_cons, List.sum_nil, cat_rf]; exact Nat.le_of_ble_eq_true rfl)) (Nat.le_of_ble_eq_true rfl) (Nat.le_of_ble_eq_true rfl) (by first | exact Nat.le_of_ble_eq_true rfl | omega | (dsimp only; omega)) (by first | exact Nat.le_of_ble_eq_true rfl | omega | (dsimp only; omega)) ?_ (fun x11 σ10 h9 => ?_)
            · exact fun E σ10 hx => VX_out hG (by first | exact Nat.le_of_ble_eq_true rfl | omega | (dsimp only; omega)) (by first | exact Nat.le_of_ble_eq_true rfl | omega | (dsimp only; omega)) hx
            · replace h := h9
              clear h9
              refine V_if_le (tgt := 117) hG dX10_repair_83 (by decide) (fun c => ?_) (fun c => ?_)
              · replace h := h.1 c
                refine V_forget (lo' := [some (.ref this), some (.int v1), none]) ⟨rfl, ⟨rfl, trivial⟩⟩ ?_
                refine V_widen (k' := 0) (n' := 0) (by first | exact Nat.le_of_ble_eq_true rfl | omega | (dsimp only; omega)) (by first | exact Nat.le_of_ble_eq_true rfl | omega | (dsimp only; omega)) ?_
                exact wv_X10_repair_117 hl hG (fun z0 z1 ζ hz => ih z0 z1 ζ hz) _ _ _ h
              · replace h := h.2 c
                refine V_forget (lo' := [some (.ref this), some (.int v1), some (.int (sI σ u2 j3))]) ⟨rfl, ⟨rfl, ⟨rfl, trivial⟩⟩⟩ ?_
                refine V_widen (k' := 0) (n' := 0) (by first | exact Nat.le_of_ble_eq_true rfl | omega | (dsimp only; omega)) (by first | exact Nat.le_of_ble_eq_true rfl | omega | (dsimp only; omega)) ?_
                exact wv_X10_repair_86 hl hG (fun z0 z1 ζ hz => ih z0 z1 ζ hz) _ _ _ _ h
      · replace h := h.2 c
        refine V_aload_n (v := .ref this) hG dX10_repair_27 rfl rfl ?_
        obtain ⟨ht, h⟩ := h
        refine V_getPv hG dX10_repair_28 fl_X10_126 rfl ht (fun o12 ho => ?_)
        replace h := h o12 ho
        refine V_iload_n hG dX10_repair_31 rfl ?_
        refine V_dup2 hG rfl (cat_rf _) dX10_repair_32 ?_
        obtain ⟨u13, he, h⟩ := h
        subst he
        obtain ⟨ha, j14, hi, hj, h⟩ := h
        refine V_iald hG dX10_repair_33 ha hi hj ?_
        refine V_iconst (v := 1) hG (by decide) dX10_repair_34 ?_
        refine V_isub hG dX10_repair_35 ?_
        obtain ⟨ha, j15, hi, hj, h⟩ := h
        refine V_iast hG dX10_repair_36 ha hi hj ?_
        refine V_aload_n (v := .ref this) hG dX10_repair_37 rfl rfl ?_
        obtain ⟨ht, h⟩ := h
        refine V_getPv hG dX10_repair_38 fl_X10_126 rfl ht (fun o16 ho => ?_)
        replace h := h o16 ho
        refine V_iload_n hG dX10_repair_41 rfl ?_
        obtain ⟨u17, he, h⟩ := h
        subst he
        obtain ⟨ha, j18, hi, hj, h⟩ := h
        refine V_iald hG dX10_repair_42 ha hi hj ?_
        refine V_if_ne (tgt := 117) hG dX10_repair_43 (by decide) (fun c => ?_) (fun c => ?_)
        · replace h := h.1 c
          refine V_forget (lo' := [some (.ref this), some (.int v1), none]) ⟨rfl, ⟨rfl, trivial⟩⟩ ?_
          refine V_widen (k' := 0) (n' := 0) (by first | exact Nat.le_of_ble_eq_true rfl | omega | (dsimp only; omega)) (by first | exact Nat.le_of_ble_eq_true rfl | omega | (dsimp only; omega)) ?_
          exact wv_X10_repair_117 hl hG (fun z0 z1 ζ hz => ih z0 z1 ζ hz) _ _ _ h
        · replace h := h.2 c
          refine V_aload_n (v := .ref this) hG dX10_repair_46 rfl rfl ?_
          obtain ⟨ht, h⟩ := h
          refine V_getPv hG dX10_repair_47 fl_X10_123 rfl ht (fun o19 ho => ?_)
          replace h := h o19 ho
          refine V_iload_n hG dX10_repair_50 rfl ?_
          refine V_iconst (v := 0) hG (by decide) dX10_repair_51 ?_
          obtain ⟨u20, he, h⟩ := h
          subst he
          obtain ⟨ha, j21, hi, hj, h⟩ := h
          refine V_iast hG dX10_repair_52 ha hi hj ?_
          refine V_aload_n (v := .ref this) hG dX10_repair_53 rfl rfl ?_
          obtain ⟨ht, h⟩ := h
          refine V_getPv hG dX10_repair_54 fl_X10_117 rfl ht (fun o22 ho => ?_)
          replace h := h o22 ho
          refine V_iload_n hG dX10_repair_57 rfl ?_
          refine V_iconst (v := 0) hG (by decide) dX10_repair_58 ?_
          obtain ⟨u23, he, h⟩ := h
          subst he
          obtain ⟨ha, j24, hi, hj, h⟩ := h
          refine V_iast hG dX10_repair_59 ha hi hj ?_
          refine V_goto (tgt := 117) hG dX10_repair_60 (by decide) ?_
          refine V_forget (lo' := [some (.ref this), some (.int v1), none]) ⟨rfl, ⟨rfl, trivial⟩⟩ ?_
          refine V_widen (k' := 0) (n' := 0) (by first | exact Nat.le_of_ble_eq_true rfl | omega | (dsimp only; omega)) (by first | exact Nat.le_of_ble_eq_true rfl | omega | (dsimp only; omega)) ?_
          exact wv_X10_repair_117 hl hG (fun z0 z1 ζ hz => ih z0 z1 ζ hz) _ _ _ h
def wp_X10_repair (this : Nat) (σ : Sg) (Post : Rs → Sg → Prop) : Prop := (∃ g, wp_X10_repair_2 g this (0 : Int32) σ Post)
set_option maxRecDepth 100000 in
set_option maxHeartbeats 4000000 in
theorem ct_X10_repair {l : Launch} (hl : l.stackTraces = false) {this : Nat} {σ : Sg} {Post : Rs → Sg → Prop} (h : wp_X10_repair this σ Post) : Ct l yX10_repair (.code yX10_repair cX10_repair 3 none) 3 73 0 0 [.ref this] σ Post := by
  refine Ct_of [some (.ref this), none, none] hl (by decide +kernel) rfl (fun ad => by rfl) (fun ad => by exact Nat.le_of_ble_eq_true rfl) (fun v hv => mem_lo hv rfl) ?_
  intro G hG
  unfold wp_X10_repair at h
  refine V_iconst (v := 0) hG (by decide) dX10_repair_0 ?_
  refine V_istore_n hG dX10_repair_1 (Nat.le_of_ble_eq_true rfl) (hpV rfl rfl) ?_
  refine V_forget (lo' := [some (.ref this), some (.int (0 : Int32)), none]) ⟨rfl, ⟨rfl, trivial⟩⟩ ?_
  obtain ⟨g, h⟩ := h
  refine V_widen (k' := 0) (n' := 0) (by first | exact Nat.le_of_ble_eq_true rfl | omega | (dsimp only; omega)) (by first | exact Nat.le_of_ble_eq_true rfl | omega | (dsimp only; omega)) ?_
  exact wv_X10_repair_2 hl hG  g _ _ _ h
def wp_X10_personFor_110 (K26 : Nat → Int32 → Int32 → Int32 → Sg → Prop) (this : Nat) (v2 : Int32) (v4 : Int32) (s0 : Int32) (σ : Sg) (Post : Rs → Sg → Prop) : Prop := (K26 this v2 s0 (v4 + 1) σ)
set_option maxRecDepth 100000 in
set_option maxHeartbeats 4000000 in
theorem wv_X10_personFor_110 {L9 : Launch} {G : Cx} {Post : Rs → Sg → Prop} (hl : L9.stackTraces = false) (hG : CX L9 G yX10_personFor cX10_personFor 7 (some .int) [] { frames := 1, cells := 0, slots := 0, locals := 22 }) {K26 : Nat → Int32 → Int32 → Int32 → Sg → Prop} (hK26 : ∀ (this : Nat) (v2 : Int32) (v3 : Int32) (v4 : Int32) (ζ : Sg), K26 this v2 v3 v4 ζ → V G (QM G 0 0 Post) 26 [some (.ref this), none, some (.int v2), some (.int v3), some (.int v4), none, none] [] ζ 0 0) : ∀ (this : Nat) (v2 : Int32) (v4 : Int32) (s0 : Int32) (σ : Sg), wp_X10_personFor_110 K26 this v2 v4 s0 σ Post → V G (QM G 0 0 Post) 110 [some (.ref this), none, some (.int v2), none, some (.int v4), none, none] [.int s0] σ 0 0 := by
  intro this v2 v4 s0 σ h
  unfold wp_X10_personFor_110 at h
  refine V_istore_n hG dX10_personFor_110 (Nat.le_of_ble_eq_true rfl) (hpV rfl rfl) ?_
  refine V_iincv (c := 1) hG dX10_personFor_111 rfl (by decide) (hpV rfl rfl) ?_
  refine V_goto (tgt := 26) hG dX10_personFor_114 (by decide) ?_
  refine V_forget (lo' := [some (.ref this), none, some (.int v2), some (.int s0), some (.int (v4 + 1)), none, none]) ⟨rfl, ⟨rfl, ⟨rfl, ⟨rfl, trivial⟩⟩⟩⟩ ?_
  exact hK26 _ _ _ _ _ h
def wp_X10_personFor_104 (K26 : Nat → Int32 → Int32 → Int32 → Sg → Prop) (this : Nat) (v2 : Int32) (v4 : Int32) (σ : Sg) (Post : Rs → Sg → Prop) : Prop := (wp_X10_personFor_110 K26 this v2 v4 v4 σ Post)
set_option maxRecDepth 100000 in
set_option maxHeartbeats 4000000 in
theorem wv_X10_personFor_104 {L9 : Launch} {G : Cx} {Post : Rs → Sg → Prop} (hl : L9.stackTraces = false) (hG : CX L9 G yX10_personFor cX10_personFor 7 (some .int) [] { frames := 1, cells := 0, slots := 0, locals := 22 }) {K26 : Nat → Int32 → Int32 → Int32 → Sg → Prop} (hK26 : ∀ (this : Nat) (v2 : Int32) (v3 : Int32) (v4 : Int32) (ζ : Sg), K26 this v2 v3 v4 ζ → V G (QM G 0 0 Post) 26 [some (.ref this), none, some (.int v2), some (.int v3), some (.int v4), none, none] [] ζ 0 0) : ∀ (this : Nat) (v2 : Int32) (v4 : Int32) (σ : Sg), wp_X10_personFor_104 K26 this v2 v4 σ Post → V G (QM G 0 0 Post) 104 [some (.ref this), none, some (.int v2), none, some (.int v4), none, none] [] σ 0 0 := by
  intro this v2 v4 σ h
  unfold wp_X10_personFor_104 at h
  refine V_iload hG dX10_personFor_104 rfl ?_
  refine V_goto (tgt := 110) hG dX10_personFor_106 (by decide) ?_
  refine V_forget (lo' := [some (.ref this), none, some (.int v2), none, some (.int v4), none, none]) ⟨rfl, ⟨rfl, ⟨rfl, trivial⟩⟩⟩ ?_
  refine V_widen (k' := 0) (n' := 0) (by first | exact Nat.le_of_ble_eq_true rfl | omega | (dsimp only; omega)) (by first | exact Nat.le_of_ble_eq_true rfl | omega | (dsimp only; omega)) ?_
  exact wv_X10_personFor_110 hl hG hK26 _ _ _ _ _ h
def wp_X10_personFor_109 (K26 : Nat → Int32 → Int32 → Int32 → Sg → Prop) (this : Nat) (v2 : Int32) (v3 : Int32) (v4 : Int32) (σ : Sg) (Post : Rs → Sg → Prop) : Prop := (wp_X10_personFor_110 K26 this v2 v4 v3 σ Post)
set_option maxRecDepth 100000 in
set_option maxHeartbeats 4000000 in
theorem wv_X10_personFor_109 {L9 : Launch} {G : Cx} {Post : Rs → Sg → Prop} (hl : L9.stackTraces = false) (hG : CX L9 G yX10_personFor cX10_personFor 7 (some .int) [] { frames := 1, cells := 0, slots := 0, locals := 22 }) {K26 : Nat → Int32 → Int32 → Int32 → Sg → Prop} (hK26 : ∀ (this : Nat) (v2 : Int32) (v3 : Int32) (v4 : Int32) (ζ : Sg), K26 this v2 v3 v4 ζ → V G (QM G 0 0 Post) 26 [some (.ref this), none, some (.int v2), some (.int v3), some (.int v4), none, none] [] ζ 0 0) : ∀ (this : Nat) (v2 : Int32) (v3 : Int32) (v4 : Int32) (σ : Sg), wp_X10_personFor_109 K26 this v2 v3 v4 σ Post → V G (QM G 0 0 Post) 109 [some (.ref this), none, some (.int v2), some (.int v3), some (.int v4), none, none] [] σ 0 0 := by
  intro this v2 v3 v4 σ h
  unfold wp_X10_personFor_109 at h
  refine V_iload_n hG dX10_personFor_109 rfl ?_
  refine V_forget (lo' := [some (.ref this), none, some (.int v2), none, some (.int v4), none, none]) ⟨rfl, ⟨rfl, ⟨rfl, trivial⟩⟩⟩ ?_
  refine V_widen (k' := 0) (n' := 0) (by first | exact Nat.le_of_ble_eq_true rfl | omega | (dsimp only; omega)) (by first | exact Nat.le_of_ble_eq_true rfl | omega | (dsimp only; omega)) ?_
  exact wv_X10_personFor_110 hl hG hK26 _ _ _ _ _ h
def wp_X10_personFor_77 (K26 : Nat → Int32 → Int32 → Int32 → Sg → Prop) (this : Nat) (v2 : Int32) (v3 : Int32) (v4 : Int32) (v5 : Int32) (s0 : Int32) (σ : Sg) (Post : Rs → Sg → Prop) : Prop := ((s0 = 0 → (wp_X10_personFor_109 K26 this v2 v3 v4 σ Post)) ∧ (¬ s0 = 0 → ((v3 = (-1 : Int32) → (wp_X10_personFor_104 K26 this v2 v4 σ Post)) ∧ (¬ v3 = (-1 : Int32) → this % 32 = 10 ∧ ∀ o1, o1 = sP σ this 45 → ∃ u2, o1 = some u2 ∧ aty (u2 % 32) = some .int ∧ ∃ j3, (((4 : Int32) * v3) + v2) = nI j3 ∧ j3 < aln u2 ∧ ((v5 ≤ (sI σ u2 j3) → (wp_X10_personFor_109 K26 this v2 v3 v4 σ Post)) ∧ (¬ v5 ≤ (sI σ u2 j3) → (wp_X10_personFor_104 K26 this v2 v4 σ Post)))))))
set_option maxRecDepth 100000 in
set_option maxHeartbeats 4000000 in
theorem wv_X10_personFor_77 {L9 : Launch} {G : Cx} {Post : Rs → Sg → Prop} (hl : L9.stackTraces = false) (hG : CX L9 G yX10_personFor cX10_personFor 7 (some .int) [] { frames := 1, cells := 0, slots := 0, locals := 22 }) {K26 : Nat → Int32 → Int32 → Int32 → Sg → Prop} (hK26 : ∀ (this : Nat) (v2 : Int32) (v3 : Int32) (v4 : Int32) (ζ : Sg), K26 this v2 v3 v4 ζ → V G (QM G 0 0 Post) 26 [some (.ref this), none, some (.int v2), some (.int v3), some (.int v4), none, none] [] ζ 0 0) : ∀ (this : Nat) (v2 : Int32) (v3 : Int32) (v4 : Int32) (v5 : Int32) (s0 : Int32) (σ : Sg), wp_X10_personFor_77 K26 this v2 v3 v4 v5 s0 σ Post → V G (QM G 0 0 Post) 77 [some (.ref this), none, some (.int v2), some (.int v3), some (.int v4), some (.int v5), none] [.int s0] σ 0 0 := by
  intro this v2 v3 v4 v5 s0 σ h
  unfold wp_X10_personFor_77 at h
  refine V_istore hG dX10_personFor_77 (Nat.le_of_ble_eq_true rfl) (hpV rfl rfl) ?_
  refine V_iload hG dX10_personFor_79 rfl ?_
  refine V_if_eq (tgt := 109) hG dX10_personFor_81 (by decide) (fun c => ?_) (fun c => ?_)
  · replace h := h.1 c
    refine V_forget (lo' := [some (.ref this), none, some (.int v2), some (.int v3), some (.int v4), none, none]) ⟨rfl, ⟨rfl, ⟨rfl, ⟨rfl, trivial⟩⟩⟩⟩ ?_
    refine V_widen (k' := 0) (n' := 0) (by first | exact Nat.le_of_ble_eq_true rfl | omega | (dsimp only; omega)) (by first | exact Nat.le_of_ble_eq_true rfl | omega | (dsimp only; omega)) ?_
    exact wv_X10_personFor_109 hl hG hK26 _ _ _ _ _ h
  · replace h := h.2 c
    refine V_iload_n hG dX10_personFor_84 rfl ?_
    refine V_iconst (v := (-1)) hG (by decide) dX10_personFor_85 ?_
    refine V_icmp_eq (tgt := 104) hG dX10_personFor_86 (by decide) (fun c => ?_) (fun c => ?_)
    · replace h := h.1 c
      refine V_forget (lo' := [some (.ref this), none, some (.int v2), none, some (.int v4), none, none]) ⟨rfl, ⟨rfl, ⟨rfl, trivial⟩⟩⟩ ?_
      refine V_widen (k' := 0) (n' := 0) (by first | exact Nat.le_of_ble_eq_true rfl | omega | (dsimp only; omega)) (by first | exact Nat.le_of_ble_eq_true rfl | omega | (dsimp only; omega)) ?_
      exact wv_X10_personFor_104 hl hG hK26 _ _ _ _ h
    · replace h := h.2 c
      refine V_iload hG dX10_personFor_89 rfl ?_
      refine V_aload_n (v := .ref this) hG dX10_personFor_91 rfl rfl ?_
      obtain ⟨ht, h⟩ := h
      refine V_getPv hG dX10_personFor_92 fl_X10_138 rfl ht (fun o1 ho => ?_)
      replace h := h o1 ho
      refine V_iconst (v := 4) hG (by decide) dX10_personFor_95 ?_
      refine V_iload_n hG dX10_personFor_96 rfl ?_
      refine V_imul hG dX10_personFor_97 ?_
      refine V_iload_n hG dX10_personFor_98 rfl ?_
      refine V_iadd hG dX10_personFor_99 ?_
      obtain ⟨u2, he, h⟩ := h
      subst he
      obtain ⟨ha, j3, hi, hj, h⟩ := h
      refine V_iald hG dX10_personFor_100 ha hi hj ?_
      refine V_icmp_le (tgt := 109) hG dX10_personFor_101 (by decide) (fun c => ?_) (fun c => ?_)
      · replace h := h.1 c
        refine V_forget (lo' := [some (.ref this), none, some (.int v2), some (.int v3), some (.int v4), none, none]) ⟨rfl, ⟨rfl, ⟨rfl, ⟨rfl, trivial⟩⟩⟩⟩ ?_
        refine V_widen (k' := 0) (n' := 0) (by first | exact Nat.le_of_ble_eq_true rfl | omega | (dsimp only; omega)) (by first | exact Nat.le_of_ble_eq_true rfl | omega | (dsimp only; omega)) ?_
        exact wv_X10_personFor_109 hl hG hK26 _ _ _ _ _ h
      · replace h := h.2 c
        refine V_forget (lo' := [some (.ref this), none, some (.int v2), none, some (.int v4), none, none]) ⟨rfl, ⟨rfl, ⟨rfl, trivial⟩⟩⟩ ?_
        refine V_widen (k' := 0) (n' := 0) (by first | exact Nat.le_of_ble_eq_true rfl | omega | (dsimp only; omega)) (by first | exact Nat.le_of_ble_eq_true rfl | omega | (dsimp only; omega)) ?_
        exact wv_X10_personFor_104 hl hG hK26 _ _ _ _ h
def wp_X10_personFor_76 (K26 : Nat → Int32 → Int32 → Int32 → Sg → Prop) (this : Nat) (v2 : Int32) (v3 : Int32) (v4 : Int32) (v5 : Int32) (σ : Sg) (Post : Rs → Sg → Prop) : Prop := (wp_X10_personFor_77 K26 this v2 v3 v4 v5 (0 : Int32) σ Post)
set_option maxRecDepth 100000 in
set_option maxHeartbeats 4000000 in
theorem wv_X10_personFor_76 {L9 : Launch} {G : Cx} {Post : Rs → Sg → Prop} (hl : L9.stackTraces = false) (hG : CX L9 G yX10_personFor cX10_personFor 7 (some .int) [] { frames := 1, cells := 0, slots := 0, locals := 22 }) {K26 : Nat → Int32 → Int32 → Int32 → Sg → Prop} (hK26 : ∀ (this : Nat) (v2 : Int32) (v3 : Int32) (v4 : Int32) (ζ : Sg), K26 this v2 v3 v4 ζ → V G (QM G 0 0 Post) 26 [some (.ref this), none, some (.int v2), some (.int v3), some (.int v4), none, none] [] ζ 0 0) : ∀ (this : Nat) (v2 : Int32) (v3 : Int32) (v4 : Int32) (v5 : Int32) (σ : Sg), wp_X10_personFor_76 K26 this v2 v3 v4 v5 σ Post → V G (QM G 0 0 Post) 76 [some (.ref this), none, some (.int v2), some (.int v3), some (.int v4), some (.int v5), none] [] σ 0 0 := by
  intro this v2 v3 v4 v5 σ h
  unfold wp_X10_personFor_76 at h
  refine V_iconst (v := 0) hG (by decide) dX10_personFor_76 ?_
  refine V_forget (lo' := [some (.ref this), none, some (.int v2), some (.int v3), some (.int v4), some (.int v5), none]) ⟨rfl, ⟨rfl, ⟨rfl, ⟨rfl, ⟨rfl, trivial⟩⟩⟩⟩⟩ ?_
  refine V_widen (k' := 0) (n' := 0) (by first | exact Nat.le_of_ble_eq_true rfl | omega | (dsimp only; omega)) (by first | exact Nat.le_of_ble_eq_true rfl | omega | (dsimp only; omega)) ?_
  exact wv_X10_personFor_77 hl hG hK26 _ _ _ _ _ _ _ h
def wp_X10_personFor_26  : Nat → Nat → Int32 → Int32 → Int32 → Sg → (Rs → Sg → Prop) → Prop
  | 0, _, _, _, _, _, _ => False
  | f + 1, this, v2, v3, v4, σ, Post => this % 32 = 10 ∧ (((sI σ this 41) ≤ v4 → Post (.inl (some (.int v3))) σ) ∧ (¬ (sI σ this 41) ≤ v4 → this % 32 = 10 ∧ ∀ o1, o1 = sP σ this 45 → ∃ u2, o1 = some u2 ∧ aty (u2 % 32) = some .int ∧ ∃ j3, (((4 : Int32) * v4) + v2) = nI j3 ∧ j3 < aln u2 ∧ (((sI σ u2 j3) ≤ 0 → (wp_X10_personFor_76 (fun z0 z1 z2 z3 ζ => wp_X10_personFor_26 f z0 z1 z2 z3 ζ Post) this v2 v3 v4 (sI σ u2 j3) σ Post)) ∧ (¬ (sI σ u2 j3) ≤ 0 → this % 32 = 10 ∧ wp_X10_isOnShift this v4 σ (KI (fun x5 σ4 => ((x5 = 0 → (wp_X10_personFor_76 (fun z0 z1 z2 z3 ζ => wp_X10_personFor_26 f z0 z1 z2 z3 ζ Post) this v2 v3 v4 (sI σ u2 j3) σ4 Post)) ∧ (¬ x5 = 0 → this % 32 = 10 ∧ wp_X10_machineAt this v4 σ4 (KI (fun x7 σ6 => ((¬ x7 = (-1 : Int32) → (wp_X10_personFor_76 (fun z0 z1 z2 z3 ζ => wp_X10_personFor_26 f z0 z1 z2 z3 ζ Post) this v2 v3 v4 (sI σ u2 j3) σ6 Post)) ∧ (x7 = (-1 : Int32) → (wp_X10_personFor_77 (fun z0 z1 z2 z3 ζ => wp_X10_personFor_26 f z0 z1 z2 z3 ζ Post) this v2 v3 v4 (sI σ u2 j3) (1 : Int32) σ6 Post)))) (fun E σ6 => Post (.inr E) σ6))))) (fun E σ4 => Post (.inr E) σ4))))))
set_option maxRecDepth 100000 in
set_option maxHeartbeats 4000000 in
theorem wv_X10_personFor_26 {L9 : Launch} {G : Cx} {Post : Rs → Sg → Prop} (hl : L9.stackTraces = false) (hG : CX L9 G yX10_personFor cX10_personFor 7 (some .int) [] { frames := 1, cells := 0, slots := 0, locals := 22 })   : ∀ (f : Nat) (this : Nat) (v2 : Int32) (v3 : Int32) (v4 : Int32) (σ : Sg), wp_X10_personFor_26 f this v2 v3 v4 σ Post → V G (QM G 0 0 Post) 26 [some (.ref this), none, some (.int v2), some (.int v3), some (.int v4), none, none] [] σ 0 0 := by
  intro f
  induction f with
  | zero => intro _ _ _ _ σ h; exact h.elim
  | succ f ih =>
    intro this v2 v3 v4 σ h
    refine V_iload hG dX10_personFor_26 rfl ?_
    refine V_aload_n (v := .ref this) hG dX10_personFor_28 rfl rfl ?_
    obtain ⟨ht, h⟩ := h
    refine V_getI hG dX10_personFor_29 fl_X10_186 rfl ht ?_
    refine V_icmp_ge (tgt := 117) hG dX10_personFor_32 (by decide) (fun c => ?_) (fun c => ?_)
    · replace h := h.1 c
      refine V_iload_n hG dX10_personFor_117 rfl ?_
      exact V_iret hG dX10_personFor_118 (by first | exact Nat.le_of_ble_eq_true rfl | omega | (dsimp only; omega)) (by first | exact Nat.le_of_ble_eq_true rfl | omega | (dsimp only; omega)) h
    · replace h := h.2 c
      refine V_aload_n (v := .ref this) hG dX10_personFor_35 rfl rfl ?_
      obtain ⟨ht, h⟩ := h
      refine V_getPv hG dX10_personFor_36 fl_X10_138 rfl ht (fun o1 ho => ?_)
      replace h := h o1 ho
      refine V_iconst (v := 4) hG (by decide) dX10_personFor_39 ?_
      refine V_iload hG dX10_personFor_40 rfl ?_
      refine V_imul hG dX10_personFor_42 ?_
      refine V_iload_n hG dX10_personFor_43 rfl ?_
      refine V_iadd hG dX10_personFor_44 ?_
      obtain ⟨u2, he, h⟩ := h
      subst he
      obtain ⟨ha, j3, hi, hj, h⟩ := h
      refine V_iald hG dX10_personFor_45 ha hi hj ?_
      refine V_istore hG dX10_personFor_46 (Nat.le_of_ble_eq_true rfl) (hpV rfl rfl) ?_
      refine V_iload hG dX10_personFor_48 rfl ?_
      refine V_if_le (tgt := 76) hG dX10_personFor_50 (by decide) (fun c => ?_) (fun c => ?_)
      · replace h := h.1 c
        refine V_forget (lo' := [some (.ref this), none, some (.int v2), some (.int v3), some (.int v4), some (.int (sI σ u2 j3)), none]) ⟨rfl, ⟨rfl, ⟨rfl, ⟨rfl, ⟨rfl, trivial⟩⟩⟩⟩⟩ ?_
        refine V_widen (k' := 0) (n' := 0) (by first | exact Nat.le_of_ble_eq_true rfl | omega | (dsimp only; omega)) (by first | exact Nat.le_of_ble_eq_true rfl | omega | (dsimp only; omega)) ?_
        exact wv_X10_personFor_76 hl hG (fun z0 z1 z2 z3 ζ hz => ih z0 z1 z2 z3 ζ hz) _ _ _ _ _ _ h
      · replace h := h.2 c
        refine V_aload_n (v := .ref this) hG dX10_personFor_53 rfl rfl ?_
        refine V_iload hG dX10_personFor_54 rfl ?_
        obtain ⟨ht, h⟩ := h
        refine V_cVI _ _ hG dX10_personFor_56 (ct_X10_isOnShift hl h) mv_X10_isOnShift ml_X10_264 ht rfl rfl rfl rfl (by first | exact Nat.le_of_ble_eq_true rfl | (simp only [List.map_cons, List.map_nil, List.sum_cons, List.sum_nil, cat_rf]; exact Nat.le_of_ble_eq_true rfl)) (Nat.le_of_ble_eq_true rfl) (Nat.le_of_ble_eq_true rfl) (by first | exact Nat.le_of_ble_eq_true rfl | omega | (dsimp only; omega)) (by first | exact Nat.le_of_ble_eq_true rfl | omega | (dsimp only; omega)) ?_ (fun x5 σ4 h9 => ?_)
        · exact fun E σ4 hx => VX_out hG (by first | exact Nat.le_of_ble_eq_true rfl | omega | (dsimp only; omega)) (by first | exact Nat.le_of_ble_eq_true rfl | omega | (dsimp only; omega)) hx
        · replace h := h9
          clear h9
          refine V_if_eq (tgt := 76) hG dX10_personFor_59 (by decide) (fun c => ?_) (fun c => ?_)
          · replace h := h.1 c
            refine V_forget (lo' := [some (.ref this), none, some (.int v2), some (.int v3), some (.int v4), some (.int (sI σ u2 j3)), none]) ⟨rfl, ⟨rfl, ⟨rfl, ⟨rfl, ⟨rfl, trivial⟩⟩⟩⟩⟩ ?_
            refine V_widen (k' := 0) (n' := 0) (by first | exact Nat.le_of_ble_eq_true rfl | omega | (dsimp only; omega)) (by first | exact Nat.le_of_ble_eq_true rfl | omega | (dsimp only; omega)) ?_
            exact wv_X10_personFor_76 hl hG (fun z0 z1 z2 z3 ζ hz => ih z0 z1 z2 z3 ζ hz) _ _ _ _ _ _ h
          · replace h := h.2 c
            refine V_aload_n (v := .ref this) hG dX10_personFor_62 rfl rfl ?_
            refine V_iload hG dX10_personFor_63 rfl ?_
            obtain ⟨ht, h⟩ := h
            refine V_cVI _ _ hG dX10_personFor_65 (ct_X10_machineAt hl h) mv_X10_machineAt ml_X10_273 ht rfl rfl rfl rfl (by first | exact Nat.le_of_ble_eq_true rfl | (simp only [List.map_cons, List.map_nil, List.sum_cons, List.sum_nil, cat_rf]; exact Nat.le_of_ble_eq_true rfl)) (Nat.le_of_ble_eq_true rfl) (Nat.le_of_ble_eq_true rfl) (by first | exact Nat.le_of_ble_eq_true rfl | omega | (dsimp only; omega)) (by first | exact Nat.le_of_ble_eq_true rfl | omega | (dsimp only; omega)) ?_ (fun x7 σ6 h9 => ?_)
            · exact fun E σ6 hx => VX_out hG (by first | exact Nat.le_of_ble_eq_true rfl | omega | (dsimp only; omega)) (by first | exact Nat.le_of_ble_eq_true rfl | omega | (dsimp only; omega)) hx
            · replace h := h9
              clear h9
              refine V_iconst (v := (-1)) hG (by decide) dX10_personFor_68 ?_
              refine V_icmp_ne (tgt := 76) hG dX10_personFor_69 (by decide) (fun c => ?_) (fun c => ?_)
              · replace h := h.1 c
                refine V_forget (lo' := [some (.ref this), none, some (.int v2), some (.int v3), some (.int v4), some (.int (sI σ u2 j3)), none]) ⟨rfl, ⟨rfl, ⟨rfl, ⟨rfl, ⟨rfl, trivial⟩⟩⟩⟩⟩ ?_
                refine V_widen (k' := 0) (n' := 0) (by first | exact Nat.le_of_ble_eq_true rfl | omega | (dsimp only; omega)) (by first | exact Nat.le_of_ble_eq_true rfl | omega | (dsimp only; omega)) ?_
                exact wv_X10_personFor_76 hl hG (fun z0 z1 z2 z3 ζ hz => ih z0 z1 z2 z3 ζ hz) _ _ _ _ _ _ h
              · replace h := h.2 c
                refine V_iconst (v := 1) hG (by decide) dX10_personFor_72 ?_
                refine V_goto (tgt := 77) hG dX10_personFor_73 (by decide) ?_
                refine V_forget (lo' := [some (.ref this), none, some (.int v2), some (.int v3), some (.int v4), some (.int (sI σ u2 j3)), none]) ⟨rfl, ⟨rfl, ⟨rfl, ⟨rfl, ⟨rfl, trivial⟩⟩⟩⟩⟩ ?_
                refine V_widen (k' := 0) (n' := 0) (by first | exact Nat.le_of_ble_eq_true rfl | omega | (dsimp only; omega)) (by first | exact Nat.le_of_ble_eq_true rfl | omega | (dsimp only; omega)) ?_
                exact wv_X10_personFor_77 hl hG (fun z0 z1 z2 z3 ζ hz => ih z0 z1 z2 z3 ζ hz) _ _ _ _ _ _ _ h
def wp_X10_personFor (this : Nat) (a0 : Int32) (σ : Sg) (Post : Rs → Sg → Prop) : Prop := this % 32 = 10 ∧ ∀ o1, o1 = sP σ this 9 → this % 32 = 10 ∧ ∀ o2, o2 = sP σ this 15 → ∃ u3, o2 = some u3 ∧ aty (u3 % 32) = some .int ∧ ∃ j4, a0 = nI j4 ∧ j4 < aln u3 ∧ this % 32 = 10 ∧ ∀ o5, o5 = sP σ this 19 → ∃ u6, o5 = some u6 ∧ aty (u6 % 32) = some .int ∧ ∃ j7, a0 = nI j7 ∧ j7 < aln u6 ∧ ∃ u8, o1 = some u8 ∧ aty (u8 % 32) = some .int ∧ ∃ j9, (((4 : Int32) * (sI σ u3 j4)) + (sI σ u6 j7)) = nI j9 ∧ j9 < aln u8 ∧ (∃ g, wp_X10_personFor_26 g this (sI σ u8 j9) (-1 : Int32) (0 : Int32) σ Post)
set_option maxRecDepth 100000 in
set_option maxHeartbeats 4000000 in
theorem ct_X10_personFor {l : Launch} (hl : l.stackTraces = false) {this : Nat} {a0 : Int32} {σ : Sg} {Post : Rs → Sg → Prop} (h : wp_X10_personFor this a0 σ Post) : Ct l yX10_personFor (.code yX10_personFor cX10_personFor 7 (some .int)) 1 22 0 0 [.ref this, .int a0] σ Post := by
  refine Ct_of [some (.ref this), some (.int a0), none, none, none, none, none] hl (by decide +kernel) rfl (fun ad => by rfl) (fun ad => by exact Nat.le_of_ble_eq_true rfl) (fun v hv => mem_lo hv rfl) ?_
  intro G hG
  unfold wp_X10_personFor at h
  refine V_aload_n (v := .ref this) hG dX10_personFor_0 rfl rfl ?_
  obtain ⟨ht, h⟩ := h
  refine V_getPv hG dX10_personFor_1 fl_X10_37 rfl ht (fun o1 ho => ?_)
  replace h := h o1 ho
  refine V_iconst (v := 4) hG (by decide) dX10_personFor_4 ?_
  refine V_aload_n (v := .ref this) hG dX10_personFor_5 rfl rfl ?_
  obtain ⟨ht, h⟩ := h
  refine V_getPv hG dX10_personFor_6 fl_X10_53 rfl ht (fun o2 ho => ?_)
  replace h := h o2 ho
  refine V_iload_n hG dX10_personFor_9 rfl ?_
  obtain ⟨u3, he, h⟩ := h
  subst he
  obtain ⟨ha, j4, hi, hj, h⟩ := h
  refine V_iald hG dX10_personFor_10 ha hi hj ?_
  refine V_imul hG dX10_personFor_11 ?_
  refine V_aload_n (v := .ref this) hG dX10_personFor_12 rfl rfl ?_
  obtain ⟨ht, h⟩ := h
  refine V_getPv hG dX10_personFor_13 fl_X10_65 rfl ht (fun o5 ho => ?_)
  replace h := h o5 ho
  refine V_iload_n hG dX10_personFor_16 rfl ?_
  obtain ⟨u6, he, h⟩ := h
  subst he
  obtain ⟨ha, j7, hi, hj, h⟩ := h
  refine V_iald hG dX10_personFor_17 ha hi hj ?_
  refine V_iadd hG dX10_personFor_18 ?_
  obtain ⟨u8, he, h⟩ := h
  subst he
  obtain ⟨ha, j9, hi, hj, h⟩ := h
  refine V_iald hG dX10_personFor_19 ha hi hj ?_
  refine V_istore_n hG dX10_personFor_20 (Nat.le_of_ble_eq_true rfl) (hpV rfl rfl) ?_
  refine V_iconst (v := (-1)) hG (by decide) dX10_personFor_21 ?_
  refine V_istore_n hG dX10_personFor_22 (Nat.le_of_ble_eq_true rfl) (hpV rfl rfl) ?_
  refine V_iconst (v := 0) hG (by decide) dX10_personFor_23 ?_
  refine V_istore hG dX10_personFor_24 (Nat.le_of_ble_eq_true rfl) (hpV rfl rfl) ?_
  refine V_forget (lo' := [some (.ref this), none, some (.int (sI σ u8 j9)), some (.int (-1 : Int32)), some (.int (0 : Int32)), none, none]) ⟨rfl, ⟨rfl, ⟨rfl, ⟨rfl, trivial⟩⟩⟩⟩ ?_
  obtain ⟨g, h⟩ := h
  refine V_widen (k' := 0) (n' := 0) (by first | exact Nat.le_of_ble_eq_true rfl | omega | (dsimp only; omega)) (by first | exact Nat.le_of_ble_eq_true rfl | omega | (dsimp only; omega)) ?_
  exact wv_X10_personFor_26 hl hG  g _ _ _ _ _ h
def wp_X10_needsParts (this : Nat) (a0 : Int32) (σ : Sg) (Post : Rs → Sg → Prop) : Prop := this % 32 = 10 ∧ ∀ o1, o1 = sP σ this 19 → ∃ u2, o1 = some u2 ∧ aty (u2 % 32) = some .int ∧ ∃ j3, a0 = nI j3 ∧ j3 < aln u2 ∧ ((¬ (sI σ u2 j3) = 0 → (b01 (0 : Int32) ∧ Post (.inl (some (.int (0 : Int32)))) σ)) ∧ ((sI σ u2 j3) = 0 → this % 32 = 10 ∧ ∀ o4, o4 = sP σ this 22 → ∃ u5, o4 = some u5 ∧ aty (u5 % 32) = some .boolean ∧ ∃ j6, a0 = nI j6 ∧ j6 < aln u5 ∧ ((¬ (sI σ u5 j6) = 0 → (b01 (0 : Int32) ∧ Post (.inl (some (.int (0 : Int32)))) σ)) ∧ ((sI σ u5 j6) = 0 → (b01 (1 : Int32) ∧ Post (.inl (some (.int (1 : Int32)))) σ)))))
set_option maxRecDepth 100000 in
set_option maxHeartbeats 4000000 in
theorem ct_X10_needsParts {l : Launch} (hl : l.stackTraces = false) {this : Nat} {a0 : Int32} {σ : Sg} {Post : Rs → Sg → Prop} (h : wp_X10_needsParts this a0 σ Post) : Ct l yX10_needsParts (.code yX10_needsParts cX10_needsParts 2 (some .boolean)) 0 0 0 0 [.ref this, .int a0] σ Post := by
  refine Ct_of [some (.ref this), some (.int a0)] hl (by decide +kernel) rfl (fun ad => by rfl) (fun ad => by exact Nat.le_of_ble_eq_true rfl) (fun v hv => mem_lo hv rfl) ?_
  intro G hG
  unfold wp_X10_needsParts at h
  refine V_aload_n (v := .ref this) hG dX10_needsParts_0 rfl rfl ?_
  obtain ⟨ht, h⟩ := h
  refine V_getPv hG dX10_needsParts_1 fl_X10_65 rfl ht (fun o1 ho => ?_)
  replace h := h o1 ho
  refine V_iload_n hG dX10_needsParts_4 rfl ?_
  obtain ⟨u2, he, h⟩ := h
  subst he
  obtain ⟨ha, j3, hi, hj, h⟩ := h
  refine V_iald hG dX10_needsParts_5 ha hi hj ?_
  refine V_if_ne (tgt := 22) hG dX10_needsParts_6 (by decide) (fun c => ?_) (fun c => ?_)
  · replace h := h.1 c
    refine V_iconst (v := 0) hG (by decide) dX10_needsParts_22 ?_
    exact V_zret hG dX10_needsParts_23 h.1 (by first | exact Nat.le_of_ble_eq_true rfl | omega | (dsimp only; omega)) (by first | exact Nat.le_of_ble_eq_true rfl | omega | (dsimp only; omega)) h.2
  · replace h := h.2 c
    refine V_aload_n (v := .ref this) hG dX10_needsParts_9 rfl rfl ?_
    obtain ⟨ht, h⟩ := h
    refine V_getPv hG dX10_needsParts_10 fl_X10_74 rfl ht (fun o4 ho => ?_)
    replace h := h o4 ho
    refine V_iload_n hG dX10_needsParts_13 rfl ?_
    obtain ⟨u5, he, h⟩ := h
    subst he
    obtain ⟨ha, j6, hi, hj, h⟩ := h
    refine V_zald hG dX10_needsParts_14 ha hi hj ?_
    refine V_if_ne (tgt := 22) hG dX10_needsParts_15 (by decide) (fun c => ?_) (fun c => ?_)
    · replace h := h.1 c
      refine V_iconst (v := 0) hG (by decide) dX10_needsParts_22 ?_
      exact V_zret hG dX10_needsParts_23 h.1 (by first | exact Nat.le_of_ble_eq_true rfl | omega | (dsimp only; omega)) (by first | exact Nat.le_of_ble_eq_true rfl | omega | (dsimp only; omega)) h.2
    · replace h := h.2 c
      refine V_iconst (v := 1) hG (by decide) dX10_needsParts_18 ?_
      refine V_goto (tgt := 23) hG dX10_needsParts_19 (by decide) ?_
      exact V_zret hG dX10_needsParts_23 h.1 (by first | exact Nat.le_of_ble_eq_true rfl | omega | (dsimp only; omega)) (by first | exact Nat.le_of_ble_eq_true rfl | omega | (dsimp only; omega)) h.2
def wp_X10_freeBehind_56 (K10 : Nat → Int32 → Int32 → Int32 → Int32 → Int32 → Sg → Prop) (this : Nat) (v1 : Int32) (v2 : Int32) (v3 : Int32) (v5 : Int32) (s0 : Int32) (s1 : Int32) (σ : Sg) (Post : Rs → Sg → Prop) : Prop := (K10 this v1 v2 v3 (s0 - s1) (v5 + 1) σ)
set_option maxRecDepth 100000 in
set_option maxHeartbeats 4000000 in
theorem wv_X10_freeBehind_56 {L9 : Launch} {G : Cx} {Post : Rs → Sg → Prop} (hl : L9.stackTraces = false) (hG : CX L9 G yX10_freeBehind cX10_freeBehind 6 (some .int) [] { frames := 2, cells := 0, slots := 0, locals := 44 }) {K10 : Nat → Int32 → Int32 → Int32 → Int32 → Int32 → Sg → Prop} (hK10 : ∀ (this : Nat) (v1 : Int32) (v2 : Int32) (v3 : Int32) (v4 : Int32) (v5 : Int32) (ζ : Sg), K10 this v1 v2 v3 v4 v5 ζ → V G (QM G 0 0 Post) 10 [some (.ref this), some (.int v1), some (.int v2), some (.int v3), some (.int v4), some (.int v5)] [] ζ 0 0) : ∀ (this : Nat) (v1 : Int32) (v2 : Int32) (v3 : Int32) (v5 : Int32) (s0 : Int32) (s1 : Int32) (σ : Sg), wp_X10_freeBehind_56 K10 this v1 v2 v3 v5 s0 s1 σ Post → V G (QM G 0 0 Post) 56 [some (.ref this), some (.int v1), some (.int v2), some (.int v3), none, some (.int v5)] [.int s1, .int s0] σ 0 0 := by
  intro this v1 v2 v3 v5 s0 s1 σ h
  unfold wp_X10_freeBehind_56 at h
  refine V_isub hG dX10_freeBehind_56 ?_
  refine V_istore hG dX10_freeBehind_57 (Nat.le_of_ble_eq_true rfl) (hpV rfl rfl) ?_
  refine V_iincv (c := 1) hG dX10_freeBehind_59 rfl (by decide) (hpV rfl rfl) ?_
  refine V_goto (tgt := 10) hG dX10_freeBehind_62 (by decide) ?_
  refine V_forget (lo' := [some (.ref this), some (.int v1), some (.int v2), some (.int v3), some (.int (s0 - s1)), some (.int (v5 + 1))]) ⟨rfl, ⟨rfl, ⟨rfl, ⟨rfl, ⟨rfl, ⟨rfl, trivial⟩⟩⟩⟩⟩⟩ ?_
  exact hK10 _ _ _ _ _ _ _ h
def wp_X10_freeBehind_10  : Nat → Nat → Int32 → Int32 → Int32 → Int32 → Int32 → Sg → (Rs → Sg → Prop) → Prop
  | 0, _, _, _, _, _, _, _, _ => False
  | f + 1, this, v1, v2, v3, v4, v5, σ, Post => ((v2 ≤ v5 → Post (.inl (some (.int v4))) σ) ∧ (¬ v2 ≤ v5 → this % 32 = 10 ∧ ∀ o1, o1 = sP σ this 60 → ∃ u2, o1 = some u2 ∧ aty (u2 % 32) = some .int ∧ ∃ j3, v5 = nI j3 ∧ j3 < aln u2 ∧ ((¬ (sI σ u2 j3) = v3 → (wp_X10_freeBehind_56 (fun z0 z1 z2 z3 z4 z5 ζ => wp_X10_freeBehind_10 f z0 z1 z2 z3 z4 z5 ζ Post) this v1 v2 v3 v5 v4 (0 : Int32) σ Post)) ∧ ((sI σ u2 j3) = v3 → this % 32 = 10 ∧ ∀ o4, o4 = sP σ this 5 → this % 32 = 10 ∧ ∀ o5, o5 = sP σ this 15 → ∃ u6, o5 = some u6 ∧ aty (u6 % 32) = some .int ∧ ∃ j7, v1 = nI j7 ∧ j7 < aln u6 ∧ ∃ u8, o4 = some u8 ∧ aty (u8 % 32) = some .int ∧ ∃ j9, (((3 : Int32) * (sI σ u6 j7)) + v5) = nI j9 ∧ j9 < aln u8 ∧ this % 32 = 10 ∧ ∀ o10, o10 = sP σ this 16 → ∃ u11, o10 = some u11 ∧ aty (u11 % 32) = some .int ∧ ∃ j12, v1 = nI j12 ∧ j12 < aln u11 ∧ (wp_X10_freeBehind_56 (fun z0 z1 z2 z3 z4 z5 ζ => wp_X10_freeBehind_10 f z0 z1 z2 z3 z4 z5 ζ Post) this v1 v2 v3 v5 v4 ((sI σ u8 j9) * (sI σ u11 j12)) σ Post)))))
set_option maxRecDepth 100000 in
set_option maxHeartbeats 4000000 in
theorem wv_X10_freeBehind_10 {L9 : Launch} {G : Cx} {Post : Rs → Sg → Prop} (hl : L9.stackTraces = false) (hG : CX L9 G yX10_freeBehind cX10_freeBehind 6 (some .int) [] { frames := 2, cells := 0, slots := 0, locals := 44 })   : ∀ (f : Nat) (this : Nat) (v1 : Int32) (v2 : Int32) (v3 : Int32) (v4 : Int32) (v5 : Int32) (σ : Sg), wp_X10_freeBehind_10 f this v1 v2 v3 v4 v5 σ Post → V G (QM G 0 0 Post) 10 [some (.ref this), some (.int v1), some (.int v2), some (.int v3), some (.int v4), some (.int v5)] [] σ 0 0 := by
  intro f
  induction f with
  | zero => intro _ _ _ _ _ _ σ h; exact h.elim
  | succ f ih =>
    intro this v1 v2 v3 v4 v5 σ h
    refine V_iload hG dX10_freeBehind_10 rfl ?_
    refine V_iload_n hG dX10_freeBehind_12 rfl ?_
    refine V_icmp_ge (tgt := 65) hG dX10_freeBehind_13 (by decide) (fun c => ?_) (fun c => ?_)
    · replace h := h.1 c
      refine V_iload hG dX10_freeBehind_65 rfl ?_
      exact V_iret hG dX10_freeBehind_67 (by first | exact Nat.le_of_ble_eq_true rfl | omega | (dsimp only; omega)) (by first | exact Nat.le_of_ble_eq_true rfl | omega | (dsimp only; omega)) h
    · replace h := h.2 c
      refine V_iload hG dX10_freeBehind_16 rfl ?_
      refine V_aload_n (v := .ref this) hG dX10_freeBehind_18 rfl rfl ?_
      obtain ⟨ht, h⟩ := h
      refine V_getPv hG dX10_freeBehind_19 fl_X10_162 rfl ht (fun o1 ho => ?_)
      replace h := h o1 ho
      refine V_iload hG dX10_freeBehind_22 rfl ?_
      obtain ⟨u2, he, h⟩ := h
      subst he
      obtain ⟨ha, j3, hi, hj, h⟩ := h
      refine V_iald hG dX10_freeBehind_24 ha hi hj ?_
      refine V_iload_n hG dX10_freeBehind_25 rfl ?_
      refine V_icmp_ne (tgt := 55) hG dX10_freeBehind_26 (by decide) (fun c => ?_) (fun c => ?_)
      · replace h := h.1 c
        refine V_iconst (v := 0) hG (by decide) dX10_freeBehind_55 ?_
        refine V_forget (lo' := [some (.ref this), some (.int v1), some (.int v2), some (.int v3), none, some (.int v5)]) ⟨rfl, ⟨rfl, ⟨rfl, ⟨rfl, ⟨rfl, trivial⟩⟩⟩⟩⟩ ?_
        refine V_widen (k' := 0) (n' := 0) (by first | exact Nat.le_of_ble_eq_true rfl | omega | (dsimp only; omega)) (by first | exact Nat.le_of_ble_eq_true rfl | omega | (dsimp only; omega)) ?_
        exact wv_X10_freeBehind_56 hl hG (fun z0 z1 z2 z3 z4 z5 ζ hz => ih z0 z1 z2 z3 z4 z5 ζ hz) _ _ _ _ _ _ _ _ h
      · replace h := h.2 c
        refine V_aload_n (v := .ref this) hG dX10_freeBehind_29 rfl rfl ?_
        obtain ⟨ht, h⟩ := h
        refine V_getPv hG dX10_freeBehind_30 fl_X10_25 rfl ht (fun o4 ho => ?_)
        replace h := h o4 ho
        refine V_iconst (v := 3) hG (by decide) dX10_freeBehind_33 ?_
        refine V_aload_n (v := .ref this) hG dX10_freeBehind_34 rfl rfl ?_
        obtain ⟨ht, h⟩ := h
        refine V_getPv hG dX10_freeBehind_35 fl_X10_53 rfl ht (fun o5 ho => ?_)
        replace h := h o5 ho
        refine V_iload_n hG dX10_freeBehind_38 rfl ?_
        obtain ⟨u6, he, h⟩ := h
        subst he
        obtain ⟨ha, j7, hi, hj, h⟩ := h
        refine V_iald hG dX10_freeBehind_39 ha hi hj ?_
        refine V_imul hG dX10_freeBehind_40 ?_
        refine V_iload hG dX10_freeBehind_41 rfl ?_
        refine V_iadd hG dX10_freeBehind_43 ?_
        obtain ⟨u8, he, h⟩ := h
        subst he
        obtain ⟨ha, j9, hi, hj, h⟩ := h
        refine V_iald hG dX10_freeBehind_44 ha hi hj ?_
        refine V_aload_n (v := .ref this) hG dX10_freeBehind_45 rfl rfl ?_
        obtain ⟨ht, h⟩ := h
        refine V_getPv hG dX10_freeBehind_46 fl_X10_56 rfl ht (fun o10 ho => ?_)
        replace h := h o10 ho
        refine V_iload_n hG dX10_freeBehind_49 rfl ?_
        obtain ⟨u11, he, h⟩ := h
        subst he
        obtain ⟨ha, j12, hi, hj, h⟩ := h
        refine V_iald hG dX10_freeBehind_50 ha hi hj ?_
        refine V_imul hG dX10_freeBehind_51 ?_
        refine V_goto (tgt := 56) hG dX10_freeBehind_52 (by decide) ?_
        refine V_forget (lo' := [some (.ref this), some (.int v1), some (.int v2), some (.int v3), none, some (.int v5)]) ⟨rfl, ⟨rfl, ⟨rfl, ⟨rfl, ⟨rfl, trivial⟩⟩⟩⟩⟩ ?_
        refine V_widen (k' := 0) (n' := 0) (by first | exact Nat.le_of_ble_eq_true rfl | omega | (dsimp only; omega)) (by first | exact Nat.le_of_ble_eq_true rfl | omega | (dsimp only; omega)) ?_
        exact wv_X10_freeBehind_56 hl hG (fun z0 z1 z2 z3 z4 z5 ζ hz => ih z0 z1 z2 z3 z4 z5 ζ hz) _ _ _ _ _ _ _ _ h
def wp_X10_freeBehind (this : Nat) (a0 : Int32) (a1 : Int32) (a2 : Int32) (σ : Sg) (Post : Rs → Sg → Prop) : Prop := this % 32 = 10 ∧ wp_X10_free this a2 σ (KI (fun x2 σ1 => (∃ g, wp_X10_freeBehind_10 g this a0 a1 a2 x2 (0 : Int32) σ1 Post)) (fun E σ1 => Post (.inr E) σ1))
set_option maxRecDepth 100000 in
set_option maxHeartbeats 4000000 in
theorem ct_X10_freeBehind {l : Launch} (hl : l.stackTraces = false) {this : Nat} {a0 : Int32} {a1 : Int32} {a2 : Int32} {σ : Sg} {Post : Rs → Sg → Prop} (h : wp_X10_freeBehind this a0 a1 a2 σ Post) : Ct l yX10_freeBehind (.code yX10_freeBehind cX10_freeBehind 6 (some .int)) 2 44 0 0 [.ref this, .int a0, .int a1, .int a2] σ Post := by
  refine Ct_of [some (.ref this), some (.int a0), some (.int a1), some (.int a2), none, none] hl (by decide +kernel) rfl (fun ad => by rfl) (fun ad => by exact Nat.le_of_ble_eq_true rfl) (fun v hv => mem_lo hv rfl) ?_
  intro G hG
  unfold wp_X10_freeBehind at h
  refine V_aload_n (v := .ref this) hG dX10_freeBehind_0 rfl rfl ?_
  refine V_iload_n hG dX10_freeBehind_1 rfl ?_
  obtain ⟨ht, h⟩ := h
  refine V_cVI _ _ hG dX10_freeBehind_2 (ct_X10_free hl h) mv_X10_free ml_X10_252 ht rfl rfl rfl rfl (by first | exact Nat.le_of_ble_eq_true rfl | (simp only [List.map_cons, List.map_nil, List.sum_cons, List.sum_nil, cat_rf]; exact Nat.le_of_ble_eq_true rfl)) (Nat.le_of_ble_eq_true rfl) (Nat.le_of_ble_eq_true rfl) (by first | exact Nat.le_of_ble_eq_true rfl | omega | (dsimp only; omega)) (by first | exact Nat.le_of_ble_eq_true rfl | omega | (dsimp only; omega)) ?_ (fun x2 σ1 h9 => ?_)
  · exact fun E σ1 hx => VX_out hG (by first | exact Nat.le_of_ble_eq_true rfl | omega | (dsimp only; omega)) (by first | exact Nat.le_of_ble_eq_true rfl | omega | (dsimp only; omega)) hx
  · replace h := h9
    clear h9
    refine V_istore hG dX10_freeBehind_5 (Nat.le_of_ble_eq_true rfl) (hpV rfl rfl) ?_
    refine V_iconst (v := 0) hG (by decide) dX10_freeBehind_7 ?_
    refine V_istore hG dX10_freeBehind_8 (Nat.le_of_ble_eq_true rfl) (hpV rfl rfl) ?_
    refine V_forget (lo' := [some (.ref this), some (.int a0), some (.int a1), some (.int a2), some (.int x2), some (.int (0 : Int32))]) ⟨rfl, ⟨rfl, ⟨rfl, ⟨rfl, ⟨rfl, ⟨rfl, trivial⟩⟩⟩⟩⟩⟩ ?_
    obtain ⟨g, h⟩ := h
    refine V_widen (k' := 0) (n' := 0) (by first | exact Nat.le_of_ble_eq_true rfl | omega | (dsimp only; omega)) (by first | exact Nat.le_of_ble_eq_true rfl | omega | (dsimp only; omega)) ?_
    exact wv_X10_freeBehind_10 hl hG  g _ _ _ _ _ _ _ h
def wp_X10_hasParts_134 (K12 : Nat → Int32 → Int32 → Int32 → Int32 → Sg → Prop) (this : Nat) (v1 : Int32) (v2 : Int32) (v3 : Int32) (v4 : Int32) (σ : Sg) (Post : Rs → Sg → Prop) : Prop := (K12 this v1 v2 v3 (v4 + 1) σ)
set_option maxRecDepth 100000 in
set_option maxHeartbeats 4000000 in
theorem wv_X10_hasParts_134 {L9 : Launch} {G : Cx} {Post : Rs → Sg → Prop} (hl : L9.stackTraces = false) (hG : CX L9 G yX10_hasParts cX10_hasParts 7 (some .boolean) [] { frames := 3, cells := 0, slots := 0, locals := 69 }) {K12 : Nat → Int32 → Int32 → Int32 → Int32 → Sg → Prop} (hK12 : ∀ (this : Nat) (v1 : Int32) (v2 : Int32) (v3 : Int32) (v4 : Int32) (ζ : Sg), K12 this v1 v2 v3 v4 ζ → V G (QM G 0 0 Post) 12 [some (.ref this), some (.int v1), some (.int v2), some (.int v3), some (.int v4), none, none] [] ζ 0 0) : ∀ (this : Nat) (v1 : Int32) (v2 : Int32) (v3 : Int32) (v4 : Int32) (σ : Sg), wp_X10_hasParts_134 K12 this v1 v2 v3 v4 σ Post → V G (QM G 0 0 Post) 134 [some (.ref this), some (.int v1), some (.int v2), some (.int v3), some (.int v4), none, none] [] σ 0 0 := by
  intro this v1 v2 v3 v4 σ h
  unfold wp_X10_hasParts_134 at h
  refine V_iincv (c := 1) hG dX10_hasParts_134 rfl (by decide) (hpV rfl rfl) ?_
  refine V_goto (tgt := 12) hG dX10_hasParts_137 (by decide) ?_
  refine V_forget (lo' := [some (.ref this), some (.int v1), some (.int v2), some (.int v3), some (.int (v4 + 1)), none, none]) ⟨rfl, ⟨rfl, ⟨rfl, ⟨rfl, ⟨rfl, trivial⟩⟩⟩⟩⟩ ?_
  exact hK12 _ _ _ _ _ _ h
def wp_X10_hasParts_133 (K12 : Nat → Int32 → Int32 → Int32 → Int32 → Sg → Prop) (this : Nat) (v1 : Int32) (v2 : Int32) (v4 : Int32) (s0 : Int32) (σ : Sg) (Post : Rs → Sg → Prop) : Prop := (wp_X10_hasParts_134 K12 this v1 v2 s0 v4 σ Post)
set_option maxRecDepth 100000 in
set_option maxHeartbeats 4000000 in
theorem wv_X10_hasParts_133 {L9 : Launch} {G : Cx} {Post : Rs → Sg → Prop} (hl : L9.stackTraces = false) (hG : CX L9 G yX10_hasParts cX10_hasParts 7 (some .boolean) [] { frames := 3, cells := 0, slots := 0, locals := 69 }) {K12 : Nat → Int32 → Int32 → Int32 → Int32 → Sg → Prop} (hK12 : ∀ (this : Nat) (v1 : Int32) (v2 : Int32) (v3 : Int32) (v4 : Int32) (ζ : Sg), K12 this v1 v2 v3 v4 ζ → V G (QM G 0 0 Post) 12 [some (.ref this), some (.int v1), some (.int v2), some (.int v3), some (.int v4), none, none] [] ζ 0 0) : ∀ (this : Nat) (v1 : Int32) (v2 : Int32) (v4 : Int32) (s0 : Int32) (σ : Sg), wp_X10_hasParts_133 K12 this v1 v2 v4 s0 σ Post → V G (QM G 0 0 Post) 133 [some (.ref this), some (.int v1), some (.int v2), none, some (.int v4), none, none] [.int s0] σ 0 0 := by
  intro this v1 v2 v4 s0 σ h
  unfold wp_X10_hasParts_133 at h
  refine V_istore_n hG dX10_hasParts_133 (Nat.le_of_ble_eq_true rfl) (hpV rfl rfl) ?_
  refine V_forget (lo' := [some (.ref this), some (.int v1), some (.int v2), some (.int s0), some (.int v4), none, none]) ⟨rfl, ⟨rfl, ⟨rfl, ⟨rfl, ⟨rfl, trivial⟩⟩⟩⟩⟩ ?_
  refine V_widen (k' := 0) (n' := 0) (by first | exact Nat.le_of_ble_eq_true rfl | omega | (dsimp only; omega)) (by first | exact Nat.le_of_ble_eq_true rfl | omega | (dsimp only; omega)) ?_
  exact wv_X10_hasParts_134 hl hG hK12 _ _ _ _ _ _ h
def wp_X10_hasParts_132 (K12 : Nat → Int32 → Int32 → Int32 → Int32 → Sg → Prop) (this : Nat) (v1 : Int32) (v2 : Int32) (v4 : Int32) (σ : Sg) (Post : Rs → Sg → Prop) : Prop := (wp_X10_hasParts_133 K12 this v1 v2 v4 (0 : Int32) σ Post)
set_option maxRecDepth 100000 in
set_option maxHeartbeats 4000000 in
theorem wv_X10_hasParts_132 {L9 : Launch} {G : Cx} {Post : Rs → Sg → Prop} (hl : L9.stackTraces = false) (hG : CX L9 G yX10_hasParts cX10_hasParts 7 (some .boolean) [] { frames := 3, cells := 0, slots := 0, locals := 69 }) {K12 : Nat → Int32 → Int32 → Int32 → Int32 → Sg → Prop} (hK12 : ∀ (this : Nat) (v1 : Int32) (v2 : Int32) (v3 : Int32) (v4 : Int32) (ζ : Sg), K12 this v1 v2 v3 v4 ζ → V G (QM G 0 0 Post) 12 [some (.ref this), some (.int v1), some (.int v2), some (.int v3), some (.int v4), none, none] [] ζ 0 0) : ∀ (this : Nat) (v1 : Int32) (v2 : Int32) (v4 : Int32) (σ : Sg), wp_X10_hasParts_132 K12 this v1 v2 v4 σ Post → V G (QM G 0 0 Post) 132 [some (.ref this), some (.int v1), some (.int v2), none, some (.int v4), none, none] [] σ 0 0 := by
  intro this v1 v2 v4 σ h
  unfold wp_X10_hasParts_132 at h
  refine V_iconst (v := 0) hG (by decide) dX10_hasParts_132 ?_
  refine V_forget (lo' := [some (.ref this), some (.int v1), some (.int v2), none, some (.int v4), none, none]) ⟨rfl, ⟨rfl, ⟨rfl, ⟨rfl, trivial⟩⟩⟩⟩ ?_
  refine V_widen (k' := 0) (n' := 0) (by first | exact Nat.le_of_ble_eq_true rfl | omega | (dsimp only; omega)) (by first | exact Nat.le_of_ble_eq_true rfl | omega | (dsimp only; omega)) ?_
  exact wv_X10_hasParts_133 hl hG hK12 _ _ _ _ _ _ h
def wp_X10_hasParts_12  : Nat → Nat → Int32 → Int32 → Int32 → Int32 → Sg → (Rs → Sg → Prop) → Prop
  | 0, _, _, _, _, _, _, _ => False
  | f + 1, this, v1, v2, v3, v4, σ, Post => this % 32 = 10 ∧ ∀ o1, o1 = sP σ this 3 → ∃ u2, o1 = some u2 ∧ aty (u2 % 32) = some .int ∧ ∃ j3, v2 = nI j3 ∧ j3 < aln u2 ∧ (((sI σ u2 j3) ≤ v4 → (b01 v3 ∧ Post (.inl (some (.int v3))) σ)) ∧ (¬ (sI σ u2 j3) ≤ v4 → ((v3 = 0 → (b01 v3 ∧ Post (.inl (some (.int v3))) σ)) ∧ (¬ v3 = 0 → this % 32 = 10 ∧ ∀ o4, o4 = sP σ this 5 → ∃ u5, o4 = some u5 ∧ aty (u5 % 32) = some .int ∧ ∃ j6, (((3 : Int32) * v2) + v4) = nI j6 ∧ j6 < aln u5 ∧ this % 32 = 10 ∧ ∀ o7, o7 = sP σ this 16 → ∃ u8, o7 = some u8 ∧ aty (u8 % 32) = some .int ∧ ∃ j9, v1 = nI j9 ∧ j9 < aln u8 ∧ this % 32 = 10 ∧ ∀ o10, o10 = sP σ this 60 → this % 32 = 10 ∧ ∀ o11, o11 = sP σ this 4 → ∃ u12, o11 = some u12 ∧ aty (u12 % 32) = some .int ∧ ∃ j13, (((3 : Int32) * v2) + v4) = nI j13 ∧ j13 < aln u12 ∧ ∃ u14, o10 = some u14 ∧ aty (u14 % 32) = some .int ∧ ∃ j15, v4 = nI j15 ∧ j15 < aln u14 ∧ this % 32 = 10 ∧ ∀ o16, o16 = sP (wI σ u14 j15 (sI σ u12 j13)) this 4 → ∃ u17, o16 = some u17 ∧ aty (u17 % 32) = some .int ∧ ∃ j18, (((3 : Int32) * v2) + v4) = nI j18 ∧ j18 < aln u17 ∧ this % 32 = 10 ∧ wp_X10_freeBehind this v1 v4 (sI (wI σ u14 j15 (sI σ u12 j13)) u17 j18) (wI σ u14 j15 (sI σ u12 j13)) (KI (fun x20 σ19 => ((((sI σ u5 j6) * (sI σ u8 j9)) ≤ x20 → (wp_X10_hasParts_134 (fun z0 z1 z2 z3 z4 ζ => wp_X10_hasParts_12 f z0 z1 z2 z3 z4 ζ Post) this v1 v2 v3 v4 σ19 Post)) ∧ (¬ ((sI σ u5 j6) * (sI σ u8 j9)) ≤ x20 → this % 32 = 10 ∧ ∀ o21, o21 = sP σ19 this 60 → this % 32 = 10 ∧ ∀ o22, o22 = sP σ19 this 6 → ∃ u23, o22 = some u23 ∧ aty (u23 % 32) = some .int ∧ ∃ j24, (((3 : Int32) * v2) + v4) = nI j24 ∧ j24 < aln u23 ∧ ∃ u25, o21 = some u25 ∧ aty (u25 % 32) = some .int ∧ ∃ j26, v4 = nI j26 ∧ j26 < aln u25 ∧ this % 32 = 10 ∧ ∀ o27, o27 = sP (wI σ19 u25 j26 (sI σ19 u23 j24)) this 60 → ∃ u28, o27 = some u28 ∧ aty (u28 % 32) = some .int ∧ ∃ j29, v4 = nI j29 ∧ j29 < aln u28 ∧ (((sI (wI σ19 u25 j26 (sI σ19 u23 j24)) u28 j29) = (-1 : Int32) → (wp_X10_hasParts_132 (fun z0 z1 z2 z3 z4 ζ => wp_X10_hasParts_12 f z0 z1 z2 z3 z4 ζ Post) this v1 v2 v4 (wI σ19 u25 j26 (sI σ19 u23 j24)) Post)) ∧ (¬ (sI (wI σ19 u25 j26 (sI σ19 u23 j24)) u28 j29) = (-1 : Int32) → this % 32 = 10 ∧ ∀ o30, o30 = sP (wI σ19 u25 j26 (sI σ19 u23 j24)) this 60 → ∃ u31, o30 = some u31 ∧ aty (u31 % 32) = some .int ∧ ∃ j32, v4 = nI j32 ∧ j32 < aln u31 ∧ this % 32 = 10 ∧ wp_X10_freeBehind this v1 v4 (sI (wI σ19 u25 j26 (sI σ19 u23 j24)) u31 j32) (wI σ19 u25 j26 (sI σ19 u23 j24)) (KI (fun x34 σ33 => ((x34 < ((sI σ u5 j6) * (sI σ u8 j9)) → (wp_X10_hasParts_132 (fun z0 z1 z2 z3 z4 ζ => wp_X10_hasParts_12 f z0 z1 z2 z3 z4 ζ Post) this v1 v2 v4 σ33 Post)) ∧ (¬ x34 < ((sI σ u5 j6) * (sI σ u8 j9)) → (wp_X10_hasParts_133 (fun z0 z1 z2 z3 z4 ζ => wp_X10_hasParts_12 f z0 z1 z2 z3 z4 ζ Post) this v1 v2 v4 (1 : Int32) σ33 Post)))) (fun E σ33 => Post (.inr E) σ33))))))) (fun E σ19 => Post (.inr E) σ19))))))
set_option maxRecDepth 100000 in
set_option maxHeartbeats 4000000 in
theorem wv_X10_hasParts_12 {L9 : Launch} {G : Cx} {Post : Rs → Sg → Prop} (hl : L9.stackTraces = false) (hG : CX L9 G yX10_hasParts cX10_hasParts 7 (some .boolean) [] { frames := 3, cells := 0, slots := 0, locals := 69 })   : ∀ (f : Nat) (this : Nat) (v1 : Int32) (v2 : Int32) (v3 : Int32) (v4 : Int32) (σ : Sg), wp_X10_hasParts_12 f this v1 v2 v3 v4 σ Post → V G (QM G 0 0 Post) 12 [some (.ref this), some (.int v1), some (.int v2), some (.int v3), some (.int v4), none, none] [] σ 0 0 := by
  intro f
  induction f with
  | zero => intro _ _ _ _ _ σ h; exact h.elim
  | succ f ih =>
    intro this v1 v2 v3 v4 σ h
    refine V_iload hG dX10_hasParts_12 rfl ?_
    refine V_aload_n (v := .ref this) hG dX10_hasParts_14 rfl rfl ?_
    obtain ⟨ht, h⟩ := h
    refine V_getPv hG dX10_hasParts_15 fl_X10_19 rfl ht (fun o1 ho => ?_)
    replace h := h o1 ho
    refine V_iload_n hG dX10_hasParts_18 rfl ?_
    obtain ⟨u2, he, h⟩ := h
    subst he
    obtain ⟨ha, j3, hi, hj, h⟩ := h
    refine V_iald hG dX10_hasParts_19 ha hi hj ?_
    refine V_icmp_ge (tgt := 140) hG dX10_hasParts_20 (by decide) (fun c => ?_) (fun c => ?_)
    · replace h := h.1 c
      refine V_iload_n hG dX10_hasParts_140 rfl ?_
      exact V_zret hG dX10_hasParts_141 h.1 (by first | exact Nat.le_of_ble_eq_true rfl | omega | (dsimp only; omega)) (by first | exact Nat.le_of_ble_eq_true rfl | omega | (dsimp only; omega)) h.2
    · replace h := h.2 c
      refine V_iload_n hG dX10_hasParts_23 rfl ?_
      refine V_if_eq (tgt := 140) hG dX10_hasParts_24 (by decide) (fun c => ?_) (fun c => ?_)
      · replace h := h.1 c
        refine V_iload_n hG dX10_hasParts_140 rfl ?_
        exact V_zret hG dX10_hasParts_141 h.1 (by first | exact Nat.le_of_ble_eq_true rfl | omega | (dsimp only; omega)) (by first | exact Nat.le_of_ble_eq_true rfl | omega | (dsimp only; omega)) h.2
      · replace h := h.2 c
        refine V_iconst (v := 3) hG (by decide) dX10_hasParts_27 ?_
        refine V_iload_n hG dX10_hasParts_28 rfl ?_
        refine V_imul hG dX10_hasParts_29 ?_
        refine V_iload hG dX10_hasParts_30 rfl ?_
        refine V_iadd hG dX10_hasParts_32 ?_
        refine V_istore hG dX10_hasParts_33 (Nat.le_of_ble_eq_true rfl) (hpV rfl rfl) ?_
        refine V_aload_n (v := .ref this) hG dX10_hasParts_35 rfl rfl ?_
        obtain ⟨ht, h⟩ := h
        refine V_getPv hG dX10_hasParts_36 fl_X10_25 rfl ht (fun o4 ho => ?_)
        replace h := h o4 ho
        refine V_iload hG dX10_hasParts_39 rfl ?_
        obtain ⟨u5, he, h⟩ := h
        subst he
        obtain ⟨ha, j6, hi, hj, h⟩ := h
        refine V_iald hG dX10_hasParts_41 ha hi hj ?_
        refine V_aload_n (v := .ref this) hG dX10_hasParts_42 rfl rfl ?_
        obtain ⟨ht, h⟩ := h
        refine V_getPv hG dX10_hasParts_43 fl_X10_56 rfl ht (fun o7 ho => ?_)
        replace h := h o7 ho
        refine V_iload_n hG dX10_hasParts_46 rfl ?_
        obtain ⟨u8, he, h⟩ := h
        subst he
        obtain ⟨ha, j9, hi, hj, h⟩ := h
        refine V_iald hG dX10_hasParts_47 ha hi hj ?_
        refine V_imul hG dX10_hasParts_48 ?_
        refine V_istore hG dX10_hasParts_49 (Nat.le_of_ble_eq_true rfl) (hpV rfl rfl) ?_
        refine V_aload_n (v := .ref this) hG dX10_hasParts_51 rfl rfl ?_
        obtain ⟨ht, h⟩ := h
        refine V_getPv hG dX10_hasParts_52 fl_X10_162 rfl ht (fun o10 ho => ?_)
        replace h := h o10 ho
        refine V_iload hG dX10_hasParts_55 rfl ?_
        refine V_aload_n (v := .ref this) hG dX10_hasParts_57 rfl rfl ?_
        obtain ⟨ht, h⟩ := h
        refine V_getPv hG dX10_hasParts_58 fl_X10_22 rfl ht (fun o11 ho => ?_)
        replace h := h o11 ho
        refine V_iload hG dX10_hasParts_61 rfl ?_
        obtain ⟨u12, he, h⟩ := h
        subst he
        obtain ⟨ha, j13, hi, hj, h⟩ := h
        refine V_iald hG dX10_hasParts_63 ha hi hj ?_
        obtain ⟨u14, he, h⟩ := h
        subst he
        obtain ⟨ha, j15, hi, hj, h⟩ := h
        refine V_iast hG dX10_hasParts_64 ha hi hj ?_
        refine V_aload_n (v := .ref this) hG dX10_hasParts_65 rfl rfl ?_
        refine V_iload_n hG dX10_hasParts_66 rfl ?_
        refine V_iload hG dX10_hasParts_67 rfl ?_
        refine V_aload_n (v := .ref this) hG dX10_hasParts_69 rfl rfl ?_
        obtain ⟨ht, h⟩ := h
        refine V_getPv hG dX10_hasParts_70 fl_X10_22 rfl ht (fun o16 ho => ?_)
        replace h := h o16 ho
        refine V_iload hG dX10_hasParts_73 rfl ?_
        obtain ⟨u17, he, h⟩ := h
        subst he
        obtain ⟨ha, j18, hi, hj, h⟩ := h
        refine V_iald hG dX10_hasParts_75 ha hi hj ?_
        obtain ⟨ht, h⟩ := h
        refine V_cVI _ _ hG dX10_hasParts_76 (ct_X10_freeBehind hl h) mv_X10_freeBehind ml_X10_276 ht rfl rfl rfl rfl (by first | exact Nat.le_of_ble_eq_true rfl | (simp only [List.map_cons, List.map_nil, List.sum_cons, List.sum_nil, cat_rf]; exact Nat.le_of_ble_eq_true rfl)) (Nat.le_of_ble_eq_true rfl) (Nat.le_of_ble_eq_true rfl) (by first | exact Nat.le_of_ble_eq_true rfl | omega | (dsimp only; omega)) (by first | exact Nat.le_of_ble_eq_true rfl | omega | (dsimp only; omega)) ?_ (fun x20 σ19 h9 => ?_)
        · exact fun E σ19 hx => VX_out hG (by first | exact Nat.le_of_ble_eq_true rfl | omega | (dsimp only; omega)) (by first | exact Nat.le_of_ble_eq_true rfl | omega | (dsimp only; omega)) hx
        · replace h := h9
          clear h9
          refine V_iload hG dX10_hasParts_79 rfl ?_
          refine V_icmp_ge (tgt := 134) hG dX10_hasParts_81 (by decide) (fun c => ?_) (fun c => ?_)
          · replace h := h.1 c
            refine V_forget (lo' := [some (.ref this), some (.int v1), some (.int v2), some (.int v3), some (.int v4), none, none]) ⟨rfl, ⟨rfl, ⟨rfl, ⟨rfl, ⟨rfl, trivial⟩⟩⟩⟩⟩ ?_
            refine V_widen (k' := 0) (n' := 0) (by first | exact Nat.le_of_ble_eq_true rfl | omega | (dsimp only; omega)) (by first | exact Nat.le_of_ble_eq_true rfl | omega | (dsimp only; omega)) ?_
            exact wv_X10_hasParts_134 hl hG (fun z0 z1 z2 z3 z4 ζ hz => ih z0 z1 z2 z3 z4 ζ hz) _ _ _ _ _ _ h
          · replace h := h.2 c
            refine V_aload_n (v := .ref this) hG dX10_hasParts_84 rfl rfl ?_
            obtain ⟨ht, h⟩ := h
            refine V_getPv hG dX10_hasParts_85 fl_X10_162 rfl ht (fun o21 ho => ?_)
            replace h := h o21 ho
            refine V_iload hG dX10_hasParts_88 rfl ?_
            refine V_aload_n (v := .ref this) hG dX10_hasParts_90 rfl rfl ?_
            obtain ⟨ht, h⟩ := h
            refine V_getPv hG dX10_hasParts_91 fl_X10_28 rfl ht (fun o22 ho => ?_)
            replace h := h o22 ho
            refine V_iload hG dX10_hasParts_94 rfl ?_
            obtain ⟨u23, he, h⟩ := h
            subst he
            obtain ⟨ha, j24, hi, hj, h⟩ := h
            refine V_iald hG dX10_hasParts_96 ha hi hj ?_
            obtain ⟨u25, he, h⟩ := h
            subst he
            obtain ⟨ha, j26, hi, hj, h⟩ := h
            refine V_iast hG dX10_hasParts_97 ha hi hj ?_
            refine V_aload_n (v := .ref this) hG dX10_hasParts_98 rfl rfl ?_
            obtain ⟨ht, h⟩ := h
            refine V_getPv hG dX10_hasParts_99 fl_X10_162 rfl ht (fun o27 ho => ?_)
            replace h := h o27 ho
            refine V_iload hG dX10_hasParts_102 rfl ?_
            obtain ⟨u28, he, h⟩ := h
            subst he
            obtain ⟨ha, j29, hi, hj, h⟩ := h
            refine V_iald hG dX10_hasParts_104 ha hi hj ?_
            refine V_iconst (v := (-1)) hG (by decide) dX10_hasParts_105 ?_
            refine V_icmp_eq (tgt := 132) hG dX10_hasParts_106 (by decide) (fun c => ?_) (fun c => ?_)
            · replace h := h.1 c
              refine V_forget (lo' := [some (.ref this), some (.int v1), some (.int v2), none, some (.int v4), none, none]) ⟨rfl, ⟨rfl, ⟨rfl, ⟨rfl, trivial⟩⟩⟩⟩ ?_
              refine V_widen (k' := 0) (n' := 0) (by first | exact Nat.le_of_ble_eq_true rfl | omega | (dsimp only; omega)) (by first | exact Nat.le_of_ble_eq_true rfl | omega | (dsimp only; omega)) ?_
              exact wv_X10_hasParts_132 hl hG (fun z0 z1 z2 z3 z4 ζ hz => ih z0 z1 z2 z3 z4 ζ hz) _ _ _ _ _ h
            · replace h := h.2 c
              refine V_aload_n (v := .ref this) hG dX10_hasParts_109 rfl rfl ?_
              refine V_iload_n hG dX10_hasParts_110 rfl ?_
              refine V_iload hG dX10_hasParts_111 rfl ?_
              refine V_aload_n (v := .ref this) hG dX10_hasParts_113 rfl rfl ?_
              obtain ⟨ht, h⟩ := h
              refine V_getPv hG dX10_hasParts_114 fl_X10_162 rfl ht (fun o30 ho => ?_)
              replace h := h o30 ho
              refine V_iload hG dX10_hasParts_117 rfl ?_
              obtain ⟨u31, he, h⟩ := h
              subst he
              obtain ⟨ha, j32, hi, hj, h⟩ := h
              refine V_iald hG dX10_hasParts_119 ha hi hj ?_
              obtain ⟨ht, h⟩ := h
              refine V_cVI _ _ hG dX10_hasParts_120 (ct_X10_freeBehind hl h) mv_X10_freeBehind ml_X10_276 ht rfl rfl rfl rfl (by first | exact Nat.le_of_ble_eq_true rfl | (simp only [List.map_cons, List.map_nil, List.sum_cons, List.sum_nil, cat_rf]; exact Nat.le_of_ble_eq_true rfl)) (Nat.le_of_ble_eq_true rfl) (Nat.le_of_ble_eq_true rfl) (by first | exact Nat.le_of_ble_eq_true rfl | omega | (dsimp only; omega)) (by first | exact Nat.le_of_ble_eq_true rfl | omega | (dsimp only; omega)) ?_ (fun x34 σ33 h9 => ?_)
              · exact fun E σ33 hx => VX_out hG (by first | exact Nat.le_of_ble_eq_true rfl | omega | (dsimp only; omega)) (by first | exact Nat.le_of_ble_eq_true rfl | omega | (dsimp only; omega)) hx
              · replace h := h9
                clear h9
                refine V_iload hG dX10_hasParts_123 rfl ?_
                refine V_icmp_lt (tgt := 132) hG dX10_hasParts_125 (by decide) (fun c => ?_) (fun c => ?_)
                · replace h := h.1 c
                  refine V_forget (lo' := [some (.ref this), some (.int v1), some (.int v2), none, some (.int v4), none, none]) ⟨rfl, ⟨rfl, ⟨rfl, ⟨rfl, trivial⟩⟩⟩⟩ ?_
                  refine V_widen (k' := 0) (n' := 0) (by first | exact Nat.le_of_ble_eq_true rfl | omega | (dsimp only; omega)) (by first | exact Nat.le_of_ble_eq_true rfl | omega | (dsimp only; omega)) ?_
                  exact wv_X10_hasParts_132 hl hG (fun z0 z1 z2 z3 z4 ζ hz => ih z0 z1 z2 z3 z4 ζ hz) _ _ _ _ _ h
                · replace h := h.2 c
                  refine V_iconst (v := 1) hG (by decide) dX10_hasParts_128 ?_
                  refine V_goto (tgt := 133) hG dX10_hasParts_129 (by decide) ?_
                  refine V_forget (lo' := [some (.ref this), some (.int v1), some (.int v2), none, some (.int v4), none, none]) ⟨rfl, ⟨rfl, ⟨rfl, ⟨rfl, trivial⟩⟩⟩⟩ ?_
                  refine V_widen (k' := 0) (n' := 0) (by first | exact Nat.le_of_ble_eq_true rfl | omega | (dsimp only; omega)) (by first | exact Nat.le_of_ble_eq_true rfl | omega | (dsimp only; omega)) ?_
                  exact wv_X10_hasParts_133 hl hG (fun z0 z1 z2 z3 z4 ζ hz => ih z0 z1 z2 z3 z4 ζ hz) _ _ _ _ _ _ h
def wp_X10_hasParts (this : Nat) (a0 : Int32) (σ : Sg) (Post : Rs → Sg → Prop) : Prop := this % 32 = 10 ∧ ∀ o1, o1 = sP σ this 15 → ∃ u2, o1 = some u2 ∧ aty (u2 % 32) = some .int ∧ ∃ j3, a0 = nI j3 ∧ j3 < aln u2 ∧ (∃ g, wp_X10_hasParts_12 g this a0 (sI σ u2 j3) (1 : Int32) (0 : Int32) σ Post)
set_option maxRecDepth 100000 in
set_option maxHeartbeats 4000000 in
theorem ct_X10_hasParts {l : Launch} (hl : l.stackTraces = false) {this : Nat} {a0 : Int32} {σ : Sg} {Post : Rs → Sg → Prop} (h : wp_X10_hasParts this a0 σ Post) : Ct l yX10_hasParts (.code yX10_hasParts cX10_hasParts 7 (some .boolean)) 3 69 0 0 [.ref this, .int a0] σ Post := by
  refine Ct_of [some (.ref this), some (.int a0), none, none, none, none, none] hl (by decide +kernel) rfl (fun ad => by rfl) (fun ad => by exact Nat.le_of_ble_eq_true rfl) (fun v hv => mem_lo hv rfl) ?_
  intro G hG
  unfold wp_X10_hasParts at h
  refine V_aload_n (v := .ref this) hG dX10_hasParts_0 rfl rfl ?_
  obtain ⟨ht, h⟩ := h
  refine V_getPv hG dX10_hasParts_1 fl_X10_53 rfl ht (fun o1 ho => ?_)
  replace h := h o1 ho
  refine V_iload_n hG dX10_hasParts_4 rfl ?_
  obtain ⟨u2, he, h⟩ := h
  subst he
  obtain ⟨ha, j3, hi, hj, h⟩ := h
  refine V_iald hG dX10_hasParts_5 ha hi hj ?_
  refine V_istore_n hG dX10_hasParts_6 (Nat.le_of_ble_eq_true rfl) (hpV rfl rfl) ?_
  refine V_iconst (v := 1) hG (by decide) dX10_hasParts_7 ?_
  refine V_istore_n hG dX10_hasParts_8 (Nat.le_of_ble_eq_true rfl) (hpV rfl rfl) ?_
  refine V_iconst (v := 0) hG (by decide) dX10_hasParts_9 ?_
  refine V_istore hG dX10_hasParts_10 (Nat.le_of_ble_eq_true rfl) (hpV rfl rfl) ?_
  refine V_forget (lo' := [some (.ref this), some (.int a0), some (.int (sI σ u2 j3)), some (.int (1 : Int32)), some (.int (0 : Int32)), none, none]) ⟨rfl, ⟨rfl, ⟨rfl, ⟨rfl, ⟨rfl, trivial⟩⟩⟩⟩⟩ ?_
  obtain ⟨g, h⟩ := h
  refine V_widen (k' := 0) (n' := 0) (by first | exact Nat.le_of_ble_eq_true rfl | omega | (dsimp only; omega)) (by first | exact Nat.le_of_ble_eq_true rfl | omega | (dsimp only; omega)) ?_
  exact wv_X10_hasParts_12 hl hG  g _ _ _ _ _ _ h
def wp_X10_canBegin_25   (σ : Sg) (Post : Rs → Sg → Prop) : Prop := (b01 (1 : Int32) ∧ Post (.inl (some (.int (1 : Int32)))) σ)
set_option maxRecDepth 100000 in
set_option maxHeartbeats 4000000 in
theorem wv_X10_canBegin_25 {L9 : Launch} {G : Cx} {Post : Rs → Sg → Prop} (hl : L9.stackTraces = false) (hG : CX L9 G yX10_canBegin cX10_canBegin 2 (some .boolean) [] { frames := 4, cells := 0, slots := 0, locals := 95 })   : ∀  (σ : Sg), wp_X10_canBegin_25  σ Post → V G (QM G 0 0 Post) 25 [none, none] [] σ 0 0 := by
  intro  σ h
  unfold wp_X10_canBegin_25 at h
  refine V_iconst (v := 1) hG (by decide) dX10_canBegin_25 ?_
  refine V_goto (tgt := 30) hG dX10_canBegin_26 (by decide) ?_
  exact V_zret hG dX10_canBegin_30 h.1 (by first | exact Nat.le_of_ble_eq_true rfl | omega | (dsimp only; omega)) (by first | exact Nat.le_of_ble_eq_true rfl | omega | (dsimp only; omega)) h.2
def wp_X10_canBegin (this : Nat) (a0 : Int32) (σ : Sg) (Post : Rs → Sg → Prop) : Prop := this % 32 = 10 ∧ wp_X10_personFor this a0 σ (KI (fun x2 σ1 => ((x2 = (-1 : Int32) → (b01 (0 : Int32) ∧ Post (.inl (some (.int (0 : Int32)))) σ1)) ∧ (¬ x2 = (-1 : Int32) → this % 32 = 10 ∧ wp_X10_needsParts this a0 σ1 (KI (fun x4 σ3 => ((x4 = 0 → (wp_X10_canBegin_25 σ3 Post)) ∧ (¬ x4 = 0 → this % 32 = 10 ∧ wp_X10_hasParts this a0 σ3 (KI (fun x6 σ5 => ((x6 = 0 → (b01 (0 : Int32) ∧ Post (.inl (some (.int (0 : Int32)))) σ5)) ∧ (¬ x6 = 0 → (wp_X10_canBegin_25 σ5 Post)))) (fun E σ5 => Post (.inr E) σ5))))) (fun E σ3 => Post (.inr E) σ3))))) (fun E σ1 => Post (.inr E) σ1))
set_option maxRecDepth 100000 in
set_option maxHeartbeats 4000000 in
theorem ct_X10_canBegin {l : Launch} (hl : l.stackTraces = false) {this : Nat} {a0 : Int32} {σ : Sg} {Post : Rs → Sg → Prop} (h : wp_X10_canBegin this a0 σ Post) : Ct l yX10_canBegin (.code yX10_canBegin cX10_canBegin 2 (some .boolean)) 4 95 0 0 [.ref this, .int a0] σ Post := by
  refine Ct_of [some (.ref this), some (.int a0)] hl (by decide +kernel) rfl (fun ad => by rfl) (fun ad => by exact Nat.le_of_ble_eq_true rfl) (fun v hv => mem_lo hv rfl) ?_
  intro G hG
  unfold wp_X10_canBegin at h
  refine V_aload_n (v := .ref this) hG dX10_canBegin_0 rfl rfl ?_
  refine V_iload_n hG dX10_canBegin_1 rfl ?_
  obtain ⟨ht, h⟩ := h
  refine V_cVI _ _ hG dX10_canBegin_2 (ct_X10_personFor hl h) mv_X10_personFor ml_X10_279 ht rfl rfl rfl rfl (by first | exact Nat.le_of_ble_eq_true rfl | (simp only [List.map_cons, List.map_nil, List.sum_cons, List.sum_nil, cat_rf]; exact Nat.le_of_ble_eq_true rfl)) (Nat.le_of_ble_eq_true rfl) (Nat.le_of_ble_eq_true rfl) (by first | exact Nat.le_of_ble_eq_true rfl | omega | (dsimp only; omega)) (by first | exact Nat.le_of_ble_eq_true rfl | omega | (dsimp only; omega)) ?_ (fun x2 σ1 h9 => ?_)
  · exact fun E σ1 hx => VX_out hG (by first | exact Nat.le_of_ble_eq_true rfl | omega | (dsimp only; omega)) (by first | exact Nat.le_of_ble_eq_true rfl | omega | (dsimp only; omega)) hx
  · replace h := h9
    clear h9
    refine V_iconst (v := (-1)) hG (by decide) dX10_canBegin_5 ?_
    refine V_icmp_eq (tgt := 29) hG dX10_canBegin_6 (by decide) (fun c => ?_) (fun c => ?_)
    · replace h := h.1 c
      refine V_iconst (v := 0) hG (by decide) dX10_canBegin_29 ?_
      exact V_zret hG dX10_canBegin_30 h.1 (by first | exact Nat.le_of_ble_eq_true rfl | omega | (dsimp only; omega)) (by first | exact Nat.le_of_ble_eq_true rfl | omega | (dsimp only; omega)) h.2
    · replace h := h.2 c
      refine V_aload_n (v := .ref this) hG dX10_canBegin_9 rfl rfl ?_
      refine V_iload_n hG dX10_canBegin_10 rfl ?_
      obtain ⟨ht, h⟩ := h
      refine V_cVI _ _ hG dX10_canBegin_11 (ct_X10_needsParts hl h) mv_X10_needsParts ml_X10_282 ht rfl rfl rfl rfl (by first | exact Nat.le_of_ble_eq_true rfl | (simp only [List.map_cons, List.map_nil, List.sum_cons, List.sum_nil, cat_rf]; exact Nat.le_of_ble_eq_true rfl)) (Nat.le_of_ble_eq_true rfl) (Nat.le_of_ble_eq_true rfl) (by first | exact Nat.le_of_ble_eq_true rfl | omega | (dsimp only; omega)) (by first | exact Nat.le_of_ble_eq_true rfl | omega | (dsimp only; omega)) ?_ (fun x4 σ3 h9 => ?_)
      · exact fun E σ3 hx => VX_out hG (by first | exact Nat.le_of_ble_eq_true rfl | omega | (dsimp only; omega)) (by first | exact Nat.le_of_ble_eq_true rfl | omega | (dsimp only; omega)) hx
      · replace h := h9
        clear h9
        refine V_if_eq (tgt := 25) hG dX10_canBegin_14 (by decide) (fun c => ?_) (fun c => ?_)
        · replace h := h.1 c
          refine V_forget (lo' := [none, none]) trivial ?_
          refine V_widen (k' := 0) (n' := 0) (by first | exact Nat.le_of_ble_eq_true rfl | omega | (dsimp only; omega)) (by first | exact Nat.le_of_ble_eq_true rfl | omega | (dsimp only; omega)) ?_
          exact wv_X10_canBegin_25 hl hG  _ h
        · replace h := h.2 c
          refine V_aload_n (v := .ref this) hG dX10_canBegin_17 rfl rfl ?_
          refine V_iload_n hG dX10_canBegin_18 rfl ?_
          obtain ⟨ht, h⟩ := h
          refine V_cVI _ _ hG dX10_canBegin_19 (ct_X10_hasParts hl h) mv_X10_hasParts ml_X10_285 ht rfl rfl rfl rfl (by first | exact Nat.le_of_ble_eq_true rfl | (simp only [List.map_cons, List.map_nil, List.sum_cons, List.sum_nil, cat_rf]; exact Nat.le_of_ble_eq_true rfl)) (Nat.le_of_ble_eq_true rfl) (Nat.le_of_ble_eq_true rfl) (by first | exact Nat.le_of_ble_eq_true rfl | omega | (dsimp only; omega)) (by first | exact Nat.le_of_ble_eq_true rfl | omega | (dsimp only; omega)) ?_ (fun x6 σ5 h9 => ?_)
          · exact fun E σ5 hx => VX_out hG (by first | exact Nat.le_of_ble_eq_true rfl | omega | (dsimp only; omega)) (by first | exact Nat.le_of_ble_eq_true rfl | omega | (dsimp only; omega)) hx
          · replace h := h9
            clear h9
            refine V_if_eq (tgt := 29) hG dX10_canBegin_22 (by decide) (fun c => ?_) (fun c => ?_)
            · replace h := h.1 c
              refine V_iconst (v := 0) hG (by decide) dX10_canBegin_29 ?_
              exact V_zret hG dX10_canBegin_30 h.1 (by first | exact Nat.le_of_ble_eq_true rfl | omega | (dsimp only; omega)) (by first | exact Nat.le_of_ble_eq_true rfl | omega | (dsimp only; omega)) h.2
            · replace h := h.2 c
              refine V_forget (lo' := [none, none]) trivial ?_
              refine V_widen (k' := 0) (n' := 0) (by first | exact Nat.le_of_ble_eq_true rfl | omega | (dsimp only; omega)) (by first | exact Nat.le_of_ble_eq_true rfl | omega | (dsimp only; omega)) ?_
              exact wv_X10_canBegin_25 hl hG  _ h
def wp_X10_canDo (this : Nat) (a0 : Int32) (a1 : Int32) (σ : Sg) (Post : Rs → Sg → Prop) : Prop := this % 32 = 10 ∧ ∀ o1, o1 = sP σ this 28 → ∃ u2, o1 = some u2 ∧ aty (u2 % 32) = some .int ∧ ∃ j3, a0 = nI j3 ∧ j3 < aln u2 ∧ this % 32 = 10 ∧ wp_X10_workOf this a1 σ (KI (fun x5 σ4 => ((¬ (((sI σ u2 j3) >>> (x5 &&& 31)) &&& (1 : Int32)) = (1 : Int32) → (b01 (0 : Int32) ∧ Post (.inl (some (.int (0 : Int32)))) σ4)) ∧ ((((sI σ u2 j3) >>> (x5 &&& 31)) &&& (1 : Int32)) = (1 : Int32) → (b01 (1 : Int32) ∧ Post (.inl (some (.int (1 : Int32)))) σ4)))) (fun E σ4 => Post (.inr E) σ4))
set_option maxRecDepth 100000 in
set_option maxHeartbeats 4000000 in
theorem ct_X10_canDo {l : Launch} (hl : l.stackTraces = false) {this : Nat} {a0 : Int32} {a1 : Int32} {σ : Sg} {Post : Rs → Sg → Prop} (h : wp_X10_canDo this a0 a1 σ Post) : Ct l yX10_canDo (.code yX10_canDo cX10_canDo 3 (some .boolean)) 1 21 0 0 [.ref this, .int a0, .int a1] σ Post := by
  refine Ct_of [some (.ref this), some (.int a0), some (.int a1)] hl (by decide +kernel) rfl (fun ad => by rfl) (fun ad => by exact Nat.le_of_ble_eq_true rfl) (fun v hv => mem_lo hv rfl) ?_
  intro G hG
  unfold wp_X10_canDo at h
  refine V_aload_n (v := .ref this) hG dX10_canDo_0 rfl rfl ?_
  obtain ⟨ht, h⟩ := h
  refine V_getPv hG dX10_canDo_1 fl_X10_90 rfl ht (fun o1 ho => ?_)
  replace h := h o1 ho
  refine V_iload_n hG dX10_canDo_4 rfl ?_
  obtain ⟨u2, he, h⟩ := h
  subst he
  obtain ⟨ha, j3, hi, hj, h⟩ := h
  refine V_iald hG dX10_canDo_5 ha hi hj ?_
  refine V_aload_n (v := .ref this) hG dX10_canDo_6 rfl rfl ?_
  refine V_iload_n hG dX10_canDo_7 rfl ?_
  obtain ⟨ht, h⟩ := h
  refine V_cVI _ _ hG dX10_canDo_8 (ct_X10_workOf hl h) mv_X10_workOf ml_X10_196 ht rfl rfl rfl rfl (by first | exact Nat.le_of_ble_eq_true rfl | (simp only [List.map_cons, List.map_nil, List.sum_cons, List.sum_nil, cat_rf]; exact Nat.le_of_ble_eq_true rfl)) (Nat.le_of_ble_eq_true rfl) (Nat.le_of_ble_eq_true rfl) (by first | exact Nat.le_of_ble_eq_true rfl | omega | (dsimp only; omega)) (by first | exact Nat.le_of_ble_eq_true rfl | omega | (dsimp only; omega)) ?_ (fun x5 σ4 h9 => ?_)
  · exact fun E σ4 hx => VX_out hG (by first | exact Nat.le_of_ble_eq_true rfl | omega | (dsimp only; omega)) (by first | exact Nat.le_of_ble_eq_true rfl | omega | (dsimp only; omega)) hx
  · replace h := h9
    clear h9
    refine V_ishr hG dX10_canDo_11 ?_
    refine V_iconst (v := 1) hG (by decide) dX10_canDo_12 ?_
    refine V_iand hG dX10_canDo_13 ?_
    refine V_iconst (v := 1) hG (by decide) dX10_canDo_14 ?_
    refine V_icmp_ne (tgt := 22) hG dX10_canDo_15 (by decide) (fun c => ?_) (fun c => ?_)
    · replace h := h.1 c
      refine V_iconst (v := 0) hG (by decide) dX10_canDo_22 ?_
      exact V_zret hG dX10_canDo_23 h.1 (by first | exact Nat.le_of_ble_eq_true rfl | omega | (dsimp only; omega)) (by first | exact Nat.le_of_ble_eq_true rfl | omega | (dsimp only; omega)) h.2
    · replace h := h.2 c
      refine V_iconst (v := 1) hG (by decide) dX10_canDo_18 ?_
      refine V_goto (tgt := 23) hG dX10_canDo_19 (by decide) ?_
      exact V_zret hG dX10_canDo_23 h.1 (by first | exact Nat.le_of_ble_eq_true rfl | omega | (dsimp only; omega)) (by first | exact Nat.le_of_ble_eq_true rfl | omega | (dsimp only; omega)) h.2
def wp_X10_begin_162  (this : Nat) (v1 : Int32) (v2 : Int32) (v3 : Int32) (v5 : Int32) (s0 : Option Nat) (s1 : Int32) (s2 : Int32) (s3 : Int32) (σ : Sg) (Post : Rs → Sg → Prop) : Prop := ∃ u1, s0 = some u1 ∧ aty (u1 % 32) = some .int ∧ ∃ j2, s1 = nI j2 ∧ j2 < aln u1 ∧ this % 32 = 10 ∧ ∀ o3, o3 = sP (wI σ u1 j2 (s2 + s3)) this 38 → ∃ u4, o3 = some u4 ∧ aty (u4 % 32) = some .int ∧ ∃ j5, v1 = nI j5 ∧ j5 < aln u4 ∧ this % 32 = 10 ∧ ∀ o6, o6 = sP (wI (wI σ u1 j2 (s2 + s3)) u4 j5 v3) this 34 → ∃ u7, o6 = some u7 ∧ aty (u7 % 32) = some .int ∧ ∃ j8, v1 = nI j8 ∧ j8 < aln u7 ∧ this % 32 = 10 ∧ ∀ o9, o9 = sP (wI (wI (wI σ u1 j2 (s2 + s3)) u4 j5 v3) u7 j8 v2) this 36 → ∃ u10, o9 = some u10 ∧ aty (u10 % 32) = some .int ∧ ∃ j11, v1 = nI j11 ∧ j11 < aln u10 ∧ this % 32 = 10 ∧ ∀ o12, o12 = sP (wI (wI (wI (wI σ u1 j2 (s2 + s3)) u4 j5 v3) u7 j8 v2) u10 j11 v5) this 18 → ∃ u13, o12 = some u13 ∧ aty (u13 % 32) = some .int ∧ ∃ j14, v2 = nI j14 ∧ j14 < aln u13 ∧ this % 32 = 10 ∧ ∀ o15, o15 = sP (wI (wI (wI (wI (wI σ u1 j2 (s2 + s3)) u4 j5 v3) u7 j8 v2) u10 j11 v5) u13 j14 (2 : Int32)) this 24 → ∃ u16, o15 = some u16 ∧ aty (u16 % 32) = some .boolean ∧ ∃ j17, v2 = nI j17 ∧ j17 < aln u16 ∧ b01 (0 : Int32) ∧ Post (.inl none) (wI (wI (wI (wI (wI (wI σ u1 j2 (s2 + s3)) u4 j5 v3) u7 j8 v2) u10 j11 v5) u13 j14 (2 : Int32)) u16 j17 (0 : Int32))
set_option maxRecDepth 100000 in
set_option maxHeartbeats 4000000 in
theorem wv_X10_begin_162 {L9 : Launch} {G : Cx} {Post : Rs → Sg → Prop} (hl : L9.stackTraces = false) (hG : CX L9 G yX10_begin cX10_begin 7 none [] { frames := 4, cells := 0, slots := 0, locals := 95 })   : ∀ (this : Nat) (v1 : Int32) (v2 : Int32) (v3 : Int32) (v5 : Int32) (s0 : Option Nat) (s1 : Int32) (s2 : Int32) (s3 : Int32) (σ : Sg), wp_X10_begin_162 this v1 v2 v3 v5 s0 s1 s2 s3 σ Post → V G (QM G 0 0 Post) 162 [some (.ref this), some (.int v1), some (.int v2), some (.int v3), none, some (.int v5), none] [.int s3, .int s2, .int s1, va_rf s0] σ 0 0 := by
  intro this v1 v2 v3 v5 s0 s1 s2 s3 σ h
  unfold wp_X10_begin_162 at h
  refine V_iadd hG dX10_begin_162 ?_
  obtain ⟨u1, he, h⟩ := h
  subst he
  obtain ⟨ha, j2, hi, hj, h⟩ := h
  refine V_iast hG dX10_begin_163 ha hi hj ?_
  refine V_aload_n (v := .ref this) hG dX10_begin_164 rfl rfl ?_
  obtain ⟨ht, h⟩ := h
  refine V_getPv hG dX10_begin_165 fl_X10_120 rfl ht (fun o3 ho => ?_)
  replace h := h o3 ho
  refine V_iload_n hG dX10_begin_168 rfl ?_
  refine V_iload_n hG dX10_begin_169 rfl ?_
  obtain ⟨u4, he, h⟩ := h
  subst he
  obtain ⟨ha, j5, hi, hj, h⟩ := h
  refine V_iast hG dX10_begin_170 ha hi hj ?_
  refine V_aload_n (v := .ref this) hG dX10_begin_171 rfl rfl ?_
  obtain ⟨ht, h⟩ := h
  refine V_getPv hG dX10_begin_172 fl_X10_108 rfl ht (fun o6 ho => ?_)
  replace h := h o6 ho
  refine V_iload_n hG dX10_begin_175 rfl ?_
  refine V_iload_n hG dX10_begin_176 rfl ?_
  obtain ⟨u7, he, h⟩ := h
  subst he
  obtain ⟨ha, j8, hi, hj, h⟩ := h
  refine V_iast hG dX10_begin_177 ha hi hj ?_
  refine V_aload_n (v := .ref this) hG dX10_begin_178 rfl rfl ?_
  obtain ⟨ht, h⟩ := h
  refine V_getPv hG dX10_begin_179 fl_X10_114 rfl ht (fun o9 ho => ?_)
  replace h := h o9 ho
  refine V_iload_n hG dX10_begin_182 rfl ?_
  refine V_iload hG dX10_begin_183 rfl ?_
  obtain ⟨u10, he, h⟩ := h
  subst he
  obtain ⟨ha, j11, hi, hj, h⟩ := h
  refine V_iast hG dX10_begin_185 ha hi hj ?_
  refine V_aload_n (v := .ref this) hG dX10_begin_186 rfl rfl ?_
  obtain ⟨ht, h⟩ := h
  refine V_getPv hG dX10_begin_187 fl_X10_62 rfl ht (fun o12 ho => ?_)
  replace h := h o12 ho
  refine V_iload_n hG dX10_begin_190 rfl ?_
  refine V_iconst (v := 2) hG (by decide) dX10_begin_191 ?_
  obtain ⟨u13, he, h⟩ := h
  subst he
  obtain ⟨ha, j14, hi, hj, h⟩ := h
  refine V_iast hG dX10_begin_192 ha hi hj ?_
  refine V_aload_n (v := .ref this) hG dX10_begin_193 rfl rfl ?_
  obtain ⟨ht, h⟩ := h
  refine V_getPv hG dX10_begin_194 fl_X10_80 rfl ht (fun o15 ho => ?_)
  replace h := h o15 ho
  refine V_iload_n hG dX10_begin_197 rfl ?_
  refine V_iconst (v := 0) hG (by decide) dX10_begin_198 ?_
  obtain ⟨u16, he, h⟩ := h
  subst he
  obtain ⟨ha, j17, hi, hj, h⟩ := h
  obtain ⟨hb, h⟩ := h
  refine V_zast hG dX10_begin_199 ha hb hi hj ?_
  exact V_vret hG dX10_begin_200 (by first | exact Nat.le_of_ble_eq_true rfl | omega | (dsimp only; omega)) (by first | exact Nat.le_of_ble_eq_true rfl | omega | (dsimp only; omega)) h
def wp_X10_begin_133  (this : Nat) (v1 : Int32) (v2 : Int32) (v3 : Int32) (v5 : Int32) (s0 : Int32) (σ : Sg) (Post : Rs → Sg → Prop) : Prop := this % 32 = 10 ∧ ∀ o1, o1 = sP σ this 35 → this % 32 = 10 ∧ ∀ o2, o2 = sP σ this 38 → ∃ u3, o2 = some u3 ∧ aty (u3 % 32) = some .int ∧ ∃ j4, v1 = nI j4 ∧ j4 < aln u3 ∧ (((sI σ u3 j4) = v3 → (wp_X10_begin_162 this v1 v2 v3 v5 o1 v1 s0 (0 : Int32) σ Post)) ∧ (¬ (sI σ u3 j4) = v3 → this % 32 = 10 ∧ ∀ o5, o5 = sP σ this 29 → ∃ u6, o5 = some u6 ∧ aty (u6 % 32) = some .int ∧ ∃ j7, v1 = nI j7 ∧ j7 < aln u6 ∧ (wp_X10_begin_162 this v1 v2 v3 v5 o1 v1 s0 (sI σ u6 j7) σ Post)))
set_option maxRecDepth 100000 in
set_option maxHeartbeats 4000000 in
theorem wv_X10_begin_133 {L9 : Launch} {G : Cx} {Post : Rs → Sg → Prop} (hl : L9.stackTraces = false) (hG : CX L9 G yX10_begin cX10_begin 7 none [] { frames := 4, cells := 0, slots := 0, locals := 95 })   : ∀ (this : Nat) (v1 : Int32) (v2 : Int32) (v3 : Int32) (v5 : Int32) (s0 : Int32) (σ : Sg), wp_X10_begin_133 this v1 v2 v3 v5 s0 σ Post → V G (QM G 0 0 Post) 133 [some (.ref this), some (.int v1), some (.int v2), some (.int v3), none, some (.int v5), none] [.int s0] σ 0 0 := by
  intro this v1 v2 v3 v5 s0 σ h
  unfold wp_X10_begin_133 at h
  refine V_istore hG dX10_begin_133 (Nat.le_of_ble_eq_true rfl) (hpV rfl rfl) ?_
  refine V_aload_n (v := .ref this) hG dX10_begin_135 rfl rfl ?_
  obtain ⟨ht, h⟩ := h
  refine V_getPv hG dX10_begin_136 fl_X10_111 rfl ht (fun o1 ho => ?_)
  replace h := h o1 ho
  refine V_iload_n hG dX10_begin_139 rfl ?_
  refine V_iload hG dX10_begin_140 rfl ?_
  refine V_aload_n (v := .ref this) hG dX10_begin_142 rfl rfl ?_
  obtain ⟨ht, h⟩ := h
  refine V_getPv hG dX10_begin_143 fl_X10_120 rfl ht (fun o2 ho => ?_)
  replace h := h o2 ho
  refine V_iload_n hG dX10_begin_146 rfl ?_
  obtain ⟨u3, he, h⟩ := h
  subst he
  obtain ⟨ha, j4, hi, hj, h⟩ := h
  refine V_iald hG dX10_begin_147 ha hi hj ?_
  refine V_iload_n hG dX10_begin_148 rfl ?_
  refine V_icmp_eq (tgt := 161) hG dX10_begin_149 (by decide) (fun c => ?_) (fun c => ?_)
  · replace h := h.1 c
    refine V_iconst (v := 0) hG (by decide) dX10_begin_161 ?_
    refine V_forget (lo' := [some (.ref this), some (.int v1), some (.int v2), some (.int v3), none, some (.int v5), none]) ⟨rfl, ⟨rfl, ⟨rfl, ⟨rfl, ⟨rfl, trivial⟩⟩⟩⟩⟩ ?_
    refine V_widen (k' := 0) (n' := 0) (by first | exact Nat.le_of_ble_eq_true rfl | omega | (dsimp only; omega)) (by first | exact Nat.le_of_ble_eq_true rfl | omega | (dsimp only; omega)) ?_
    exact wv_X10_begin_162 hl hG  _ _ _ _ _ _ _ _ _ _ h
  · replace h := h.2 c
    refine V_aload_n (v := .ref this) hG dX10_begin_152 rfl rfl ?_
    obtain ⟨ht, h⟩ := h
    refine V_getPv hG dX10_begin_153 fl_X10_93 rfl ht (fun o5 ho => ?_)
    replace h := h o5 ho
    refine V_iload_n hG dX10_begin_156 rfl ?_
    obtain ⟨u6, he, h⟩ := h
    subst he
    obtain ⟨ha, j7, hi, hj, h⟩ := h
    refine V_iald hG dX10_begin_157 ha hi hj ?_
    refine V_goto (tgt := 162) hG dX10_begin_158 (by decide) ?_
    refine V_forget (lo' := [some (.ref this), some (.int v1), some (.int v2), some (.int v3), none, some (.int v5), none]) ⟨rfl, ⟨rfl, ⟨rfl, ⟨rfl, ⟨rfl, trivial⟩⟩⟩⟩⟩ ?_
    refine V_widen (k' := 0) (n' := 0) (by first | exact Nat.le_of_ble_eq_true rfl | omega | (dsimp only; omega)) (by first | exact Nat.le_of_ble_eq_true rfl | omega | (dsimp only; omega)) ?_
    exact wv_X10_begin_162 hl hG  _ _ _ _ _ _ _ _ _ _ h
def wp_X10_begin_92  (this : Nat) (v1 : Int32) (v2 : Int32) (v3 : Int32) (v4 : Int32) (v5 : Int32) (σ : Sg) (Post : Rs → Sg → Prop) : Prop := this % 32 = 10 ∧ ∀ o1, o1 = sP σ this 10 → ∃ u2, o1 = some u2 ∧ aty (u2 % 32) = some .int ∧ ∃ j3, v4 = nI j3 ∧ j3 < aln u2 ∧ this % 32 = 10 ∧ ∀ o4, o4 = sP σ this 45 → this % 32 = 10 ∧ ∀ o5, o5 = sP σ this 9 → ∃ u6, o5 = some u6 ∧ aty (u6 % 32) = some .int ∧ ∃ j7, v4 = nI j7 ∧ j7 < aln u6 ∧ ∃ u8, o4 = some u8 ∧ aty (u8 % 32) = some .int ∧ ∃ j9, (((4 : Int32) * v5) + (sI σ u6 j7)) = nI j9 ∧ j9 < aln u8 ∧ (((1 : Int32) ≤ (((sI σ u2 j3) - (sI σ u8 j9)) + (1 : Int32)) → (wp_X10_begin_133 this v1 v2 v3 v5 (((sI σ u2 j3) - (sI σ u8 j9)) + (1 : Int32)) σ Post)) ∧ (¬ (1 : Int32) ≤ (((sI σ u2 j3) - (sI σ u8 j9)) + (1 : Int32)) → (wp_X10_begin_133 this v1 v2 v3 v5 (1 : Int32) σ Post)))
set_option maxRecDepth 100000 in
set_option maxHeartbeats 4000000 in
theorem wv_X10_begin_92 {L9 : Launch} {G : Cx} {Post : Rs → Sg → Prop} (hl : L9.stackTraces = false) (hG : CX L9 G yX10_begin cX10_begin 7 none [] { frames := 4, cells := 0, slots := 0, locals := 95 })   : ∀ (this : Nat) (v1 : Int32) (v2 : Int32) (v3 : Int32) (v4 : Int32) (v5 : Int32) (σ : Sg), wp_X10_begin_92 this v1 v2 v3 v4 v5 σ Post → V G (QM G 0 0 Post) 92 [some (.ref this), some (.int v1), some (.int v2), some (.int v3), some (.int v4), some (.int v5), none] [] σ 0 0 := by
  intro this v1 v2 v3 v4 v5 σ h
  unfold wp_X10_begin_92 at h
  refine V_aload_n (v := .ref this) hG dX10_begin_92 rfl rfl ?_
  obtain ⟨ht, h⟩ := h
  refine V_getPv hG dX10_begin_93 fl_X10_40 rfl ht (fun o1 ho => ?_)
  replace h := h o1 ho
  refine V_iload hG dX10_begin_96 rfl ?_
  obtain ⟨u2, he, h⟩ := h
  subst he
  obtain ⟨ha, j3, hi, hj, h⟩ := h
  refine V_iald hG dX10_begin_98 ha hi hj ?_
  refine V_aload_n (v := .ref this) hG dX10_begin_99 rfl rfl ?_
  obtain ⟨ht, h⟩ := h
  refine V_getPv hG dX10_begin_100 fl_X10_138 rfl ht (fun o4 ho => ?_)
  replace h := h o4 ho
  refine V_iconst (v := 4) hG (by decide) dX10_begin_103 ?_
  refine V_iload hG dX10_begin_104 rfl ?_
  refine V_imul hG dX10_begin_106 ?_
  refine V_aload_n (v := .ref this) hG dX10_begin_107 rfl rfl ?_
  obtain ⟨ht, h⟩ := h
  refine V_getPv hG dX10_begin_108 fl_X10_37 rfl ht (fun o5 ho => ?_)
  replace h := h o5 ho
  refine V_iload hG dX10_begin_111 rfl ?_
  obtain ⟨u6, he, h⟩ := h
  subst he
  obtain ⟨ha, j7, hi, hj, h⟩ := h
  refine V_iald hG dX10_begin_113 ha hi hj ?_
  refine V_iadd hG dX10_begin_114 ?_
  obtain ⟨u8, he, h⟩ := h
  subst he
  obtain ⟨ha, j9, hi, hj, h⟩ := h
  refine V_iald hG dX10_begin_115 ha hi hj ?_
  refine V_isub hG dX10_begin_116 ?_
  refine V_iconst (v := 1) hG (by decide) dX10_begin_117 ?_
  refine V_iadd hG dX10_begin_118 ?_
  refine V_istore hG dX10_begin_119 (Nat.le_of_ble_eq_true rfl) (hpV rfl rfl) ?_
  refine V_iload hG dX10_begin_121 rfl ?_
  refine V_iconst (v := 1) hG (by decide) dX10_begin_123 ?_
  refine V_icmp_ge (tgt := 131) hG dX10_begin_124 (by decide) (fun c => ?_) (fun c => ?_)
  · replace h := h.1 c
    refine V_iload hG dX10_begin_131 rfl ?_
    refine V_forget (lo' := [some (.ref this), some (.int v1), some (.int v2), some (.int v3), none, some (.int v5), none]) ⟨rfl, ⟨rfl, ⟨rfl, ⟨rfl, ⟨rfl, trivial⟩⟩⟩⟩⟩ ?_
    refine V_widen (k' := 0) (n' := 0) (by first | exact Nat.le_of_ble_eq_true rfl | omega | (dsimp only; omega)) (by first | exact Nat.le_of_ble_eq_true rfl | omega | (dsimp only; omega)) ?_
    exact wv_X10_begin_133 hl hG  _ _ _ _ _ _ _ h
  · replace h := h.2 c
    refine V_iconst (v := 1) hG (by decide) dX10_begin_127 ?_
    refine V_goto (tgt := 133) hG dX10_begin_128 (by decide) ?_
    refine V_forget (lo' := [some (.ref this), some (.int v1), some (.int v2), some (.int v3), none, some (.int v5), none]) ⟨rfl, ⟨rfl, ⟨rfl, ⟨rfl, ⟨rfl, trivial⟩⟩⟩⟩⟩ ?_
    refine V_widen (k' := 0) (n' := 0) (by first | exact Nat.le_of_ble_eq_true rfl | omega | (dsimp only; omega)) (by first | exact Nat.le_of_ble_eq_true rfl | omega | (dsimp only; omega)) ?_
    exact wv_X10_begin_133 hl hG  _ _ _ _ _ _ _ h
def wp_X10_begin_45  : Nat → Nat → Int32 → Int32 → Int32 → Int32 → Int32 → Int32 → Sg → (Rs → Sg → Prop) → Prop
  | 0, _, _, _, _, _, _, _, _, _ => False
  | f + 1, this, v1, v2, v3, v4, v5, v6, σ, Post => this % 32 = 10 ∧ ∀ o1, o1 = sP σ this 3 → ∃ u2, o1 = some u2 ∧ aty (u2 % 32) = some .int ∧ ∃ j3, v3 = nI j3 ∧ j3 < aln u2 ∧ (((sI σ u2 j3) ≤ v6 → (wp_X10_begin_92 this v1 v2 v3 v4 v5 σ Post)) ∧ (¬ (sI σ u2 j3) ≤ v6 → this % 32 = 10 ∧ ∀ o4, o4 = sP σ this 60 → ∃ u5, o4 = some u5 ∧ aty (u5 % 32) = some .int ∧ ∃ j6, v6 = nI j6 ∧ j6 < aln u5 ∧ this % 32 = 10 ∧ ∀ o7, o7 = sP σ this 5 → ∃ u8, o7 = some u8 ∧ aty (u8 % 32) = some .int ∧ ∃ j9, (((3 : Int32) * v3) + v6) = nI j9 ∧ j9 < aln u8 ∧ this % 32 = 10 ∧ ∀ o10, o10 = sP σ this 16 → ∃ u11, o10 = some u11 ∧ aty (u11 % 32) = some .int ∧ ∃ j12, v2 = nI j12 ∧ j12 < aln u11 ∧ this % 32 = 10 ∧ wp_X10_takeKind this (sI σ u5 j6) ((sI σ u8 j9) * (sI σ u11 j12)) v2 σ (KV (fun σ13 => (wp_X10_begin_45 f this v1 v2 v3 v4 v5 (v6 + 1) σ13 Post)) (fun E σ13 => Post (.inr E) σ13))))
set_option maxRecDepth 100000 in
set_option maxHeartbeats 4000000 in
theorem wv_X10_begin_45 {L9 : Launch} {G : Cx} {Post : Rs → Sg → Prop} (hl : L9.stackTraces = false) (hG : CX L9 G yX10_begin cX10_begin 7 none [] { frames := 4, cells := 0, slots := 0, locals := 95 })   : ∀ (f : Nat) (this : Nat) (v1 : Int32) (v2 : Int32) (v3 : Int32) (v4 : Int32) (v5 : Int32) (v6 : Int32) (σ : Sg), wp_X10_begin_45 f this v1 v2 v3 v4 v5 v6 σ Post → V G (QM G 0 0 Post) 45 [some (.ref this), some (.int v1), some (.int v2), some (.int v3), some (.int v4), some (.int v5), some (.int v6)] [] σ 0 0 := by
  intro f
  induction f with
  | zero => intro _ _ _ _ _ _ _ σ h; exact h.elim
  | succ f ih =>
    intro this v1 v2 v3 v4 v5 v6 σ h
    refine V_iload hG dX10_begin_45 rfl ?_
    refine V_aload_n (v := .ref this) hG dX10_begin_47 rfl rfl ?_
    obtain ⟨ht, h⟩ := h
    refine V_getPv hG dX10_begin_48 fl_X10_19 rfl ht (fun o1 ho => ?_)
    replace h := h o1 ho
    refine V_iload_n hG dX10_begin_51 rfl ?_
    obtain ⟨u2, he, h⟩ := h
    subst he
    obtain ⟨ha, j3, hi, hj, h⟩ := h
    refine V_iald hG dX10_begin_52 ha hi hj ?_
    refine V_icmp_ge (tgt := 92) hG dX10_begin_53 (by decide) (fun c => ?_) (fun c => ?_)
    · replace h := h.1 c
      refine V_forget (lo' := [some (.ref this), some (.int v1), some (.int v2), some (.int v3), some (.int v4), some (.int v5), none]) ⟨rfl, ⟨rfl, ⟨rfl, ⟨rfl, ⟨rfl, ⟨rfl, trivial⟩⟩⟩⟩⟩⟩ ?_
      refine V_widen (k' := 0) (n' := 0) (by first | exact Nat.le_of_ble_eq_true rfl | omega | (dsimp only; omega)) (by first | exact Nat.le_of_ble_eq_true rfl | omega | (dsimp only; omega)) ?_
      exact wv_X10_begin_92 hl hG  _ _ _ _ _ _ _ h
    · replace h := h.2 c
      refine V_aload_n (v := .ref this) hG dX10_begin_56 rfl rfl ?_
      refine V_aload_n (v := .ref this) hG dX10_begin_57 rfl rfl ?_
      obtain ⟨ht, h⟩ := h
      refine V_getPv hG dX10_begin_58 fl_X10_162 rfl ht (fun o4 ho => ?_)
      replace h := h o4 ho
      refine V_iload hG dX10_begin_61 rfl ?_
      obtain ⟨u5, he, h⟩ := h
      subst he
      obtain ⟨ha, j6, hi, hj, h⟩ := h
      refine V_iald hG dX10_begin_63 ha hi hj ?_
      refine V_aload_n (v := .ref this) hG dX10_begin_64 rfl rfl ?_
      obtain ⟨ht, h⟩ := h
      refine V_getPv hG dX10_begin_65 fl_X10_25 rfl ht (fun o7 ho => ?_)
      replace h := h o7 ho
      refine V_iconst (v := 3) hG (by decide) dX10_begin_68 ?_
      refine V_iload_n hG dX10_begin_69 rfl ?_
      refine V_imul hG dX10_begin_70 ?_
      refine V_iload hG dX10_begin_71 rfl ?_
      refine V_iadd hG dX10_begin_73 ?_
      obtain ⟨u8, he, h⟩ := h
      subst he
      obtain ⟨ha, j9, hi, hj, h⟩ := h
      refine V_iald hG dX10_begin_74 ha hi hj ?_
      refine V_aload_n (v := .ref this) hG dX10_begin_75 rfl rfl ?_
      obtain ⟨ht, h⟩ := h
      refine V_getPv hG dX10_begin_76 fl_X10_56 rfl ht (fun o10 ho => ?_)
      replace h := h o10 ho
      refine V_iload_n hG dX10_begin_79 rfl ?_
      obtain ⟨u11, he, h⟩ := h
      subst he
      obtain ⟨ha, j12, hi, hj, h⟩ := h
      refine V_iald hG dX10_begin_80 ha hi hj ?_
      refine V_imul hG dX10_begin_81 ?_
      refine V_iload_n hG dX10_begin_82 rfl ?_
      obtain ⟨ht, h⟩ := h
      refine V_cVV _ _ hG dX10_begin_83 (ct_X10_takeKind hl h) mv_X10_takeKind ml_X10_255 ht rfl rfl rfl rfl (by first | exact Nat.le_of_ble_eq_true rfl | (simp only [List.map_cons, List.map_nil, List.sum_cons, List.sum_nil, cat_rf]; exact Nat.le_of_ble_eq_true rfl)) (Nat.le_of_ble_eq_true rfl) (Nat.le_of_ble_eq_true rfl) (by first | exact Nat.le_of_ble_eq_true rfl | omega | (dsimp only; omega)) (by first | exact Nat.le_of_ble_eq_true rfl | omega | (dsimp only; omega)) ?_ (fun σ13 h9 => ?_)
      · exact fun E σ13 hx => VX_out hG (by first | exact Nat.le_of_ble_eq_true rfl | omega | (dsimp only; omega)) (by first | exact Nat.le_of_ble_eq_true rfl | omega | (dsimp only; omega)) hx
      · replace h := h9
        clear h9
        refine V_iincv (c := 1) hG dX10_begin_86 rfl (by decide) (hpV rfl rfl) ?_
        refine V_goto (tgt := 45) hG dX10_begin_89 (by decide) ?_
        refine V_forget (lo' := [some (.ref this), some (.int v1), some (.int v2), some (.int v3), some (.int v4), some (.int v5), some (.int (v6 + 1))]) ⟨rfl, ⟨rfl, ⟨rfl, ⟨rfl, ⟨rfl, ⟨rfl, ⟨rfl, trivial⟩⟩⟩⟩⟩⟩⟩ ?_
        exact ih _ _ _ _ _ _ _ _ h
def wp_X10_begin (this : Nat) (a0 : Int32) (a1 : Int32) (σ : Sg) (Post : Rs → Sg → Prop) : Prop := this % 32 = 10 ∧ ∀ o1, o1 = sP σ this 15 → ∃ u2, o1 = some u2 ∧ aty (u2 % 32) = some .int ∧ ∃ j3, a1 = nI j3 ∧ j3 < aln u2 ∧ this % 32 = 10 ∧ ∀ o4, o4 = sP σ this 19 → ∃ u5, o4 = some u5 ∧ aty (u5 % 32) = some .int ∧ ∃ j6, a1 = nI j6 ∧ j6 < aln u5 ∧ this % 32 = 10 ∧ wp_X10_personFor this a1 σ (KI (fun x8 σ7 => this % 32 = 10 ∧ wp_X10_needsParts this a1 σ7 (KI (fun x10 σ9 => ((x10 = 0 → (wp_X10_begin_92 this a0 a1 (sI σ u2 j3) (((4 : Int32) * (sI σ u2 j3)) + (sI σ u5 j6)) x8 σ9 Post)) ∧ (¬ x10 = 0 → this % 32 = 10 ∧ wp_X10_hasParts this a1 σ9 (KI (fun x12 σ11 => ((x12 = 0 → (wp_X10_begin_92 this a0 a1 (sI σ u2 j3) (((4 : Int32) * (sI σ u2 j3)) + (sI σ u5 j6)) x8 σ11 Post)) ∧ (¬ x12 = 0 → (∃ g, wp_X10_begin_45 g this a0 a1 (sI σ u2 j3) (((4 : Int32) * (sI σ u2 j3)) + (sI σ u5 j6)) x8 (0 : Int32) σ11 Post)))) (fun E σ11 => Post (.inr E) σ11))))) (fun E σ9 => Post (.inr E) σ9))) (fun E σ7 => Post (.inr E) σ7))
set_option maxRecDepth 100000 in
set_option maxHeartbeats 4000000 in
theorem ct_X10_begin {l : Launch} (hl : l.stackTraces = false) {this : Nat} {a0 : Int32} {a1 : Int32} {σ : Sg} {Post : Rs → Sg → Prop} (h : wp_X10_begin this a0 a1 σ Post) : Ct l yX10_begin (.code yX10_begin cX10_begin 7 none) 4 95 0 0 [.ref this, .int a0, .int a1] σ Post := by
  refine Ct_of [some (.ref this), some (.int a0), some (.int a1), none, none, none, none] hl (by decide +kernel) rfl (fun ad => by rfl) (fun ad => by exact Nat.le_of_ble_eq_true rfl) (fun v hv => mem_lo hv rfl) ?_
  intro G hG
  unfold wp_X10_begin at h
  refine V_aload_n (v := .ref this) hG dX10_begin_0 rfl rfl ?_
  obtain ⟨ht, h⟩ := h
  refine V_getPv hG dX10_begin_1 fl_X10_53 rfl ht (fun o1 ho => ?_)
  replace h := h o1 ho
  refine V_iload_n hG dX10_begin_4 rfl ?_
  obtain ⟨u2, he, h⟩ := h
  subst he
  obtain ⟨ha, j3, hi, hj, h⟩ := h
  refine V_iald hG dX10_begin_5 ha hi hj ?_
  refine V_istore_n hG dX10_begin_6 (Nat.le_of_ble_eq_true rfl) (hpV rfl rfl) ?_
  refine V_iconst (v := 4) hG (by decide) dX10_begin_7 ?_
  refine V_iload_n hG dX10_begin_8 rfl ?_
  refine V_imul hG dX10_begin_9 ?_
  refine V_aload_n (v := .ref this) hG dX10_begin_10 rfl rfl ?_
  obtain ⟨ht, h⟩ := h
  refine V_getPv hG dX10_begin_11 fl_X10_65 rfl ht (fun o4 ho => ?_)
  replace h := h o4 ho
  refine V_iload_n hG dX10_begin_14 rfl ?_
  obtain ⟨u5, he, h⟩ := h
  subst he
  obtain ⟨ha, j6, hi, hj, h⟩ := h
  refine V_iald hG dX10_begin_15 ha hi hj ?_
  refine V_iadd hG dX10_begin_16 ?_
  refine V_istore hG dX10_begin_17 (Nat.le_of_ble_eq_true rfl) (hpV rfl rfl) ?_
  refine V_aload_n (v := .ref this) hG dX10_begin_19 rfl rfl ?_
  refine V_iload_n hG dX10_begin_20 rfl ?_
  obtain ⟨ht, h⟩ := h
  refine V_cVI _ _ hG dX10_begin_21 (ct_X10_personFor hl h) mv_X10_personFor ml_X10_279 ht rfl rfl rfl rfl (by first | exact Nat.le_of_ble_eq_true rfl | (simp only [List.map_cons, List.map_nil, List.sum_cons, List.sum_nil, cat_rf]; exact Nat.le_of_ble_eq_true rfl)) (Nat.le_of_ble_eq_true rfl) (Nat.le_of_ble_eq_true rfl) (by first | exact Nat.le_of_ble_eq_true rfl | omega | (dsimp only; omega)) (by first | exact Nat.le_of_ble_eq_true rfl | omega | (dsimp only; omega)) ?_ (fun x8 σ7 h9 => ?_)
  · exact fun E σ7 hx => VX_out hG (by first | exact Nat.le_of_ble_eq_true rfl | omega | (dsimp only; omega)) (by first | exact Nat.le_of_ble_eq_true rfl | omega | (dsimp only; omega)) hx
  · replace h := h9
    clear h9
    refine V_istore hG dX10_begin_24 (Nat.le_of_ble_eq_true rfl) (hpV rfl rfl) ?_
    refine V_aload_n (v := .ref this) hG dX10_begin_26 rfl rfl ?_
    refine V_iload_n hG dX10_begin_27 rfl ?_
    obtain ⟨ht, h⟩ := h
    refine V_cVI _ _ hG dX10_begin_28 (ct_X10_needsParts hl h) mv_X10_needsParts ml_X10_282 ht rfl rfl rfl rfl (by first | exact Nat.le_of_ble_eq_true rfl | (simp only [List.map_cons, List.map_nil, List.sum_cons, List.sum_nil, cat_rf]; exact Nat.le_of_ble_eq_true rfl)) (Nat.le_of_ble_eq_true rfl) (Nat.le_of_ble_eq_true rfl) (by first | exact Nat.le_of_ble_eq_true rfl | omega | (dsimp only; omega)) (by first | exact Nat.le_of_ble_eq_true rfl | omega | (dsimp only; omega)) ?_ (fun x10 σ9 h9 => ?_)
    · exact fun E σ9 hx => VX_out hG (by first | exact Nat.le_of_ble_eq_true rfl | omega | (dsimp only; omega)) (by first | exact Nat.le_of_ble_eq_true rfl | omega | (dsimp only; omega)) hx
    · replace h := h9
      clear h9
      refine V_if_eq (tgt := 92) hG dX10_begin_31 (by decide) (fun c => ?_) (fun c => ?_)
      · replace h := h.1 c
        refine V_forget (lo' := [some (.ref this), some (.int a0), some (.int a1), some (.int (sI σ u2 j3)), some (.int (((4 : Int32) * (sI σ u2 j3)) + (sI σ u5 j6))), some (.int x8), none]) ⟨rfl, ⟨rfl, ⟨rfl, ⟨rfl, ⟨rfl, ⟨rfl, trivial⟩⟩⟩⟩⟩⟩ ?_
        refine V_widen (k' := 0) (n' := 0) (by first | exact Nat.le_of_ble_eq_true rfl | omega | (dsimp only; omega)) (by first | exact Nat.le_of_ble_eq_true rfl | omega | (dsimp only; omega)) ?_
        exact wv_X10_begin_92 hl hG  _ _ _ _ _ _ _ h
      · replace h := h.2 c
        refine V_aload_n (v := .ref this) hG dX10_begin_34 rfl rfl ?_
        refine V_iload_n hG dX10_begin_35 rfl ?_
        obtain ⟨ht, h⟩ := h
        refine V_cVI _ _ hG dX10_begin_36 (ct_X10_hasParts hl h) mv_X10_hasParts ml_X10_285 ht rfl rfl rfl rfl (by first | exact Nat.le_of_ble_eq_true rfl | (simp only [List.map_cons, List.map_nil, List.sum_cons, List.sum_nil, cat_rf]; exact Nat.le_of_ble_eq_true rfl)) (Nat.le_of_ble_eq_true rfl) (Nat.le_of_ble_eq_true rfl) (by first | exact Nat.le_of_ble_eq_true rfl | omega | (dsimp only; omega)) (by first | exact Nat.le_of_ble_eq_true rfl | omega | (dsimp only; omega)) ?_ (fun x12 σ11 h9 => ?_)
        · exact fun E σ11 hx => VX_out hG (by first | exact Nat.le_of_ble_eq_true rfl | omega | (dsimp only; omega)) (by first | exact Nat.le_of_ble_eq_true rfl | omega | (dsimp only; omega)) hx
        · replace h := h9
          clear h9
          refine V_if_eq (tgt := 92) hG dX10_begin_39 (by decide) (fun c => ?_) (fun c => ?_)
          · replace h := h.1 c
            refine V_forget (lo' := [some (.ref this), some (.int a0), some (.int a1), some (.int (sI σ u2 j3)), some (.int (((4 : Int32) * (sI σ u2 j3)) + (sI σ u5 j6))), some (.int x8), none]) ⟨rfl, ⟨rfl, ⟨rfl, ⟨rfl, ⟨rfl, ⟨rfl, trivial⟩⟩⟩⟩⟩⟩ ?_
            refine V_widen (k' := 0) (n' := 0) (by first | exact Nat.le_of_ble_eq_true rfl | omega | (dsimp only; omega)) (by first | exact Nat.le_of_ble_eq_true rfl | omega | (dsimp only; omega)) ?_
            exact wv_X10_begin_92 hl hG  _ _ _ _ _ _ _ h
          · replace h := h.2 c
            refine V_iconst (v := 0) hG (by decide) dX10_begin_42 ?_
            refine V_istore hG dX10_begin_43 (Nat.le_of_ble_eq_true rfl) (hpV rfl rfl) ?_
            refine V_forget (lo' := [some (.ref this), some (.int a0), some (.int a1), some (.int (sI σ u2 j3)), some (.int (((4 : Int32) * (sI σ u2 j3)) + (sI σ u5 j6))), some (.int x8), some (.int (0 : Int32))]) ⟨rfl, ⟨rfl, ⟨rfl, ⟨rfl, ⟨rfl, ⟨rfl, ⟨rfl, trivial⟩⟩⟩⟩⟩⟩⟩ ?_
            obtain ⟨g, h⟩ := h
            refine V_widen (k' := 0) (n' := 0) (by first | exact Nat.le_of_ble_eq_true rfl | omega | (dsimp only; omega)) (by first | exact Nat.le_of_ble_eq_true rfl | omega | (dsimp only; omega)) ?_
            exact wv_X10_begin_45 hl hG  g _ _ _ _ _ _ _ _ h
def wp_X10_take_114 (K2 : Nat → Int32 → Sg → Prop) (K14 : Nat → Int32 → Int32 → Int32 → Sg → Prop) (this : Nat) (v1 : Int32) (v3 : Int32) (s0 : Int32) (σ : Sg) (Post : Rs → Sg → Prop) : Prop := (K14 this v1 s0 (v3 + 1) σ)
set_option maxRecDepth 100000 in
set_option maxHeartbeats 4000000 in
theorem wv_X10_take_114 {L9 : Launch} {G : Cx} {Post : Rs → Sg → Prop} (hl : L9.stackTraces = false) (hG : CX L9 G yX10_take cX10_take 5 none [] { frames := 5, cells := 0, slots := 0, locals := 121 }) {K2 : Nat → Int32 → Sg → Prop} {K14 : Nat → Int32 → Int32 → Int32 → Sg → Prop} (hK2 : ∀ (this : Nat) (v1 : Int32) (ζ : Sg), K2 this v1 ζ → V G (QM G 0 0 Post) 2 [some (.ref this), some (.int v1), none, none, none] [] ζ 0 0) (hK14 : ∀ (this : Nat) (v1 : Int32) (v2 : Int32) (v3 : Int32) (ζ : Sg), K14 this v1 v2 v3 ζ → V G (QM G 0 0 Post) 14 [some (.ref this), some (.int v1), some (.int v2), some (.int v3), none] [] ζ 0 0) : ∀ (this : Nat) (v1 : Int32) (v3 : Int32) (s0 : Int32) (σ : Sg), wp_X10_take_114 K2 K14 this v1 v3 s0 σ Post → V G (QM G 0 0 Post) 114 [some (.ref this), some (.int v1), none, some (.int v3), none] [.int s0] σ 0 0 := by
  intro this v1 v3 s0 σ h
  unfold wp_X10_take_114 at h
  refine V_istore_n hG dX10_take_114 (Nat.le_of_ble_eq_true rfl) (hpV rfl rfl) ?_
  refine V_iincv (c := 1) hG dX10_take_115 rfl (by decide) (hpV rfl rfl) ?_
  refine V_goto (tgt := 14) hG dX10_take_118 (by decide) ?_
  refine V_forget (lo' := [some (.ref this), some (.int v1), some (.int s0), some (.int (v3 + 1)), none]) ⟨rfl, ⟨rfl, ⟨rfl, ⟨rfl, trivial⟩⟩⟩⟩ ?_
  exact hK14 _ _ _ _ _ h
def wp_X10_take_113 (K2 : Nat → Int32 → Sg → Prop) (K14 : Nat → Int32 → Int32 → Int32 → Sg → Prop) (this : Nat) (v1 : Int32) (v2 : Int32) (v3 : Int32) (σ : Sg) (Post : Rs → Sg → Prop) : Prop := (wp_X10_take_114 K2 K14 this v1 v3 v2 σ Post)
set_option maxRecDepth 100000 in
set_option maxHeartbeats 4000000 in
theorem wv_X10_take_113 {L9 : Launch} {G : Cx} {Post : Rs → Sg → Prop} (hl : L9.stackTraces = false) (hG : CX L9 G yX10_take cX10_take 5 none [] { frames := 5, cells := 0, slots := 0, locals := 121 }) {K2 : Nat → Int32 → Sg → Prop} {K14 : Nat → Int32 → Int32 → Int32 → Sg → Prop} (hK2 : ∀ (this : Nat) (v1 : Int32) (ζ : Sg), K2 this v1 ζ → V G (QM G 0 0 Post) 2 [some (.ref this), some (.int v1), none, none, none] [] ζ 0 0) (hK14 : ∀ (this : Nat) (v1 : Int32) (v2 : Int32) (v3 : Int32) (ζ : Sg), K14 this v1 v2 v3 ζ → V G (QM G 0 0 Post) 14 [some (.ref this), some (.int v1), some (.int v2), some (.int v3), none] [] ζ 0 0) : ∀ (this : Nat) (v1 : Int32) (v2 : Int32) (v3 : Int32) (σ : Sg), wp_X10_take_113 K2 K14 this v1 v2 v3 σ Post → V G (QM G 0 0 Post) 113 [some (.ref this), some (.int v1), some (.int v2), some (.int v3), none] [] σ 0 0 := by
  intro this v1 v2 v3 σ h
  unfold wp_X10_take_113 at h
  refine V_iload_n hG dX10_take_113 rfl ?_
  refine V_forget (lo' := [some (.ref this), some (.int v1), none, some (.int v3), none]) ⟨rfl, ⟨rfl, ⟨rfl, trivial⟩⟩⟩ ?_
  refine V_widen (k' := 0) (n' := 0) (by first | exact Nat.le_of_ble_eq_true rfl | omega | (dsimp only; omega)) (by first | exact Nat.le_of_ble_eq_true rfl | omega | (dsimp only; omega)) ?_
  exact wv_X10_take_114 hl hG hK2 hK14 _ _ _ _ _ h
def wp_X10_take_94 (K2 : Nat → Int32 → Sg → Prop) (K14 : Nat → Int32 → Int32 → Int32 → Sg → Prop) (this : Nat) (v1 : Int32) (v2 : Int32) (v3 : Int32) (s0 : Int32) (σ : Sg) (Post : Rs → Sg → Prop) : Prop := ((s0 = 0 → (wp_X10_take_113 K2 K14 this v1 v2 v3 σ Post)) ∧ (¬ s0 = 0 → this % 32 = 10 ∧ wp_X10_canBegin this v3 σ (KI (fun x2 σ1 => ((x2 = 0 → (wp_X10_take_113 K2 K14 this v1 v2 v3 σ1 Post)) ∧ (¬ x2 = 0 → (wp_X10_take_114 K2 K14 this v1 v3 v3 σ1 Post)))) (fun E σ1 => Post (.inr E) σ1))))
set_option maxRecDepth 100000 in
set_option maxHeartbeats 4000000 in
theorem wv_X10_take_94 {L9 : Launch} {G : Cx} {Post : Rs → Sg → Prop} (hl : L9.stackTraces = false) (hG : CX L9 G yX10_take cX10_take 5 none [] { frames := 5, cells := 0, slots := 0, locals := 121 }) {K2 : Nat → Int32 → Sg → Prop} {K14 : Nat → Int32 → Int32 → Int32 → Sg → Prop} (hK2 : ∀ (this : Nat) (v1 : Int32) (ζ : Sg), K2 this v1 ζ → V G (QM G 0 0 Post) 2 [some (.ref this), some (.int v1), none, none, none] [] ζ 0 0) (hK14 : ∀ (this : Nat) (v1 : Int32) (v2 : Int32) (v3 : Int32) (ζ : Sg), K14 this v1 v2 v3 ζ → V G (QM G 0 0 Post) 14 [some (.ref this), some (.int v1), some (.int v2), some (.int v3), none] [] ζ 0 0) : ∀ (this : Nat) (v1 : Int32) (v2 : Int32) (v3 : Int32) (s0 : Int32) (σ : Sg), wp_X10_take_94 K2 K14 this v1 v2 v3 s0 σ Post → V G (QM G 0 0 Post) 94 [some (.ref this), some (.int v1), some (.int v2), some (.int v3), none] [.int s0] σ 0 0 := by
  intro this v1 v2 v3 s0 σ h
  unfold wp_X10_take_94 at h
  refine V_istore hG dX10_take_94 (Nat.le_of_ble_eq_true rfl) (hpV rfl rfl) ?_
  refine V_iload hG dX10_take_96 rfl ?_
  refine V_if_eq (tgt := 113) hG dX10_take_98 (by decide) (fun c => ?_) (fun c => ?_)
  · replace h := h.1 c
    refine V_forget (lo' := [some (.ref this), some (.int v1), some (.int v2), some (.int v3), none]) ⟨rfl, ⟨rfl, ⟨rfl, ⟨rfl, trivial⟩⟩⟩⟩ ?_
    refine V_widen (k' := 0) (n' := 0) (by first | exact Nat.le_of_ble_eq_true rfl | omega | (dsimp only; omega)) (by first | exact Nat.le_of_ble_eq_true rfl | omega | (dsimp only; omega)) ?_
    exact wv_X10_take_113 hl hG hK2 hK14 _ _ _ _ _ h
  · replace h := h.2 c
    refine V_aload_n (v := .ref this) hG dX10_take_101 rfl rfl ?_
    refine V_iload_n hG dX10_take_102 rfl ?_
    obtain ⟨ht, h⟩ := h
    refine V_cVI _ _ hG dX10_take_103 (ct_X10_canBegin hl h) mv_X10_canBegin ml_X10_291 ht rfl rfl rfl rfl (by first | exact Nat.le_of_ble_eq_true rfl | (simp only [List.map_cons, List.map_nil, List.sum_cons, List.sum_nil, cat_rf]; exact Nat.le_of_ble_eq_true rfl)) (Nat.le_of_ble_eq_true rfl) (Nat.le_of_ble_eq_true rfl) (by first | exact Nat.le_of_ble_eq_true rfl | omega | (dsimp only; omega)) (by first | exact Nat.le_of_ble_eq_true rfl | omega | (dsimp only; omega)) ?_ (fun x2 σ1 h9 => ?_)
    · exact fun E σ1 hx => VX_out hG (by first | exact Nat.le_of_ble_eq_true rfl | omega | (dsimp only; omega)) (by first | exact Nat.le_of_ble_eq_true rfl | omega | (dsimp only; omega)) hx
    · replace h := h9
      clear h9
      refine V_if_eq (tgt := 113) hG dX10_take_106 (by decide) (fun c => ?_) (fun c => ?_)
      · replace h := h.1 c
        refine V_forget (lo' := [some (.ref this), some (.int v1), some (.int v2), some (.int v3), none]) ⟨rfl, ⟨rfl, ⟨rfl, ⟨rfl, trivial⟩⟩⟩⟩ ?_
        refine V_widen (k' := 0) (n' := 0) (by first | exact Nat.le_of_ble_eq_true rfl | omega | (dsimp only; omega)) (by first | exact Nat.le_of_ble_eq_true rfl | omega | (dsimp only; omega)) ?_
        exact wv_X10_take_113 hl hG hK2 hK14 _ _ _ _ _ h
      · replace h := h.2 c
        refine V_iload_n hG dX10_take_109 rfl ?_
        refine V_goto (tgt := 114) hG dX10_take_110 (by decide) ?_
        refine V_forget (lo' := [some (.ref this), some (.int v1), none, some (.int v3), none]) ⟨rfl, ⟨rfl, ⟨rfl, trivial⟩⟩⟩ ?_
        refine V_widen (k' := 0) (n' := 0) (by first | exact Nat.le_of_ble_eq_true rfl | omega | (dsimp only; omega)) (by first | exact Nat.le_of_ble_eq_true rfl | omega | (dsimp only; omega)) ?_
        exact wv_X10_take_114 hl hG hK2 hK14 _ _ _ _ _ h
def wp_X10_take_89 (K2 : Nat → Int32 → Sg → Prop) (K14 : Nat → Int32 → Int32 → Int32 → Sg → Prop) (this : Nat) (v1 : Int32) (v2 : Int32) (v3 : Int32) (σ : Sg) (Post : Rs → Sg → Prop) : Prop := (wp_X10_take_94 K2 K14 this v1 v2 v3 (1 : Int32) σ Post)
set_option maxRecDepth 100000 in
set_option maxHeartbeats 4000000 in
theorem wv_X10_take_89 {L9 : Launch} {G : Cx} {Post : Rs → Sg → Prop} (hl : L9.stackTraces = false) (hG : CX L9 G yX10_take cX10_take 5 none [] { frames := 5, cells := 0, slots := 0, locals := 121 }) {K2 : Nat → Int32 → Sg → Prop} {K14 : Nat → Int32 → Int32 → Int32 → Sg → Prop} (hK2 : ∀ (this : Nat) (v1 : Int32) (ζ : Sg), K2 this v1 ζ → V G (QM G 0 0 Post) 2 [some (.ref this), some (.int v1), none, none, none] [] ζ 0 0) (hK14 : ∀ (this : Nat) (v1 : Int32) (v2 : Int32) (v3 : Int32) (ζ : Sg), K14 this v1 v2 v3 ζ → V G (QM G 0 0 Post) 14 [some (.ref this), some (.int v1), some (.int v2), some (.int v3), none] [] ζ 0 0) : ∀ (this : Nat) (v1 : Int32) (v2 : Int32) (v3 : Int32) (σ : Sg), wp_X10_take_89 K2 K14 this v1 v2 v3 σ Post → V G (QM G 0 0 Post) 89 [some (.ref this), some (.int v1), some (.int v2), some (.int v3), none] [] σ 0 0 := by
  intro this v1 v2 v3 σ h
  unfold wp_X10_take_89 at h
  refine V_iconst (v := 1) hG (by decide) dX10_take_89 ?_
  refine V_goto (tgt := 94) hG dX10_take_90 (by decide) ?_
  refine V_forget (lo' := [some (.ref this), some (.int v1), some (.int v2), some (.int v3), none]) ⟨rfl, ⟨rfl, ⟨rfl, ⟨rfl, trivial⟩⟩⟩⟩ ?_
  refine V_widen (k' := 0) (n' := 0) (by first | exact Nat.le_of_ble_eq_true rfl | omega | (dsimp only; omega)) (by first | exact Nat.le_of_ble_eq_true rfl | omega | (dsimp only; omega)) ?_
  exact wv_X10_take_94 hl hG hK2 hK14 _ _ _ _ _ _ h
def wp_X10_take_93 (K2 : Nat → Int32 → Sg → Prop) (K14 : Nat → Int32 → Int32 → Int32 → Sg → Prop) (this : Nat) (v1 : Int32) (v2 : Int32) (v3 : Int32) (σ : Sg) (Post : Rs → Sg → Prop) : Prop := (wp_X10_take_94 K2 K14 this v1 v2 v3 (0 : Int32) σ Post)
set_option maxRecDepth 100000 in
set_option maxHeartbeats 4000000 in
theorem wv_X10_take_93 {L9 : Launch} {G : Cx} {Post : Rs → Sg → Prop} (hl : L9.stackTraces = false) (hG : CX L9 G yX10_take cX10_take 5 none [] { frames := 5, cells := 0, slots := 0, locals := 121 }) {K2 : Nat → Int32 → Sg → Prop} {K14 : Nat → Int32 → Int32 → Int32 → Sg → Prop} (hK2 : ∀ (this : Nat) (v1 : Int32) (ζ : Sg), K2 this v1 ζ → V G (QM G 0 0 Post) 2 [some (.ref this), some (.int v1), none, none, none] [] ζ 0 0) (hK14 : ∀ (this : Nat) (v1 : Int32) (v2 : Int32) (v3 : Int32) (ζ : Sg), K14 this v1 v2 v3 ζ → V G (QM G 0 0 Post) 14 [some (.ref this), some (.int v1), some (.int v2), some (.int v3), none] [] ζ 0 0) : ∀ (this : Nat) (v1 : Int32) (v2 : Int32) (v3 : Int32) (σ : Sg), wp_X10_take_93 K2 K14 this v1 v2 v3 σ Post → V G (QM G 0 0 Post) 93 [some (.ref this), some (.int v1), some (.int v2), some (.int v3), none] [] σ 0 0 := by
  intro this v1 v2 v3 σ h
  unfold wp_X10_take_93 at h
  refine V_iconst (v := 0) hG (by decide) dX10_take_93 ?_
  refine V_forget (lo' := [some (.ref this), some (.int v1), some (.int v2), some (.int v3), none]) ⟨rfl, ⟨rfl, ⟨rfl, ⟨rfl, trivial⟩⟩⟩⟩ ?_
  refine V_widen (k' := 0) (n' := 0) (by first | exact Nat.le_of_ble_eq_true rfl | omega | (dsimp only; omega)) (by first | exact Nat.le_of_ble_eq_true rfl | omega | (dsimp only; omega)) ?_
  exact wv_X10_take_94 hl hG hK2 hK14 _ _ _ _ _ _ h
def wp_X10_take_132 (K2 : Nat → Int32 → Sg → Prop) (this : Nat) (v1 : Int32) (σ : Sg) (Post : Rs → Sg → Prop) : Prop := (K2 this (v1 + 1) σ)
set_option maxRecDepth 100000 in
set_option maxHeartbeats 4000000 in
theorem wv_X10_take_132 {L9 : Launch} {G : Cx} {Post : Rs → Sg → Prop} (hl : L9.stackTraces = false) (hG : CX L9 G yX10_take cX10_take 5 none [] { frames := 5, cells := 0, slots := 0, locals := 121 }) {K2 : Nat → Int32 → Sg → Prop} (hK2 : ∀ (this : Nat) (v1 : Int32) (ζ : Sg), K2 this v1 ζ → V G (QM G 0 0 Post) 2 [some (.ref this), some (.int v1), none, none, none] [] ζ 0 0) : ∀ (this : Nat) (v1 : Int32) (σ : Sg), wp_X10_take_132 K2 this v1 σ Post → V G (QM G 0 0 Post) 132 [some (.ref this), some (.int v1), none, none, none] [] σ 0 0 := by
  intro this v1 σ h
  unfold wp_X10_take_132 at h
  refine V_iincv (c := 1) hG dX10_take_132 rfl (by decide) (hpV rfl rfl) ?_
  refine V_goto (tgt := 2) hG dX10_take_135 (by decide) ?_
  refine V_forget (lo' := [some (.ref this), some (.int (v1 + 1)), none, none, none]) ⟨rfl, ⟨rfl, trivial⟩⟩ ?_
  exact hK2 _ _ _ h
def wp_X10_take_121 (K2 : Nat → Int32 → Sg → Prop) (this : Nat) (v1 : Int32) (v2 : Int32) (σ : Sg) (Post : Rs → Sg → Prop) : Prop := ((v2 = (-1 : Int32) → (wp_X10_take_132 K2 this v1 σ Post)) ∧ (¬ v2 = (-1 : Int32) → this % 32 = 10 ∧ wp_X10_begin this v1 v2 σ (KV (fun σ1 => (wp_X10_take_132 K2 this v1 σ1 Post)) (fun E σ1 => Post (.inr E) σ1))))
set_option maxRecDepth 100000 in
set_option maxHeartbeats 4000000 in
theorem wv_X10_take_121 {L9 : Launch} {G : Cx} {Post : Rs → Sg → Prop} (hl : L9.stackTraces = false) (hG : CX L9 G yX10_take cX10_take 5 none [] { frames := 5, cells := 0, slots := 0, locals := 121 }) {K2 : Nat → Int32 → Sg → Prop} (hK2 : ∀ (this : Nat) (v1 : Int32) (ζ : Sg), K2 this v1 ζ → V G (QM G 0 0 Post) 2 [some (.ref this), some (.int v1), none, none, none] [] ζ 0 0) : ∀ (this : Nat) (v1 : Int32) (v2 : Int32) (σ : Sg), wp_X10_take_121 K2 this v1 v2 σ Post → V G (QM G 0 0 Post) 121 [some (.ref this), some (.int v1), some (.int v2), none, none] [] σ 0 0 := by
  intro this v1 v2 σ h
  unfold wp_X10_take_121 at h
  refine V_iload_n hG dX10_take_121 rfl ?_
  refine V_iconst (v := (-1)) hG (by decide) dX10_take_122 ?_
  refine V_icmp_eq (tgt := 132) hG dX10_take_123 (by decide) (fun c => ?_) (fun c => ?_)
  · replace h := h.1 c
    refine V_forget (lo' := [some (.ref this), some (.int v1), none, none, none]) ⟨rfl, ⟨rfl, trivial⟩⟩ ?_
    refine V_widen (k' := 0) (n' := 0) (by first | exact Nat.le_of_ble_eq_true rfl | omega | (dsimp only; omega)) (by first | exact Nat.le_of_ble_eq_true rfl | omega | (dsimp only; omega)) ?_
    exact wv_X10_take_132 hl hG hK2 _ _ _ h
  · replace h := h.2 c
    refine V_aload_n (v := .ref this) hG dX10_take_126 rfl rfl ?_
    refine V_iload_n hG dX10_take_127 rfl ?_
    refine V_iload_n hG dX10_take_128 rfl ?_
    obtain ⟨ht, h⟩ := h
    refine V_cVV _ _ hG dX10_take_129 (ct_X10_begin hl h) mv_X10_begin ml_X10_294 ht rfl rfl rfl rfl (by first | exact Nat.le_of_ble_eq_true rfl | (simp only [List.map_cons, List.map_nil, List.sum_cons, List.sum_nil, cat_rf]; exact Nat.le_of_ble_eq_true rfl)) (Nat.le_of_ble_eq_true rfl) (Nat.le_of_ble_eq_true rfl) (by first | exact Nat.le_of_ble_eq_true rfl | omega | (dsimp only; omega)) (by first | exact Nat.le_of_ble_eq_true rfl | omega | (dsimp only; omega)) ?_ (fun σ1 h9 => ?_)
    · exact fun E σ1 hx => VX_out hG (by first | exact Nat.le_of_ble_eq_true rfl | omega | (dsimp only; omega)) (by first | exact Nat.le_of_ble_eq_true rfl | omega | (dsimp only; omega)) hx
    · replace h := h9
      clear h9
      refine V_forget (lo' := [some (.ref this), some (.int v1), none, none, none]) ⟨rfl, ⟨rfl, trivial⟩⟩ ?_
      refine V_widen (k' := 0) (n' := 0) (by first | exact Nat.le_of_ble_eq_true rfl | omega | (dsimp only; omega)) (by first | exact Nat.le_of_ble_eq_true rfl | omega | (dsimp only; omega)) ?_
      exact wv_X10_take_132 hl hG hK2 _ _ _ h
def wp_X10_take_14 (K2 : Nat → Int32 → Sg → Prop) : Nat → Nat → Int32 → Int32 → Int32 → Sg → (Rs → Sg → Prop) → Prop
  | 0, _, _, _, _, _, _ => False
  | f + 1, this, v1, v2, v3, σ, Post => this % 32 = 10 ∧ (((sI σ this 14) ≤ v3 → (wp_X10_take_121 K2 this v1 v2 σ Post)) ∧ (¬ (sI σ this 14) ≤ v3 → this % 32 = 10 ∧ ∀ o1, o1 = sP σ this 34 → ∃ u2, o1 = some u2 ∧ aty (u2 % 32) = some .int ∧ ∃ j3, v1 = nI j3 ∧ j3 < aln u2 ∧ ((¬ (sI σ u2 j3) = (-1 : Int32) → (wp_X10_take_121 K2 this v1 v2 σ Post)) ∧ ((sI σ u2 j3) = (-1 : Int32) → this % 32 = 10 ∧ ∀ o4, o4 = sP σ this 39 → ∃ u5, o4 = some u5 ∧ aty (u5 % 32) = some .int ∧ ∃ j6, v1 = nI j6 ∧ j6 < aln u5 ∧ ((¬ (sI σ u5 j6) = 0 → (wp_X10_take_121 K2 this v1 v2 σ Post)) ∧ ((sI σ u5 j6) = 0 → this % 32 = 10 ∧ ∀ o7, o7 = sP σ this 18 → ∃ u8, o7 = some u8 ∧ aty (u8 % 32) = some .int ∧ ∃ j9, v3 = nI j9 ∧ j9 < aln u8 ∧ ((¬ (sI σ u8 j9) = (1 : Int32) → (wp_X10_take_93 K2 (fun z0 z1 z2 z3 ζ => wp_X10_take_14 K2 f z0 z1 z2 z3 ζ Post) this v1 v2 v3 σ Post)) ∧ ((sI σ u8 j9) = (1 : Int32) → this % 32 = 10 ∧ ∀ o10, o10 = sP σ this 21 → ∃ u11, o10 = some u11 ∧ aty (u11 % 32) = some .boolean ∧ ∃ j12, v3 = nI j12 ∧ j12 < aln u11 ∧ ((¬ (sI σ u11 j12) = 0 → (wp_X10_take_93 K2 (fun z0 z1 z2 z3 ζ => wp_X10_take_14 K2 f z0 z1 z2 z3 ζ Post) this v1 v2 v3 σ Post)) ∧ ((sI σ u11 j12) = 0 → this % 32 = 10 ∧ wp_X10_canDo this v1 v3 σ (KI (fun x14 σ13 => ((x14 = 0 → (wp_X10_take_93 K2 (fun z0 z1 z2 z3 ζ => wp_X10_take_14 K2 f z0 z1 z2 z3 ζ Post) this v1 v2 v3 σ13 Post)) ∧ (¬ x14 = 0 → ((v2 = (-1 : Int32) → (wp_X10_take_89 K2 (fun z0 z1 z2 z3 ζ => wp_X10_take_14 K2 f z0 z1 z2 z3 ζ Post) this v1 v2 v3 σ13 Post)) ∧ (¬ v2 = (-1 : Int32) → this % 32 = 10 ∧ ∀ o15, o15 = sP σ13 this 20 → ∃ u16, o15 = some u16 ∧ aty (u16 % 32) = some .int ∧ ∃ j17, v3 = nI j17 ∧ j17 < aln u16 ∧ this % 32 = 10 ∧ ∀ o18, o18 = sP σ13 this 20 → ∃ u19, o18 = some u19 ∧ aty (u19 % 32) = some .int ∧ ∃ j20, v2 = nI j20 ∧ j20 < aln u19 ∧ (((sI σ13 u16 j17) ≤ (sI σ13 u19 j20) → (wp_X10_take_93 K2 (fun z0 z1 z2 z3 ζ => wp_X10_take_14 K2 f z0 z1 z2 z3 ζ Post) this v1 v2 v3 σ13 Post)) ∧ (¬ (sI σ13 u16 j17) ≤ (sI σ13 u19 j20) → (wp_X10_take_89 K2 (fun z0 z1 z2 z3 ζ => wp_X10_take_14 K2 f z0 z1 z2 z3 ζ Post) this v1 v2 v3 σ13 Post)))))))) (fun E σ13 => Post (.inr E) σ13))))))))))))
set_option maxRecDepth 100000 in
set_option maxHeartbeats 4000000 in
theorem wv_X10_take_14 {L9 : Launch} {G : Cx} {Post : Rs → Sg → Prop} (hl : L9.stackTraces = false) (hG : CX L9 G yX10_take cX10_take 5 none [] { frames := 5, cells := 0, slots := 0, locals := 121 }) {K2 : Nat → Int32 → Sg → Prop} (hK2 : ∀ (this : Nat) (v1 : Int32) (ζ : Sg), K2 this v1 ζ → V G (QM G 0 0 Post) 2 [some (.ref this), some (.int v1), none, none, none] [] ζ 0 0) : ∀ (f : Nat) (this : Nat) (v1 : Int32) (v2 : Int32) (v3 : Int32) (σ : Sg), wp_X10_take_14 K2 f this v1 v2 v3 σ Post → V G (QM G 0 0 Post) 14 [some (.ref this), some (.int v1), some (.int v2), some (.int v3), none] [] σ 0 0 := by
  intro f
  induction f with
  | zero => intro _ _ _ _ σ h; exact h.elim
  | succ f ih =>
    intro this v1 v2 v3 σ h
    refine V_iload_n hG dX10_take_14 rfl ?_
    refine V_aload_n (v := .ref this) hG dX10_take_15 rfl rfl ?_
    obtain ⟨ht, h⟩ := h
    refine V_getI hG dX10_take_16 fl_X10_176 rfl ht ?_
    refine V_icmp_ge (tgt := 121) hG dX10_take_19 (by decide) (fun c => ?_) (fun c => ?_)
    · replace h := h.1 c
      refine V_forget (lo' := [some (.ref this), some (.int v1), some (.int v2), none, none]) ⟨rfl, ⟨rfl, ⟨rfl, trivial⟩⟩⟩ ?_
      refine V_widen (k' := 0) (n' := 0) (by first | exact Nat.le_of_ble_eq_true rfl | omega | (dsimp only; omega)) (by first | exact Nat.le_of_ble_eq_true rfl | omega | (dsimp only; omega)) ?_
      exact wv_X10_take_121 hl hG hK2 _ _ _ _ h
    · replace h := h.2 c
      refine V_aload_n (v := .ref this) hG dX10_take_22 rfl rfl ?_
      obtain ⟨ht, h⟩ := h
      refine V_getPv hG dX10_take_23 fl_X10_108 rfl ht (fun o1 ho => ?_)
      replace h := h o1 ho
      refine V_iload_n hG dX10_take_26 rfl ?_
      obtain ⟨u2, he, h⟩ := h
      subst he
      obtain ⟨ha, j3, hi, hj, h⟩ := h
      refine V_iald hG dX10_take_27 ha hi hj ?_
      refine V_iconst (v := (-1)) hG (by decide) dX10_take_28 ?_
      refine V_icmp_ne (tgt := 121) hG dX10_take_29 (by decide) (fun c => ?_) (fun c => ?_)
      · replace h := h.1 c
        refine V_forget (lo' := [some (.ref this), some (.int v1), some (.int v2), none, none]) ⟨rfl, ⟨rfl, ⟨rfl, trivial⟩⟩⟩ ?_
        refine V_widen (k' := 0) (n' := 0) (by first | exact Nat.le_of_ble_eq_true rfl | omega | (dsimp only; omega)) (by first | exact Nat.le_of_ble_eq_true rfl | omega | (dsimp only; omega)) ?_
        exact wv_X10_take_121 hl hG hK2 _ _ _ _ h
      · replace h := h.2 c
        refine V_aload_n (v := .ref this) hG dX10_take_32 rfl rfl ?_
        obtain ⟨ht, h⟩ := h
        refine V_getPv hG dX10_take_33 fl_X10_123 rfl ht (fun o4 ho => ?_)
        replace h := h o4 ho
        refine V_iload_n hG dX10_take_36 rfl ?_
        obtain ⟨u5, he, h⟩ := h
        subst he
        obtain ⟨ha, j6, hi, hj, h⟩ := h
        refine V_iald hG dX10_take_37 ha hi hj ?_
        refine V_if_ne (tgt := 121) hG dX10_take_38 (by decide) (fun c => ?_) (fun c => ?_)
        · replace h := h.1 c
          refine V_forget (lo' := [some (.ref this), some (.int v1), some (.int v2), none, none]) ⟨rfl, ⟨rfl, ⟨rfl, trivial⟩⟩⟩ ?_
          refine V_widen (k' := 0) (n' := 0) (by first | exact Nat.le_of_ble_eq_true rfl | omega | (dsimp only; omega)) (by first | exact Nat.le_of_ble_eq_true rfl | omega | (dsimp only; omega)) ?_
          exact wv_X10_take_121 hl hG hK2 _ _ _ _ h
        · replace h := h.2 c
          refine V_aload_n (v := .ref this) hG dX10_take_41 rfl rfl ?_
          obtain ⟨ht, h⟩ := h
          refine V_getPv hG dX10_take_42 fl_X10_62 rfl ht (fun o7 ho => ?_)
          replace h := h o7 ho
          refine V_iload_n hG dX10_take_45 rfl ?_
          obtain ⟨u8, he, h⟩ := h
          subst he
          obtain ⟨ha, j9, hi, hj, h⟩ := h
          refine V_iald hG dX10_take_46 ha hi hj ?_
          refine V_iconst (v := 1) hG (by decide) dX10_take_47 ?_
          refine V_icmp_ne (tgt := 93) hG dX10_take_48 (by decide) (fun c => ?_) (fun c => ?_)
          · replace h := h.1 c
            refine V_forget (lo' := [some (.ref this), some (.int v1), some (.int v2), some (.int v3), none]) ⟨rfl, ⟨rfl, ⟨rfl, ⟨rfl, trivial⟩⟩⟩⟩ ?_
            refine V_widen (k' := 0) (n' := 0) (by first | exact Nat.le_of_ble_eq_true rfl | omega | (dsimp only; omega)) (by first | exact Nat.le_of_ble_eq_true rfl | omega | (dsimp only; omega)) ?_
            exact wv_X10_take_93 hl hG hK2 (fun z0 z1 z2 z3 ζ hz => ih z0 z1 z2 z3 ζ hz) _ _ _ _ _ h
          · replace h := h.2 c
            refine V_aload_n (v := .ref this) hG dX10_take_51 rfl rfl ?_
            obtain ⟨ht, h⟩ := h
            refine V_getPv hG dX10_take_52 fl_X10_71 rfl ht (fun o10 ho => ?_)
            replace h := h o10 ho
            refine V_iload_n hG dX10_take_55 rfl ?_
            obtain ⟨u11, he, h⟩ := h
            subst he
            obtain ⟨ha, j12, hi, hj, h⟩ := h
            refine V_zald hG dX10_take_56 ha hi hj ?_
            refine V_if_ne (tgt := 93) hG dX10_take_57 (by decide) (fun c => ?_) (fun c => ?_)
            · replace h := h.1 c
              refine V_forget (lo' := [some (.ref this), some (.int v1), some (.int v2), some (.int v3), none]) ⟨rfl, ⟨rfl, ⟨rfl, ⟨rfl, trivial⟩⟩⟩⟩ ?_
              refine V_widen (k' := 0) (n' := 0) (by first | exact Nat.le_of_ble_eq_true rfl | omega | (dsimp only; omega)) (by first | exact Nat.le_of_ble_eq_true rfl | omega | (dsimp only; omega)) ?_
              exact wv_X10_take_93 hl hG hK2 (fun z0 z1 z2 z3 ζ hz => ih z0 z1 z2 z3 ζ hz) _ _ _ _ _ h
            · replace h := h.2 c
              refine V_aload_n (v := .ref this) hG dX10_take_60 rfl rfl ?_
              refine V_iload_n hG dX10_take_61 rfl ?_
              refine V_iload_n hG dX10_take_62 rfl ?_
              obtain ⟨ht, h⟩ := h
              refine V_cVI _ _ hG dX10_take_63 (ct_X10_canDo hl h) mv_X10_canDo ml_X10_288 ht rfl rfl rfl rfl (by first | exact Nat.le_of_ble_eq_true rfl | (simp only [List.map_cons, List.map_nil, List.sum_cons, List.sum_nil, cat_rf]; exact Nat.le_of_ble_eq_true rfl)) (Nat.le_of_ble_eq_true rfl) (Nat.le_of_ble_eq_true rfl) (by first | exact Nat.le_of_ble_eq_true rfl | omega | (dsimp only; omega)) (by first | exact Nat.le_of_ble_eq_true rfl | omega | (dsimp only; omega)) ?_ (fun x14 σ13 h9 => ?_)
              · exact fun E σ13 hx => VX_out hG (by first | exact Nat.le_of_ble_eq_true rfl | omega | (dsimp only; omega)) (by first | exact Nat.le_of_ble_eq_true rfl | omega | (dsimp only; omega)) hx
              · replace h := h9
                clear h9
                refine V_if_eq (tgt := 93) hG dX10_take_66 (by decide) (fun c => ?_) (fun c => ?_)
                · replace h := h.1 c
                  refine V_forget (lo' := [some (.ref this), some (.int v1), some (.int v2), some (.int v3), none]) ⟨rfl, ⟨rfl, ⟨rfl, ⟨rfl, trivial⟩⟩⟩⟩ ?_
                  refine V_widen (k' := 0) (n' := 0) (by first | exact Nat.le_of_ble_eq_true rfl | omega | (dsimp only; omega)) (by first | exact Nat.le_of_ble_eq_true rfl | omega | (dsimp only; omega)) ?_
                  exact wv_X10_take_93 hl hG hK2 (fun z0 z1 z2 z3 ζ hz => ih z0 z1 z2 z3 ζ hz) _ _ _ _ _ h
                · replace h := h.2 c
                  refine V_iload_n hG dX10_take_69 rfl ?_
                  refine V_iconst (v := (-1)) hG (by decide) dX10_take_70 ?_
                  refine V_icmp_eq (tgt := 89) hG dX10_take_71 (by decide) (fun c => ?_) (fun c => ?_)
                  · replace h := h.1 c
                    refine V_forget (lo' := [some (.ref this), some (.int v1), some (.int v2), some (.int v3), none]) ⟨rfl, ⟨rfl, ⟨rfl, ⟨rfl, trivial⟩⟩⟩⟩ ?_
                    refine V_widen (k' := 0) (n' := 0) (by first | exact Nat.le_of_ble_eq_true rfl | omega | (dsimp only; omega)) (by first | exact Nat.le_of_ble_eq_true rfl | omega | (dsimp only; omega)) ?_
                    exact wv_X10_take_89 hl hG hK2 (fun z0 z1 z2 z3 ζ hz => ih z0 z1 z2 z3 ζ hz) _ _ _ _ _ h
                  · replace h := h.2 c
                    refine V_aload_n (v := .ref this) hG dX10_take_74 rfl rfl ?_
                    obtain ⟨ht, h⟩ := h
                    refine V_getPv hG dX10_take_75 fl_X10_68 rfl ht (fun o15 ho => ?_)
                    replace h := h o15 ho
                    refine V_iload_n hG dX10_take_78 rfl ?_
                    obtain ⟨u16, he, h⟩ := h
                    subst he
                    obtain ⟨ha, j17, hi, hj, h⟩ := h
                    refine V_iald hG dX10_take_79 ha hi hj ?_
                    refine V_aload_n (v := .ref this) hG dX10_take_80 rfl rfl ?_
                    obtain ⟨ht, h⟩ := h
                    refine V_getPv hG dX10_take_81 fl_X10_68 rfl ht (fun o18 ho => ?_)
                    replace h := h o18 ho
                    refine V_iload_n hG dX10_take_84 rfl ?_
                    obtain ⟨u19, he, h⟩ := h
                    subst he
                    obtain ⟨ha, j20, hi, hj, h⟩ := h
                    refine V_iald hG dX10_take_85 ha hi hj ?_
                    refine V_icmp_le (tgt := 93) hG dX10_take_86 (by decide) (fun c => ?_) (fun c => ?_)
                    · replace h := h.1 c
                      refine V_forget (lo' := [some (.ref this), some (.int v1), some (.int v2), some (.int v3), none]) ⟨rfl, ⟨rfl, ⟨rfl, ⟨rfl, trivial⟩⟩⟩⟩ ?_
                      refine V_widen (k' := 0) (n' := 0) (by first | exact Nat.le_of_ble_eq_true rfl | omega | (dsimp only; omega)) (by first | exact Nat.le_of_ble_eq_true rfl | omega | (dsimp only; omega)) ?_
                      exact wv_X10_take_93 hl hG hK2 (fun z0 z1 z2 z3 ζ hz => ih z0 z1 z2 z3 ζ hz) _ _ _ _ _ h
                    · replace h := h.2 c
                      refine V_forget (lo' := [some (.ref this), some (.int v1), some (.int v2), some (.int v3), none]) ⟨rfl, ⟨rfl, ⟨rfl, ⟨rfl, trivial⟩⟩⟩⟩ ?_
                      refine V_widen (k' := 0) (n' := 0) (by first | exact Nat.le_of_ble_eq_true rfl | omega | (dsimp only; omega)) (by first | exact Nat.le_of_ble_eq_true rfl | omega | (dsimp only; omega)) ?_
                      exact wv_X10_take_89 hl hG hK2 (fun z0 z1 z2 z3 ζ hz => ih z0 z1 z2 z3 ζ hz) _ _ _ _ _ h
def wp_X10_take_2  : Nat → Nat → Int32 → Sg → (Rs → Sg → Prop) → Prop
  | 0, _, _, _, _ => False
  | f + 1, this, v1, σ, Post => this % 32 = 10 ∧ (((sI σ this 27) ≤ v1 → Post (.inl none) σ) ∧ (¬ (sI σ this 27) ≤ v1 → (∃ g, wp_X10_take_14 (fun z0 z1 ζ => wp_X10_take_2 f z0 z1 ζ Post) g this v1 (-1 : Int32) (0 : Int32) σ Post)))
set_option maxRecDepth 100000 in
set_option maxHeartbeats 4000000 in
theorem wv_X10_take_2 {L9 : Launch} {G : Cx} {Post : Rs → Sg → Prop} (hl : L9.stackTraces = false) (hG : CX L9 G yX10_take cX10_take 5 none [] { frames := 5, cells := 0, slots := 0, locals := 121 })   : ∀ (f : Nat) (this : Nat) (v1 : Int32) (σ : Sg), wp_X10_take_2 f this v1 σ Post → V G (QM G 0 0 Post) 2 [some (.ref this), some (.int v1), none, none, none] [] σ 0 0 := by
  intro f
  induction f with
  | zero => intro _ _ σ h; exact h.elim
  | succ f ih =>
    intro this v1 σ h
    refine V_iload_n hG dX10_take_2 rfl ?_
    refine V_aload_n (v := .ref this) hG dX10_take_3 rfl rfl ?_
    obtain ⟨ht, h⟩ := h
    refine V_getI hG dX10_take_4 fl_X10_183 rfl ht ?_
    refine V_icmp_ge (tgt := 138) hG dX10_take_7 (by decide) (fun c => ?_) (fun c => ?_)
    · replace h := h.1 c
      exact V_vret hG dX10_take_138 (by first | exact Nat.le_of_ble_eq_true rfl | omega | (dsimp only; omega)) (by first | exact Nat.le_of_ble_eq_true rfl | omega | (dsimp only; omega)) h
    · replace h := h.2 c
      refine V_iconst (v := (-1)) hG (by decide) dX10_take_10 ?_
      refine V_istore_n hG dX10_take_11 (Nat.le_of_ble_eq_true rfl) (hpV rfl rfl) ?_
      refine V_iconst (v := 0) hG (by decide) dX10_take_12 ?_
      refine V_istore_n hG dX10_take_13 (Nat.le_of_ble_eq_true rfl) (hpV rfl rfl) ?_
      refine V_forget (lo' := [some (.ref this), some (.int v1), some (.int (-1 : Int32)), some (.int (0 : Int32)), none]) ⟨rfl, ⟨rfl, ⟨rfl, ⟨rfl, trivial⟩⟩⟩⟩ ?_
      obtain ⟨g, h⟩ := h
      refine V_widen (k' := 0) (n' := 0) (by first | exact Nat.le_of_ble_eq_true rfl | omega | (dsimp only; omega)) (by first | exact Nat.le_of_ble_eq_true rfl | omega | (dsimp only; omega)) ?_
      exact wv_X10_take_14 hl hG (fun z0 z1 ζ hz => ih z0 z1 ζ hz) g _ _ _ _ _ h
def wp_X10_take (this : Nat) (σ : Sg) (Post : Rs → Sg → Prop) : Prop := (∃ g, wp_X10_take_2 g this (0 : Int32) σ Post)
set_option maxRecDepth 100000 in
set_option maxHeartbeats 4000000 in
theorem ct_X10_take {l : Launch} (hl : l.stackTraces = false) {this : Nat} {σ : Sg} {Post : Rs → Sg → Prop} (h : wp_X10_take this σ Post) : Ct l yX10_take (.code yX10_take cX10_take 5 none) 5 121 0 0 [.ref this] σ Post := by
  refine Ct_of [some (.ref this), none, none, none, none] hl (by decide +kernel) rfl (fun ad => by rfl) (fun ad => by exact Nat.le_of_ble_eq_true rfl) (fun v hv => mem_lo hv rfl) ?_
  intro G hG
  unfold wp_X10_take at h
  refine V_iconst (v := 0) hG (by decide) dX10_take_0 ?_
  refine V_istore_n hG dX10_take_1 (Nat.le_of_ble_eq_true rfl) (hpV rfl rfl) ?_
  refine V_forget (lo' := [some (.ref this), some (.int (0 : Int32)), none, none, none]) ⟨rfl, ⟨rfl, trivial⟩⟩ ?_
  obtain ⟨g, h⟩ := h
  refine V_widen (k' := 0) (n' := 0) (by first | exact Nat.le_of_ble_eq_true rfl | omega | (dsimp only; omega)) (by first | exact Nat.le_of_ble_eq_true rfl | omega | (dsimp only; omega)) ?_
  exact wv_X10_take_2 hl hG  g _ _ _ h
def wp_X10_stand (this : Nat) (a0 : Int32) (σ : Sg) (Post : Rs → Sg → Prop) : Prop := this % 32 = 10 ∧ this % 32 = 10 ∧ this % 32 = 10 ∧ b01 a0 ∧ (b01 (sI (wI σ this 59 (0 : Int32)) this 54) ∧ Post (.inl (some (.int (sI (wI σ this 59 (0 : Int32)) this 54)))) (wI (wI σ this 59 (0 : Int32)) this 54 a0))
set_option maxRecDepth 100000 in
set_option maxHeartbeats 4000000 in
theorem ct_X10_stand {l : Launch} (hl : l.stackTraces = false) {this : Nat} {a0 : Int32} {σ : Sg} {Post : Rs → Sg → Prop} (h : wp_X10_stand this a0 σ Post) : Ct l yX10_stand (.code yX10_stand cX10_stand 3 (some .boolean)) 0 0 0 0 [.ref this, .int a0] σ Post := by
  refine Ct_of [some (.ref this), some (.int a0), none] hl (by decide +kernel) rfl (fun ad => by rfl) (fun ad => by exact Nat.le_of_ble_eq_true rfl) (fun v hv => mem_lo hv rfl) ?_
  intro G hG
  unfold wp_X10_stand at h
  refine V_aload_n (v := .ref this) hG dX10_stand_0 rfl rfl ?_
  refine V_iconst (v := 0) hG (by decide) dX10_stand_1 ?_
  obtain ⟨ht, h⟩ := h
  refine V_putI hG dX10_stand_2 fl_X10_168 rfl (fun e => absurd e (by decide)) rfl ht ?_
  refine V_aload_n (v := .ref this) hG dX10_stand_5 rfl rfl ?_
  obtain ⟨ht, h⟩ := h
  refine V_getI hG dX10_stand_6 fl_X10_298 rfl ht ?_
  refine V_istore_n hG dX10_stand_9 (Nat.le_of_ble_eq_true rfl) (hpV rfl rfl) ?_
  refine V_aload_n (v := .ref this) hG dX10_stand_10 rfl rfl ?_
  refine V_iload_n hG dX10_stand_11 rfl ?_
  obtain ⟨ht, h⟩ := h
  obtain ⟨hb, h⟩ := h
  refine V_putI hG dX10_stand_12 fl_X10_298 rfl (fun _ => hb) rfl ht ?_
  refine V_iload_n hG dX10_stand_15 rfl ?_
  exact V_zret hG dX10_stand_16 h.1 (by first | exact Nat.le_of_ble_eq_true rfl | omega | (dsimp only; omega)) (by first | exact Nat.le_of_ble_eq_true rfl | omega | (dsimp only; omega)) h.2
def wp_X10_run_72 (K37 : Nat → Int32 → Int32 → Sg → Prop) (this : Nat) (v1 : Int32) (v2 : Int32) (σ : Sg) (Post : Rs → Sg → Prop) : Prop := this % 32 = 10 ∧ this % 32 = 10 ∧ (K37 this v1 (v2 + 1) (wI σ this 55 ((sI σ this 55) + (1 : Int32))))
set_option maxRecDepth 100000 in
set_option maxHeartbeats 4000000 in
theorem wv_X10_run_72 {L9 : Launch} {G : Cx} {Post : Rs → Sg → Prop} (hl : L9.stackTraces = false) (hG : CX L9 G yX10_run cX10_run 3 (some .int) [] { frames := 6, cells := 0, slots := 0, locals := 145 }) {K37 : Nat → Int32 → Int32 → Sg → Prop} (hK37 : ∀ (this : Nat) (v1 : Int32) (v2 : Int32) (ζ : Sg), K37 this v1 v2 ζ → V G (QM G 0 0 Post) 37 [some (.ref this), some (.int v1), some (.int v2)] [] ζ 0 0) : ∀ (this : Nat) (v1 : Int32) (v2 : Int32) (σ : Sg), wp_X10_run_72 K37 this v1 v2 σ Post → V G (QM G 0 0 Post) 72 [some (.ref this), some (.int v1), some (.int v2)] [] σ 0 0 := by
  intro this v1 v2 σ h
  unfold wp_X10_run_72 at h
  refine V_aload_n (v := .ref this) hG dX10_run_72 rfl rfl ?_
  refine V_dup (v := .ref this) hG rfl dX10_run_73 ?_
  obtain ⟨ht, h⟩ := h
  refine V_getI hG dX10_run_74 fl_X10_193 rfl ht ?_
  refine V_iconst (v := 1) hG (by decide) dX10_run_77 ?_
  refine V_iadd hG dX10_run_78 ?_
  obtain ⟨ht, h⟩ := h
  refine V_putI hG dX10_run_79 fl_X10_193 rfl (fun e => absurd e (by decide)) rfl ht ?_
  refine V_iincv (c := 1) hG dX10_run_82 rfl (by decide) (hpV rfl rfl) ?_
  refine V_goto (tgt := 37) hG dX10_run_85 (by decide) ?_
  refine V_forget (lo' := [some (.ref this), some (.int v1), some (.int (v2 + 1))]) ⟨rfl, ⟨rfl, ⟨rfl, trivial⟩⟩⟩ ?_
  exact hK37 _ _ _ _ h
def wp_X10_run_88  (this : Nat) (σ : Sg) (Post : Rs → Sg → Prop) : Prop := this % 32 = 10 ∧ ((¬ (sI σ this 59) = 0 → Post (.inl (some (.int (0 : Int32)))) σ) ∧ ((sI σ this 59) = 0 → this % 32 = 10 ∧ Post (.inl (some (.int (sI σ this 55)))) σ))
set_option maxRecDepth 100000 in
set_option maxHeartbeats 4000000 in
theorem wv_X10_run_88 {L9 : Launch} {G : Cx} {Post : Rs → Sg → Prop} (hl : L9.stackTraces = false) (hG : CX L9 G yX10_run cX10_run 3 (some .int) [] { frames := 6, cells := 0, slots := 0, locals := 145 })   : ∀ (this : Nat) (σ : Sg), wp_X10_run_88 this σ Post → V G (QM G 0 0 Post) 88 [some (.ref this), none, none] [] σ 0 0 := by
  intro this σ h
  unfold wp_X10_run_88 at h
  refine V_aload_n (v := .ref this) hG dX10_run_88 rfl rfl ?_
  obtain ⟨ht, h⟩ := h
  refine V_getI hG dX10_run_89 fl_X10_168 rfl ht ?_
  refine V_if_ne (tgt := 102) hG dX10_run_92 (by decide) (fun c => ?_) (fun c => ?_)
  · replace h := h.1 c
    refine V_iconst (v := 0) hG (by decide) dX10_run_102 ?_
    exact V_iret hG dX10_run_103 (by first | exact Nat.le_of_ble_eq_true rfl | omega | (dsimp only; omega)) (by first | exact Nat.le_of_ble_eq_true rfl | omega | (dsimp only; omega)) h
  · replace h := h.2 c
    refine V_aload_n (v := .ref this) hG dX10_run_95 rfl rfl ?_
    obtain ⟨ht, h⟩ := h
    refine V_getI hG dX10_run_96 fl_X10_193 rfl ht ?_
    refine V_goto (tgt := 103) hG dX10_run_99 (by decide) ?_
    exact V_iret hG dX10_run_103 (by first | exact Nat.le_of_ble_eq_true rfl | omega | (dsimp only; omega)) (by first | exact Nat.le_of_ble_eq_true rfl | omega | (dsimp only; omega)) h
def wp_X10_run_37  : Nat → Nat → Int32 → Int32 → Sg → (Rs → Sg → Prop) → Prop
  | 0, _, _, _, _, _ => False
  | f + 1, this, v1, v2, σ, Post => ((v1 ≤ v2 → (wp_X10_run_88 this σ Post)) ∧ (¬ v1 ≤ v2 → this % 32 = 10 ∧ ((¬ (sI σ this 59) = 0 → (wp_X10_run_88 this σ Post)) ∧ ((sI σ this 59) = 0 → this % 32 = 10 ∧ ((¬ (sI σ this 54) = 0 → (wp_X10_run_72 (fun z0 z1 z2 ζ => wp_X10_run_37 f z0 z1 z2 ζ Post) this v1 v2 σ Post)) ∧ ((sI σ this 54) = 0 → this % 32 = 10 ∧ wp_X10_arrive this σ (KV (fun σ1 => this % 32 = 10 ∧ wp_X10_work this σ1 (KV (fun σ2 => this % 32 = 10 ∧ wp_X10_repair this σ2 (KV (fun σ3 => this % 32 = 10 ∧ wp_X10_take this σ3 (KV (fun σ4 => (wp_X10_run_72 (fun z0 z1 z2 ζ => wp_X10_run_37 f z0 z1 z2 ζ Post) this v1 v2 σ4 Post)) (fun E σ4 => Post (.inr E) σ4))) (fun E σ3 => Post (.inr E) σ3))) (fun E σ2 => Post (.inr E) σ2))) (fun E σ1 => Post (.inr E) σ1))))))))
set_option maxRecDepth 100000 in
set_option maxHeartbeats 4000000 in
theorem wv_X10_run_37 {L9 : Launch} {G : Cx} {Post : Rs → Sg → Prop} (hl : L9.stackTraces = false) (hG : CX L9 G yX10_run cX10_run 3 (some .int) [] { frames := 6, cells := 0, slots := 0, locals := 145 })   : ∀ (f : Nat) (this : Nat) (v1 : Int32) (v2 : Int32) (σ : Sg), wp_X10_run_37 f this v1 v2 σ Post → V G (QM G 0 0 Post) 37 [some (.ref this), some (.int v1), some (.int v2)] [] σ 0 0 := by
  intro f
  induction f with
  | zero => intro _ _ _ σ h; exact h.elim
  | succ f ih =>
    intro this v1 v2 σ h
    refine V_iload_n hG dX10_run_37 rfl ?_
    refine V_iload_n hG dX10_run_38 rfl ?_
    refine V_icmp_ge (tgt := 88) hG dX10_run_39 (by decide) (fun c => ?_) (fun c => ?_)
    · replace h := h.1 c
      refine V_forget (lo' := [some (.ref this), none, none]) ⟨rfl, trivial⟩ ?_
      refine V_widen (k' := 0) (n' := 0) (by first | exact Nat.le_of_ble_eq_true rfl | omega | (dsimp only; omega)) (by first | exact Nat.le_of_ble_eq_true rfl | omega | (dsimp only; omega)) ?_
      exact wv_X10_run_88 hl hG  _ _ h
    · replace h := h.2 c
      refine V_aload_n (v := .ref this) hG dX10_run_42 rfl rfl ?_
      obtain ⟨ht, h⟩ := h
      refine V_getI hG dX10_run_43 fl_X10_168 rfl ht ?_
      refine V_if_ne (tgt := 88) hG dX10_run_46 (by decide) (fun c => ?_) (fun c => ?_)
      · replace h := h.1 c
        refine V_forget (lo' := [some (.ref this), none, none]) ⟨rfl, trivial⟩ ?_
        refine V_widen (k' := 0) (n' := 0) (by first | exact Nat.le_of_ble_eq_true rfl | omega | (dsimp only; omega)) (by first | exact Nat.le_of_ble_eq_true rfl | omega | (dsimp only; omega)) ?_
        exact wv_X10_run_88 hl hG  _ _ h
      · replace h := h.2 c
        refine V_aload_n (v := .ref this) hG dX10_run_49 rfl rfl ?_
        obtain ⟨ht, h⟩ := h
        refine V_getI hG dX10_run_50 fl_X10_298 rfl ht ?_
        refine V_if_ne (tgt := 72) hG dX10_run_53 (by decide) (fun c => ?_) (fun c => ?_)
        · replace h := h.1 c
          refine V_forget (lo' := [some (.ref this), some (.int v1), some (.int v2)]) ⟨rfl, ⟨rfl, ⟨rfl, trivial⟩⟩⟩ ?_
          refine V_widen (k' := 0) (n' := 0) (by first | exact Nat.le_of_ble_eq_true rfl | omega | (dsimp only; omega)) (by first | exact Nat.le_of_ble_eq_true rfl | omega | (dsimp only; omega)) ?_
          exact wv_X10_run_72 hl hG (fun z0 z1 z2 ζ hz => ih z0 z1 z2 ζ hz) _ _ _ _ h
        · replace h := h.2 c
          refine V_aload_n (v := .ref this) hG dX10_run_56 rfl rfl ?_
          obtain ⟨ht, h⟩ := h
          refine V_cVV _ _ hG dX10_run_57 (ct_X10_arrive hl h) mv_X10_arrive ml_X10_302 ht rfl rfl rfl rfl (by first | exact Nat.le_of_ble_eq_true rfl | (simp only [List.map_cons, List.map_nil, List.sum_cons, List.sum_nil, cat_rf]; exact Nat.le_of_ble_eq_true rfl)) (Nat.le_of_ble_eq_true rfl) (Nat.le_of_ble_eq_true rfl) (by first | exact Nat.le_of_ble_eq_true rfl | omega | (dsimp only; omega)) (by first | exact Nat.le_of_ble_eq_true rfl | omega | (dsimp only; omega)) ?_ (fun σ1 h9 => ?_)
          · exact fun E σ1 hx => VX_out hG (by first | exact Nat.le_of_ble_eq_true rfl | omega | (dsimp only; omega)) (by first | exact Nat.le_of_ble_eq_true rfl | omega | (dsimp only; omega)) hx
          · replace h := h9
            clear h9
            refine V_aload_n (v := .ref this) hG dX10_run_60 rfl rfl ?_
            obtain ⟨ht, h⟩ := h
            refine V_cVV _ _ hG dX10_run_61 (ct_X10_work hl h) mv_X10_work ml_X10_305 ht rfl rfl rfl rfl (by first | exact Nat.le_of_ble_eq_true rfl | (simp only [List.map_cons, List.map_nil, List.sum_cons, List.sum_nil, cat_rf]; exact Nat.le_of_ble_eq_true rfl)) (Nat.le_of_ble_eq_true rfl) (Nat.le_of_ble_eq_true rfl) (by first | exact Nat.le_of_ble_eq_true rfl | omega | (dsimp only; omega)) (by first | exact Nat.le_of_ble_eq_true rfl | omega | (dsimp only; omega)) ?_ (fun σ2 h9 => ?_)
            · exact fun E σ2 hx => VX_out hG (by first | exact Nat.le_of_ble_eq_true rfl | omega | (dsimp only; omega)) (by first | exact Nat.le_of_ble_eq_true rfl | omega | (dsimp only; omega)) hx
            · replace h := h9
              clear h9
              refine V_aload_n (v := .ref this) hG dX10_run_64 rfl rfl ?_
              obtain ⟨ht, h⟩ := h
              refine V_cVV _ _ hG dX10_run_65 (ct_X10_repair hl h) mv_X10_repair ml_X10_308 ht rfl rfl rfl rfl (by first | exact Nat.le_of_ble_eq_true rfl | (simp only [List.map_cons, List.map_nil, List.sum_cons, List.sum_nil, cat_rf]; exact Nat.le_of_ble_eq_true rfl)) (Nat.le_of_ble_eq_true rfl) (Nat.le_of_ble_eq_true rfl) (by first | exact Nat.le_of_ble_eq_true rfl | omega | (dsimp only; omega)) (by first | exact Nat.le_of_ble_eq_true rfl | omega | (dsimp only; omega)) ?_ (fun σ3 h9 => ?_)
              · exact fun E σ3 hx => VX_out hG (by first | exact Nat.le_of_ble_eq_true rfl | omega | (dsimp only; omega)) (by first | exact Nat.le_of_ble_eq_true rfl | omega | (dsimp only; omega)) hx
              · replace h := h9
                clear h9
                refine V_aload_n (v := .ref this) hG dX10_run_68 rfl rfl ?_
                obtain ⟨ht, h⟩ := h
                refine V_cVV _ _ hG dX10_run_69 (ct_X10_take hl h) mv_X10_take ml_X10_311 ht rfl rfl rfl rfl (by first | exact Nat.le_of_ble_eq_true rfl | (simp only [List.map_cons, List.map_nil, List.sum_cons, List.sum_nil, cat_rf]; exact Nat.le_of_ble_eq_true rfl)) (Nat.le_of_ble_eq_true rfl) (Nat.le_of_ble_eq_true rfl) (by first | exact Nat.le_of_ble_eq_true rfl | omega | (dsimp only; omega)) (by first | exact Nat.le_of_ble_eq_true rfl | omega | (dsimp only; omega)) ?_ (fun σ4 h9 => ?_)
                · exact fun E σ4 hx => VX_out hG (by first | exact Nat.le_of_ble_eq_true rfl | omega | (dsimp only; omega)) (by first | exact Nat.le_of_ble_eq_true rfl | omega | (dsimp only; omega)) hx
                · replace h := h9
                  clear h9
                  refine V_forget (lo' := [some (.ref this), some (.int v1), some (.int v2)]) ⟨rfl, ⟨rfl, ⟨rfl, trivial⟩⟩⟩ ?_
                  refine V_widen (k' := 0) (n' := 0) (by first | exact Nat.le_of_ble_eq_true rfl | omega | (dsimp only; omega)) (by first | exact Nat.le_of_ble_eq_true rfl | omega | (dsimp only; omega)) ?_
                  exact wv_X10_run_72 hl hG (fun z0 z1 z2 ζ hz => ih z0 z1 z2 ζ hz) _ _ _ _ h
def wp_X10_run_32  (this : Nat) (v1 : Int32) (s0 : Nat) (s1 : Int32) (σ : Sg) (Post : Rs → Sg → Prop) : Prop := s0 % 32 = 10 ∧ (∃ g, wp_X10_run_37 g this v1 (0 : Int32) (wI σ s0 59 s1) Post)
set_option maxRecDepth 100000 in
set_option maxHeartbeats 4000000 in
theorem wv_X10_run_32 {L9 : Launch} {G : Cx} {Post : Rs → Sg → Prop} (hl : L9.stackTraces = false) (hG : CX L9 G yX10_run cX10_run 3 (some .int) [] { frames := 6, cells := 0, slots := 0, locals := 145 })   : ∀ (this : Nat) (v1 : Int32) (s0 : Nat) (s1 : Int32) (σ : Sg), wp_X10_run_32 this v1 s0 s1 σ Post → V G (QM G 0 0 Post) 32 [some (.ref this), some (.int v1), none] [.int s1, .ref s0] σ 0 0 := by
  intro this v1 s0 s1 σ h
  unfold wp_X10_run_32 at h
  obtain ⟨ht, h⟩ := h
  refine V_putI hG dX10_run_32 fl_X10_168 rfl (fun e => absurd e (by decide)) rfl ht ?_
  refine V_iconst (v := 0) hG (by decide) dX10_run_35 ?_
  refine V_istore_n hG dX10_run_36 (Nat.le_of_ble_eq_true rfl) (hpV rfl rfl) ?_
  refine V_forget (lo' := [some (.ref this), some (.int v1), some (.int (0 : Int32))]) ⟨rfl, ⟨rfl, ⟨rfl, trivial⟩⟩⟩ ?_
  obtain ⟨g, h⟩ := h
  refine V_widen (k' := 0) (n' := 0) (by first | exact Nat.le_of_ble_eq_true rfl | omega | (dsimp only; omega)) (by first | exact Nat.le_of_ble_eq_true rfl | omega | (dsimp only; omega)) ?_
  exact wv_X10_run_37 hl hG  g _ _ _ _ h
def wp_X10_run (this : Nat) (a0 : Int32) (σ : Sg) (Post : Rs → Sg → Prop) : Prop := wp_X10_in a0 (1 : Int32) (50 : Int32) σ (KI (fun x2 σ1 => ((¬ x2 = 0 → this % 32 = 10 ∧ ((((sI σ1 this 55) + a0) ≤ (2000 : Int32) → (wp_X10_run_32 this a0 this (0 : Int32) σ1 Post)) ∧ (¬ ((sI σ1 this 55) + a0) ≤ (2000 : Int32) → (wp_X10_run_32 this a0 this (2 : Int32) σ1 Post)))) ∧ (x2 = 0 → (wp_X10_run_32 this a0 this (1 : Int32) σ1 Post)))) (fun E σ1 => Post (.inr E) σ1))
set_option maxRecDepth 100000 in
set_option maxHeartbeats 4000000 in
theorem ct_X10_run {l : Launch} (hl : l.stackTraces = false) {this : Nat} {a0 : Int32} {σ : Sg} {Post : Rs → Sg → Prop} (h : wp_X10_run this a0 σ Post) : Ct l yX10_run (.code yX10_run cX10_run 3 (some .int)) 6 145 0 0 [.ref this, .int a0] σ Post := by
  refine Ct_of [some (.ref this), some (.int a0), none] hl (by decide +kernel) rfl (fun ad => by rfl) (fun ad => by exact Nat.le_of_ble_eq_true rfl) (fun v hv => mem_lo hv rfl) ?_
  intro G hG
  unfold wp_X10_run at h
  refine V_aload_n (v := .ref this) hG dX10_run_0 rfl rfl ?_
  refine V_iload_n hG dX10_run_1 rfl ?_
  refine V_iconst (v := 1) hG (by decide) dX10_run_2 ?_
  refine V_bipush (v := 50) hG (by decide) dX10_run_3 ?_
  refine V_cSI _ _ hG dX10_run_5 (ct_X10_in hl h) mv_X10_in ml_X10_172 rfl rfl (by first | exact Nat.le_of_ble_eq_true rfl | (simp only [List.map_cons, List.map_nil, List.sum_cons, List.sum_nil, cat_rf]; exact Nat.le_of_ble_eq_true rfl)) (Nat.le_of_ble_eq_true rfl) (Nat.le_of_ble_eq_true rfl) (by first | exact Nat.le_of_ble_eq_true rfl | omega | (dsimp only; omega)) (by first | exact Nat.le_of_ble_eq_true rfl | omega | (dsimp only; omega)) ?_ (fun x2 σ1 h9 => ?_)
  · exact fun E σ1 hx => VX_out hG (by first | exact Nat.le_of_ble_eq_true rfl | omega | (dsimp only; omega)) (by first | exact Nat.le_of_ble_eq_true rfl | omega | (dsimp only; omega)) hx
  · replace h := h9
    clear h9
    refine V_if_ne (tgt := 15) hG dX10_run_8 (by decide) (fun c => ?_) (fun c => ?_)
    · replace h := h.1 c
      refine V_aload_n (v := .ref this) hG dX10_run_15 rfl rfl ?_
      obtain ⟨ht, h⟩ := h
      refine V_getI hG dX10_run_16 fl_X10_193 rfl ht ?_
      refine V_iload_n hG dX10_run_19 rfl ?_
      refine V_iadd hG dX10_run_20 ?_
      refine V_sipush (v := 2000) hG (by decide) dX10_run_21 ?_
      refine V_icmp_le (tgt := 31) hG dX10_run_24 (by decide) (fun c => ?_) (fun c => ?_)
      · replace h := h.1 c
        refine V_iconst (v := 0) hG (by decide) dX10_run_31 ?_
        refine V_forget (lo' := [some (.ref this), some (.int a0), none]) ⟨rfl, ⟨rfl, trivial⟩⟩ ?_
        refine V_widen (k' := 0) (n' := 0) (by first | exact Nat.le_of_ble_eq_true rfl | omega | (dsimp only; omega)) (by first | exact Nat.le_of_ble_eq_true rfl | omega | (dsimp only; omega)) ?_
        exact wv_X10_run_32 hl hG  _ _ _ _ _ h
      · replace h := h.2 c
        refine V_iconst (v := 2) hG (by decide) dX10_run_27 ?_
        refine V_goto (tgt := 32) hG dX10_run_28 (by decide) ?_
        refine V_forget (lo' := [some (.ref this), some (.int a0), none]) ⟨rfl, ⟨rfl, trivial⟩⟩ ?_
        refine V_widen (k' := 0) (n' := 0) (by first | exact Nat.le_of_ble_eq_true rfl | omega | (dsimp only; omega)) (by first | exact Nat.le_of_ble_eq_true rfl | omega | (dsimp only; omega)) ?_
        exact wv_X10_run_32 hl hG  _ _ _ _ _ h
    · replace h := h.2 c
      refine V_iconst (v := 1) hG (by decide) dX10_run_11 ?_
      refine V_goto (tgt := 32) hG dX10_run_12 (by decide) ?_
      refine V_forget (lo' := [some (.ref this), some (.int a0), none]) ⟨rfl, ⟨rfl, trivial⟩⟩ ?_
      refine V_widen (k' := 0) (n' := 0) (by first | exact Nat.le_of_ble_eq_true rfl | omega | (dsimp only; omega)) (by first | exact Nat.le_of_ble_eq_true rfl | omega | (dsimp only; omega)) ?_
      exact wv_X10_run_32 hl hG  _ _ _ _ _ h
def wp_X10_hour (this : Nat) (σ : Sg) (Post : Rs → Sg → Prop) : Prop := this % 32 = 10 ∧ this % 32 = 10 ∧ Post (.inl (some (.int (sI (wI σ this 59 (0 : Int32)) this 55)))) (wI σ this 59 (0 : Int32))
set_option maxRecDepth 100000 in
set_option maxHeartbeats 4000000 in
theorem ct_X10_hour {l : Launch} (hl : l.stackTraces = false) {this : Nat} {σ : Sg} {Post : Rs → Sg → Prop} (h : wp_X10_hour this σ Post) : Ct l yX10_hour (.code yX10_hour cX10_hour 1 (some .int)) 0 0 0 0 [.ref this] σ Post := by
  refine Ct_of [some (.ref this)] hl (by decide +kernel) rfl (fun ad => by rfl) (fun ad => by exact Nat.le_of_ble_eq_true rfl) (fun v hv => mem_lo hv rfl) ?_
  intro G hG
  unfold wp_X10_hour at h
  refine V_aload_n (v := .ref this) hG dX10_hour_0 rfl rfl ?_
  refine V_iconst (v := 0) hG (by decide) dX10_hour_1 ?_
  obtain ⟨ht, h⟩ := h
  refine V_putI hG dX10_hour_2 fl_X10_168 rfl (fun e => absurd e (by decide)) rfl ht ?_
  refine V_aload_n (v := .ref this) hG dX10_hour_5 rfl rfl ?_
  obtain ⟨ht, h⟩ := h
  refine V_getI hG dX10_hour_6 fl_X10_193 rfl ht ?_
  exact V_iret hG dX10_hour_9 (by first | exact Nat.le_of_ble_eq_true rfl | omega | (dsimp only; omega)) (by first | exact Nat.le_of_ble_eq_true rfl | omega | (dsimp only; omega)) h
def wp_X10_batches (this : Nat) (σ : Sg) (Post : Rs → Sg → Prop) : Prop := this % 32 = 10 ∧ this % 32 = 10 ∧ Post (.inl (some (.int (sI (wI σ this 59 (0 : Int32)) this 14)))) (wI σ this 59 (0 : Int32))
set_option maxRecDepth 100000 in
set_option maxHeartbeats 4000000 in
theorem ct_X10_batches {l : Launch} (hl : l.stackTraces = false) {this : Nat} {σ : Sg} {Post : Rs → Sg → Prop} (h : wp_X10_batches this σ Post) : Ct l yX10_batches (.code yX10_batches cX10_batches 1 (some .int)) 0 0 0 0 [.ref this] σ Post := by
  refine Ct_of [some (.ref this)] hl (by decide +kernel) rfl (fun ad => by rfl) (fun ad => by exact Nat.le_of_ble_eq_true rfl) (fun v hv => mem_lo hv rfl) ?_
  intro G hG
  unfold wp_X10_batches at h
  refine V_aload_n (v := .ref this) hG dX10_batches_0 rfl rfl ?_
  refine V_iconst (v := 0) hG (by decide) dX10_batches_1 ?_
  obtain ⟨ht, h⟩ := h
  refine V_putI hG dX10_batches_2 fl_X10_168 rfl (fun e => absurd e (by decide)) rfl ht ?_
  refine V_aload_n (v := .ref this) hG dX10_batches_5 rfl rfl ?_
  obtain ⟨ht, h⟩ := h
  refine V_getI hG dX10_batches_6 fl_X10_176 rfl ht ?_
  exact V_iret hG dX10_batches_9 (by first | exact Nat.le_of_ble_eq_true rfl | omega | (dsimp only; omega)) (by first | exact Nat.le_of_ble_eq_true rfl | omega | (dsimp only; omega)) h
def wp_X10_manyOf_4  : Nat → Int32 → Int64 → Sg → (Rs → Sg → Prop) → Prop
  | 0, _, _, _, _ => False
  | f + 1, v2, v3, σ, Post => (((lg_cmp v3 (0 : Int64)) = 0 → Post (.inl (some (.int v2))) σ) ∧ (¬ (lg_cmp v3 (0 : Int64)) = 0 → (wp_X10_manyOf_4 f (v2 + (Int64.toInt32 (v3 &&& (1 : Int64)))) (v3 >>> (Int32.toInt64 (1 : Int32) &&& 63)) σ Post)))
set_option maxRecDepth 100000 in
set_option maxHeartbeats 4000000 in
theorem wv_X10_manyOf_4 {L9 : Launch} {G : Cx} {Post : Rs → Sg → Prop} (hl : L9.stackTraces = false) (hG : CX L9 G yX10_manyOf cX10_manyOf 5 (some .int) [] { frames := 0, cells := 0, slots := 0, locals := 0 })   : ∀ (f : Nat) (v2 : Int32) (v3 : Int64) (σ : Sg), wp_X10_manyOf_4 f v2 v3 σ Post → V G (QM G 0 0 Post) 4 [none, none, some (.int v2), some (.long v3), none] [] σ 0 0 := by
  intro f
  induction f with
  | zero => intro _ _ σ h; exact h.elim
  | succ f ih =>
    intro v2 v3 σ h
    refine V_lload_n hG dX10_manyOf_4 rfl ?_
    refine V_lconst (v := 0) hG (by decide) dX10_manyOf_5 ?_
    refine V_lcmp hG dX10_manyOf_6 ?_
    refine V_if_eq (tgt := 24) hG dX10_manyOf_7 (by decide) (fun c => ?_) (fun c => ?_)
    · replace h := h.1 c
      refine V_iload_n hG dX10_manyOf_24 rfl ?_
      exact V_iret hG dX10_manyOf_25 (by first | exact Nat.le_of_ble_eq_true rfl | omega | (dsimp only; omega)) (by first | exact Nat.le_of_ble_eq_true rfl | omega | (dsimp only; omega)) h
    · replace h := h.2 c
      refine V_iload_n hG dX10_manyOf_10 rfl ?_
      refine V_lload_n hG dX10_manyOf_11 rfl ?_
      refine V_lconst (v := 1) hG (by decide) dX10_manyOf_12 ?_
      refine V_land hG dX10_manyOf_13 ?_
      refine V_l2i hG dX10_manyOf_14 ?_
      refine V_iadd hG dX10_manyOf_15 ?_
      refine V_istore_n hG dX10_manyOf_16 (Nat.le_of_ble_eq_true rfl) (hpN rfl) ?_
      refine V_lload_n hG dX10_manyOf_17 rfl ?_
      refine V_iconst (v := 1) hG (by decide) dX10_manyOf_18 ?_
      refine V_lshr hG dX10_manyOf_19 ?_
      refine V_lstore_n hG dX10_manyOf_20 (Nat.le_of_ble_eq_true rfl) (hpV rfl rfl) ?_
      refine V_goto (tgt := 4) hG dX10_manyOf_21 (by decide) ?_
      refine V_forget (lo' := [none, none, some (.int (v2 + (Int64.toInt32 (v3 &&& (1 : Int64))))), some (.long (v3 >>> (Int32.toInt64 (1 : Int32) &&& 63))), none]) ⟨rfl, ⟨rfl, trivial⟩⟩ ?_
      exact ih _ _ _ h
def wp_X10_manyOf (a0 : Int64) (σ : Sg) (Post : Rs → Sg → Prop) : Prop := (∃ g, wp_X10_manyOf_4 g (0 : Int32) a0 σ Post)
set_option maxRecDepth 100000 in
set_option maxHeartbeats 4000000 in
theorem ct_X10_manyOf {l : Launch} (hl : l.stackTraces = false) {a0 : Int64} {σ : Sg} {Post : Rs → Sg → Prop} (h : wp_X10_manyOf a0 σ Post) : Ct l yX10_manyOf (.code yX10_manyOf cX10_manyOf 5 (some .int)) 0 0 0 0 [.long a0] σ Post := by
  refine Ct_of [some (.long a0), none, none, none, none] hl (by decide +kernel) rfl (fun ad => by rfl) (fun ad => by exact Nat.le_of_ble_eq_true rfl) (fun v hv => mem_lo hv rfl) ?_
  intro G hG
  unfold wp_X10_manyOf at h
  refine V_iconst (v := 0) hG (by decide) dX10_manyOf_0 ?_
  refine V_istore_n hG dX10_manyOf_1 (Nat.le_of_ble_eq_true rfl) (hpN rfl) ?_
  refine V_lload_n hG dX10_manyOf_2 rfl ?_
  refine V_lstore_n hG dX10_manyOf_3 (Nat.le_of_ble_eq_true rfl) (hpV rfl rfl) ?_
  refine V_forget (lo' := [none, none, some (.int (0 : Int32)), some (.long a0), none]) ⟨rfl, ⟨rfl, trivial⟩⟩ ?_
  obtain ⟨g, h⟩ := h
  refine V_widen (k' := 0) (n' := 0) (by first | exact Nat.le_of_ble_eq_true rfl | omega | (dsimp only; omega)) (by first | exact Nat.le_of_ble_eq_true rfl | omega | (dsimp only; omega)) ?_
  exact wv_X10_manyOf_4 hl hG  g _ _ _ h
def wp_X10_batch_28  (this : Nat) (v1 : Int32) (v2 : Int32) (s0 : Nat) (s1 : Int32) (σ : Sg) (Post : Rs → Sg → Prop) : Prop := s0 % 32 = 10 ∧ this % 32 = 10 ∧ (((sI (wI σ s0 59 s1) this 59) ≤ 0 → (((5 : Int32) ≤ v2 → ((¬ v2 = (5 : Int32) → ((¬ v2 = (6 : Int32) → ((¬ v2 = (7 : Int32) → ((¬ v2 = (8 : Int32) → this % 32 = 10 ∧ ∀ o1, o1 = sP (wI σ s0 59 s1) this 25 → ∃ u2, o1 = some u2 ∧ aty (u2 % 32) = some .int ∧ ∃ j3, v1 = nI j3 ∧ j3 < aln u2 ∧ Post (.inl (some (.int (sI (wI σ s0 59 s1) u2 j3)))) (wI σ s0 59 s1)) ∧ (v2 = (8 : Int32) → this % 32 = 10 ∧ ∀ o4, o4 = sP (wI σ s0 59 s1) this 26 → ∃ u5, o4 = some u5 ∧ aty (u5 % 32) = some .long ∧ ∃ j6, v1 = nI j6 ∧ j6 < aln u5 ∧ wp_X10_manyOf (sL (wI σ s0 59 s1) u5 j6) (wI σ s0 59 s1) (KI (fun x8 σ7 => Post (.inl (some (.int x8))) σ7) (fun E σ7 => Post (.inr E) σ7))))) ∧ (v2 = (7 : Int32) → this % 32 = 10 ∧ ∀ o9, o9 = sP (wI σ s0 59 s1) this 22 → ∃ u10, o9 = some u10 ∧ aty (u10 % 32) = some .boolean ∧ ∃ j11, v1 = nI j11 ∧ j11 < aln u10 ∧ (((sI (wI σ s0 59 s1) u10 j11) = 0 → Post (.inl (some (.int (0 : Int32)))) (wI σ s0 59 s1)) ∧ (¬ (sI (wI σ s0 59 s1) u10 j11) = 0 → Post (.inl (some (.int (1 : Int32)))) (wI σ s0 59 s1)))))) ∧ (v2 = (6 : Int32) → this % 32 = 10 ∧ ∀ o12, o12 = sP (wI σ s0 59 s1) this 21 → ∃ u13, o12 = some u13 ∧ aty (u13 % 32) = some .boolean ∧ ∃ j14, v1 = nI j14 ∧ j14 < aln u13 ∧ (((sI (wI σ s0 59 s1) u13 j14) = 0 → Post (.inl (some (.int (0 : Int32)))) (wI σ s0 59 s1)) ∧ (¬ (sI (wI σ s0 59 s1) u13 j14) = 0 → Post (.inl (some (.int (1 : Int32)))) (wI σ s0 59 s1)))))) ∧ (v2 = (5 : Int32) → this % 32 = 10 ∧ ∀ o15, o15 = sP (wI σ s0 59 s1) this 20 → ∃ u16, o15 = some u16 ∧ aty (u16 % 32) = some .int ∧ ∃ j17, v1 = nI j17 ∧ j17 < aln u16 ∧ Post (.inl (some (.int (sI (wI σ s0 59 s1) u16 j17)))) (wI σ s0 59 s1)))) ∧ (¬ (5 : Int32) ≤ v2 → ((¬ v2 = 0 → ((¬ v2 = (1 : Int32) → ((¬ v2 = (2 : Int32) → ((¬ v2 = (3 : Int32) → this % 32 = 10 ∧ ∀ o18, o18 = sP (wI σ s0 59 s1) this 19 → ∃ u19, o18 = some u19 ∧ aty (u19 % 32) = some .int ∧ ∃ j20, v1 = nI j20 ∧ j20 < aln u19 ∧ Post (.inl (some (.int (sI (wI σ s0 59 s1) u19 j20)))) (wI σ s0 59 s1)) ∧ (v2 = (3 : Int32) → this % 32 = 10 ∧ ∀ o21, o21 = sP (wI σ s0 59 s1) this 18 → ∃ u22, o21 = some u22 ∧ aty (u22 % 32) = some .int ∧ ∃ j23, v1 = nI j23 ∧ j23 < aln u22 ∧ Post (.inl (some (.int (sI (wI σ s0 59 s1) u22 j23)))) (wI σ s0 59 s1)))) ∧ (v2 = (2 : Int32) → this % 32 = 10 ∧ ∀ o24, o24 = sP (wI σ s0 59 s1) this 17 → ∃ u25, o24 = some u25 ∧ aty (u25 % 32) = some .int ∧ ∃ j26, v1 = nI j26 ∧ j26 < aln u25 ∧ Post (.inl (some (.int (sI (wI σ s0 59 s1) u25 j26)))) (wI σ s0 59 s1)))) ∧ (v2 = (1 : Int32) → this % 32 = 10 ∧ ∀ o27, o27 = sP (wI σ s0 59 s1) this 16 → ∃ u28, o27 = some u28 ∧ aty (u28 % 32) = some .int ∧ ∃ j29, v1 = nI j29 ∧ j29 < aln u28 ∧ Post (.inl (some (.int (sI (wI σ s0 59 s1) u28 j29)))) (wI σ s0 59 s1)))) ∧ (v2 = 0 → this % 32 = 10 ∧ ∀ o30, o30 = sP (wI σ s0 59 s1) this 15 → ∃ u31, o30 = some u31 ∧ aty (u31 % 32) = some .int ∧ ∃ j32, v1 = nI j32 ∧ j32 < aln u31 ∧ Post (.inl (some (.int (sI (wI σ s0 59 s1) u31 j32)))) (wI σ s0 59 s1)))))) ∧ (¬ (sI (wI σ s0 59 s1) this 59) ≤ 0 → Post (.inl (some (.int (0 : Int32)))) (wI σ s0 59 s1)))
set_option maxRecDepth 100000 in
set_option maxHeartbeats 4000000 in
theorem wv_X10_batch_28 {L9 : Launch} {G : Cx} {Post : Rs → Sg → Prop} (hl : L9.stackTraces = false) (hG : CX L9 G yX10_batch cX10_batch 3 (some .int) [] { frames := 2, cells := 0, slots := 0, locals := 43 })   : ∀ (this : Nat) (v1 : Int32) (v2 : Int32) (s0 : Nat) (s1 : Int32) (σ : Sg), wp_X10_batch_28 this v1 v2 s0 s1 σ Post → V G (QM G 0 0 Post) 28 [some (.ref this), some (.int v1), some (.int v2)] [.int s1, .ref s0] σ 0 0 := by
  intro this v1 v2 s0 s1 σ h
  unfold wp_X10_batch_28 at h
  obtain ⟨ht, h⟩ := h
  refine V_putI hG dX10_batch_28 fl_X10_168 rfl (fun e => absurd e (by decide)) rfl ht ?_
  refine V_aload_n (v := .ref this) hG dX10_batch_31 rfl rfl ?_
  obtain ⟨ht, h⟩ := h
  refine V_getI hG dX10_batch_32 fl_X10_168 rfl ht ?_
  refine V_if_le (tgt := 40) hG dX10_batch_35 (by decide) (fun c => ?_) (fun c => ?_)
  · replace h := h.1 c
    refine V_iload_n hG dX10_batch_40 rfl ?_
    refine V_iconst (v := 5) hG (by decide) dX10_batch_41 ?_
    refine V_icmp_ge (tgt := 107) hG dX10_batch_42 (by decide) (fun c => ?_) (fun c => ?_)
    · replace h := h.1 c
      refine V_iload_n hG dX10_batch_107 rfl ?_
      refine V_iconst (v := 5) hG (by decide) dX10_batch_108 ?_
      refine V_icmp_ne (tgt := 121) hG dX10_batch_109 (by decide) (fun c => ?_) (fun c => ?_)
      · replace h := h.1 c
        refine V_iload_n hG dX10_batch_121 rfl ?_
        refine V_bipush (v := 6) hG (by decide) dX10_batch_122 ?_
        refine V_icmp_ne (tgt := 144) hG dX10_batch_124 (by decide) (fun c => ?_) (fun c => ?_)
        · replace h := h.1 c
          refine V_iload_n hG dX10_batch_144 rfl ?_
          refine V_bipush (v := 7) hG (by decide) dX10_batch_145 ?_
          refine V_icmp_ne (tgt := 167) hG dX10_batch_147 (by decide) (fun c => ?_) (fun c => ?_)
          · replace h := h.1 c
            refine V_iload_n hG dX10_batch_167 rfl ?_
            refine V_bipush (v := 8) hG (by decide) dX10_batch_168 ?_
            refine V_icmp_ne (tgt := 185) hG dX10_batch_170 (by decide) (fun c => ?_) (fun c => ?_)
            · replace h := h.1 c
              refine V_aload_n (v := .ref this) hG dX10_batch_185 rfl rfl ?_
              obtain ⟨ht, h⟩ := h
              refine V_getPv hG dX10_batch_186 fl_X10_83 rfl ht (fun o1 ho => ?_)
              replace h := h o1 ho
              refine V_iload_n hG dX10_batch_189 rfl ?_
              obtain ⟨u2, he, h⟩ := h
              subst he
              obtain ⟨ha, j3, hi, hj, h⟩ := h
              refine V_iald hG dX10_batch_190 ha hi hj ?_
              exact V_iret hG dX10_batch_191 (by first | exact Nat.le_of_ble_eq_true rfl | omega | (dsimp only; omega)) (by first | exact Nat.le_of_ble_eq_true rfl | omega | (dsimp only; omega)) h
            · replace h := h.2 c
              refine V_aload_n (v := .ref this) hG dX10_batch_173 rfl rfl ?_
              obtain ⟨ht, h⟩ := h
              refine V_getPv hG dX10_batch_174 fl_X10_86 rfl ht (fun o4 ho => ?_)
              replace h := h o4 ho
              refine V_iload_n hG dX10_batch_177 rfl ?_
              obtain ⟨u5, he, h⟩ := h
              subst he
              obtain ⟨ha, j6, hi, hj, h⟩ := h
              refine V_lald hG dX10_batch_178 ha hi hj ?_
              refine V_cSI _ _ hG dX10_batch_179 (ct_X10_manyOf hl h) mv_X10_manyOf ml_X10_314 rfl rfl (by first | exact Nat.le_of_ble_eq_true rfl | (simp only [List.map_cons, List.map_nil, List.sum_cons, List.sum_nil, cat_rf]; exact Nat.le_of_ble_eq_true rfl)) (Nat.le_of_ble_eq_true rfl) (Nat.le_of_ble_eq_true rfl) (by first | exact Nat.le_of_ble_eq_true rfl | omega | (dsimp only; omega)) (by first | exact Nat.le_of_ble_eq_true rfl | omega | (dsimp only; omega)) ?_ (fun x8 σ7 h9 => ?_)
              · exact fun E σ7 hx => VX_out hG (by first | exact Nat.le_of_ble_eq_true rfl | omega | (dsimp only; omega)) (by first | exact Nat.le_of_ble_eq_true rfl | omega | (dsimp only; omega)) hx
              · replace h := h9
                clear h9
                refine V_goto (tgt := 191) hG dX10_batch_182 (by decide) ?_
                exact V_iret hG dX10_batch_191 (by first | exact Nat.le_of_ble_eq_true rfl | omega | (dsimp only; omega)) (by first | exact Nat.le_of_ble_eq_true rfl | omega | (dsimp only; omega)) h
          · replace h := h.2 c
            refine V_aload_n (v := .ref this) hG dX10_batch_150 rfl rfl ?_
            obtain ⟨ht, h⟩ := h
            refine V_getPv hG dX10_batch_151 fl_X10_74 rfl ht (fun o9 ho => ?_)
            replace h := h o9 ho
            refine V_iload_n hG dX10_batch_154 rfl ?_
            obtain ⟨u10, he, h⟩ := h
            subst he
            obtain ⟨ha, j11, hi, hj, h⟩ := h
            refine V_zald hG dX10_batch_155 ha hi hj ?_
            refine V_if_eq (tgt := 163) hG dX10_batch_156 (by decide) (fun c => ?_) (fun c => ?_)
            · replace h := h.1 c
              refine V_iconst (v := 0) hG (by decide) dX10_batch_163 ?_
              refine V_goto (tgt := 191) hG dX10_batch_164 (by decide) ?_
              exact V_iret hG dX10_batch_191 (by first | exact Nat.le_of_ble_eq_true rfl | omega | (dsimp only; omega)) (by first | exact Nat.le_of_ble_eq_true rfl | omega | (dsimp only; omega)) h
            · replace h := h.2 c
              refine V_iconst (v := 1) hG (by decide) dX10_batch_159 ?_
              refine V_goto (tgt := 191) hG dX10_batch_160 (by decide) ?_
              exact V_iret hG dX10_batch_191 (by first | exact Nat.le_of_ble_eq_true rfl | omega | (dsimp only; omega)) (by first | exact Nat.le_of_ble_eq_true rfl | omega | (dsimp only; omega)) h
        · replace h := h.2 c
          refine V_aload_n (v := .ref this) hG dX10_batch_127 rfl rfl ?_
          obtain ⟨ht, h⟩ := h
          refine V_getPv hG dX10_batch_128 fl_X10_71 rfl ht (fun o12 ho => ?_)
          replace h := h o12 ho
          refine V_iload_n hG dX10_batch_131 rfl ?_
          obtain ⟨u13, he, h⟩ := h
          subst he
          obtain ⟨ha, j14, hi, hj, h⟩ := h
          refine V_zald hG dX10_batch_132 ha hi hj ?_
          refine V_if_eq (tgt := 140) hG dX10_batch_133 (by decide) (fun c => ?_) (fun c => ?_)
          · replace h := h.1 c
            refine V_iconst (v := 0) hG (by decide) dX10_batch_140 ?_
            refine V_goto (tgt := 191) hG dX10_batch_141 (by decide) ?_
            exact V_iret hG dX10_batch_191 (by first | exact Nat.le_of_ble_eq_true rfl | omega | (dsimp only; omega)) (by first | exact Nat.le_of_ble_eq_true rfl | omega | (dsimp only; omega)) h
          · replace h := h.2 c
            refine V_iconst (v := 1) hG (by decide) dX10_batch_136 ?_
            refine V_goto (tgt := 191) hG dX10_batch_137 (by decide) ?_
            exact V_iret hG dX10_batch_191 (by first | exact Nat.le_of_ble_eq_true rfl | omega | (dsimp only; omega)) (by first | exact Nat.le_of_ble_eq_true rfl | omega | (dsimp only; omega)) h
      · replace h := h.2 c
        refine V_aload_n (v := .ref this) hG dX10_batch_112 rfl rfl ?_
        obtain ⟨ht, h⟩ := h
        refine V_getPv hG dX10_batch_113 fl_X10_68 rfl ht (fun o15 ho => ?_)
        replace h := h o15 ho
        refine V_iload_n hG dX10_batch_116 rfl ?_
        obtain ⟨u16, he, h⟩ := h
        subst he
        obtain ⟨ha, j17, hi, hj, h⟩ := h
        refine V_iald hG dX10_batch_117 ha hi hj ?_
        refine V_goto (tgt := 191) hG dX10_batch_118 (by decide) ?_
        exact V_iret hG dX10_batch_191 (by first | exact Nat.le_of_ble_eq_true rfl | omega | (dsimp only; omega)) (by first | exact Nat.le_of_ble_eq_true rfl | omega | (dsimp only; omega)) h
    · replace h := h.2 c
      refine V_iload_n hG dX10_batch_45 rfl ?_
      refine V_if_ne (tgt := 58) hG dX10_batch_46 (by decide) (fun c => ?_) (fun c => ?_)
      · replace h := h.1 c
        refine V_iload_n hG dX10_batch_58 rfl ?_
        refine V_iconst (v := 1) hG (by decide) dX10_batch_59 ?_
        refine V_icmp_ne (tgt := 72) hG dX10_batch_60 (by decide) (fun c => ?_) (fun c => ?_)
        · replace h := h.1 c
          refine V_iload_n hG dX10_batch_72 rfl ?_
          refine V_iconst (v := 2) hG (by decide) dX10_batch_73 ?_
          refine V_icmp_ne (tgt := 86) hG dX10_batch_74 (by decide) (fun c => ?_) (fun c => ?_)
          · replace h := h.1 c
            refine V_iload_n hG dX10_batch_86 rfl ?_
            refine V_iconst (v := 3) hG (by decide) dX10_batch_87 ?_
            refine V_icmp_ne (tgt := 100) hG dX10_batch_88 (by decide) (fun c => ?_) (fun c => ?_)
            · replace h := h.1 c
              refine V_aload_n (v := .ref this) hG dX10_batch_100 rfl rfl ?_
              obtain ⟨ht, h⟩ := h
              refine V_getPv hG dX10_batch_101 fl_X10_65 rfl ht (fun o18 ho => ?_)
              replace h := h o18 ho
              refine V_iload_n hG dX10_batch_104 rfl ?_
              obtain ⟨u19, he, h⟩ := h
              subst he
              obtain ⟨ha, j20, hi, hj, h⟩ := h
              refine V_iald hG dX10_batch_105 ha hi hj ?_
              exact V_iret hG dX10_batch_106 (by first | exact Nat.le_of_ble_eq_true rfl | omega | (dsimp only; omega)) (by first | exact Nat.le_of_ble_eq_true rfl | omega | (dsimp only; omega)) h
            · replace h := h.2 c
              refine V_aload_n (v := .ref this) hG dX10_batch_91 rfl rfl ?_
              obtain ⟨ht, h⟩ := h
              refine V_getPv hG dX10_batch_92 fl_X10_62 rfl ht (fun o21 ho => ?_)
              replace h := h o21 ho
              refine V_iload_n hG dX10_batch_95 rfl ?_
              obtain ⟨u22, he, h⟩ := h
              subst he
              obtain ⟨ha, j23, hi, hj, h⟩ := h
              refine V_iald hG dX10_batch_96 ha hi hj ?_
              refine V_goto (tgt := 106) hG dX10_batch_97 (by decide) ?_
              exact V_iret hG dX10_batch_106 (by first | exact Nat.le_of_ble_eq_true rfl | omega | (dsimp only; omega)) (by first | exact Nat.le_of_ble_eq_true rfl | omega | (dsimp only; omega)) h
          · replace h := h.2 c
            refine V_aload_n (v := .ref this) hG dX10_batch_77 rfl rfl ?_
            obtain ⟨ht, h⟩ := h
            refine V_getPv hG dX10_batch_78 fl_X10_59 rfl ht (fun o24 ho => ?_)
            replace h := h o24 ho
            refine V_iload_n hG dX10_batch_81 rfl ?_
            obtain ⟨u25, he, h⟩ := h
            subst he
            obtain ⟨ha, j26, hi, hj, h⟩ := h
            refine V_iald hG dX10_batch_82 ha hi hj ?_
            refine V_goto (tgt := 106) hG dX10_batch_83 (by decide) ?_
            exact V_iret hG dX10_batch_106 (by first | exact Nat.le_of_ble_eq_true rfl | omega | (dsimp only; omega)) (by first | exact Nat.le_of_ble_eq_true rfl | omega | (dsimp only; omega)) h
        · replace h := h.2 c
          refine V_aload_n (v := .ref this) hG dX10_batch_63 rfl rfl ?_
          obtain ⟨ht, h⟩ := h
          refine V_getPv hG dX10_batch_64 fl_X10_56 rfl ht (fun o27 ho => ?_)
          replace h := h o27 ho
          refine V_iload_n hG dX10_batch_67 rfl ?_
          obtain ⟨u28, he, h⟩ := h
          subst he
          obtain ⟨ha, j29, hi, hj, h⟩ := h
          refine V_iald hG dX10_batch_68 ha hi hj ?_
          refine V_goto (tgt := 106) hG dX10_batch_69 (by decide) ?_
          exact V_iret hG dX10_batch_106 (by first | exact Nat.le_of_ble_eq_true rfl | omega | (dsimp only; omega)) (by first | exact Nat.le_of_ble_eq_true rfl | omega | (dsimp only; omega)) h
      · replace h := h.2 c
        refine V_aload_n (v := .ref this) hG dX10_batch_49 rfl rfl ?_
        obtain ⟨ht, h⟩ := h
        refine V_getPv hG dX10_batch_50 fl_X10_53 rfl ht (fun o30 ho => ?_)
        replace h := h o30 ho
        refine V_iload_n hG dX10_batch_53 rfl ?_
        obtain ⟨u31, he, h⟩ := h
        subst he
        obtain ⟨ha, j32, hi, hj, h⟩ := h
        refine V_iald hG dX10_batch_54 ha hi hj ?_
        refine V_goto (tgt := 106) hG dX10_batch_55 (by decide) ?_
        exact V_iret hG dX10_batch_106 (by first | exact Nat.le_of_ble_eq_true rfl | omega | (dsimp only; omega)) (by first | exact Nat.le_of_ble_eq_true rfl | omega | (dsimp only; omega)) h
  · replace h := h.2 c
    refine V_iconst (v := 0) hG (by decide) dX10_batch_38 ?_
    exact V_iret hG dX10_batch_39 (by first | exact Nat.le_of_ble_eq_true rfl | omega | (dsimp only; omega)) (by first | exact Nat.le_of_ble_eq_true rfl | omega | (dsimp only; omega)) h
def wp_X10_batch (this : Nat) (a0 : Int32) (a1 : Int32) (σ : Sg) (Post : Rs → Sg → Prop) : Prop := this % 32 = 10 ∧ wp_X10_isBatch this a0 σ (KI (fun x2 σ1 => ((¬ x2 = 0 → wp_X10_in a1 (0 : Int32) (9 : Int32) σ1 (KI (fun x4 σ3 => ((¬ x4 = 0 → (wp_X10_batch_28 this a0 a1 this (0 : Int32) σ3 Post)) ∧ (x4 = 0 → (wp_X10_batch_28 this a0 a1 this (2 : Int32) σ3 Post)))) (fun E σ3 => Post (.inr E) σ3))) ∧ (x2 = 0 → (wp_X10_batch_28 this a0 a1 this (1 : Int32) σ1 Post)))) (fun E σ1 => Post (.inr E) σ1))
set_option maxRecDepth 100000 in
set_option maxHeartbeats 4000000 in
theorem ct_X10_batch {l : Launch} (hl : l.stackTraces = false) {this : Nat} {a0 : Int32} {a1 : Int32} {σ : Sg} {Post : Rs → Sg → Prop} (h : wp_X10_batch this a0 a1 σ Post) : Ct l yX10_batch (.code yX10_batch cX10_batch 3 (some .int)) 2 43 0 0 [.ref this, .int a0, .int a1] σ Post := by
  refine Ct_of [some (.ref this), some (.int a0), some (.int a1)] hl (by decide +kernel) rfl (fun ad => by rfl) (fun ad => by exact Nat.le_of_ble_eq_true rfl) (fun v hv => mem_lo hv rfl) ?_
  intro G hG
  unfold wp_X10_batch at h
  refine V_aload_n (v := .ref this) hG dX10_batch_0 rfl rfl ?_
  refine V_aload_n (v := .ref this) hG dX10_batch_1 rfl rfl ?_
  refine V_iload_n hG dX10_batch_2 rfl ?_
  obtain ⟨ht, h⟩ := h
  refine V_cVI _ _ hG dX10_batch_3 (ct_X10_isBatch hl h) mv_X10_isBatch ml_X10_219 ht rfl rfl rfl rfl (by first | exact Nat.le_of_ble_eq_true rfl | (simp only [List.map_cons, List.map_nil, List.sum_cons, List.sum_nil, cat_rf]; exact Nat.le_of_ble_eq_true rfl)) (Nat.le_of_ble_eq_true rfl) (Nat.le_of_ble_eq_true rfl) (by first | exact Nat.le_of_ble_eq_true rfl | omega | (dsimp only; omega)) (by first | exact Nat.le_of_ble_eq_true rfl | omega | (dsimp only; omega)) ?_ (fun x2 σ1 h9 => ?_)
  · exact fun E σ1 hx => VX_out hG (by first | exact Nat.le_of_ble_eq_true rfl | omega | (dsimp only; omega)) (by first | exact Nat.le_of_ble_eq_true rfl | omega | (dsimp only; omega)) hx
  · replace h := h9
    clear h9
    refine V_if_ne (tgt := 13) hG dX10_batch_6 (by decide) (fun c => ?_) (fun c => ?_)
    · replace h := h.1 c
      refine V_iload_n hG dX10_batch_13 rfl ?_
      refine V_iconst (v := 0) hG (by decide) dX10_batch_14 ?_
      refine V_bipush (v := 9) hG (by decide) dX10_batch_15 ?_
      refine V_cSI _ _ hG dX10_batch_17 (ct_X10_in hl h) mv_X10_in ml_X10_172 rfl rfl (by first | exact Nat.le_of_ble_eq_true rfl | (simp only [List.map_cons, List.map_nil, List.sum_cons, List.sum_nil, cat_rf]; exact Nat.le_of_ble_eq_true rfl)) (Nat.le_of_ble_eq_true rfl) (Nat.le_of_ble_eq_true rfl) (by first | exact Nat.le_of_ble_eq_true rfl | omega | (dsimp only; omega)) (by first | exact Nat.le_of_ble_eq_true rfl | omega | (dsimp only; omega)) ?_ (fun x4 σ3 h9 => ?_)
      · exact fun E σ3 hx => VX_out hG (by first | exact Nat.le_of_ble_eq_true rfl | omega | (dsimp only; omega)) (by first | exact Nat.le_of_ble_eq_true rfl | omega | (dsimp only; omega)) hx
      · replace h := h9
        clear h9
        refine V_if_ne (tgt := 27) hG dX10_batch_20 (by decide) (fun c => ?_) (fun c => ?_)
        · replace h := h.1 c
          refine V_iconst (v := 0) hG (by decide) dX10_batch_27 ?_
          refine V_forget (lo' := [some (.ref this), some (.int a0), some (.int a1)]) ⟨rfl, ⟨rfl, ⟨rfl, trivial⟩⟩⟩ ?_
          refine V_widen (k' := 0) (n' := 0) (by first | exact Nat.le_of_ble_eq_true rfl | omega | (dsimp only; omega)) (by first | exact Nat.le_of_ble_eq_true rfl | omega | (dsimp only; omega)) ?_
          exact wv_X10_batch_28 hl hG  _ _ _ _ _ _ h
        · replace h := h.2 c
          refine V_iconst (v := 2) hG (by decide) dX10_batch_23 ?_
          refine V_goto (tgt := 28) hG dX10_batch_24 (by decide) ?_
          refine V_forget (lo' := [some (.ref this), some (.int a0), some (.int a1)]) ⟨rfl, ⟨rfl, ⟨rfl, trivial⟩⟩⟩ ?_
          refine V_widen (k' := 0) (n' := 0) (by first | exact Nat.le_of_ble_eq_true rfl | omega | (dsimp only; omega)) (by first | exact Nat.le_of_ble_eq_true rfl | omega | (dsimp only; omega)) ?_
          exact wv_X10_batch_28 hl hG  _ _ _ _ _ _ h
    · replace h := h.2 c
      refine V_iconst (v := 1) hG (by decide) dX10_batch_9 ?_
      refine V_goto (tgt := 28) hG dX10_batch_10 (by decide) ?_
      refine V_forget (lo' := [some (.ref this), some (.int a0), some (.int a1)]) ⟨rfl, ⟨rfl, ⟨rfl, trivial⟩⟩⟩ ?_
      refine V_widen (k' := 0) (n' := 0) (by first | exact Nat.le_of_ble_eq_true rfl | omega | (dsimp only; omega)) (by first | exact Nat.le_of_ble_eq_true rfl | omega | (dsimp only; omega)) ?_
      exact wv_X10_batch_28 hl hG  _ _ _ _ _ _ h
def wp_X10_ofSet_37 (K6 : Nat → Int64 → Int32 → Int32 → Sg → Prop) (this : Nat) (v1 : Int64) (v4 : Int32) (v5 : Int32) (σ : Sg) (Post : Rs → Sg → Prop) : Prop := (K6 this v1 v4 (v5 + 1) σ)
set_option maxRecDepth 100000 in
set_option maxHeartbeats 4000000 in
theorem wv_X10_ofSet_37 {L9 : Launch} {G : Cx} {Post : Rs → Sg → Prop} (hl : L9.stackTraces = false) (hG : CX L9 G yX10_ofSet cX10_ofSet 6 (some .int) [] { frames := 0, cells := 0, slots := 0, locals := 0 }) {K6 : Nat → Int64 → Int32 → Int32 → Sg → Prop} (hK6 : ∀ (this : Nat) (v1 : Int64) (v4 : Int32) (v5 : Int32) (ζ : Sg), K6 this v1 v4 v5 ζ → V G (QM G 0 0 Post) 6 [some (.ref this), some (.long v1), none, none, some (.int v4), some (.int v5)] [] ζ 0 0) : ∀ (this : Nat) (v1 : Int64) (v4 : Int32) (v5 : Int32) (σ : Sg), wp_X10_ofSet_37 K6 this v1 v4 v5 σ Post → V G (QM G 0 0 Post) 37 [some (.ref this), some (.long v1), none, none, some (.int v4), some (.int v5)] [] σ 0 0 := by
  intro this v1 v4 v5 σ h
  unfold wp_X10_ofSet_37 at h
  refine V_iincv (c := 1) hG dX10_ofSet_37 rfl (by decide) (hpV rfl rfl) ?_
  refine V_goto (tgt := 6) hG dX10_ofSet_40 (by decide) ?_
  refine V_forget (lo' := [some (.ref this), some (.long v1), none, none, some (.int v4), some (.int (v5 + 1))]) ⟨rfl, ⟨rfl, ⟨rfl, ⟨rfl, trivial⟩⟩⟩⟩ ?_
  exact hK6 _ _ _ _ _ h
def wp_X10_ofSet_6  : Nat → Nat → Int64 → Int32 → Int32 → Sg → (Rs → Sg → Prop) → Prop
  | 0, _, _, _, _, _, _ => False
  | f + 1, this, v1, v4, v5, σ, Post => this % 32 = 10 ∧ (((sI σ this 14) ≤ v5 → Post (.inl (some (.int (-1 : Int32)))) σ) ∧ (¬ (sI σ this 14) ≤ v5 → ((¬ (lg_cmp ((v1 >>> (Int32.toInt64 v5 &&& 63)) &&& (1 : Int64)) (1 : Int64)) = 0 → (wp_X10_ofSet_37 (fun z0 z1 z2 z3 ζ => wp_X10_ofSet_6 f z0 z1 z2 z3 ζ Post) this v1 v4 v5 σ Post)) ∧ ((lg_cmp ((v1 >>> (Int32.toInt64 v5 &&& 63)) &&& (1 : Int64)) (1 : Int64)) = 0 → ((¬ v4 = 0 → (wp_X10_ofSet_37 (fun z0 z1 z2 z3 ζ => wp_X10_ofSet_6 f z0 z1 z2 z3 ζ Post) this v1 (v4 + (-1)) v5 σ Post)) ∧ (v4 = 0 → Post (.inl (some (.int v5))) σ))))))
set_option maxRecDepth 100000 in
set_option maxHeartbeats 4000000 in
theorem wv_X10_ofSet_6 {L9 : Launch} {G : Cx} {Post : Rs → Sg → Prop} (hl : L9.stackTraces = false) (hG : CX L9 G yX10_ofSet cX10_ofSet 6 (some .int) [] { frames := 0, cells := 0, slots := 0, locals := 0 })   : ∀ (f : Nat) (this : Nat) (v1 : Int64) (v4 : Int32) (v5 : Int32) (σ : Sg), wp_X10_ofSet_6 f this v1 v4 v5 σ Post → V G (QM G 0 0 Post) 6 [some (.ref this), some (.long v1), none, none, some (.int v4), some (.int v5)] [] σ 0 0 := by
  intro f
  induction f with
  | zero => intro _ _ _ _ σ h; exact h.elim
  | succ f ih =>
    intro this v1 v4 v5 σ h
    refine V_iload hG dX10_ofSet_6 rfl ?_
    refine V_aload_n (v := .ref this) hG dX10_ofSet_8 rfl rfl ?_
    obtain ⟨ht, h⟩ := h
    refine V_getI hG dX10_ofSet_9 fl_X10_176 rfl ht ?_
    refine V_icmp_ge (tgt := 43) hG dX10_ofSet_12 (by decide) (fun c => ?_) (fun c => ?_)
    · replace h := h.1 c
      refine V_iconst (v := (-1)) hG (by decide) dX10_ofSet_43 ?_
      exact V_iret hG dX10_ofSet_44 (by first | exact Nat.le_of_ble_eq_true rfl | omega | (dsimp only; omega)) (by first | exact Nat.le_of_ble_eq_true rfl | omega | (dsimp only; omega)) h
    · replace h := h.2 c
      refine V_lload_n hG dX10_ofSet_15 rfl ?_
      refine V_iload hG dX10_ofSet_16 rfl ?_
      refine V_lshr hG dX10_ofSet_18 ?_
      refine V_lconst (v := 1) hG (by decide) dX10_ofSet_19 ?_
      refine V_land hG dX10_ofSet_20 ?_
      refine V_lconst (v := 1) hG (by decide) dX10_ofSet_21 ?_
      refine V_lcmp hG dX10_ofSet_22 ?_
      refine V_if_ne (tgt := 37) hG dX10_ofSet_23 (by decide) (fun c => ?_) (fun c => ?_)
      · replace h := h.1 c
        refine V_forget (lo' := [some (.ref this), some (.long v1), none, none, some (.int v4), some (.int v5)]) ⟨rfl, ⟨rfl, ⟨rfl, ⟨rfl, trivial⟩⟩⟩⟩ ?_
        refine V_widen (k' := 0) (n' := 0) (by first | exact Nat.le_of_ble_eq_true rfl | omega | (dsimp only; omega)) (by first | exact Nat.le_of_ble_eq_true rfl | omega | (dsimp only; omega)) ?_
        exact wv_X10_ofSet_37 hl hG (fun z0 z1 z2 z3 ζ hz => ih z0 z1 z2 z3 ζ hz) _ _ _ _ _ h
      · replace h := h.2 c
        refine V_iload hG dX10_ofSet_26 rfl ?_
        refine V_if_ne (tgt := 34) hG dX10_ofSet_28 (by decide) (fun c => ?_) (fun c => ?_)
        · replace h := h.1 c
          refine V_iincv (c := (-1)) hG dX10_ofSet_34 rfl (by decide) (hpN rfl) ?_
          refine V_forget (lo' := [some (.ref this), some (.long v1), none, none, some (.int (v4 + (-1))), some (.int v5)]) ⟨rfl, ⟨rfl, ⟨rfl, ⟨rfl, trivial⟩⟩⟩⟩ ?_
          refine V_widen (k' := 0) (n' := 0) (by first | exact Nat.le_of_ble_eq_true rfl | omega | (dsimp only; omega)) (by first | exact Nat.le_of_ble_eq_true rfl | omega | (dsimp only; omega)) ?_
          exact wv_X10_ofSet_37 hl hG (fun z0 z1 z2 z3 ζ hz => ih z0 z1 z2 z3 ζ hz) _ _ _ _ _ h
        · replace h := h.2 c
          refine V_iload hG dX10_ofSet_31 rfl ?_
          exact V_iret hG dX10_ofSet_33 (by first | exact Nat.le_of_ble_eq_true rfl | omega | (dsimp only; omega)) (by first | exact Nat.le_of_ble_eq_true rfl | omega | (dsimp only; omega)) h
def wp_X10_ofSet (this : Nat) (a0 : Int64) (a1 : Int32) (σ : Sg) (Post : Rs → Sg → Prop) : Prop := (∃ g, wp_X10_ofSet_6 g this a0 a1 (0 : Int32) σ Post)
set_option maxRecDepth 100000 in
set_option maxHeartbeats 4000000 in
theorem ct_X10_ofSet {l : Launch} (hl : l.stackTraces = false) {this : Nat} {a0 : Int64} {a1 : Int32} {σ : Sg} {Post : Rs → Sg → Prop} (h : wp_X10_ofSet this a0 a1 σ Post) : Ct l yX10_ofSet (.code yX10_ofSet cX10_ofSet 6 (some .int)) 0 0 0 0 [.ref this, .long a0, .int a1] σ Post := by
  refine Ct_of [some (.ref this), some (.long a0), none, some (.int a1), none, none] hl (by decide +kernel) rfl (fun ad => by rfl) (fun ad => by exact Nat.le_of_ble_eq_true rfl) (fun v hv => mem_lo hv rfl) ?_
  intro G hG
  unfold wp_X10_ofSet at h
  refine V_iload_n hG dX10_ofSet_0 rfl ?_
  refine V_istore hG dX10_ofSet_1 (Nat.le_of_ble_eq_true rfl) (hpV rfl rfl) ?_
  refine V_iconst (v := 0) hG (by decide) dX10_ofSet_3 ?_
  refine V_istore hG dX10_ofSet_4 (Nat.le_of_ble_eq_true rfl) (hpV rfl rfl) ?_
  refine V_forget (lo' := [some (.ref this), some (.long a0), none, none, some (.int a1), some (.int (0 : Int32))]) ⟨rfl, ⟨rfl, ⟨rfl, ⟨rfl, trivial⟩⟩⟩⟩ ?_
  obtain ⟨g, h⟩ := h
  refine V_widen (k' := 0) (n' := 0) (by first | exact Nat.le_of_ble_eq_true rfl | omega | (dsimp only; omega)) (by first | exact Nat.le_of_ble_eq_true rfl | omega | (dsimp only; omega)) ?_
  exact wv_X10_ofSet_6 hl hG  g _ _ _ _ _ h
def wp_X10_asksAt_18  (this : Nat) (s0 : Nat) (s1 : Int32) (σ : Sg) (Post : Rs → Sg → Prop) : Prop := s0 % 32 = 10 ∧ this % 32 = 10 ∧ ((¬ (sI (wI σ s0 59 s1) this 59) = 0 → (b01 (0 : Int32) ∧ Post (.inl (some (.int (0 : Int32)))) (wI σ s0 59 s1))) ∧ ((sI (wI σ s0 59 s1) this 59) = 0 → (b01 (1 : Int32) ∧ Post (.inl (some (.int (1 : Int32)))) (wI σ s0 59 s1))))
set_option maxRecDepth 100000 in
set_option maxHeartbeats 4000000 in
theorem wv_X10_asksAt_18 {L9 : Launch} {G : Cx} {Post : Rs → Sg → Prop} (hl : L9.stackTraces = false) (hG : CX L9 G yX10_asksAt cX10_asksAt 3 (some .boolean) [] { frames := 0, cells := 0, slots := 0, locals := 0 })   : ∀ (this : Nat) (s0 : Nat) (s1 : Int32) (σ : Sg), wp_X10_asksAt_18 this s0 s1 σ Post → V G (QM G 0 0 Post) 18 [some (.ref this), none, none] [.int s1, .ref s0] σ 0 0 := by
  intro this s0 s1 σ h
  unfold wp_X10_asksAt_18 at h
  obtain ⟨ht, h⟩ := h
  refine V_putI hG dX10_asksAt_18 fl_X10_168 rfl (fun e => absurd e (by decide)) rfl ht ?_
  refine V_aload_n (v := .ref this) hG dX10_asksAt_21 rfl rfl ?_
  obtain ⟨ht, h⟩ := h
  refine V_getI hG dX10_asksAt_22 fl_X10_168 rfl ht ?_
  refine V_if_ne (tgt := 32) hG dX10_asksAt_25 (by decide) (fun c => ?_) (fun c => ?_)
  · replace h := h.1 c
    refine V_iconst (v := 0) hG (by decide) dX10_asksAt_32 ?_
    exact V_zret hG dX10_asksAt_33 h.1 (by first | exact Nat.le_of_ble_eq_true rfl | omega | (dsimp only; omega)) (by first | exact Nat.le_of_ble_eq_true rfl | omega | (dsimp only; omega)) h.2
  · replace h := h.2 c
    refine V_iconst (v := 1) hG (by decide) dX10_asksAt_28 ?_
    refine V_goto (tgt := 33) hG dX10_asksAt_29 (by decide) ?_
    exact V_zret hG dX10_asksAt_33 h.1 (by first | exact Nat.le_of_ble_eq_true rfl | omega | (dsimp only; omega)) (by first | exact Nat.le_of_ble_eq_true rfl | omega | (dsimp only; omega)) h.2
def wp_X10_asksAt (this : Nat) (a0 : Int32) (a1 : Int32) (σ : Sg) (Post : Rs → Sg → Prop) : Prop := ((¬ a0 = 0 → ((0 ≤ a1 → (wp_X10_asksAt_18 this this (0 : Int32) σ Post)) ∧ (¬ 0 ≤ a1 → (wp_X10_asksAt_18 this this (2 : Int32) σ Post)))) ∧ (a0 = 0 → (wp_X10_asksAt_18 this this (1 : Int32) σ Post)))
set_option maxRecDepth 100000 in
set_option maxHeartbeats 4000000 in
theorem ct_X10_asksAt {l : Launch} (hl : l.stackTraces = false) {this : Nat} {a0 : Int32} {a1 : Int32} {σ : Sg} {Post : Rs → Sg → Prop} (h : wp_X10_asksAt this a0 a1 σ Post) : Ct l yX10_asksAt (.code yX10_asksAt cX10_asksAt 3 (some .boolean)) 0 0 0 0 [.ref this, .int a0, .int a1] σ Post := by
  refine Ct_of [some (.ref this), some (.int a0), some (.int a1)] hl (by decide +kernel) rfl (fun ad => by rfl) (fun ad => by exact Nat.le_of_ble_eq_true rfl) (fun v hv => mem_lo hv rfl) ?_
  intro G hG
  unfold wp_X10_asksAt at h
  refine V_aload_n (v := .ref this) hG dX10_asksAt_0 rfl rfl ?_
  refine V_iload_n hG dX10_asksAt_1 rfl ?_
  refine V_if_ne (tgt := 9) hG dX10_asksAt_2 (by decide) (fun c => ?_) (fun c => ?_)
  · replace h := h.1 c
    refine V_iload_n hG dX10_asksAt_9 rfl ?_
    refine V_if_ge (tgt := 17) hG dX10_asksAt_10 (by decide) (fun c => ?_) (fun c => ?_)
    · replace h := h.1 c
      refine V_iconst (v := 0) hG (by decide) dX10_asksAt_17 ?_
      refine V_forget (lo' := [some (.ref this), none, none]) ⟨rfl, trivial⟩ ?_
      refine V_widen (k' := 0) (n' := 0) (by first | exact Nat.le_of_ble_eq_true rfl | omega | (dsimp only; omega)) (by first | exact Nat.le_of_ble_eq_true rfl | omega | (dsimp only; omega)) ?_
      exact wv_X10_asksAt_18 hl hG  _ _ _ _ h
    · replace h := h.2 c
      refine V_iconst (v := 2) hG (by decide) dX10_asksAt_13 ?_
      refine V_goto (tgt := 18) hG dX10_asksAt_14 (by decide) ?_
      refine V_forget (lo' := [some (.ref this), none, none]) ⟨rfl, trivial⟩ ?_
      refine V_widen (k' := 0) (n' := 0) (by first | exact Nat.le_of_ble_eq_true rfl | omega | (dsimp only; omega)) (by first | exact Nat.le_of_ble_eq_true rfl | omega | (dsimp only; omega)) ?_
      exact wv_X10_asksAt_18 hl hG  _ _ _ _ h
  · replace h := h.2 c
    refine V_iconst (v := 1) hG (by decide) dX10_asksAt_5 ?_
    refine V_goto (tgt := 18) hG dX10_asksAt_6 (by decide) ?_
    refine V_forget (lo' := [some (.ref this), none, none]) ⟨rfl, trivial⟩ ?_
    refine V_widen (k' := 0) (n' := 0) (by first | exact Nat.le_of_ble_eq_true rfl | omega | (dsimp only; omega)) (by first | exact Nat.le_of_ble_eq_true rfl | omega | (dsimp only; omega)) ?_
    exact wv_X10_asksAt_18 hl hG  _ _ _ _ h
def wp_X10_parent (this : Nat) (a0 : Int32) (a1 : Int32) (σ : Sg) (Post : Rs → Sg → Prop) : Prop := this % 32 = 10 ∧ wp_X10_isBatch this a0 σ (KI (fun x2 σ1 => this % 32 = 10 ∧ wp_X10_asksAt this x2 a1 σ1 (KI (fun x4 σ3 => ((x4 = 0 → Post (.inl (some (.int (0 : Int32)))) σ3) ∧ (¬ x4 = 0 → this % 32 = 10 ∧ ∀ o5, o5 = sP σ3 this 26 → ∃ u6, o5 = some u6 ∧ aty (u6 % 32) = some .long ∧ ∃ j7, a0 = nI j7 ∧ j7 < aln u6 ∧ this % 32 = 10 ∧ wp_X10_ofSet this (sL σ3 u6 j7) a1 σ3 (KI (fun x9 σ8 => Post (.inl (some (.int x9))) σ8) (fun E σ8 => Post (.inr E) σ8))))) (fun E σ3 => Post (.inr E) σ3))) (fun E σ1 => Post (.inr E) σ1))
set_option maxRecDepth 100000 in
set_option maxHeartbeats 4000000 in
theorem ct_X10_parent {l : Launch} (hl : l.stackTraces = false) {this : Nat} {a0 : Int32} {a1 : Int32} {σ : Sg} {Post : Rs → Sg → Prop} (h : wp_X10_parent this a0 a1 σ Post) : Ct l yX10_parent (.code yX10_parent cX10_parent 3 (some .int)) 2 43 0 0 [.ref this, .int a0, .int a1] σ Post := by
  refine Ct_of [some (.ref this), some (.int a0), some (.int a1)] hl (by decide +kernel) rfl (fun ad => by rfl) (fun ad => by exact Nat.le_of_ble_eq_true rfl) (fun v hv => mem_lo hv rfl) ?_
  intro G hG
  unfold wp_X10_parent at h
  refine V_aload_n (v := .ref this) hG dX10_parent_0 rfl rfl ?_
  refine V_aload_n (v := .ref this) hG dX10_parent_1 rfl rfl ?_
  refine V_iload_n hG dX10_parent_2 rfl ?_
  obtain ⟨ht, h⟩ := h
  refine V_cVI _ _ hG dX10_parent_3 (ct_X10_isBatch hl h) mv_X10_isBatch ml_X10_219 ht rfl rfl rfl rfl (by first | exact Nat.le_of_ble_eq_true rfl | (simp only [List.map_cons, List.map_nil, List.sum_cons, List.sum_nil, cat_rf]; exact Nat.le_of_ble_eq_true rfl)) (Nat.le_of_ble_eq_true rfl) (Nat.le_of_ble_eq_true rfl) (by first | exact Nat.le_of_ble_eq_true rfl | omega | (dsimp only; omega)) (by first | exact Nat.le_of_ble_eq_true rfl | omega | (dsimp only; omega)) ?_ (fun x2 σ1 h9 => ?_)
  · exact fun E σ1 hx => VX_out hG (by first | exact Nat.le_of_ble_eq_true rfl | omega | (dsimp only; omega)) (by first | exact Nat.le_of_ble_eq_true rfl | omega | (dsimp only; omega)) hx
  · replace h := h9
    clear h9
    refine V_iload_n hG dX10_parent_6 rfl ?_
    obtain ⟨ht, h⟩ := h
    refine V_cVI _ _ hG dX10_parent_7 (ct_X10_asksAt hl h) mv_X10_asksAt ml_X10_318 ht rfl rfl rfl rfl (by first | exact Nat.le_of_ble_eq_true rfl | (simp only [List.map_cons, List.map_nil, List.sum_cons, List.sum_nil, cat_rf]; exact Nat.le_of_ble_eq_true rfl)) (Nat.le_of_ble_eq_true rfl) (Nat.le_of_ble_eq_true rfl) (by first | exact Nat.le_of_ble_eq_true rfl | omega | (dsimp only; omega)) (by first | exact Nat.le_of_ble_eq_true rfl | omega | (dsimp only; omega)) ?_ (fun x4 σ3 h9 => ?_)
    · exact fun E σ3 hx => VX_out hG (by first | exact Nat.le_of_ble_eq_true rfl | omega | (dsimp only; omega)) (by first | exact Nat.le_of_ble_eq_true rfl | omega | (dsimp only; omega)) hx
    · replace h := h9
      clear h9
      refine V_if_eq (tgt := 27) hG dX10_parent_10 (by decide) (fun c => ?_) (fun c => ?_)
      · replace h := h.1 c
        refine V_iconst (v := 0) hG (by decide) dX10_parent_27 ?_
        exact V_iret hG dX10_parent_28 (by first | exact Nat.le_of_ble_eq_true rfl | omega | (dsimp only; omega)) (by first | exact Nat.le_of_ble_eq_true rfl | omega | (dsimp only; omega)) h
      · replace h := h.2 c
        refine V_aload_n (v := .ref this) hG dX10_parent_13 rfl rfl ?_
        refine V_aload_n (v := .ref this) hG dX10_parent_14 rfl rfl ?_
        obtain ⟨ht, h⟩ := h
        refine V_getPv hG dX10_parent_15 fl_X10_86 rfl ht (fun o5 ho => ?_)
        replace h := h o5 ho
        refine V_iload_n hG dX10_parent_18 rfl ?_
        obtain ⟨u6, he, h⟩ := h
        subst he
        obtain ⟨ha, j7, hi, hj, h⟩ := h
        refine V_lald hG dX10_parent_19 ha hi hj ?_
        refine V_iload_n hG dX10_parent_20 rfl ?_
        obtain ⟨ht, h⟩ := h
        refine V_cVI _ _ hG dX10_parent_21 (ct_X10_ofSet hl h) mv_X10_ofSet ml_X10_322 ht rfl rfl rfl rfl (by first | exact Nat.le_of_ble_eq_true rfl | (simp only [List.map_cons, List.map_nil, List.sum_cons, List.sum_nil, cat_rf]; exact Nat.le_of_ble_eq_true rfl)) (Nat.le_of_ble_eq_true rfl) (Nat.le_of_ble_eq_true rfl) (by first | exact Nat.le_of_ble_eq_true rfl | omega | (dsimp only; omega)) (by first | exact Nat.le_of_ble_eq_true rfl | omega | (dsimp only; omega)) ?_ (fun x9 σ8 h9 => ?_)
        · exact fun E σ8 hx => VX_out hG (by first | exact Nat.le_of_ble_eq_true rfl | omega | (dsimp only; omega)) (by first | exact Nat.le_of_ble_eq_true rfl | omega | (dsimp only; omega)) hx
        · replace h := h9
          clear h9
          refine V_goto (tgt := 28) hG dX10_parent_24 (by decide) ?_
          exact V_iret hG dX10_parent_28 (by first | exact Nat.le_of_ble_eq_true rfl | omega | (dsimp only; omega)) (by first | exact Nat.le_of_ble_eq_true rfl | omega | (dsimp only; omega)) h
def wp_X10_origin_68 (K22 : Nat → Int32 → Int64 → Int64 → Sg → Prop) (K35 : Nat → Int32 → Int64 → Int64 → Int32 → Sg → Prop) (this : Nat) (v2 : Int32) (v5 : Int64) (v7 : Int32) (s0 : Int64) (s1 : Int64) (σ : Sg) (Post : Rs → Sg → Prop) : Prop := (K35 this v2 (s0 ||| s1) v5 (v7 + 1) σ)
set_option maxRecDepth 100000 in
set_option maxHeartbeats 4000000 in
theorem wv_X10_origin_68 {L9 : Launch} {G : Cx} {Post : Rs → Sg → Prop} (hl : L9.stackTraces = false) (hG : CX L9 G yX10_origin cX10_origin 10 (some .int) [] { frames := 2, cells := 0, slots := 0, locals := 43 }) {K22 : Nat → Int32 → Int64 → Int64 → Sg → Prop} {K35 : Nat → Int32 → Int64 → Int64 → Int32 → Sg → Prop} (hK22 : ∀ (this : Nat) (v2 : Int32) (v3 : Int64) (v5 : Int64) (ζ : Sg), K22 this v2 v3 v5 ζ → V G (QM G 0 0 Post) 22 [some (.ref this), none, some (.int v2), some (.long v3), none, some (.long v5), none, none, none, none] [] ζ 0 0) (hK35 : ∀ (this : Nat) (v2 : Int32) (v3 : Int64) (v5 : Int64) (v7 : Int32) (ζ : Sg), K35 this v2 v3 v5 v7 ζ → V G (QM G 0 0 Post) 35 [some (.ref this), none, some (.int v2), some (.long v3), none, some (.long v5), none, some (.int v7), none, none] [] ζ 0 0) : ∀ (this : Nat) (v2 : Int32) (v5 : Int64) (v7 : Int32) (s0 : Int64) (s1 : Int64) (σ : Sg), wp_X10_origin_68 K22 K35 this v2 v5 v7 s0 s1 σ Post → V G (QM G 0 0 Post) 68 [some (.ref this), none, some (.int v2), none, none, some (.long v5), none, some (.int v7), none, none] [.long s1, .long s0] σ 0 0 := by
  intro this v2 v5 v7 s0 s1 σ h
  unfold wp_X10_origin_68 at h
  refine V_lor hG dX10_origin_68 ?_
  refine V_lstore_n hG dX10_origin_69 (Nat.le_of_ble_eq_true rfl) (hpV rfl rfl) ?_
  refine V_iincv (c := 1) hG dX10_origin_70 rfl (by decide) (hpN rfl) ?_
  refine V_goto (tgt := 35) hG dX10_origin_73 (by decide) ?_
  refine V_forget (lo' := [some (.ref this), none, some (.int v2), some (.long (s0 ||| s1)), none, some (.long v5), none, some (.int (v7 + 1)), none, none]) ⟨rfl, ⟨rfl, ⟨rfl, ⟨rfl, ⟨rfl, trivial⟩⟩⟩⟩⟩ ?_
  exact hK35 _ _ _ _ _ _ h
def wp_X10_origin_35 (K22 : Nat → Int32 → Int64 → Int64 → Sg → Prop) : Nat → Nat → Int32 → Int64 → Int64 → Int32 → Sg → (Rs → Sg → Prop) → Prop
  | 0, _, _, _, _, _, _, _ => False
  | f + 1, this, v2, v3, v5, v7, σ, Post => this % 32 = 10 ∧ (((sI σ this 14) ≤ v7 → (K22 this v2 v3 v5 σ)) ∧ (¬ (sI σ this 14) ≤ v7 → ((¬ (lg_cmp ((v5 >>> (Int32.toInt64 v7 &&& 63)) &&& (1 : Int64)) (1 : Int64)) = 0 → (wp_X10_origin_68 K22 (fun z0 z1 z2 z3 z4 ζ => wp_X10_origin_35 K22 f z0 z1 z2 z3 z4 ζ Post) this v2 v5 v7 v3 (0 : Int64) σ Post)) ∧ ((lg_cmp ((v5 >>> (Int32.toInt64 v7 &&& 63)) &&& (1 : Int64)) (1 : Int64)) = 0 → this % 32 = 10 ∧ ∀ o1, o1 = sP σ this 26 → ∃ u2, o1 = some u2 ∧ aty (u2 % 32) = some .long ∧ ∃ j3, v7 = nI j3 ∧ j3 < aln u2 ∧ (wp_X10_origin_68 K22 (fun z0 z1 z2 z3 z4 ζ => wp_X10_origin_35 K22 f z0 z1 z2 z3 z4 ζ Post) this v2 v5 v7 v3 (sL σ u2 j3) σ Post)))))
set_option maxRecDepth 100000 in
set_option maxHeartbeats 4000000 in
theorem wv_X10_origin_35 {L9 : Launch} {G : Cx} {Post : Rs → Sg → Prop} (hl : L9.stackTraces = false) (hG : CX L9 G yX10_origin cX10_origin 10 (some .int) [] { frames := 2, cells := 0, slots := 0, locals := 43 }) {K22 : Nat → Int32 → Int64 → Int64 → Sg → Prop} (hK22 : ∀ (this : Nat) (v2 : Int32) (v3 : Int64) (v5 : Int64) (ζ : Sg), K22 this v2 v3 v5 ζ → V G (QM G 0 0 Post) 22 [some (.ref this), none, some (.int v2), some (.long v3), none, some (.long v5), none, none, none, none] [] ζ 0 0) : ∀ (f : Nat) (this : Nat) (v2 : Int32) (v3 : Int64) (v5 : Int64) (v7 : Int32) (σ : Sg), wp_X10_origin_35 K22 f this v2 v3 v5 v7 σ Post → V G (QM G 0 0 Post) 35 [some (.ref this), none, some (.int v2), some (.long v3), none, some (.long v5), none, some (.int v7), none, none] [] σ 0 0 := by
  intro f
  induction f with
  | zero => intro _ _ _ _ _ σ h; exact h.elim
  | succ f ih =>
    intro this v2 v3 v5 v7 σ h
    refine V_iload hG dX10_origin_35 rfl ?_
    refine V_aload_n (v := .ref this) hG dX10_origin_37 rfl rfl ?_
    obtain ⟨ht, h⟩ := h
    refine V_getI hG dX10_origin_38 fl_X10_176 rfl ht ?_
    refine V_icmp_ge (tgt := 76) hG dX10_origin_41 (by decide) (fun c => ?_) (fun c => ?_)
    · replace h := h.1 c
      refine V_goto (tgt := 22) hG dX10_origin_76 (by decide) ?_
      refine V_forget (lo' := [some (.ref this), none, some (.int v2), some (.long v3), none, some (.long v5), none, none, none, none]) ⟨rfl, ⟨rfl, ⟨rfl, ⟨rfl, trivial⟩⟩⟩⟩ ?_
      exact hK22 _ _ _ _ _ h
    · replace h := h.2 c
      refine V_lload_n hG dX10_origin_44 rfl ?_
      refine V_lload hG dX10_origin_45 rfl ?_
      refine V_iload hG dX10_origin_47 rfl ?_
      refine V_lshr hG dX10_origin_49 ?_
      refine V_lconst (v := 1) hG (by decide) dX10_origin_50 ?_
      refine V_land hG dX10_origin_51 ?_
      refine V_lconst (v := 1) hG (by decide) dX10_origin_52 ?_
      refine V_lcmp hG dX10_origin_53 ?_
      refine V_if_ne (tgt := 67) hG dX10_origin_54 (by decide) (fun c => ?_) (fun c => ?_)
      · replace h := h.1 c
        refine V_lconst (v := 0) hG (by decide) dX10_origin_67 ?_
        refine V_forget (lo' := [some (.ref this), none, some (.int v2), none, none, some (.long v5), none, some (.int v7), none, none]) ⟨rfl, ⟨rfl, ⟨rfl, ⟨rfl, trivial⟩⟩⟩⟩ ?_
        refine V_widen (k' := 0) (n' := 0) (by first | exact Nat.le_of_ble_eq_true rfl | omega | (dsimp only; omega)) (by first | exact Nat.le_of_ble_eq_true rfl | omega | (dsimp only; omega)) ?_
        exact wv_X10_origin_68 hl hG hK22 (fun z0 z1 z2 z3 z4 ζ hz => ih z0 z1 z2 z3 z4 ζ hz) _ _ _ _ _ _ _ h
      · replace h := h.2 c
        refine V_aload_n (v := .ref this) hG dX10_origin_57 rfl rfl ?_
        obtain ⟨ht, h⟩ := h
        refine V_getPv hG dX10_origin_58 fl_X10_86 rfl ht (fun o1 ho => ?_)
        replace h := h o1 ho
        refine V_iload hG dX10_origin_61 rfl ?_
        obtain ⟨u2, he, h⟩ := h
        subst he
        obtain ⟨ha, j3, hi, hj, h⟩ := h
        refine V_lald hG dX10_origin_63 ha hi hj ?_
        refine V_goto (tgt := 68) hG dX10_origin_64 (by decide) ?_
        refine V_forget (lo' := [some (.ref this), none, some (.int v2), none, none, some (.long v5), none, some (.int v7), none, none]) ⟨rfl, ⟨rfl, ⟨rfl, ⟨rfl, trivial⟩⟩⟩⟩ ?_
        refine V_widen (k' := 0) (n' := 0) (by first | exact Nat.le_of_ble_eq_true rfl | omega | (dsimp only; omega)) (by first | exact Nat.le_of_ble_eq_true rfl | omega | (dsimp only; omega)) ?_
        exact wv_X10_origin_68 hl hG hK22 (fun z0 z1 z2 z3 z4 ζ hz => ih z0 z1 z2 z3 z4 ζ hz) _ _ _ _ _ _ _ h
def wp_X10_origin_117 (K85 : Nat → Int32 → Int64 → Int64 → Int32 → Sg → Prop) (this : Nat) (v2 : Int32) (v3 : Int64) (v9 : Int32) (s0 : Int64) (s1 : Int64) (σ : Sg) (Post : Rs → Sg → Prop) : Prop := (K85 this v2 v3 (s0 ||| s1) (v9 + 1) σ)
set_option maxRecDepth 100000 in
set_option maxHeartbeats 4000000 in
theorem wv_X10_origin_117 {L9 : Launch} {G : Cx} {Post : Rs → Sg → Prop} (hl : L9.stackTraces = false) (hG : CX L9 G yX10_origin cX10_origin 10 (some .int) [] { frames := 2, cells := 0, slots := 0, locals := 43 }) {K85 : Nat → Int32 → Int64 → Int64 → Int32 → Sg → Prop} (hK85 : ∀ (this : Nat) (v2 : Int32) (v3 : Int64) (v7 : Int64) (v9 : Int32) (ζ : Sg), K85 this v2 v3 v7 v9 ζ → V G (QM G 0 0 Post) 85 [some (.ref this), none, some (.int v2), some (.long v3), none, none, none, some (.long v7), none, some (.int v9)] [] ζ 0 0) : ∀ (this : Nat) (v2 : Int32) (v3 : Int64) (v9 : Int32) (s0 : Int64) (s1 : Int64) (σ : Sg), wp_X10_origin_117 K85 this v2 v3 v9 s0 s1 σ Post → V G (QM G 0 0 Post) 117 [some (.ref this), none, some (.int v2), some (.long v3), none, none, none, none, none, some (.int v9)] [.long s1, .long s0] σ 0 0 := by
  intro this v2 v3 v9 s0 s1 σ h
  unfold wp_X10_origin_117 at h
  refine V_lor hG dX10_origin_117 ?_
  refine V_lstore hG dX10_origin_118 (Nat.le_of_ble_eq_true rfl) (hpN rfl) ?_
  refine V_iincv (c := 1) hG dX10_origin_120 rfl (by decide) (hpN rfl) ?_
  refine V_goto (tgt := 85) hG dX10_origin_123 (by decide) ?_
  refine V_forget (lo' := [some (.ref this), none, some (.int v2), some (.long v3), none, none, none, some (.long (s0 ||| s1)), none, some (.int (v9 + 1))]) ⟨rfl, ⟨rfl, ⟨rfl, ⟨rfl, ⟨rfl, trivial⟩⟩⟩⟩⟩ ?_
  exact hK85 _ _ _ _ _ _ h
def wp_X10_origin_85  : Nat → Nat → Int32 → Int64 → Int64 → Int32 → Sg → (Rs → Sg → Prop) → Prop
  | 0, _, _, _, _, _, _, _ => False
  | f + 1, this, v2, v3, v7, v9, σ, Post => this % 32 = 10 ∧ (((sI σ this 14) ≤ v9 → this % 32 = 10 ∧ wp_X10_ofSet this v7 v2 σ (KI (fun x2 σ1 => Post (.inl (some (.int x2))) σ1) (fun E σ1 => Post (.inr E) σ1))) ∧ (¬ (sI σ this 14) ≤ v9 → this % 32 = 10 ∧ ∀ o3, o3 = sP σ this 25 → ∃ u4, o3 = some u4 ∧ aty (u4 % 32) = some .int ∧ ∃ j5, v9 = nI j5 ∧ j5 < aln u4 ∧ (((sI σ u4 j5) = (-1 : Int32) → (wp_X10_origin_117 (fun z0 z1 z2 z3 z4 ζ => wp_X10_origin_85 f z0 z1 z2 z3 z4 ζ Post) this v2 v3 v9 v7 (0 : Int64) σ Post)) ∧ (¬ (sI σ u4 j5) = (-1 : Int32) → (wp_X10_origin_117 (fun z0 z1 z2 z3 z4 ζ => wp_X10_origin_85 f z0 z1 z2 z3 z4 ζ Post) this v2 v3 v9 v7 (v3 &&& ((1 : Int64) <<< (Int32.toInt64 v9 &&& 63))) σ Post)))))
set_option maxRecDepth 100000 in
set_option maxHeartbeats 4000000 in
theorem wv_X10_origin_85 {L9 : Launch} {G : Cx} {Post : Rs → Sg → Prop} (hl : L9.stackTraces = false) (hG : CX L9 G yX10_origin cX10_origin 10 (some .int) [] { frames := 2, cells := 0, slots := 0, locals := 43 })   : ∀ (f : Nat) (this : Nat) (v2 : Int32) (v3 : Int64) (v7 : Int64) (v9 : Int32) (σ : Sg), wp_X10_origin_85 f this v2 v3 v7 v9 σ Post → V G (QM G 0 0 Post) 85 [some (.ref this), none, some (.int v2), some (.long v3), none, none, none, some (.long v7), none, some (.int v9)] [] σ 0 0 := by
  intro f
  induction f with
  | zero => intro _ _ _ _ _ σ h; exact h.elim
  | succ f ih =>
    intro this v2 v3 v7 v9 σ h
    refine V_iload hG dX10_origin_85 rfl ?_
    refine V_aload_n (v := .ref this) hG dX10_origin_87 rfl rfl ?_
    obtain ⟨ht, h⟩ := h
    refine V_getI hG dX10_origin_88 fl_X10_176 rfl ht ?_
    refine V_icmp_ge (tgt := 126) hG dX10_origin_91 (by decide) (fun c => ?_) (fun c => ?_)
    · replace h := h.1 c
      refine V_aload_n (v := .ref this) hG dX10_origin_126 rfl rfl ?_
      refine V_lload hG dX10_origin_127 rfl ?_
      refine V_iload_n hG dX10_origin_129 rfl ?_
      obtain ⟨ht, h⟩ := h
      refine V_cVI _ _ hG dX10_origin_130 (ct_X10_ofSet hl h) mv_X10_ofSet ml_X10_322 ht rfl rfl rfl rfl (by first | exact Nat.le_of_ble_eq_true rfl | (simp only [List.map_cons, List.map_nil, List.sum_cons, List.sum_nil, cat_rf]; exact Nat.le_of_ble_eq_true rfl)) (Nat.le_of_ble_eq_true rfl) (Nat.le_of_ble_eq_true rfl) (by first | exact Nat.le_of_ble_eq_true rfl | omega | (dsimp only; omega)) (by first | exact Nat.le_of_ble_eq_true rfl | omega | (dsimp only; omega)) ?_ (fun x2 σ1 h9 => ?_)
      · exact fun E σ1 hx => VX_out hG (by first | exact Nat.le_of_ble_eq_true rfl | omega | (dsimp only; omega)) (by first | exact Nat.le_of_ble_eq_true rfl | omega | (dsimp only; omega)) hx
      · replace h := h9
        clear h9
        exact V_iret hG dX10_origin_133 (by first | exact Nat.le_of_ble_eq_true rfl | omega | (dsimp only; omega)) (by first | exact Nat.le_of_ble_eq_true rfl | omega | (dsimp only; omega)) h
    · replace h := h.2 c
      refine V_lload hG dX10_origin_94 rfl ?_
      refine V_aload_n (v := .ref this) hG dX10_origin_96 rfl rfl ?_
      obtain ⟨ht, h⟩ := h
      refine V_getPv hG dX10_origin_97 fl_X10_83 rfl ht (fun o3 ho => ?_)
      replace h := h o3 ho
      refine V_iload hG dX10_origin_100 rfl ?_
      obtain ⟨u4, he, h⟩ := h
      subst he
      obtain ⟨ha, j5, hi, hj, h⟩ := h
      refine V_iald hG dX10_origin_102 ha hi hj ?_
      refine V_iconst (v := (-1)) hG (by decide) dX10_origin_103 ?_
      refine V_icmp_eq (tgt := 116) hG dX10_origin_104 (by decide) (fun c => ?_) (fun c => ?_)
      · replace h := h.1 c
        refine V_lconst (v := 0) hG (by decide) dX10_origin_116 ?_
        refine V_forget (lo' := [some (.ref this), none, some (.int v2), some (.long v3), none, none, none, none, none, some (.int v9)]) ⟨rfl, ⟨rfl, ⟨rfl, ⟨rfl, trivial⟩⟩⟩⟩ ?_
        refine V_widen (k' := 0) (n' := 0) (by first | exact Nat.le_of_ble_eq_true rfl | omega | (dsimp only; omega)) (by first | exact Nat.le_of_ble_eq_true rfl | omega | (dsimp only; omega)) ?_
        exact wv_X10_origin_117 hl hG (fun z0 z1 z2 z3 z4 ζ hz => ih z0 z1 z2 z3 z4 ζ hz) _ _ _ _ _ _ _ h
      · replace h := h.2 c
        refine V_lload_n hG dX10_origin_107 rfl ?_
        refine V_lconst (v := 1) hG (by decide) dX10_origin_108 ?_
        refine V_iload hG dX10_origin_109 rfl ?_
        refine V_lshl hG dX10_origin_111 ?_
        refine V_land hG dX10_origin_112 ?_
        refine V_goto (tgt := 117) hG dX10_origin_113 (by decide) ?_
        refine V_forget (lo' := [some (.ref this), none, some (.int v2), some (.long v3), none, none, none, none, none, some (.int v9)]) ⟨rfl, ⟨rfl, ⟨rfl, ⟨rfl, trivial⟩⟩⟩⟩ ?_
        refine V_widen (k' := 0) (n' := 0) (by first | exact Nat.le_of_ble_eq_true rfl | omega | (dsimp only; omega)) (by first | exact Nat.le_of_ble_eq_true rfl | omega | (dsimp only; omega)) ?_
        exact wv_X10_origin_117 hl hG (fun z0 z1 z2 z3 z4 ζ hz => ih z0 z1 z2 z3 z4 ζ hz) _ _ _ _ _ _ _ h
def wp_X10_origin_22  : Nat → Nat → Int32 → Int64 → Int64 → Sg → (Rs → Sg → Prop) → Prop
  | 0, _, _, _, _, _, _ => False
  | f + 1, this, v2, v3, v5, σ, Post => (((lg_cmp v3 v5) = 0 → (∃ g, wp_X10_origin_85 g this v2 v3 (0 : Int64) (0 : Int32) σ Post)) ∧ (¬ (lg_cmp v3 v5) = 0 → (∃ g, wp_X10_origin_35 (fun z0 z1 z2 z3 ζ => wp_X10_origin_22 f z0 z1 z2 z3 ζ Post) g this v2 v3 v3 (0 : Int32) σ Post)))
set_option maxRecDepth 100000 in
set_option maxHeartbeats 4000000 in
theorem wv_X10_origin_22 {L9 : Launch} {G : Cx} {Post : Rs → Sg → Prop} (hl : L9.stackTraces = false) (hG : CX L9 G yX10_origin cX10_origin 10 (some .int) [] { frames := 2, cells := 0, slots := 0, locals := 43 })   : ∀ (f : Nat) (this : Nat) (v2 : Int32) (v3 : Int64) (v5 : Int64) (σ : Sg), wp_X10_origin_22 f this v2 v3 v5 σ Post → V G (QM G 0 0 Post) 22 [some (.ref this), none, some (.int v2), some (.long v3), none, some (.long v5), none, none, none, none] [] σ 0 0 := by
  intro f
  induction f with
  | zero => intro _ _ _ _ σ h; exact h.elim
  | succ f ih =>
    intro this v2 v3 v5 σ h
    refine V_lload_n hG dX10_origin_22 rfl ?_
    refine V_lload hG dX10_origin_23 rfl ?_
    refine V_lcmp hG dX10_origin_25 ?_
    refine V_if_eq (tgt := 79) hG dX10_origin_26 (by decide) (fun c => ?_) (fun c => ?_)
    · replace h := h.1 c
      refine V_lconst (v := 0) hG (by decide) dX10_origin_79 ?_
      refine V_lstore hG dX10_origin_80 (Nat.le_of_ble_eq_true rfl) (hpN rfl) ?_
      refine V_iconst (v := 0) hG (by decide) dX10_origin_82 ?_
      refine V_istore hG dX10_origin_83 (Nat.le_of_ble_eq_true rfl) (hpN rfl) ?_
      refine V_forget (lo' := [some (.ref this), none, some (.int v2), some (.long v3), none, none, none, some (.long (0 : Int64)), none, some (.int (0 : Int32))]) ⟨rfl, ⟨rfl, ⟨rfl, ⟨rfl, ⟨rfl, trivial⟩⟩⟩⟩⟩ ?_
      obtain ⟨g, h⟩ := h
      refine V_widen (k' := 0) (n' := 0) (by first | exact Nat.le_of_ble_eq_true rfl | omega | (dsimp only; omega)) (by first | exact Nat.le_of_ble_eq_true rfl | omega | (dsimp only; omega)) ?_
      exact wv_X10_origin_85 hl hG  g _ _ _ _ _ _ h
    · replace h := h.2 c
      refine V_lload_n hG dX10_origin_29 rfl ?_
      refine V_lstore hG dX10_origin_30 (Nat.le_of_ble_eq_true rfl) (hpN rfl) ?_
      refine V_iconst (v := 0) hG (by decide) dX10_origin_32 ?_
      refine V_istore hG dX10_origin_33 (Nat.le_of_ble_eq_true rfl) (hpN rfl) ?_
      refine V_forget (lo' := [some (.ref this), none, some (.int v2), some (.long v3), none, some (.long v3), none, some (.int (0 : Int32)), none, none]) ⟨rfl, ⟨rfl, ⟨rfl, ⟨rfl, ⟨rfl, trivial⟩⟩⟩⟩⟩ ?_
      obtain ⟨g, h⟩ := h
      refine V_widen (k' := 0) (n' := 0) (by first | exact Nat.le_of_ble_eq_true rfl | omega | (dsimp only; omega)) (by first | exact Nat.le_of_ble_eq_true rfl | omega | (dsimp only; omega)) ?_
      exact wv_X10_origin_35 hl hG (fun z0 z1 z2 z3 ζ hz => ih z0 z1 z2 z3 ζ hz) g _ _ _ _ _ _ h
def wp_X10_origin (this : Nat) (a0 : Int32) (a1 : Int32) (σ : Sg) (Post : Rs → Sg → Prop) : Prop := this % 32 = 10 ∧ wp_X10_isBatch this a0 σ (KI (fun x2 σ1 => this % 32 = 10 ∧ wp_X10_asksAt this x2 a1 σ1 (KI (fun x4 σ3 => ((¬ x4 = 0 → (∃ g, wp_X10_origin_22 g this a1 ((1 : Int64) <<< (Int32.toInt64 a0 &&& 63)) (0 : Int64) σ3 Post)) ∧ (x4 = 0 → Post (.inl (some (.int (0 : Int32)))) σ3))) (fun E σ3 => Post (.inr E) σ3))) (fun E σ1 => Post (.inr E) σ1))
set_option maxRecDepth 100000 in
set_option maxHeartbeats 4000000 in
theorem ct_X10_origin {l : Launch} (hl : l.stackTraces = false) {this : Nat} {a0 : Int32} {a1 : Int32} {σ : Sg} {Post : Rs → Sg → Prop} (h : wp_X10_origin this a0 a1 σ Post) : Ct l yX10_origin (.code yX10_origin cX10_origin 10 (some .int)) 2 43 0 0 [.ref this, .int a0, .int a1] σ Post := by
  refine Ct_of [some (.ref this), some (.int a0), some (.int a1), none, none, none, none, none, none, none] hl (by decide +kernel) rfl (fun ad => by rfl) (fun ad => by exact Nat.le_of_ble_eq_true rfl) (fun v hv => mem_lo hv rfl) ?_
  intro G hG
  unfold wp_X10_origin at h
  refine V_aload_n (v := .ref this) hG dX10_origin_0 rfl rfl ?_
  refine V_aload_n (v := .ref this) hG dX10_origin_1 rfl rfl ?_
  refine V_iload_n hG dX10_origin_2 rfl ?_
  obtain ⟨ht, h⟩ := h
  refine V_cVI _ _ hG dX10_origin_3 (ct_X10_isBatch hl h) mv_X10_isBatch ml_X10_219 ht rfl rfl rfl rfl (by first | exact Nat.le_of_ble_eq_true rfl | (simp only [List.map_cons, List.map_nil, List.sum_cons, List.sum_nil, cat_rf]; exact Nat.le_of_ble_eq_true rfl)) (Nat.le_of_ble_eq_true rfl) (Nat.le_of_ble_eq_true rfl) (by first | exact Nat.le_of_ble_eq_true rfl | omega | (dsimp only; omega)) (by first | exact Nat.le_of_ble_eq_true rfl | omega | (dsimp only; omega)) ?_ (fun x2 σ1 h9 => ?_)
  · exact fun E σ1 hx => VX_out hG (by first | exact Nat.le_of_ble_eq_true rfl | omega | (dsimp only; omega)) (by first | exact Nat.le_of_ble_eq_true rfl | omega | (dsimp only; omega)) hx
  · replace h := h9
    clear h9
    refine V_iload_n hG dX10_origin_6 rfl ?_
    obtain ⟨ht, h⟩ := h
    refine V_cVI _ _ hG dX10_origin_7 (ct_X10_asksAt hl h) mv_X10_asksAt ml_X10_318 ht rfl rfl rfl rfl (by first | exact Nat.le_of_ble_eq_true rfl | (simp only [List.map_cons, List.map_nil, List.sum_cons, List.sum_nil, cat_rf]; exact Nat.le_of_ble_eq_true rfl)) (Nat.le_of_ble_eq_true rfl) (Nat.le_of_ble_eq_true rfl) (by first | exact Nat.le_of_ble_eq_true rfl | omega | (dsimp only; omega)) (by first | exact Nat.le_of_ble_eq_true rfl | omega | (dsimp only; omega)) ?_ (fun x4 σ3 h9 => ?_)
    · exact fun E σ3 hx => VX_out hG (by first | exact Nat.le_of_ble_eq_true rfl | omega | (dsimp only; omega)) (by first | exact Nat.le_of_ble_eq_true rfl | omega | (dsimp only; omega)) hx
    · replace h := h9
      clear h9
      refine V_if_ne (tgt := 15) hG dX10_origin_10 (by decide) (fun c => ?_) (fun c => ?_)
      · replace h := h.1 c
        refine V_lconst (v := 1) hG (by decide) dX10_origin_15 ?_
        refine V_iload_n hG dX10_origin_16 rfl ?_
        refine V_lshl hG dX10_origin_17 ?_
        refine V_lstore_n hG dX10_origin_18 (Nat.le_of_ble_eq_true rfl) (hpV rfl rfl) ?_
        refine V_lconst (v := 0) hG (by decide) dX10_origin_19 ?_
        refine V_lstore hG dX10_origin_20 (Nat.le_of_ble_eq_true rfl) (hpN rfl) ?_
        refine V_forget (lo' := [some (.ref this), none, some (.int a1), some (.long ((1 : Int64) <<< (Int32.toInt64 a0 &&& 63))), none, some (.long (0 : Int64)), none, none, none, none]) ⟨rfl, ⟨rfl, ⟨rfl, ⟨rfl, trivial⟩⟩⟩⟩ ?_
        obtain ⟨g, h⟩ := h
        refine V_widen (k' := 0) (n' := 0) (by first | exact Nat.le_of_ble_eq_true rfl | omega | (dsimp only; omega)) (by first | exact Nat.le_of_ble_eq_true rfl | omega | (dsimp only; omega)) ?_
        exact wv_X10_origin_22 hl hG  g _ _ _ _ _ h
      · replace h := h.2 c
        refine V_iconst (v := 0) hG (by decide) dX10_origin_13 ?_
        exact V_iret hG dX10_origin_14 (by first | exact Nat.le_of_ble_eq_true rfl | omega | (dsimp only; omega)) (by first | exact Nat.le_of_ble_eq_true rfl | omega | (dsimp only; omega)) h
def wp_X10_machine_33  (this : Nat) (v1 : Int32) (v2 : Int32) (s0 : Nat) (s1 : Int32) (σ : Sg) (Post : Rs → Sg → Prop) : Prop := s0 % 32 = 10 ∧ this % 32 = 10 ∧ (((sI (wI σ s0 59 s1) this 59) ≤ 0 → ((¬ v2 = 0 → ((¬ v2 = (1 : Int32) → ((¬ v2 = (2 : Int32) → ((¬ v2 = (3 : Int32) → ((¬ v2 = (4 : Int32) → this % 32 = 10 ∧ ∀ o1, o1 = sP (wI σ s0 59 s1) this 39 → ∃ u2, o1 = some u2 ∧ aty (u2 % 32) = some .int ∧ ∃ j3, v1 = nI j3 ∧ j3 < aln u2 ∧ Post (.inl (some (.int (sI (wI σ s0 59 s1) u2 j3)))) (wI σ s0 59 s1)) ∧ (v2 = (4 : Int32) → this % 32 = 10 ∧ ∀ o4, o4 = sP (wI σ s0 59 s1) this 38 → ∃ u5, o4 = some u5 ∧ aty (u5 % 32) = some .int ∧ ∃ j6, v1 = nI j6 ∧ j6 < aln u5 ∧ Post (.inl (some (.int (sI (wI σ s0 59 s1) u5 j6)))) (wI σ s0 59 s1)))) ∧ (v2 = (3 : Int32) → this % 32 = 10 ∧ ∀ o7, o7 = sP (wI σ s0 59 s1) this 37 → ∃ u8, o7 = some u8 ∧ aty (u8 % 32) = some .int ∧ ∃ j9, v1 = nI j9 ∧ j9 < aln u8 ∧ Post (.inl (some (.int (sI (wI σ s0 59 s1) u8 j9)))) (wI σ s0 59 s1)))) ∧ (v2 = (2 : Int32) → this % 32 = 10 ∧ ∀ o10, o10 = sP (wI σ s0 59 s1) this 36 → ∃ u11, o10 = some u11 ∧ aty (u11 % 32) = some .int ∧ ∃ j12, v1 = nI j12 ∧ j12 < aln u11 ∧ Post (.inl (some (.int (sI (wI σ s0 59 s1) u11 j12)))) (wI σ s0 59 s1)))) ∧ (v2 = (1 : Int32) → this % 32 = 10 ∧ ∀ o13, o13 = sP (wI σ s0 59 s1) this 35 → ∃ u14, o13 = some u14 ∧ aty (u14 % 32) = some .int ∧ ∃ j15, v1 = nI j15 ∧ j15 < aln u14 ∧ Post (.inl (some (.int (sI (wI σ s0 59 s1) u14 j15)))) (wI σ s0 59 s1)))) ∧ (v2 = 0 → this % 32 = 10 ∧ ∀ o16, o16 = sP (wI σ s0 59 s1) this 34 → ∃ u17, o16 = some u17 ∧ aty (u17 % 32) = some .int ∧ ∃ j18, v1 = nI j18 ∧ j18 < aln u17 ∧ Post (.inl (some (.int (sI (wI σ s0 59 s1) u17 j18)))) (wI σ s0 59 s1)))) ∧ (¬ (sI (wI σ s0 59 s1) this 59) ≤ 0 → Post (.inl (some (.int (0 : Int32)))) (wI σ s0 59 s1)))
set_option maxRecDepth 100000 in
set_option maxHeartbeats 4000000 in
theorem wv_X10_machine_33 {L9 : Launch} {G : Cx} {Post : Rs → Sg → Prop} (hl : L9.stackTraces = false) (hG : CX L9 G yX10_machine cX10_machine 3 (some .int) [] { frames := 1, cells := 0, slots := 0, locals := 22 })   : ∀ (this : Nat) (v1 : Int32) (v2 : Int32) (s0 : Nat) (s1 : Int32) (σ : Sg), wp_X10_machine_33 this v1 v2 s0 s1 σ Post → V G (QM G 0 0 Post) 33 [some (.ref this), some (.int v1), some (.int v2)] [.int s1, .ref s0] σ 0 0 := by
  intro this v1 v2 s0 s1 σ h
  unfold wp_X10_machine_33 at h
  obtain ⟨ht, h⟩ := h
  refine V_putI hG dX10_machine_33 fl_X10_168 rfl (fun e => absurd e (by decide)) rfl ht ?_
  refine V_aload_n (v := .ref this) hG dX10_machine_36 rfl rfl ?_
  obtain ⟨ht, h⟩ := h
  refine V_getI hG dX10_machine_37 fl_X10_168 rfl ht ?_
  refine V_if_le (tgt := 45) hG dX10_machine_40 (by decide) (fun c => ?_) (fun c => ?_)
  · replace h := h.1 c
    refine V_iload_n hG dX10_machine_45 rfl ?_
    refine V_if_ne (tgt := 58) hG dX10_machine_46 (by decide) (fun c => ?_) (fun c => ?_)
    · replace h := h.1 c
      refine V_iload_n hG dX10_machine_58 rfl ?_
      refine V_iconst (v := 1) hG (by decide) dX10_machine_59 ?_
      refine V_icmp_ne (tgt := 72) hG dX10_machine_60 (by decide) (fun c => ?_) (fun c => ?_)
      · replace h := h.1 c
        refine V_iload_n hG dX10_machine_72 rfl ?_
        refine V_iconst (v := 2) hG (by decide) dX10_machine_73 ?_
        refine V_icmp_ne (tgt := 86) hG dX10_machine_74 (by decide) (fun c => ?_) (fun c => ?_)
        · replace h := h.1 c
          refine V_iload_n hG dX10_machine_86 rfl ?_
          refine V_iconst (v := 3) hG (by decide) dX10_machine_87 ?_
          refine V_icmp_ne (tgt := 100) hG dX10_machine_88 (by decide) (fun c => ?_) (fun c => ?_)
          · replace h := h.1 c
            refine V_iload_n hG dX10_machine_100 rfl ?_
            refine V_iconst (v := 4) hG (by decide) dX10_machine_101 ?_
            refine V_icmp_ne (tgt := 114) hG dX10_machine_102 (by decide) (fun c => ?_) (fun c => ?_)
            · replace h := h.1 c
              refine V_aload_n (v := .ref this) hG dX10_machine_114 rfl rfl ?_
              obtain ⟨ht, h⟩ := h
              refine V_getPv hG dX10_machine_115 fl_X10_123 rfl ht (fun o1 ho => ?_)
              replace h := h o1 ho
              refine V_iload_n hG dX10_machine_118 rfl ?_
              obtain ⟨u2, he, h⟩ := h
              subst he
              obtain ⟨ha, j3, hi, hj, h⟩ := h
              refine V_iald hG dX10_machine_119 ha hi hj ?_
              exact V_iret hG dX10_machine_120 (by first | exact Nat.le_of_ble_eq_true rfl | omega | (dsimp only; omega)) (by first | exact Nat.le_of_ble_eq_true rfl | omega | (dsimp only; omega)) h
            · replace h := h.2 c
              refine V_aload_n (v := .ref this) hG dX10_machine_105 rfl rfl ?_
              obtain ⟨ht, h⟩ := h
              refine V_getPv hG dX10_machine_106 fl_X10_120 rfl ht (fun o4 ho => ?_)
              replace h := h o4 ho
              refine V_iload_n hG dX10_machine_109 rfl ?_
              obtain ⟨u5, he, h⟩ := h
              subst he
              obtain ⟨ha, j6, hi, hj, h⟩ := h
              refine V_iald hG dX10_machine_110 ha hi hj ?_
              refine V_goto (tgt := 120) hG dX10_machine_111 (by decide) ?_
              exact V_iret hG dX10_machine_120 (by first | exact Nat.le_of_ble_eq_true rfl | omega | (dsimp only; omega)) (by first | exact Nat.le_of_ble_eq_true rfl | omega | (dsimp only; omega)) h
          · replace h := h.2 c
            refine V_aload_n (v := .ref this) hG dX10_machine_91 rfl rfl ?_
            obtain ⟨ht, h⟩ := h
            refine V_getPv hG dX10_machine_92 fl_X10_117 rfl ht (fun o7 ho => ?_)
            replace h := h o7 ho
            refine V_iload_n hG dX10_machine_95 rfl ?_
            obtain ⟨u8, he, h⟩ := h
            subst he
            obtain ⟨ha, j9, hi, hj, h⟩ := h
            refine V_iald hG dX10_machine_96 ha hi hj ?_
            refine V_goto (tgt := 120) hG dX10_machine_97 (by decide) ?_
            exact V_iret hG dX10_machine_120 (by first | exact Nat.le_of_ble_eq_true rfl | omega | (dsimp only; omega)) (by first | exact Nat.le_of_ble_eq_true rfl | omega | (dsimp only; omega)) h
        · replace h := h.2 c
          refine V_aload_n (v := .ref this) hG dX10_machine_77 rfl rfl ?_
          obtain ⟨ht, h⟩ := h
          refine V_getPv hG dX10_machine_78 fl_X10_114 rfl ht (fun o10 ho => ?_)
          replace h := h o10 ho
          refine V_iload_n hG dX10_machine_81 rfl ?_
          obtain ⟨u11, he, h⟩ := h
          subst he
          obtain ⟨ha, j12, hi, hj, h⟩ := h
          refine V_iald hG dX10_machine_82 ha hi hj ?_
          refine V_goto (tgt := 120) hG dX10_machine_83 (by decide) ?_
          exact V_iret hG dX10_machine_120 (by first | exact Nat.le_of_ble_eq_true rfl | omega | (dsimp only; omega)) (by first | exact Nat.le_of_ble_eq_true rfl | omega | (dsimp only; omega)) h
      · replace h := h.2 c
        refine V_aload_n (v := .ref this) hG dX10_machine_63 rfl rfl ?_
        obtain ⟨ht, h⟩ := h
        refine V_getPv hG dX10_machine_64 fl_X10_111 rfl ht (fun o13 ho => ?_)
        replace h := h o13 ho
        refine V_iload_n hG dX10_machine_67 rfl ?_
        obtain ⟨u14, he, h⟩ := h
        subst he
        obtain ⟨ha, j15, hi, hj, h⟩ := h
        refine V_iald hG dX10_machine_68 ha hi hj ?_
        refine V_goto (tgt := 120) hG dX10_machine_69 (by decide) ?_
        exact V_iret hG dX10_machine_120 (by first | exact Nat.le_of_ble_eq_true rfl | omega | (dsimp only; omega)) (by first | exact Nat.le_of_ble_eq_true rfl | omega | (dsimp only; omega)) h
    · replace h := h.2 c
      refine V_aload_n (v := .ref this) hG dX10_machine_49 rfl rfl ?_
      obtain ⟨ht, h⟩ := h
      refine V_getPv hG dX10_machine_50 fl_X10_108 rfl ht (fun o16 ho => ?_)
      replace h := h o16 ho
      refine V_iload_n hG dX10_machine_53 rfl ?_
      obtain ⟨u17, he, h⟩ := h
      subst he
      obtain ⟨ha, j18, hi, hj, h⟩ := h
      refine V_iald hG dX10_machine_54 ha hi hj ?_
      refine V_goto (tgt := 120) hG dX10_machine_55 (by decide) ?_
      exact V_iret hG dX10_machine_120 (by first | exact Nat.le_of_ble_eq_true rfl | omega | (dsimp only; omega)) (by first | exact Nat.le_of_ble_eq_true rfl | omega | (dsimp only; omega)) h
  · replace h := h.2 c
    refine V_iconst (v := 0) hG (by decide) dX10_machine_43 ?_
    exact V_iret hG dX10_machine_44 (by first | exact Nat.le_of_ble_eq_true rfl | omega | (dsimp only; omega)) (by first | exact Nat.le_of_ble_eq_true rfl | omega | (dsimp only; omega)) h
def wp_X10_machine (this : Nat) (a0 : Int32) (a1 : Int32) (σ : Sg) (Post : Rs → Sg → Prop) : Prop := this % 32 = 10 ∧ wp_X10_in a0 (0 : Int32) ((sI σ this 27) - (1 : Int32)) σ (KI (fun x2 σ1 => ((¬ x2 = 0 → wp_X10_in a1 (0 : Int32) (5 : Int32) σ1 (KI (fun x4 σ3 => ((¬ x4 = 0 → (wp_X10_machine_33 this a0 a1 this (0 : Int32) σ3 Post)) ∧ (x4 = 0 → (wp_X10_machine_33 this a0 a1 this (2 : Int32) σ3 Post)))) (fun E σ3 => Post (.inr E) σ3))) ∧ (x2 = 0 → (wp_X10_machine_33 this a0 a1 this (1 : Int32) σ1 Post)))) (fun E σ1 => Post (.inr E) σ1))
set_option maxRecDepth 100000 in
set_option maxHeartbeats 4000000 in
theorem ct_X10_machine {l : Launch} (hl : l.stackTraces = false) {this : Nat} {a0 : Int32} {a1 : Int32} {σ : Sg} {Post : Rs → Sg → Prop} (h : wp_X10_machine this a0 a1 σ Post) : Ct l yX10_machine (.code yX10_machine cX10_machine 3 (some .int)) 1 22 0 0 [.ref this, .int a0, .int a1] σ Post := by
  refine Ct_of [some (.ref this), some (.int a0), some (.int a1)] hl (by decide +kernel) rfl (fun ad => by rfl) (fun ad => by exact Nat.le_of_ble_eq_true rfl) (fun v hv => mem_lo hv rfl) ?_
  intro G hG
  unfold wp_X10_machine at h
  refine V_aload_n (v := .ref this) hG dX10_machine_0 rfl rfl ?_
  refine V_iload_n hG dX10_machine_1 rfl ?_
  refine V_iconst (v := 0) hG (by decide) dX10_machine_2 ?_
  refine V_aload_n (v := .ref this) hG dX10_machine_3 rfl rfl ?_
  obtain ⟨ht, h⟩ := h
  refine V_getI hG dX10_machine_4 fl_X10_183 rfl ht ?_
  refine V_iconst (v := 1) hG (by decide) dX10_machine_7 ?_
  refine V_isub hG dX10_machine_8 ?_
  refine V_cSI _ _ hG dX10_machine_9 (ct_X10_in hl h) mv_X10_in ml_X10_172 rfl rfl (by first | exact Nat.le_of_ble_eq_true rfl | (simp only [List.map_cons, List.map_nil, List.sum_cons, List.sum_nil, cat_rf]; exact Nat.le_of_ble_eq_true rfl)) (Nat.le_of_ble_eq_true rfl) (Nat.le_of_ble_eq_true rfl) (by first | exact Nat.le_of_ble_eq_true rfl | omega | (dsimp only; omega)) (by first | exact Nat.le_of_ble_eq_true rfl | omega | (dsimp only; omega)) ?_ (fun x2 σ1 h9 => ?_)
  · exact fun E σ1 hx => VX_out hG (by first | exact Nat.le_of_ble_eq_true rfl | omega | (dsimp only; omega)) (by first | exact Nat.le_of_ble_eq_true rfl | omega | (dsimp only; omega)) hx
  · replace h := h9
    clear h9
    refine V_if_ne (tgt := 19) hG dX10_machine_12 (by decide) (fun c => ?_) (fun c => ?_)
    · replace h := h.1 c
      refine V_iload_n hG dX10_machine_19 rfl ?_
      refine V_iconst (v := 0) hG (by decide) dX10_machine_20 ?_
      refine V_iconst (v := 5) hG (by decide) dX10_machine_21 ?_
      refine V_cSI _ _ hG dX10_machine_22 (ct_X10_in hl h) mv_X10_in ml_X10_172 rfl rfl (by first | exact Nat.le_of_ble_eq_true rfl | (simp only [List.map_cons, List.map_nil, List.sum_cons, List.sum_nil, cat_rf]; exact Nat.le_of_ble_eq_true rfl)) (Nat.le_of_ble_eq_true rfl) (Nat.le_of_ble_eq_true rfl) (by first | exact Nat.le_of_ble_eq_true rfl | omega | (dsimp only; omega)) (by first | exact Nat.le_of_ble_eq_true rfl | omega | (dsimp only; omega)) ?_ (fun x4 σ3 h9 => ?_)
      · exact fun E σ3 hx => VX_out hG (by first | exact Nat.le_of_ble_eq_true rfl | omega | (dsimp only; omega)) (by first | exact Nat.le_of_ble_eq_true rfl | omega | (dsimp only; omega)) hx
      · replace h := h9
        clear h9
        refine V_if_ne (tgt := 32) hG dX10_machine_25 (by decide) (fun c => ?_) (fun c => ?_)
        · replace h := h.1 c
          refine V_iconst (v := 0) hG (by decide) dX10_machine_32 ?_
          refine V_forget (lo' := [some (.ref this), some (.int a0), some (.int a1)]) ⟨rfl, ⟨rfl, ⟨rfl, trivial⟩⟩⟩ ?_
          refine V_widen (k' := 0) (n' := 0) (by first | exact Nat.le_of_ble_eq_true rfl | omega | (dsimp only; omega)) (by first | exact Nat.le_of_ble_eq_true rfl | omega | (dsimp only; omega)) ?_
          exact wv_X10_machine_33 hl hG  _ _ _ _ _ _ h
        · replace h := h.2 c
          refine V_iconst (v := 2) hG (by decide) dX10_machine_28 ?_
          refine V_goto (tgt := 33) hG dX10_machine_29 (by decide) ?_
          refine V_forget (lo' := [some (.ref this), some (.int a0), some (.int a1)]) ⟨rfl, ⟨rfl, ⟨rfl, trivial⟩⟩⟩ ?_
          refine V_widen (k' := 0) (n' := 0) (by first | exact Nat.le_of_ble_eq_true rfl | omega | (dsimp only; omega)) (by first | exact Nat.le_of_ble_eq_true rfl | omega | (dsimp only; omega)) ?_
          exact wv_X10_machine_33 hl hG  _ _ _ _ _ _ h
    · replace h := h.2 c
      refine V_iconst (v := 1) hG (by decide) dX10_machine_15 ?_
      refine V_goto (tgt := 33) hG dX10_machine_16 (by decide) ?_
      refine V_forget (lo' := [some (.ref this), some (.int a0), some (.int a1)]) ⟨rfl, ⟨rfl, ⟨rfl, trivial⟩⟩⟩ ?_
      refine V_widen (k' := 0) (n' := 0) (by first | exact Nat.le_of_ble_eq_true rfl | omega | (dsimp only; omega)) (by first | exact Nat.le_of_ble_eq_true rfl | omega | (dsimp only; omega)) ?_
      exact wv_X10_machine_33 hl hG  _ _ _ _ _ _ h
def wp_X10_level_15  (this : Nat) (v1 : Int32) (v2 : Int32) (s0 : Nat) (s1 : Int32) (σ : Sg) (Post : Rs → Sg → Prop) : Prop := s0 % 32 = 10 ∧ this % 32 = 10 ∧ ((¬ (sI (wI σ s0 59 s1) this 59) = 0 → Post (.inl (some (.int (0 : Int32)))) (wI σ s0 59 s1)) ∧ ((sI (wI σ s0 59 s1) this 59) = 0 → this % 32 = 10 ∧ ∀ o1, o1 = sP (wI σ s0 59 s1) this 45 → ∃ u2, o1 = some u2 ∧ aty (u2 % 32) = some .int ∧ ∃ j3, (((4 : Int32) * v1) + v2) = nI j3 ∧ j3 < aln u2 ∧ Post (.inl (some (.int (sI (wI σ s0 59 s1) u2 j3)))) (wI σ s0 59 s1)))
set_option maxRecDepth 100000 in
set_option maxHeartbeats 4000000 in
theorem wv_X10_level_15 {L9 : Launch} {G : Cx} {Post : Rs → Sg → Prop} (hl : L9.stackTraces = false) (hG : CX L9 G yX10_level cX10_level 3 (some .int) [] { frames := 2, cells := 0, slots := 0, locals := 44 })   : ∀ (this : Nat) (v1 : Int32) (v2 : Int32) (s0 : Nat) (s1 : Int32) (σ : Sg), wp_X10_level_15 this v1 v2 s0 s1 σ Post → V G (QM G 0 0 Post) 15 [some (.ref this), some (.int v1), some (.int v2)] [.int s1, .ref s0] σ 0 0 := by
  intro this v1 v2 s0 s1 σ h
  unfold wp_X10_level_15 at h
  obtain ⟨ht, h⟩ := h
  refine V_putI hG dX10_level_15 fl_X10_168 rfl (fun e => absurd e (by decide)) rfl ht ?_
  refine V_aload_n (v := .ref this) hG dX10_level_18 rfl rfl ?_
  obtain ⟨ht, h⟩ := h
  refine V_getI hG dX10_level_19 fl_X10_168 rfl ht ?_
  refine V_if_ne (tgt := 38) hG dX10_level_22 (by decide) (fun c => ?_) (fun c => ?_)
  · replace h := h.1 c
    refine V_iconst (v := 0) hG (by decide) dX10_level_38 ?_
    exact V_iret hG dX10_level_39 (by first | exact Nat.le_of_ble_eq_true rfl | omega | (dsimp only; omega)) (by first | exact Nat.le_of_ble_eq_true rfl | omega | (dsimp only; omega)) h
  · replace h := h.2 c
    refine V_aload_n (v := .ref this) hG dX10_level_25 rfl rfl ?_
    obtain ⟨ht, h⟩ := h
    refine V_getPv hG dX10_level_26 fl_X10_138 rfl ht (fun o1 ho => ?_)
    replace h := h o1 ho
    refine V_iconst (v := 4) hG (by decide) dX10_level_29 ?_
    refine V_iload_n hG dX10_level_30 rfl ?_
    refine V_imul hG dX10_level_31 ?_
    refine V_iload_n hG dX10_level_32 rfl ?_
    refine V_iadd hG dX10_level_33 ?_
    obtain ⟨u2, he, h⟩ := h
    subst he
    obtain ⟨ha, j3, hi, hj, h⟩ := h
    refine V_iald hG dX10_level_34 ha hi hj ?_
    refine V_goto (tgt := 39) hG dX10_level_35 (by decide) ?_
    exact V_iret hG dX10_level_39 (by first | exact Nat.le_of_ble_eq_true rfl | omega | (dsimp only; omega)) (by first | exact Nat.le_of_ble_eq_true rfl | omega | (dsimp only; omega)) h
def wp_X10_level (this : Nat) (a0 : Int32) (a1 : Int32) (σ : Sg) (Post : Rs → Sg → Prop) : Prop := this % 32 = 10 ∧ wp_X10_isPlaceOf this a0 a1 σ (KI (fun x2 σ1 => ((x2 = 0 → (wp_X10_level_15 this a0 a1 this (1 : Int32) σ1 Post)) ∧ (¬ x2 = 0 → (wp_X10_level_15 this a0 a1 this (0 : Int32) σ1 Post)))) (fun E σ1 => Post (.inr E) σ1))
set_option maxRecDepth 100000 in
set_option maxHeartbeats 4000000 in
theorem ct_X10_level {l : Launch} (hl : l.stackTraces = false) {this : Nat} {a0 : Int32} {a1 : Int32} {σ : Sg} {Post : Rs → Sg → Prop} (h : wp_X10_level this a0 a1 σ Post) : Ct l yX10_level (.code yX10_level cX10_level 3 (some .int)) 2 44 0 0 [.ref this, .int a0, .int a1] σ Post := by
  refine Ct_of [some (.ref this), some (.int a0), some (.int a1)] hl (by decide +kernel) rfl (fun ad => by rfl) (fun ad => by exact Nat.le_of_ble_eq_true rfl) (fun v hv => mem_lo hv rfl) ?_
  intro G hG
  unfold wp_X10_level at h
  refine V_aload_n (v := .ref this) hG dX10_level_0 rfl rfl ?_
  refine V_aload_n (v := .ref this) hG dX10_level_1 rfl rfl ?_
  refine V_iload_n hG dX10_level_2 rfl ?_
  refine V_iload_n hG dX10_level_3 rfl ?_
  obtain ⟨ht, h⟩ := h
  refine V_cVI _ _ hG dX10_level_4 (ct_X10_isPlaceOf hl h) mv_X10_isPlaceOf ml_X10_189 ht rfl rfl rfl rfl (by first | exact Nat.le_of_ble_eq_true rfl | (simp only [List.map_cons, List.map_nil, List.sum_cons, List.sum_nil, cat_rf]; exact Nat.le_of_ble_eq_true rfl)) (Nat.le_of_ble_eq_true rfl) (Nat.le_of_ble_eq_true rfl) (by first | exact Nat.le_of_ble_eq_true rfl | omega | (dsimp only; omega)) (by first | exact Nat.le_of_ble_eq_true rfl | omega | (dsimp only; omega)) ?_ (fun x2 σ1 h9 => ?_)
  · exact fun E σ1 hx => VX_out hG (by first | exact Nat.le_of_ble_eq_true rfl | omega | (dsimp only; omega)) (by first | exact Nat.le_of_ble_eq_true rfl | omega | (dsimp only; omega)) hx
  · replace h := h9
    clear h9
    refine V_if_eq (tgt := 14) hG dX10_level_7 (by decide) (fun c => ?_) (fun c => ?_)
    · replace h := h.1 c
      refine V_iconst (v := 1) hG (by decide) dX10_level_14 ?_
      refine V_forget (lo' := [some (.ref this), some (.int a0), some (.int a1)]) ⟨rfl, ⟨rfl, ⟨rfl, trivial⟩⟩⟩ ?_
      refine V_widen (k' := 0) (n' := 0) (by first | exact Nat.le_of_ble_eq_true rfl | omega | (dsimp only; omega)) (by first | exact Nat.le_of_ble_eq_true rfl | omega | (dsimp only; omega)) ?_
      exact wv_X10_level_15 hl hG  _ _ _ _ _ _ h
    · replace h := h.2 c
      refine V_iconst (v := 0) hG (by decide) dX10_level_10 ?_
      refine V_goto (tgt := 15) hG dX10_level_11 (by decide) ?_
      refine V_forget (lo' := [some (.ref this), some (.int a0), some (.int a1)]) ⟨rfl, ⟨rfl, ⟨rfl, trivial⟩⟩⟩ ?_
      refine V_widen (k' := 0) (n' := 0) (by first | exact Nat.le_of_ble_eq_true rfl | omega | (dsimp only; omega)) (by first | exact Nat.le_of_ble_eq_true rfl | omega | (dsimp only; omega)) ?_
      exact wv_X10_level_15 hl hG  _ _ _ _ _ _ h
def wp_X10_machineOf_20  (this : Nat) (v1 : Int32) (s0 : Nat) (s1 : Int32) (σ : Sg) (Post : Rs → Sg → Prop) : Prop := s0 % 32 = 10 ∧ this % 32 = 10 ∧ ((¬ (sI (wI σ s0 59 s1) this 59) = 0 → Post (.inl (some (.int (0 : Int32)))) (wI σ s0 59 s1)) ∧ ((sI (wI σ s0 59 s1) this 59) = 0 → this % 32 = 10 ∧ wp_X10_machineAt this v1 (wI σ s0 59 s1) (KI (fun x2 σ1 => Post (.inl (some (.int x2))) σ1) (fun E σ1 => Post (.inr E) σ1))))
set_option maxRecDepth 100000 in
set_option maxHeartbeats 4000000 in
theorem wv_X10_machineOf_20 {L9 : Launch} {G : Cx} {Post : Rs → Sg → Prop} (hl : L9.stackTraces = false) (hG : CX L9 G yX10_machineOf cX10_machineOf 2 (some .int) [] { frames := 1, cells := 0, slots := 0, locals := 22 })   : ∀ (this : Nat) (v1 : Int32) (s0 : Nat) (s1 : Int32) (σ : Sg), wp_X10_machineOf_20 this v1 s0 s1 σ Post → V G (QM G 0 0 Post) 20 [some (.ref this), some (.int v1)] [.int s1, .ref s0] σ 0 0 := by
  intro this v1 s0 s1 σ h
  unfold wp_X10_machineOf_20 at h
  obtain ⟨ht, h⟩ := h
  refine V_putI hG dX10_machineOf_20 fl_X10_168 rfl (fun e => absurd e (by decide)) rfl ht ?_
  refine V_aload_n (v := .ref this) hG dX10_machineOf_23 rfl rfl ?_
  obtain ⟨ht, h⟩ := h
  refine V_getI hG dX10_machineOf_24 fl_X10_168 rfl ht ?_
  refine V_if_ne (tgt := 38) hG dX10_machineOf_27 (by decide) (fun c => ?_) (fun c => ?_)
  · replace h := h.1 c
    refine V_iconst (v := 0) hG (by decide) dX10_machineOf_38 ?_
    exact V_iret hG dX10_machineOf_39 (by first | exact Nat.le_of_ble_eq_true rfl | omega | (dsimp only; omega)) (by first | exact Nat.le_of_ble_eq_true rfl | omega | (dsimp only; omega)) h
  · replace h := h.2 c
    refine V_aload_n (v := .ref this) hG dX10_machineOf_30 rfl rfl ?_
    refine V_iload_n hG dX10_machineOf_31 rfl ?_
    obtain ⟨ht, h⟩ := h
    refine V_cVI _ _ hG dX10_machineOf_32 (ct_X10_machineAt hl h) mv_X10_machineAt ml_X10_273 ht rfl rfl rfl rfl (by first | exact Nat.le_of_ble_eq_true rfl | (simp only [List.map_cons, List.map_nil, List.sum_cons, List.sum_nil, cat_rf]; exact Nat.le_of_ble_eq_true rfl)) (Nat.le_of_ble_eq_true rfl) (Nat.le_of_ble_eq_true rfl) (by first | exact Nat.le_of_ble_eq_true rfl | omega | (dsimp only; omega)) (by first | exact Nat.le_of_ble_eq_true rfl | omega | (dsimp only; omega)) ?_ (fun x2 σ1 h9 => ?_)
    · exact fun E σ1 hx => VX_out hG (by first | exact Nat.le_of_ble_eq_true rfl | omega | (dsimp only; omega)) (by first | exact Nat.le_of_ble_eq_true rfl | omega | (dsimp only; omega)) hx
    · replace h := h9
      clear h9
      refine V_goto (tgt := 39) hG dX10_machineOf_35 (by decide) ?_
      exact V_iret hG dX10_machineOf_39 (by first | exact Nat.le_of_ble_eq_true rfl | omega | (dsimp only; omega)) (by first | exact Nat.le_of_ble_eq_true rfl | omega | (dsimp only; omega)) h
def wp_X10_machineOf (this : Nat) (a0 : Int32) (σ : Sg) (Post : Rs → Sg → Prop) : Prop := this % 32 = 10 ∧ wp_X10_in a0 (0 : Int32) ((sI σ this 41) - (1 : Int32)) σ (KI (fun x2 σ1 => ((x2 = 0 → (wp_X10_machineOf_20 this a0 this (1 : Int32) σ1 Post)) ∧ (¬ x2 = 0 → (wp_X10_machineOf_20 this a0 this (0 : Int32) σ1 Post)))) (fun E σ1 => Post (.inr E) σ1))
set_option maxRecDepth 100000 in
set_option maxHeartbeats 4000000 in
theorem ct_X10_machineOf {l : Launch} (hl : l.stackTraces = false) {this : Nat} {a0 : Int32} {σ : Sg} {Post : Rs → Sg → Prop} (h : wp_X10_machineOf this a0 σ Post) : Ct l yX10_machineOf (.code yX10_machineOf cX10_machineOf 2 (some .int)) 1 22 0 0 [.ref this, .int a0] σ Post := by
  refine Ct_of [some (.ref this), some (.int a0)] hl (by decide +kernel) rfl (fun ad => by rfl) (fun ad => by exact Nat.le_of_ble_eq_true rfl) (fun v hv => mem_lo hv rfl) ?_
  intro G hG
  unfold wp_X10_machineOf at h
  refine V_aload_n (v := .ref this) hG dX10_machineOf_0 rfl rfl ?_
  refine V_iload_n hG dX10_machineOf_1 rfl ?_
  refine V_iconst (v := 0) hG (by decide) dX10_machineOf_2 ?_
  refine V_aload_n (v := .ref this) hG dX10_machineOf_3 rfl rfl ?_
  obtain ⟨ht, h⟩ := h
  refine V_getI hG dX10_machineOf_4 fl_X10_186 rfl ht ?_
  refine V_iconst (v := 1) hG (by decide) dX10_machineOf_7 ?_
  refine V_isub hG dX10_machineOf_8 ?_
  refine V_cSI _ _ hG dX10_machineOf_9 (ct_X10_in hl h) mv_X10_in ml_X10_172 rfl rfl (by first | exact Nat.le_of_ble_eq_true rfl | (simp only [List.map_cons, List.map_nil, List.sum_cons, List.sum_nil, cat_rf]; exact Nat.le_of_ble_eq_true rfl)) (Nat.le_of_ble_eq_true rfl) (Nat.le_of_ble_eq_true rfl) (by first | exact Nat.le_of_ble_eq_true rfl | omega | (dsimp only; omega)) (by first | exact Nat.le_of_ble_eq_true rfl | omega | (dsimp only; omega)) ?_ (fun x2 σ1 h9 => ?_)
  · exact fun E σ1 hx => VX_out hG (by first | exact Nat.le_of_ble_eq_true rfl | omega | (dsimp only; omega)) (by first | exact Nat.le_of_ble_eq_true rfl | omega | (dsimp only; omega)) hx
  · replace h := h9
    clear h9
    refine V_if_eq (tgt := 19) hG dX10_machineOf_12 (by decide) (fun c => ?_) (fun c => ?_)
    · replace h := h.1 c
      refine V_iconst (v := 1) hG (by decide) dX10_machineOf_19 ?_
      refine V_forget (lo' := [some (.ref this), some (.int a0)]) ⟨rfl, ⟨rfl, trivial⟩⟩ ?_
      refine V_widen (k' := 0) (n' := 0) (by first | exact Nat.le_of_ble_eq_true rfl | omega | (dsimp only; omega)) (by first | exact Nat.le_of_ble_eq_true rfl | omega | (dsimp only; omega)) ?_
      exact wv_X10_machineOf_20 hl hG  _ _ _ _ _ h
    · replace h := h.2 c
      refine V_iconst (v := 0) hG (by decide) dX10_machineOf_15 ?_
      refine V_goto (tgt := 20) hG dX10_machineOf_16 (by decide) ?_
      refine V_forget (lo' := [some (.ref this), some (.int a0)]) ⟨rfl, ⟨rfl, trivial⟩⟩ ?_
      refine V_widen (k' := 0) (n' := 0) (by first | exact Nat.le_of_ble_eq_true rfl | omega | (dsimp only; omega)) (by first | exact Nat.le_of_ble_eq_true rfl | omega | (dsimp only; omega)) ?_
      exact wv_X10_machineOf_20 hl hG  _ _ _ _ _ h
def wp_X10_store_26  (this : Nat) (v1 : Int32) (v2 : Int32) (s0 : Nat) (s1 : Int32) (σ : Sg) (Post : Rs → Sg → Prop) : Prop := s0 % 32 = 10 ∧ this % 32 = 10 ∧ (((sI (wI σ s0 59 s1) this 59) ≤ 0 → ((¬ v2 = 0 → this % 32 = 10 ∧ wp_X10_promisedOf this v1 (wI σ s0 59 s1) (KI (fun x2 σ1 => Post (.inl (some (.int x2))) σ1) (fun E σ1 => Post (.inr E) σ1))) ∧ (v2 = 0 → this % 32 = 10 ∧ wp_X10_inStore this v1 (wI σ s0 59 s1) (KI (fun x4 σ3 => Post (.inl (some (.int x4))) σ3) (fun E σ3 => Post (.inr E) σ3))))) ∧ (¬ (sI (wI σ s0 59 s1) this 59) ≤ 0 → Post (.inl (some (.int (0 : Int32)))) (wI σ s0 59 s1)))
set_option maxRecDepth 100000 in
set_option maxHeartbeats 4000000 in
theorem wv_X10_store_26 {L9 : Launch} {G : Cx} {Post : Rs → Sg → Prop} (hl : L9.stackTraces = false) (hG : CX L9 G yX10_store cX10_store 3 (some .int) [] { frames := 2, cells := 0, slots := 0, locals := 42 })   : ∀ (this : Nat) (v1 : Int32) (v2 : Int32) (s0 : Nat) (s1 : Int32) (σ : Sg), wp_X10_store_26 this v1 v2 s0 s1 σ Post → V G (QM G 0 0 Post) 26 [some (.ref this), some (.int v1), some (.int v2)] [.int s1, .ref s0] σ 0 0 := by
  intro this v1 v2 s0 s1 σ h
  unfold wp_X10_store_26 at h
  obtain ⟨ht, h⟩ := h
  refine V_putI hG dX10_store_26 fl_X10_168 rfl (fun e => absurd e (by decide)) rfl ht ?_
  refine V_aload_n (v := .ref this) hG dX10_store_29 rfl rfl ?_
  obtain ⟨ht, h⟩ := h
  refine V_getI hG dX10_store_30 fl_X10_168 rfl ht ?_
  refine V_if_le (tgt := 40) hG dX10_store_33 (by decide) (fun c => ?_) (fun c => ?_)
  · replace h := h.1 c
    refine V_iload_n hG dX10_store_40 rfl ?_
    refine V_if_ne (tgt := 52) hG dX10_store_41 (by decide) (fun c => ?_) (fun c => ?_)
    · replace h := h.1 c
      refine V_aload_n (v := .ref this) hG dX10_store_52 rfl rfl ?_
      refine V_iload_n hG dX10_store_53 rfl ?_
      obtain ⟨ht, h⟩ := h
      refine V_cVI _ _ hG dX10_store_54 (ct_X10_promisedOf hl h) mv_X10_promisedOf ml_X10_209 ht rfl rfl rfl rfl (by first | exact Nat.le_of_ble_eq_true rfl | (simp only [List.map_cons, List.map_nil, List.sum_cons, List.sum_nil, cat_rf]; exact Nat.le_of_ble_eq_true rfl)) (Nat.le_of_ble_eq_true rfl) (Nat.le_of_ble_eq_true rfl) (by first | exact Nat.le_of_ble_eq_true rfl | omega | (dsimp only; omega)) (by first | exact Nat.le_of_ble_eq_true rfl | omega | (dsimp only; omega)) ?_ (fun x2 σ1 h9 => ?_)
      · exact fun E σ1 hx => VX_out hG (by first | exact Nat.le_of_ble_eq_true rfl | omega | (dsimp only; omega)) (by first | exact Nat.le_of_ble_eq_true rfl | omega | (dsimp only; omega)) hx
      · replace h := h9
        clear h9
        exact V_iret hG dX10_store_57 (by first | exact Nat.le_of_ble_eq_true rfl | omega | (dsimp only; omega)) (by first | exact Nat.le_of_ble_eq_true rfl | omega | (dsimp only; omega)) h
    · replace h := h.2 c
      refine V_aload_n (v := .ref this) hG dX10_store_44 rfl rfl ?_
      refine V_iload_n hG dX10_store_45 rfl ?_
      obtain ⟨ht, h⟩ := h
      refine V_cVI _ _ hG dX10_store_46 (ct_X10_inStore hl h) mv_X10_inStore ml_X10_206 ht rfl rfl rfl rfl (by first | exact Nat.le_of_ble_eq_true rfl | (simp only [List.map_cons, List.map_nil, List.sum_cons, List.sum_nil, cat_rf]; exact Nat.le_of_ble_eq_true rfl)) (Nat.le_of_ble_eq_true rfl) (Nat.le_of_ble_eq_true rfl) (by first | exact Nat.le_of_ble_eq_true rfl | omega | (dsimp only; omega)) (by first | exact Nat.le_of_ble_eq_true rfl | omega | (dsimp only; omega)) ?_ (fun x4 σ3 h9 => ?_)
      · exact fun E σ3 hx => VX_out hG (by first | exact Nat.le_of_ble_eq_true rfl | omega | (dsimp only; omega)) (by first | exact Nat.le_of_ble_eq_true rfl | omega | (dsimp only; omega)) hx
      · replace h := h9
        clear h9
        refine V_goto (tgt := 57) hG dX10_store_49 (by decide) ?_
        exact V_iret hG dX10_store_57 (by first | exact Nat.le_of_ble_eq_true rfl | omega | (dsimp only; omega)) (by first | exact Nat.le_of_ble_eq_true rfl | omega | (dsimp only; omega)) h
  · replace h := h.2 c
    refine V_iconst (v := 0) hG (by decide) dX10_store_36 ?_
    refine V_goto (tgt := 57) hG dX10_store_37 (by decide) ?_
    exact V_iret hG dX10_store_57 (by first | exact Nat.le_of_ble_eq_true rfl | omega | (dsimp only; omega)) (by first | exact Nat.le_of_ble_eq_true rfl | omega | (dsimp only; omega)) h
def wp_X10_store (this : Nat) (a0 : Int32) (a1 : Int32) (σ : Sg) (Post : Rs → Sg → Prop) : Prop := wp_X10_isKind a0 σ (KI (fun x2 σ1 => ((¬ x2 = 0 → wp_X10_in a1 (0 : Int32) (1 : Int32) σ1 (KI (fun x4 σ3 => ((¬ x4 = 0 → (wp_X10_store_26 this a0 a1 this (0 : Int32) σ3 Post)) ∧ (x4 = 0 → (wp_X10_store_26 this a0 a1 this (2 : Int32) σ3 Post)))) (fun E σ3 => Post (.inr E) σ3))) ∧ (x2 = 0 → (wp_X10_store_26 this a0 a1 this (1 : Int32) σ1 Post)))) (fun E σ1 => Post (.inr E) σ1))
set_option maxRecDepth 100000 in
set_option maxHeartbeats 4000000 in
theorem ct_X10_store {l : Launch} (hl : l.stackTraces = false) {this : Nat} {a0 : Int32} {a1 : Int32} {σ : Sg} {Post : Rs → Sg → Prop} (h : wp_X10_store this a0 a1 σ Post) : Ct l yX10_store (.code yX10_store cX10_store 3 (some .int)) 2 42 0 0 [.ref this, .int a0, .int a1] σ Post := by
  refine Ct_of [some (.ref this), some (.int a0), some (.int a1)] hl (by decide +kernel) rfl (fun ad => by rfl) (fun ad => by exact Nat.le_of_ble_eq_true rfl) (fun v hv => mem_lo hv rfl) ?_
  intro G hG
  unfold wp_X10_store at h
  refine V_aload_n (v := .ref this) hG dX10_store_0 rfl rfl ?_
  refine V_iload_n hG dX10_store_1 rfl ?_
  refine V_cSI _ _ hG dX10_store_2 (ct_X10_isKind hl h) mv_X10_isKind ml_X10_179 rfl rfl (by first | exact Nat.le_of_ble_eq_true rfl | (simp only [List.map_cons, List.map_nil, List.sum_cons, List.sum_nil, cat_rf]; exact Nat.le_of_ble_eq_true rfl)) (Nat.le_of_ble_eq_true rfl) (Nat.le_of_ble_eq_true rfl) (by first | exact Nat.le_of_ble_eq_true rfl | omega | (dsimp only; omega)) (by first | exact Nat.le_of_ble_eq_true rfl | omega | (dsimp only; omega)) ?_ (fun x2 σ1 h9 => ?_)
  · exact fun E σ1 hx => VX_out hG (by first | exact Nat.le_of_ble_eq_true rfl | omega | (dsimp only; omega)) (by first | exact Nat.le_of_ble_eq_true rfl | omega | (dsimp only; omega)) hx
  · replace h := h9
    clear h9
    refine V_if_ne (tgt := 12) hG dX10_store_5 (by decide) (fun c => ?_) (fun c => ?_)
    · replace h := h.1 c
      refine V_iload_n hG dX10_store_12 rfl ?_
      refine V_iconst (v := 0) hG (by decide) dX10_store_13 ?_
      refine V_iconst (v := 1) hG (by decide) dX10_store_14 ?_
      refine V_cSI _ _ hG dX10_store_15 (ct_X10_in hl h) mv_X10_in ml_X10_172 rfl rfl (by first | exact Nat.le_of_ble_eq_true rfl | (simp only [List.map_cons, List.map_nil, List.sum_cons, List.sum_nil, cat_rf]; exact Nat.le_of_ble_eq_true rfl)) (Nat.le_of_ble_eq_true rfl) (Nat.le_of_ble_eq_true rfl) (by first | exact Nat.le_of_ble_eq_true rfl | omega | (dsimp only; omega)) (by first | exact Nat.le_of_ble_eq_true rfl | omega | (dsimp only; omega)) ?_ (fun x4 σ3 h9 => ?_)
      · exact fun E σ3 hx => VX_out hG (by first | exact Nat.le_of_ble_eq_true rfl | omega | (dsimp only; omega)) (by first | exact Nat.le_of_ble_eq_true rfl | omega | (dsimp only; omega)) hx
      · replace h := h9
        clear h9
        refine V_if_ne (tgt := 25) hG dX10_store_18 (by decide) (fun c => ?_) (fun c => ?_)
        · replace h := h.1 c
          refine V_iconst (v := 0) hG (by decide) dX10_store_25 ?_
          refine V_forget (lo' := [some (.ref this), some (.int a0), some (.int a1)]) ⟨rfl, ⟨rfl, ⟨rfl, trivial⟩⟩⟩ ?_
          refine V_widen (k' := 0) (n' := 0) (by first | exact Nat.le_of_ble_eq_true rfl | omega | (dsimp only; omega)) (by first | exact Nat.le_of_ble_eq_true rfl | omega | (dsimp only; omega)) ?_
          exact wv_X10_store_26 hl hG  _ _ _ _ _ _ h
        · replace h := h.2 c
          refine V_iconst (v := 2) hG (by decide) dX10_store_21 ?_
          refine V_goto (tgt := 26) hG dX10_store_22 (by decide) ?_
          refine V_forget (lo' := [some (.ref this), some (.int a0), some (.int a1)]) ⟨rfl, ⟨rfl, ⟨rfl, trivial⟩⟩⟩ ?_
          refine V_widen (k' := 0) (n' := 0) (by first | exact Nat.le_of_ble_eq_true rfl | omega | (dsimp only; omega)) (by first | exact Nat.le_of_ble_eq_true rfl | omega | (dsimp only; omega)) ?_
          exact wv_X10_store_26 hl hG  _ _ _ _ _ _ h
    · replace h := h.2 c
      refine V_iconst (v := 1) hG (by decide) dX10_store_8 ?_
      refine V_goto (tgt := 26) hG dX10_store_9 (by decide) ?_
      refine V_forget (lo' := [some (.ref this), some (.int a0), some (.int a1)]) ⟨rfl, ⟨rfl, ⟨rfl, trivial⟩⟩⟩ ?_
      refine V_widen (k' := 0) (n' := 0) (by first | exact Nat.le_of_ble_eq_true rfl | omega | (dsimp only; omega)) (by first | exact Nat.le_of_ble_eq_true rfl | omega | (dsimp only; omega)) ?_
      exact wv_X10_store_26 hl hG  _ _ _ _ _ _ h
def wp_X10_queue_15  (this : Nat) (v1 : Int32) (s0 : Nat) (s1 : Int32) (σ : Sg) (Post : Rs → Sg → Prop) : Prop := s0 % 32 = 10 ∧ this % 32 = 10 ∧ ((¬ (sI (wI σ s0 59 s1) this 59) = 0 → Post (.inl (some (.int (0 : Int32)))) (wI σ s0 59 s1)) ∧ ((sI (wI σ s0 59 s1) this 59) = 0 → this % 32 = 10 ∧ wp_X10_waiting this v1 (wI σ s0 59 s1) (KI (fun x2 σ1 => Post (.inl (some (.int x2))) σ1) (fun E σ1 => Post (.inr E) σ1))))
set_option maxRecDepth 100000 in
set_option maxHeartbeats 4000000 in
theorem wv_X10_queue_15 {L9 : Launch} {G : Cx} {Post : Rs → Sg → Prop} (hl : L9.stackTraces = false) (hG : CX L9 G yX10_queue cX10_queue 2 (some .int) [] { frames := 2, cells := 0, slots := 0, locals := 44 })   : ∀ (this : Nat) (v1 : Int32) (s0 : Nat) (s1 : Int32) (σ : Sg), wp_X10_queue_15 this v1 s0 s1 σ Post → V G (QM G 0 0 Post) 15 [some (.ref this), some (.int v1)] [.int s1, .ref s0] σ 0 0 := by
  intro this v1 s0 s1 σ h
  unfold wp_X10_queue_15 at h
  obtain ⟨ht, h⟩ := h
  refine V_putI hG dX10_queue_15 fl_X10_168 rfl (fun e => absurd e (by decide)) rfl ht ?_
  refine V_aload_n (v := .ref this) hG dX10_queue_18 rfl rfl ?_
  obtain ⟨ht, h⟩ := h
  refine V_getI hG dX10_queue_19 fl_X10_168 rfl ht ?_
  refine V_if_ne (tgt := 33) hG dX10_queue_22 (by decide) (fun c => ?_) (fun c => ?_)
  · replace h := h.1 c
    refine V_iconst (v := 0) hG (by decide) dX10_queue_33 ?_
    exact V_iret hG dX10_queue_34 (by first | exact Nat.le_of_ble_eq_true rfl | omega | (dsimp only; omega)) (by first | exact Nat.le_of_ble_eq_true rfl | omega | (dsimp only; omega)) h
  · replace h := h.2 c
    refine V_aload_n (v := .ref this) hG dX10_queue_25 rfl rfl ?_
    refine V_iload_n hG dX10_queue_26 rfl ?_
    obtain ⟨ht, h⟩ := h
    refine V_cVI _ _ hG dX10_queue_27 (ct_X10_waiting hl h) mv_X10_waiting ml_X10_200 ht rfl rfl rfl rfl (by first | exact Nat.le_of_ble_eq_true rfl | (simp only [List.map_cons, List.map_nil, List.sum_cons, List.sum_nil, cat_rf]; exact Nat.le_of_ble_eq_true rfl)) (Nat.le_of_ble_eq_true rfl) (Nat.le_of_ble_eq_true rfl) (by first | exact Nat.le_of_ble_eq_true rfl | omega | (dsimp only; omega)) (by first | exact Nat.le_of_ble_eq_true rfl | omega | (dsimp only; omega)) ?_ (fun x2 σ1 h9 => ?_)
    · exact fun E σ1 hx => VX_out hG (by first | exact Nat.le_of_ble_eq_true rfl | omega | (dsimp only; omega)) (by first | exact Nat.le_of_ble_eq_true rfl | omega | (dsimp only; omega)) hx
    · replace h := h9
      clear h9
      refine V_goto (tgt := 34) hG dX10_queue_30 (by decide) ?_
      exact V_iret hG dX10_queue_34 (by first | exact Nat.le_of_ble_eq_true rfl | omega | (dsimp only; omega)) (by first | exact Nat.le_of_ble_eq_true rfl | omega | (dsimp only; omega)) h
def wp_X10_queue (this : Nat) (a0 : Int32) (σ : Sg) (Post : Rs → Sg → Prop) : Prop := wp_X10_in a0 (0 : Int32) (3 : Int32) σ (KI (fun x2 σ1 => ((x2 = 0 → (wp_X10_queue_15 this a0 this (1 : Int32) σ1 Post)) ∧ (¬ x2 = 0 → (wp_X10_queue_15 this a0 this (0 : Int32) σ1 Post)))) (fun E σ1 => Post (.inr E) σ1))
set_option maxRecDepth 100000 in
set_option maxHeartbeats 4000000 in
theorem ct_X10_queue {l : Launch} (hl : l.stackTraces = false) {this : Nat} {a0 : Int32} {σ : Sg} {Post : Rs → Sg → Prop} (h : wp_X10_queue this a0 σ Post) : Ct l yX10_queue (.code yX10_queue cX10_queue 2 (some .int)) 2 44 0 0 [.ref this, .int a0] σ Post := by
  refine Ct_of [some (.ref this), some (.int a0)] hl (by decide +kernel) rfl (fun ad => by rfl) (fun ad => by exact Nat.le_of_ble_eq_true rfl) (fun v hv => mem_lo hv rfl) ?_
  intro G hG
  unfold wp_X10_queue at h
  refine V_aload_n (v := .ref this) hG dX10_queue_0 rfl rfl ?_
  refine V_iload_n hG dX10_queue_1 rfl ?_
  refine V_iconst (v := 0) hG (by decide) dX10_queue_2 ?_
  refine V_iconst (v := 3) hG (by decide) dX10_queue_3 ?_
  refine V_cSI _ _ hG dX10_queue_4 (ct_X10_in hl h) mv_X10_in ml_X10_172 rfl rfl (by first | exact Nat.le_of_ble_eq_true rfl | (simp only [List.map_cons, List.map_nil, List.sum_cons, List.sum_nil, cat_rf]; exact Nat.le_of_ble_eq_true rfl)) (Nat.le_of_ble_eq_true rfl) (Nat.le_of_ble_eq_true rfl) (by first | exact Nat.le_of_ble_eq_true rfl | omega | (dsimp only; omega)) (by first | exact Nat.le_of_ble_eq_true rfl | omega | (dsimp only; omega)) ?_ (fun x2 σ1 h9 => ?_)
  · exact fun E σ1 hx => VX_out hG (by first | exact Nat.le_of_ble_eq_true rfl | omega | (dsimp only; omega)) (by first | exact Nat.le_of_ble_eq_true rfl | omega | (dsimp only; omega)) hx
  · replace h := h9
    clear h9
    refine V_if_eq (tgt := 14) hG dX10_queue_7 (by decide) (fun c => ?_) (fun c => ?_)
    · replace h := h.1 c
      refine V_iconst (v := 1) hG (by decide) dX10_queue_14 ?_
      refine V_forget (lo' := [some (.ref this), some (.int a0)]) ⟨rfl, ⟨rfl, trivial⟩⟩ ?_
      refine V_widen (k' := 0) (n' := 0) (by first | exact Nat.le_of_ble_eq_true rfl | omega | (dsimp only; omega)) (by first | exact Nat.le_of_ble_eq_true rfl | omega | (dsimp only; omega)) ?_
      exact wv_X10_queue_15 hl hG  _ _ _ _ _ h
    · replace h := h.2 c
      refine V_iconst (v := 0) hG (by decide) dX10_queue_10 ?_
      refine V_goto (tgt := 15) hG dX10_queue_11 (by decide) ?_
      refine V_forget (lo' := [some (.ref this), some (.int a0)]) ⟨rfl, ⟨rfl, trivial⟩⟩ ?_
      refine V_widen (k' := 0) (n' := 0) (by first | exact Nat.le_of_ble_eq_true rfl | omega | (dsimp only; omega)) (by first | exact Nat.le_of_ble_eq_true rfl | omega | (dsimp only; omega)) ?_
      exact wv_X10_queue_15 hl hG  _ _ _ _ _ h
